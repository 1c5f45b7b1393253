section
-- ===== PART A: goes FIRST, ahead of the names: the tables' words, and 'selects' of the private methods out of them =====
/-- a private method of a class that the tables say can be made, by its rows of tables_1 -/
def lw_okq (q : MethodName × Nat) : Prop := (q.1.cls ≠ "java/lang/invoke/MethodHandle" ∧ q.1.cls ≠ "java/lang/invoke/VarHandle") ∧ Cond.instantiable q.1.cls q.2 ∈ tables_1 ∧ Cond.privateMethod q.1 ∈ tables_1 ∧ Cond.instanceMethod q.1 ∈ tables_1
theorem lw_p0 : lw_okq (⟨"ScaleHouse", "isKnown", "(I)Z"⟩, 14) := ⟨⟨by decide +kernel, by decide +kernel⟩, List.mem_of_getElem? (i := 20) (by decide +kernel), List.mem_of_getElem? (i := 331) (by decide +kernel), List.mem_of_getElem? (i := 332) (by decide +kernel)⟩
theorem lw_p1 : lw_okq (⟨"ScaleHouse$Reckoner", "begin", "()V"⟩, 5) := ⟨⟨by decide +kernel, by decide +kernel⟩, List.mem_of_getElem? (i := 43) (by decide +kernel), List.mem_of_getElem? (i := 350) (by decide +kernel), List.mem_of_getElem? (i := 351) (by decide +kernel)⟩
theorem lw_p2 : lw_okq (⟨"ScaleHouse$Reckoner", "beginProduct", "()V"⟩, 5) := ⟨⟨by decide +kernel, by decide +kernel⟩, List.mem_of_getElem? (i := 43) (by decide +kernel), List.mem_of_getElem? (i := 354) (by decide +kernel), List.mem_of_getElem? (i := 355) (by decide +kernel)⟩
theorem lw_p3 : lw_okq (⟨"ScaleHouse$Reckoner", "takeFactor", "(J)V"⟩, 5) := ⟨⟨by decide +kernel, by decide +kernel⟩, List.mem_of_getElem? (i := 43) (by decide +kernel), List.mem_of_getElem? (i := 358) (by decide +kernel), List.mem_of_getElem? (i := 359) (by decide +kernel)⟩
theorem lw_p4 : lw_okq (⟨"ScaleHouse$Reckoner", "wholeSum", "()J"⟩, 5) := ⟨⟨by decide +kernel, by decide +kernel⟩, List.mem_of_getElem? (i := 43) (by decide +kernel), List.mem_of_getElem? (i := 370) (by decide +kernel), List.mem_of_getElem? (i := 371) (by decide +kernel)⟩
theorem lw_p5 : lw_okq (⟨"ScaleHouse", "isLog", "(I)Z"⟩, 14) := ⟨⟨by decide +kernel, by decide +kernel⟩, List.mem_of_getElem? (i := 20) (by decide +kernel), List.mem_of_getElem? (i := 434) (by decide +kernel), List.mem_of_getElem? (i := 435) (by decide +kernel)⟩
theorem lw_p6 : lw_okq (⟨"ScaleHouse", "scaleOf", "(LScaleHouse$Log;I)I"⟩, 14) := ⟨⟨by decide +kernel, by decide +kernel⟩, List.mem_of_getElem? (i := 20) (by decide +kernel), List.mem_of_getElem? (i := 442) (by decide +kernel), List.mem_of_getElem? (i := 443) (by decide +kernel)⟩
theorem lw_p7 : lw_okq (⟨"ScaleHouse", "trueD", "(LScaleHouse$Log;I)I"⟩, 14) := ⟨⟨by decide +kernel, by decide +kernel⟩, List.mem_of_getElem? (i := 20) (by decide +kernel), List.mem_of_getElem? (i := 446) (by decide +kernel), List.mem_of_getElem? (i := 447) (by decide +kernel)⟩
theorem lw_p8 : lw_okq (⟨"ScaleHouse", "scaleOrNothing", "(LScaleHouse$Log;I)I"⟩, 14) := ⟨⟨by decide +kernel, by decide +kernel⟩, List.mem_of_getElem? (i := 20) (by decide +kernel), List.mem_of_getElem? (i := 464) (by decide +kernel), List.mem_of_getElem? (i := 465) (by decide +kernel)⟩
theorem lw_p9 : lw_okq (⟨"ScaleHouse", "reckonPays", "()I"⟩, 14) := ⟨⟨by decide +kernel, by decide +kernel⟩, List.mem_of_getElem? (i := 20) (by decide +kernel), List.mem_of_getElem? (i := 476) (by decide +kernel), List.mem_of_getElem? (i := 477) (by decide +kernel)⟩
theorem lw_p10 : lw_okq (⟨"ScaleHouse", "bookPays", "()V"⟩, 14) := ⟨⟨by decide +kernel, by decide +kernel⟩, List.mem_of_getElem? (i := 20) (by decide +kernel), List.mem_of_getElem? (i := 480) (by decide +kernel), List.mem_of_getElem? (i := 481) (by decide +kernel)⟩
theorem lw_p11 : lw_okq (⟨"ScaleHouse$Ledger", "grow", "()V"⟩, 5) := ⟨⟨by decide +kernel, by decide +kernel⟩, List.mem_of_getElem? (i := 90) (by decide +kernel), List.mem_of_getElem? (i := 488) (by decide +kernel), List.mem_of_getElem? (i := 489) (by decide +kernel)⟩
theorem lw_p12 : lw_okq (⟨"ScaleHouse$Pairing", "compareRows", "()V"⟩, 11) := ⟨⟨by decide +kernel, by decide +kernel⟩, List.mem_of_getElem? (i := 117) (by decide +kernel), List.mem_of_getElem? (i := 547) (by decide +kernel), List.mem_of_getElem? (i := 548) (by decide +kernel)⟩
theorem lw_p13 : lw_okq (⟨"ScaleHouse$Pairing", "findAsManyAsCanBe", "()V"⟩, 11) := ⟨⟨by decide +kernel, by decide +kernel⟩, List.mem_of_getElem? (i := 117) (by decide +kernel), List.mem_of_getElem? (i := 554) (by decide +kernel), List.mem_of_getElem? (i := 555) (by decide +kernel)⟩
theorem lw_p14 : lw_okq (⟨"ScaleHouse$Pairing", "pairOneMore", "(I)Z"⟩, 11) := ⟨⟨by decide +kernel, by decide +kernel⟩, List.mem_of_getElem? (i := 117) (by decide +kernel), List.mem_of_getElem? (i := 559) (by decide +kernel), List.mem_of_getElem? (i := 560) (by decide +kernel)⟩
theorem lw_p15 : lw_okq (⟨"ScaleHouse$Pairing", "isKept", "(II)Z"⟩, 11) := ⟨⟨by decide +kernel, by decide +kernel⟩, List.mem_of_getElem? (i := 117) (by decide +kernel), List.mem_of_getElem? (i := 563) (by decide +kernel), List.mem_of_getElem? (i := 564) (by decide +kernel)⟩
def lw_privs_1 : List (MethodName × Nat) := [(⟨"ScaleHouse", "isKnown", "(I)Z"⟩, 14), (⟨"ScaleHouse$Reckoner", "begin", "()V"⟩, 5), (⟨"ScaleHouse$Reckoner", "beginProduct", "()V"⟩, 5), (⟨"ScaleHouse$Reckoner", "takeFactor", "(J)V"⟩, 5), (⟨"ScaleHouse$Reckoner", "wholeSum", "()J"⟩, 5), (⟨"ScaleHouse", "isLog", "(I)Z"⟩, 14), (⟨"ScaleHouse", "scaleOf", "(LScaleHouse$Log;I)I"⟩, 14), (⟨"ScaleHouse", "trueD", "(LScaleHouse$Log;I)I"⟩, 14), (⟨"ScaleHouse", "scaleOrNothing", "(LScaleHouse$Log;I)I"⟩, 14), (⟨"ScaleHouse", "reckonPays", "()I"⟩, 14), (⟨"ScaleHouse", "bookPays", "()V"⟩, 14), (⟨"ScaleHouse$Ledger", "grow", "()V"⟩, 5), (⟨"ScaleHouse$Pairing", "compareRows", "()V"⟩, 11), (⟨"ScaleHouse$Pairing", "findAsManyAsCanBe", "()V"⟩, 11), (⟨"ScaleHouse$Pairing", "pairOneMore", "(I)Z"⟩, 11), (⟨"ScaleHouse$Pairing", "isKept", "(II)Z"⟩, 11)]
theorem lw_r1 : ∀ q ∈ lw_privs_1, lw_okq q := List.forall_mem_cons.mpr ⟨lw_p0, List.forall_mem_cons.mpr ⟨lw_p1, List.forall_mem_cons.mpr ⟨lw_p2, List.forall_mem_cons.mpr ⟨lw_p3, List.forall_mem_cons.mpr ⟨lw_p4, List.forall_mem_cons.mpr ⟨lw_p5, List.forall_mem_cons.mpr ⟨lw_p6, List.forall_mem_cons.mpr ⟨lw_p7, List.forall_mem_cons.mpr ⟨lw_p8, List.forall_mem_cons.mpr ⟨lw_p9, List.forall_mem_cons.mpr ⟨lw_p10, List.forall_mem_cons.mpr ⟨lw_p11, List.forall_mem_cons.mpr ⟨lw_p12, List.forall_mem_cons.mpr ⟨lw_p13, List.forall_mem_cons.mpr ⟨lw_p14, List.forall_mem_cons.mpr ⟨lw_p15, fun _ h => absurd h List.not_mem_nil⟩⟩⟩⟩⟩⟩⟩⟩⟩⟩⟩⟩⟩⟩⟩⟩
theorem lw_p16 : lw_okq (⟨"ScaleHouse$Pairing", "joinBackFrom", "(I)V"⟩, 11) := ⟨⟨by decide +kernel, by decide +kernel⟩, List.mem_of_getElem? (i := 117) (by decide +kernel), List.mem_of_getElem? (i := 567) (by decide +kernel), List.mem_of_getElem? (i := 568) (by decide +kernel)⟩
theorem lw_p17 : lw_okq (⟨"ScaleHouse$Pairing", "join", "(II)V"⟩, 11) := ⟨⟨by decide +kernel, by decide +kernel⟩, List.mem_of_getElem? (i := 117) (by decide +kernel), List.mem_of_getElem? (i := 571) (by decide +kernel), List.mem_of_getElem? (i := 572) (by decide +kernel)⟩
theorem lw_p18 : lw_okq (⟨"ScaleHouse$Pairing", "takeLowest", "(I)V"⟩, 11) := ⟨⟨by decide +kernel, by decide +kernel⟩, List.mem_of_getElem? (i := 117) (by decide +kernel), List.mem_of_getElem? (i := 575) (by decide +kernel), List.mem_of_getElem? (i := 576) (by decide +kernel)⟩
theorem lw_p19 : lw_okq (⟨"ScaleHouse$Pairing", "moveTo", "(II)Z"⟩, 11) := ⟨⟨by decide +kernel, by decide +kernel⟩, List.mem_of_getElem? (i := 117) (by decide +kernel), List.mem_of_getElem? (i := 579) (by decide +kernel), List.mem_of_getElem? (i := 580) (by decide +kernel)⟩
theorem lw_p20 : lw_okq (⟨"ScaleHouse$Court", "isNear", "(II)Z"⟩, 4) := ⟨⟨by decide +kernel, by decide +kernel⟩, List.mem_of_getElem? (i := 181) (by decide +kernel), List.mem_of_getElem? (i := 603) (by decide +kernel), List.mem_of_getElem? (i := 604) (by decide +kernel)⟩
theorem lw_p21 : lw_okq (⟨"java/lang/Throwable", "fillInStackTrace", "(I)Ljava/lang/Throwable;"⟩, 6) := ⟨⟨by decide +kernel, by decide +kernel⟩, List.mem_of_getElem? (i := 656) (by decide +kernel), List.mem_of_getElem? (i := 654) (by decide +kernel), List.mem_of_getElem? (i := 655) (by decide +kernel)⟩
theorem lw_p22 : lw_okq (⟨"ScaleHouseModel", "put", "(I)V"⟩, 50) := ⟨⟨by decide +kernel, by decide +kernel⟩, List.mem_of_getElem? (i := 681) (by decide +kernel), List.mem_of_getElem? (i := 851) (by decide +kernel), List.mem_of_getElem? (i := 852) (by decide +kernel)⟩
theorem lw_p23 : lw_okq (⟨"ScaleHouseModel", "goThrough", "([BIIII)J"⟩, 50) := ⟨⟨by decide +kernel, by decide +kernel⟩, List.mem_of_getElem? (i := 681) (by decide +kernel), List.mem_of_getElem? (i := 863) (by decide +kernel), List.mem_of_getElem? (i := 864) (by decide +kernel)⟩
theorem lw_p24 : lw_okq (⟨"ScaleHouseModel", "sums", "()J"⟩, 50) := ⟨⟨by decide +kernel, by decide +kernel⟩, List.mem_of_getElem? (i := 681) (by decide +kernel), List.mem_of_getElem? (i := 867) (by decide +kernel), List.mem_of_getElem? (i := 868) (by decide +kernel)⟩
theorem lw_p25 : lw_okq (⟨"ScaleHouseModel", "product", "()J"⟩, 50) := ⟨⟨by decide +kernel, by decide +kernel⟩, List.mem_of_getElem? (i := 681) (by decide +kernel), List.mem_of_getElem? (i := 871) (by decide +kernel), List.mem_of_getElem? (i := 872) (by decide +kernel)⟩
theorem lw_p26 : lw_okq (⟨"ScaleHouseModel", "factor", "()J"⟩, 50) := ⟨⟨by decide +kernel, by decide +kernel⟩, List.mem_of_getElem? (i := 681) (by decide +kernel), List.mem_of_getElem? (i := 875) (by decide +kernel), List.mem_of_getElem? (i := 876) (by decide +kernel)⟩
theorem lw_p27 : lw_okq (⟨"ScaleHouseModel", "look", "()I"⟩, 50) := ⟨⟨by decide +kernel, by decide +kernel⟩, List.mem_of_getElem? (i := 681) (by decide +kernel), List.mem_of_getElem? (i := 879) (by decide +kernel), List.mem_of_getElem? (i := 880) (by decide +kernel)⟩
theorem lw_p28 : lw_okq (⟨"ScaleHouseModel", "wrong", "()J"⟩, 50) := ⟨⟨by decide +kernel, by decide +kernel⟩, List.mem_of_getElem? (i := 681) (by decide +kernel), List.mem_of_getElem? (i := 883) (by decide +kernel), List.mem_of_getElem? (i := 884) (by decide +kernel)⟩
theorem lw_p29 : lw_okq (⟨"ScaleHouseModel", "isDigit", "()Z"⟩, 50) := ⟨⟨by decide +kernel, by decide +kernel⟩, List.mem_of_getElem? (i := 681) (by decide +kernel), List.mem_of_getElem? (i := 887) (by decide +kernel), List.mem_of_getElem? (i := 888) (by decide +kernel)⟩
theorem lw_p30 : lw_okq (⟨"ScaleHouseModel", "lawValue", "(III)J"⟩, 50) := ⟨⟨by decide +kernel, by decide +kernel⟩, List.mem_of_getElem? (i := 681) (by decide +kernel), List.mem_of_getElem? (i := 915) (by decide +kernel), List.mem_of_getElem? (i := 916) (by decide +kernel)⟩
theorem lw_p31 : lw_okq (⟨"ScaleHouseModel", "isKnown", "(I)Z"⟩, 50) := ⟨⟨by decide +kernel, by decide +kernel⟩, List.mem_of_getElem? (i := 681) (by decide +kernel), List.mem_of_getElem? (i := 923) (by decide +kernel), List.mem_of_getElem? (i := 924) (by decide +kernel)⟩
def lw_privs_2 : List (MethodName × Nat) := [(⟨"ScaleHouse$Pairing", "joinBackFrom", "(I)V"⟩, 11), (⟨"ScaleHouse$Pairing", "join", "(II)V"⟩, 11), (⟨"ScaleHouse$Pairing", "takeLowest", "(I)V"⟩, 11), (⟨"ScaleHouse$Pairing", "moveTo", "(II)Z"⟩, 11), (⟨"ScaleHouse$Court", "isNear", "(II)Z"⟩, 4), (⟨"java/lang/Throwable", "fillInStackTrace", "(I)Ljava/lang/Throwable;"⟩, 6), (⟨"ScaleHouseModel", "put", "(I)V"⟩, 50), (⟨"ScaleHouseModel", "goThrough", "([BIIII)J"⟩, 50), (⟨"ScaleHouseModel", "sums", "()J"⟩, 50), (⟨"ScaleHouseModel", "product", "()J"⟩, 50), (⟨"ScaleHouseModel", "factor", "()J"⟩, 50), (⟨"ScaleHouseModel", "look", "()I"⟩, 50), (⟨"ScaleHouseModel", "wrong", "()J"⟩, 50), (⟨"ScaleHouseModel", "isDigit", "()Z"⟩, 50), (⟨"ScaleHouseModel", "lawValue", "(III)J"⟩, 50), (⟨"ScaleHouseModel", "isKnown", "(I)Z"⟩, 50)]
theorem lw_r2 : ∀ q ∈ lw_privs_2, lw_okq q := List.forall_mem_cons.mpr ⟨lw_p16, List.forall_mem_cons.mpr ⟨lw_p17, List.forall_mem_cons.mpr ⟨lw_p18, List.forall_mem_cons.mpr ⟨lw_p19, List.forall_mem_cons.mpr ⟨lw_p20, List.forall_mem_cons.mpr ⟨lw_p21, List.forall_mem_cons.mpr ⟨lw_p22, List.forall_mem_cons.mpr ⟨lw_p23, List.forall_mem_cons.mpr ⟨lw_p24, List.forall_mem_cons.mpr ⟨lw_p25, List.forall_mem_cons.mpr ⟨lw_p26, List.forall_mem_cons.mpr ⟨lw_p27, List.forall_mem_cons.mpr ⟨lw_p28, List.forall_mem_cons.mpr ⟨lw_p29, List.forall_mem_cons.mpr ⟨lw_p30, List.forall_mem_cons.mpr ⟨lw_p31, fun _ h => absurd h List.not_mem_nil⟩⟩⟩⟩⟩⟩⟩⟩⟩⟩⟩⟩⟩⟩⟩⟩
theorem lw_p32 : lw_okq (⟨"ScaleHouseModel", "inForce", "(II)I"⟩, 50) := ⟨⟨by decide +kernel, by decide +kernel⟩, List.mem_of_getElem? (i := 681) (by decide +kernel), List.mem_of_getElem? (i := 927) (by decide +kernel), List.mem_of_getElem? (i := 928) (by decide +kernel)⟩
theorem lw_p33 : lw_okq (⟨"ScaleHouseModel", "isLog", "(I)Z"⟩, 50) := ⟨⟨by decide +kernel, by decide +kernel⟩, List.mem_of_getElem? (i := 681) (by decide +kernel), List.mem_of_getElem? (i := 947) (by decide +kernel), List.mem_of_getElem? (i := 948) (by decide +kernel)⟩
theorem lw_p34 : lw_okq (⟨"ScaleHouseModel", "scaleOf", "(II)I"⟩, 50) := ⟨⟨by decide +kernel, by decide +kernel⟩, List.mem_of_getElem? (i := 681) (by decide +kernel), List.mem_of_getElem? (i := 955) (by decide +kernel), List.mem_of_getElem? (i := 956) (by decide +kernel)⟩
theorem lw_p35 : lw_okq (⟨"ScaleHouseModel", "errorOn", "(III)I"⟩, 50) := ⟨⟨by decide +kernel, by decide +kernel⟩, List.mem_of_getElem? (i := 681) (by decide +kernel), List.mem_of_getElem? (i := 959) (by decide +kernel), List.mem_of_getElem? (i := 960) (by decide +kernel)⟩
theorem lw_p36 : lw_okq (⟨"ScaleHouseModel", "payOf", "(I)I"⟩, 50) := ⟨⟨by decide +kernel, by decide +kernel⟩, List.mem_of_getElem? (i := 681) (by decide +kernel), List.mem_of_getElem? (i := 978) (by decide +kernel), List.mem_of_getElem? (i := 979) (by decide +kernel)⟩
theorem lw_p37 : lw_okq (⟨"ScaleHouseModel", "free", "()V"⟩, 50) := ⟨⟨by decide +kernel, by decide +kernel⟩, List.mem_of_getElem? (i := 681) (by decide +kernel), List.mem_of_getElem? (i := 1012) (by decide +kernel), List.mem_of_getElem? (i := 1013) (by decide +kernel)⟩
theorem lw_p38 : lw_okq (⟨"ScaleHouseModel", "mostFrom", "(I)I"⟩, 50) := ⟨⟨by decide +kernel, by decide +kernel⟩, List.mem_of_getElem? (i := 681) (by decide +kernel), List.mem_of_getElem? (i := 1016) (by decide +kernel), List.mem_of_getElem? (i := 1017) (by decide +kernel)⟩
theorem lw_p39 : lw_okq (⟨"ScaleHouseModel", "finds", "(I)Z"⟩, 50) := ⟨⟨by decide +kernel, by decide +kernel⟩, List.mem_of_getElem? (i := 681) (by decide +kernel), List.mem_of_getElem? (i := 1020) (by decide +kernel), List.mem_of_getElem? (i := 1021) (by decide +kernel)⟩
theorem lw_p40 : lw_okq (⟨"ScaleHouseModel", "agree", "(II)Z"⟩, 50) := ⟨⟨by decide +kernel, by decide +kernel⟩, List.mem_of_getElem? (i := 681) (by decide +kernel), List.mem_of_getElem? (i := 1024) (by decide +kernel), List.mem_of_getElem? (i := 1025) (by decide +kernel)⟩
theorem lw_p41 : lw_okq (⟨"ScaleHouseModel", "isNear", "(II)Z"⟩, 50) := ⟨⟨by decide +kernel, by decide +kernel⟩, List.mem_of_getElem? (i := 681) (by decide +kernel), List.mem_of_getElem? (i := 1042) (by decide +kernel), List.mem_of_getElem? (i := 1043) (by decide +kernel)⟩
def lw_privs_3 : List (MethodName × Nat) := [(⟨"ScaleHouseModel", "inForce", "(II)I"⟩, 50), (⟨"ScaleHouseModel", "isLog", "(I)Z"⟩, 50), (⟨"ScaleHouseModel", "scaleOf", "(II)I"⟩, 50), (⟨"ScaleHouseModel", "errorOn", "(III)I"⟩, 50), (⟨"ScaleHouseModel", "payOf", "(I)I"⟩, 50), (⟨"ScaleHouseModel", "free", "()V"⟩, 50), (⟨"ScaleHouseModel", "mostFrom", "(I)I"⟩, 50), (⟨"ScaleHouseModel", "finds", "(I)Z"⟩, 50), (⟨"ScaleHouseModel", "agree", "(II)Z"⟩, 50), (⟨"ScaleHouseModel", "isNear", "(II)Z"⟩, 50)]
theorem lw_r3 : ∀ q ∈ lw_privs_3, lw_okq q := List.forall_mem_cons.mpr ⟨lw_p32, List.forall_mem_cons.mpr ⟨lw_p33, List.forall_mem_cons.mpr ⟨lw_p34, List.forall_mem_cons.mpr ⟨lw_p35, List.forall_mem_cons.mpr ⟨lw_p36, List.forall_mem_cons.mpr ⟨lw_p37, List.forall_mem_cons.mpr ⟨lw_p38, List.forall_mem_cons.mpr ⟨lw_p39, List.forall_mem_cons.mpr ⟨lw_p40, List.forall_mem_cons.mpr ⟨lw_p41, fun _ h => absurd h List.not_mem_nil⟩⟩⟩⟩⟩⟩⟩⟩⟩⟩
def lw_privs : List (MethodName × Nat) := lw_privs_1 ++ (lw_privs_2 ++ (lw_privs_3))
def lw_tbl : List Cond := k2_sels lw_privs ++ tables_1
theorem lw_privs_ok : ∀ q ∈ lw_privs, lw_okq q := by
  show ∀ q ∈ lw_privs_1 ++ (lw_privs_2 ++ (lw_privs_3)), lw_okq q
  exact List.forall_mem_append.mpr ⟨lw_r1, List.forall_mem_append.mpr ⟨lw_r2, lw_r3⟩⟩
end
section
/-! ===== BEGIN words of one list among another's, by their places ===== -/
theorem goodIn_r {big : List Cond} (ws : List Cond) (ps : List Nat) (hp : ws = ps.filterMap (fun i => big[i]?)) (h : ws.all goodWord = true) : GoodIn big ws := by
  intro w hw
  have h1 := List.all_eq_true.mp h w hw
  rw [hp] at hw
  obtain ⟨i, -, hi⟩ := List.mem_filterMap.mp hw
  have hm : w ∈ big := by first | exact List.mem_of_getElem? hi | exact List.getElem?_mem hi
  exact ⟨hm, good_of_word h1⟩
theorem goodIn_app {big a b : List Cond} (ha : GoodIn big a) (hb : GoodIn big b) : GoodIn big (a ++ b) := fun w h => (List.mem_append.mp h).elim (ha w) (hb w)
theorem goodIn_ca {big a b : List Cond} {c : Cond} (ha : GoodIn big (c :: a)) (hb : GoodIn big b) : GoodIn big (c :: (a ++ b)) := fun w h => (List.mem_cons.mp h).elim (fun e => ha w (List.mem_cons.mpr (Or.inl e))) (fun h => (List.mem_append.mp h).elim (fun h => ha w (List.mem_cons.mpr (Or.inr h))) (hb w))
theorem goodIn_sub {big ws : List Cond} (hm : ∀ w ∈ ws, w ∈ big) (h : ws.all goodWord = true) : GoodIn big ws := fun w hw => ⟨hm w hw, good_of_word (List.all_eq_true.mp h w hw)⟩
/-! ===== END ===== -/

/-! ===== BEGIN exceptions that leave a method, and their catching by the caller (launches without stack traces) ===== -/
section VXA
/-! The laws vx_back, vx_callV, vx_callS, vx_callSW, vx_throw0, vx_throwS follow proofs of the library, with one case more: JvmDerived/Free/Laws.lean (Back.of_free), Shelf42/LK1.lean (callV, callS), Shelf/KitTraced.lean (throwNew0V, throwNewS). -/
/-- where a method has thrown q: the class by its name, the cell, what was written, the world -/
def vx_T (XC : String → State → State → Prop) (st : State) (q : Addr) (t : State) (mc ms : Nat) (free : Addr → Prop) : Prop :=
  ∃ (E : String) (ce : Cell) (L : List Loc), XC E st t ∧ t.heap[q]? = some ce ∧ ce.vm = .none ∧ st.vm.findClass E = some ce.cls ∧ st.WarmedH t.vm ∧ st.sameButNew ({ t with vm := st.vm } : State) L mc ms ∧ ∀ z ∈ L, free z.base
def vx_Q (Qc : Array Value → State → Outcome → State → Prop) (XC : String → State → State → Prop) (mc ms : Nat) (free : Addr → Prop) : Array Value → State → Outcome → State → Prop := fun a st o t =>
  (Qc a st o t ∧ ∃ L, FrameEnd st o t L mc ms ∧ ∀ q ∈ L, free q.base) ∨ ∃ q, o = .threw q ∧ vx_T XC st q t mc ms free
/-- a callee that returns or throws -/
def vx_Met (l : Launch) (y : MethodName) (ws : List Cond) (rm : Room) (Pc : Array Value → State → Prop) (Qc : Array Value → State → Outcome → State → Prop) (XC : String → State → State → Prop) (mc ms : Nat) (free : Addr → Prop) : Prop :=
  MetFree l y (headSpec ws rm) Pc (fun _ _ _ _ _ => True) (vx_Q Qc XC mc ms free)
def vx_Post (XC : String → State → State → Prop) (mc ms : Nat) (free : Addr → Prop) : Pt → Array Value → Addr → Pt → Prop := fun A a q B =>
  ∃ (g : JFrame) (mk : MethodId) (t : State) (L : List Loc) (E : String) (ce : Cell), B.U.heap = t.heap ∧ B.U.vm = t.vm ∧ XC E (A.U.calling g mk a) t ∧ t.heap[q]? = some ce ∧ ce.vm = .none ∧ A.U.vm.findClass E = some ce.cls ∧ B.locs = A.locs ++ L ∧ (∀ z ∈ L, free z.base) ∧ B.cells = A.cells + mc ∧ B.slots = A.slots + ms
def vx_Back (l : Launch) (R : Room) (p : Program) (e : Env) (below : List Frame) (s : State) (sargs : Array Value) (y : MethodName) (len W9 : Nat)
    (Pre : Pt → Array Value → Prop) (Post : Pt → Array Value → Option Value → Pt → Prop) (PostX : Pt → Array Value → Addr → Pt → Prop) : Prop :=
  ∀ (m : MethodId) (meth : Method) (c : Code) (A : Pt) (g : JFrame) (ig : Instr) (mk : MethodId) (a : Array Value),
    Stand p l e R s m sargs below meth c A.U A.locs A.cells A.slots → g.method = m → g.locals.size = c.maxLocals → decode c.code g.pc = .ok (ig, len) →
    2 * g.monitorRoom + (g.stack.map fun v => v.category).sum ≤ W9 → A.U.methodNamed? y = some mk → Pre A a →
    (∃ (v : Option Value) (B : Pt), Stand p l e R s m sargs below meth c B.U B.locs B.cells B.slots ∧ Post A a v B ∧
      Steps p.tables e below (doInvoke e (A.U.setTop g) [] mk a).1 (B.U.setTop { g with pc := g.pc + len, stack := v.toList ++ g.stack })) ∨
    (∃ (q : Addr) (B : Pt), Stand p l e R s m sargs below meth c B.U B.locs B.cells B.slots ∧ PostX A a q B ∧
      Steps p.tables e below (doInvoke e (A.U.setTop g) [] mk a).1 ((B.U.setTop g).pushFrame (.throwing q)))
section Payer
variable {l : Launch} {R : Room} {p : Program} {e : Env} {below : List Frame} {s : State} {sargs : Array Value} {y : MethodName} {len W9 : Nat}
theorem vx_back {ws : List Cond} {rm : Room} {Pc : Array Value → State → Prop} {Qc : Array Value → State → Outcome → State → Prop} {XC : String → State → State → Prop} {mc ms : Nat} {free : Addr → Prop} {bytes : ByteArray} {maxL : Nat} {ret : Option FieldType}
    (hM : vx_Met l y ws rm Pc Qc XC mc ms free) (hblind : FrameBlind Pc) (hrc : rm.cells = mc) (hrs : rm.slots = ms)
    (hframes : rm.frames + 1 ≤ R.frames) (hlocals : W9 + (maxL + 11) + rm.locals ≤ R.locals)
    (hws : ∀ w ∈ ws, ∀ a' U, s.WarmedH U.vm → w.before a' U = true) (hcode : Cond.code y bytes maxL ret ∈ ws) (hinit : ∀ a' U, s.WarmedH U.vm → (Cond.initialized y.cls).before a' U = true) :
    vx_Back l R p e below s sargs y len W9 (PreOf R mc ms Pc) (PostOf Qc mc ms free) (vx_Post XC mc ms free) := by
  intro m meth c A g ig mk a X hg hsize hdg hW hn hp
  have h1 : (headSpec ws rm).pre.before a A.U = true := atoms_intro fun w hw => hws w hw _ _ X.warmed
  have h2 : (Cond.code y bytes maxL ret).before a A.U = true := hws _ hcode _ _ X.warmed
  have h3 : (Cond.initialized y.cls).before a A.U = true := hinit _ _ X.warmed
  have h4 : A.cells + (headSpec ws rm).room.cells ≤ R.cells := by rw [show (headSpec ws rm).room.cells = mc from hrc]; exact hp.1
  have h5 : A.slots + (headSpec ws rm).room.slots ≤ R.slots := by rw [show (headSpec ws rm).room.slots = ms from hrs]; exact hp.2.1
  have hPc : Pc a (A.U.calling g mk a) := hblind _ _ _ _ hp.2.2
  obtain ⟨U, Ls, c0, s0⟩ := A
  dsimp only [Pt.U, Pt.locs, Pt.cells, Pt.slots] at h1 h2 h3 h4 h5 X hn hPc ⊢
  obtain ⟨methY, cY, hmY, hcY, -, hlY, -, -, -, -⟩ := Cond.code_spec hn h2
  obtain ⟨kY, hkY, -⟩ := className_of_methodNamed hn
  have hinitY : kY.init = .initialized := Cond.initialized_spec (findClass_of_methodNamed hn) hkY h3
  have h : At U g.method c below := by rw [hg]; exact X.here
  have hlocals9 : W9 + (maxL + 11) + (headSpec ws rm).room.locals ≤ R.locals := hlocals
  have happ : (headSpec ws rm).appliesLoose y e.platform (U.calling g mk a) = true :=
    Spec.appliesLoose_calling (g := g) h hdg hn hkY hinitY
      (X.room_calling (g := g) (R' := (headSpec ws rm).room) hsize hmY hcY hframes (by rw [hlY]; omega) h4 h5) h1
  obtain ⟨mid, hmid⟩ := h.above
  have hfr : (U.setTop g).frames = (.java g :: mid) ++ below := by rw [State.frames_setTop' g h.top, hmid]; rfl
  obtain ⟨o, s₂, hsteps, -, hend, hq⟩ := Steps.callFree hM p X.admits X.cas X.clock (acts := []) hfr happ hPc trivial
  have hq' : vx_Q Qc XC mc ms free a (U.calling g mk a) o s₂ := hq
  rw [State.frames_setTop' g h.top] at hend
  obtain ⟨g₀, hg0⟩ := Option.isSome_iff_exists.mp h.top
  obtain ⟨r, hr⟩ := State.topJava?_eq_some.mp hg0
  have hr' : (({ U with heap := s₂.heap, slotsUsed := s₂.slotsUsed } : State).setVm s₂.vm).frames = .java g₀ :: r := hr
  rcases hq' with ⟨hqc, L, hfe, hL⟩ | ⟨q, rfl, E, ce, L, hx, hce, hcv, hcl, hW₂, hsm, hL⟩
  · obtain ⟨⟨v, rfl⟩, hW₂, e2, q2, q3, q4, q5, q6⟩ := id hfe
    have e3 : s₂ = ({ (U.calling g mk a).setFrames s₂.frames with heap := s₂.heap, slotsUsed := s₂.slotsUsed } : State).setVm s₂.vm := by
      have : s₂ = ({ s₂ with vm := (U.calling g mk a).vm } : State).setVm s₂.vm := rfl
      rw [e2] at this
      exact this
    obtain ⟨c₂, i₂, len₂, hc₂, hd₂, hf₂⟩ := hend
    have hW' : U.WarmedH s₂.vm := hW₂
    have hcc : c₂ = c := by
      have h1 : s₂.code? g.method = U.code? g.method := by
        rw [State.code?_eq, State.code?_eq, hW'.alike.method?]
      exact Option.some.inj (hc₂.symm.trans (h1.trans h.code))
    subst hcc
    have hlen : len₂ = len := by rw [hdg] at hd₂; cases hd₂; rfl
    subst hlen
    have hs₂ : s₂ = (({ U with heap := s₂.heap, slotsUsed := s₂.slotsUsed } : State).setVm s₂.vm).setTop { g with pc := g.pc + len₂, stack := v.toList ++ g.stack } := by
      refine e3.trans ?_
      rw [hf₂, State.calling_eq h.top, State.setFrames_setFrames, State.setTop_of_frames _ hr', hr]
      rfl
    have hsame : U.sameButNew ({ U with heap := s₂.heap, slotsUsed := s₂.slotsUsed } : State) L mc ms := by
      refine ⟨?_, q2, q3, q4, q5, q6⟩
      obtain ⟨t, ht, -⟩ := State.frames_cons hr
      show ({ U with heap := s₂.heap, slotsUsed := s₂.slotsUsed } : State) = { U.setFrames U.frames with heap := s₂.heap, slotsUsed := s₂.slotsUsed }
      rw [State.setFrames_self ht]
    subst hg
    refine Or.inl ⟨v, ⟨(({ U with heap := s₂.heap, slotsUsed := s₂.slotsUsed } : State).setVm s₂.vm), Ls ++ L, c0 + mc, s0 + ms⟩,
      ⟨X.admits, X.cas, X.clock, X.frames, X.room, X.hears, X.method, X.code, (X.here.setHeapUsed s₂.heap s₂.slotsUsed).setVm hW'.alike, X.tail, State.WarmedH.trans X.warmed hW', X.limits, X.bytes, X.same.trans (hsame.setVm s.vm)⟩,
      ⟨g, mk, s₂, L, rfl, rfl, hqc, rfl, hL, rfl, rfl⟩, ?_⟩
    show Steps p.tables e below _ ((({ U with heap := s₂.heap, slotsUsed := s₂.slotsUsed } : State).setVm s₂.vm).setTop { g with pc := g.pc + len₂, stack := v.toList ++ g.stack })
    rw [← hs₂]
    exact hsteps
  · obtain ⟨e2, q2, q3, q4, q5, q6⟩ := id hsm
    have e3 : s₂ = ({ (U.calling g mk a).setFrames s₂.frames with heap := s₂.heap, slotsUsed := s₂.slotsUsed } : State).setVm s₂.vm := by
      have : s₂ = ({ s₂ with vm := (U.calling g mk a).vm } : State).setVm s₂.vm := rfl
      rw [e2] at this
      exact this
    have hf₂ : s₂.frames = .throwing q :: .java g :: U.frames.tail := hend
    have hW' : U.WarmedH s₂.vm := hW₂
    have hs₂ : s₂ = ((({ U with heap := s₂.heap, slotsUsed := s₂.slotsUsed } : State).setVm s₂.vm).setTop g).pushFrame (.throwing q) := by
      refine e3.trans ?_
      rw [hf₂, State.calling_eq h.top, State.setFrames_setFrames, State.pushFrame, State.frames_setTop _ hr', State.setTop_of_frames _ hr', State.setFrames_setFrames, hr]
      rfl
    have hsame : U.sameButNew ({ U with heap := s₂.heap, slotsUsed := s₂.slotsUsed } : State) L mc ms := by
      refine ⟨?_, q2, q3, q4, q5, q6⟩
      obtain ⟨t, ht, -⟩ := State.frames_cons hr
      show ({ U with heap := s₂.heap, slotsUsed := s₂.slotsUsed } : State) = { U.setFrames U.frames with heap := s₂.heap, slotsUsed := s₂.slotsUsed }
      rw [State.setFrames_self ht]
    subst hg
    refine Or.inr ⟨q, ⟨(({ U with heap := s₂.heap, slotsUsed := s₂.slotsUsed } : State).setVm s₂.vm), Ls ++ L, c0 + mc, s0 + ms⟩,
      ⟨X.admits, X.cas, X.clock, X.frames, X.room, X.hears, X.method, X.code, (X.here.setHeapUsed s₂.heap s₂.slotsUsed).setVm hW'.alike, X.tail, State.WarmedH.trans X.warmed hW', X.limits, X.bytes, X.same.trans (hsame.setVm s.vm)⟩,
      ⟨g, mk, s₂, L, E, ce, rfl, rfl, hx, hce, hcv, hcl, rfl, hL, rfl, rfl⟩, ?_⟩
    show Steps p.tables e below _ (((({ U with heap := s₂.heap, slotsUsed := s₂.slotsUsed } : State).setVm s₂.vm).setTop g).pushFrame (.throwing q))
    rw [← hs₂]
    exact hsteps
end Payer
section Calls
variable {p : Program} {l : Launch} {e : Env} {R : Room} {s : State} {m : MethodId} {args : Array Value} {below : List Frame} {meth : Method} {c : Code} {T : State} {locs : List Loc} {cells slots : Nat}
theorem vx_callV (X : Stand p l e R s m args below meth c T locs cells slots) (hexec : p.tables.exec = Jvm.exec) {own C : String} {index : Nat} {y : MethodName} {bytes : ByteArray} {maxL : Nat} {ret : Option FieldType}
    (hown : s.vm.findClass own = some m.cls) (hlink : (Cond.methodLink own index y).before args s = true) (hinst : (Cond.instanceMethod y).before args s = true) (hsel : (Cond.selects C y y).before args s = true)
    (hcode : (Cond.code y bytes maxL ret).before args s = true) (hy : y.cls ≠ "java/lang/invoke/MethodHandle" ∧ y.cls ≠ "java/lang/invoke/VarHandle")
    {W9 : Nat} {Pre : Pt → Array Value → Prop} {Post : Pt → Array Value → Option Value → Pt → Prop} {PostX : Pt → Array Value → Addr → Pt → Prop} (hK : vx_Back l R p e below s args y 3 W9 Pre Post PostX)
    {b : Addr} {cellB : Cell} (hcell : T.heap[b]? = some cellB) (hobj : cellB.vm.isStatics = false) (hcls : s.vm.findClass C = some cellB.cls)
    {g : JFrame} (hg : g.method = m) (hsize : g.locals.size = c.maxLocals) {argsL rest : List Value} (hlen : ∀ sig, parseMethodDescriptor y.desc = some sig → argsL.length = sig.parameters.length)
    (hstack : g.stack = argsL.reverse ++ .ref b :: rest) (hW : 2 * g.monitorRoom + (rest.map fun v => v.category).sum ≤ W9) (hdg : decode c.code g.pc = .ok (.invokevirtual index, 3))
    (hpre : ∀ vm₁, s.WarmedH vm₁ → Pre ⟨T.setVm vm₁, locs, cells, slots⟩ (Value.ref b :: argsL).toArray) :
    (∃ (v : Option Value) (vm₁ : Vm) (B : Pt), s.WarmedH vm₁ ∧ Stand p l e R s m args below meth c B.U B.locs B.cells B.slots ∧ Post ⟨T.setVm vm₁, locs, cells, slots⟩ (Value.ref b :: argsL).toArray v B ∧
      ∀ target, Steps p.tables e below (B.U.setTop { g with pc := g.pc + 3, stack := v.toList ++ rest }) target → Steps p.tables e below (T.setTop g) target) ∨
    (∃ (q : Addr) (vm₁ : Vm) (B : Pt), s.WarmedH vm₁ ∧ Stand p l e R s m args below meth c B.U B.locs B.cells B.slots ∧ PostX ⟨T.setVm vm₁, locs, cells, slots⟩ (Value.ref b :: argsL).toArray q B ∧
      Steps p.tables e below (T.setTop g) ((B.U.setTop { g with stack := rest }).pushFrame (.throwing q))) := by
  obtain ⟨mk, methM, hnamed, hmethM, hstM, habM⟩ := Cond.instanceMethod_spec hinst
  obtain ⟨methM', cM, hmethM', -, -, -, -, -, -, hsigM⟩ := Cond.code_spec hnamed hcode
  cases hmethM.symm.trans hmethM'
  obtain ⟨c2, r2, m2, q1, q2, q3, q4, kP, hkP, hkPi⟩ := Cond.selects_spec hsel
  cases hcls.symm.trans q1
  cases (State.methodFound?_of_named hnamed hy).symm.trans q2
  cases hnamed.symm.trans q3
  have hselP : selectMethod e.platform s.vm cellB.cls mk = .method mk := by rw [Launch.admits_selectMethod X.admits]; exact q4
  obtain ⟨vm₁, X₁, hstep₁⟩ := X.invokevirtual hexec hown hlink hnamed hmethM hstM hkP hkPi hy (a := b) (cell := cellB) hcell
    (fun z h => by rw [h] at hobj; cases hobj) hselP hmethM habM hkP hkPi (g := g) hg (argsL := argsL) (rest := rest) (hlen _ hsigM) hstack hdg
  rcases hK m meth c ⟨T.setVm vm₁, locs, cells, slots⟩ { g with stack := rest } (.invokevirtual index) mk (Value.ref b :: argsL).toArray X₁ hg hsize hdg hW (X₁.named hnamed) (hpre vm₁ X₁.warmed) with ⟨v, B, X', hpost, hsteps⟩ | ⟨q, B, X', hpost, hsteps⟩
  · exact Or.inl ⟨v, vm₁, B, X₁.warmed, X', hpost, fun target h => hstep₁ _ fun acts => by rw [doInvoke_state]; exact hsteps.trans h⟩
  · exact Or.inr ⟨q, vm₁, B, X₁.warmed, X', hpost, hstep₁ _ fun acts => by rw [doInvoke_state]; exact hsteps⟩
theorem vx_callS (X : Stand p l e R s m args below meth c T locs cells slots) (hexec : p.tables.exec = Jvm.exec) {own : String} {index : Nat} {y : MethodName} {bytes : ByteArray} {maxL : Nat} {ret : Option FieldType}
    (hown : s.vm.findClass own = some m.cls) (hlink : (Cond.methodLink own index y).before args s = true) (hstat : (Cond.static y).before args s = true) (hinit : (Cond.initialized y.cls).before args s = true)
    (hcode : (Cond.code y bytes maxL ret).before args s = true) (hy : y.cls ≠ "java/lang/invoke/MethodHandle" ∧ y.cls ≠ "java/lang/invoke/VarHandle")
    {W9 : Nat} {Pre : Pt → Array Value → Prop} {Post : Pt → Array Value → Option Value → Pt → Prop} {PostX : Pt → Array Value → Addr → Pt → Prop} (hK : vx_Back l R p e below s args y 3 W9 Pre Post PostX)
    {g : JFrame} (hg : g.method = m) (hsize : g.locals.size = c.maxLocals) {argsL rest : List Value} (hlen : ∀ sig, parseMethodDescriptor y.desc = some sig → argsL.length = sig.parameters.length)
    (hstack : g.stack = argsL.reverse ++ rest) (hW : 2 * g.monitorRoom + (rest.map fun v => v.category).sum ≤ W9) (hdg : decode c.code g.pc = .ok (.invokestatic index, 3))
    (hpre : ∀ vm₁, s.WarmedH vm₁ → Pre ⟨T.setVm vm₁, locs, cells, slots⟩ argsL.toArray) :
    (∃ (v : Option Value) (vm₁ : Vm) (B : Pt), s.WarmedH vm₁ ∧ Stand p l e R s m args below meth c B.U B.locs B.cells B.slots ∧ Post ⟨T.setVm vm₁, locs, cells, slots⟩ argsL.toArray v B ∧
      ∀ target, Steps p.tables e below (B.U.setTop { g with pc := g.pc + 3, stack := v.toList ++ rest }) target → Steps p.tables e below (T.setTop g) target) ∨
    (∃ (q : Addr) (vm₁ : Vm) (B : Pt), s.WarmedH vm₁ ∧ Stand p l e R s m args below meth c B.U B.locs B.cells B.slots ∧ PostX ⟨T.setVm vm₁, locs, cells, slots⟩ argsL.toArray q B ∧
      Steps p.tables e below (T.setTop g) ((B.U.setTop { g with stack := rest }).pushFrame (.throwing q))) := by
  obtain ⟨mk, hnamed⟩ := Cond.code_named hcode
  obtain ⟨methM, cM, hmethM, -, -, -, -, -, -, hsigM⟩ := Cond.code_spec hnamed hcode
  have hstatic : methM.isStatic = true := Cond.static_spec hnamed hmethM hstat
  obtain ⟨kP, hkP, -⟩ := className_of_methodNamed hnamed
  have hinitP : kP.init = .initialized := Cond.initialized_spec (findClass_of_methodNamed hnamed) hkP hinit
  obtain ⟨vm₁, X₁, hstep₁⟩ := X.invokestatic hexec hown hlink hnamed hmethM hstatic hkP hinitP hy (g := g) hg (argsL := argsL) (rest := rest) (hlen _ hsigM) hstack hdg
  rcases hK m meth c ⟨T.setVm vm₁, locs, cells, slots⟩ { g with stack := rest } (.invokestatic index) mk argsL.toArray X₁ hg hsize hdg hW (X₁.named hnamed) (hpre vm₁ X₁.warmed) with ⟨v, B, X', hpost, hsteps⟩ | ⟨q, B, X', hpost, hsteps⟩
  · exact Or.inl ⟨v, vm₁, B, X₁.warmed, X', hpost, fun target h => hstep₁ _ fun acts => by rw [doInvoke_state]; exact hsteps.trans h⟩
  · exact Or.inr ⟨q, vm₁, B, X₁.warmed, X', hpost, hstep₁ _ fun acts => by rw [doInvoke_state]; exact hsteps⟩
end Calls
theorem vx_cls {s : State} {T : State} {vm₁ : Vm} {E : String} {k : ClassId} (hW : s.WarmedH vm₁) (h : (T.setVm vm₁).vm.findClass E = some k) : s.vm.findClass E = some k := by
  have h1 : vm₁.findClass E = some k := h
  rw [hW.alike.findClass] at h1
  exact h1
/-- the method's frame g, with q thrown over it -/
def vx_W (p : Program) (l : Launch) (e : Env) (R : Room) (s : State) (m : MethodId) (args : Array Value) (below : List Frame) (meth : Method) (c : Code) (H : Heap) (locs : List Loc) (cells slots : Nat) (Q : State → Prop) (g : JFrame) (q : Addr) : Prop :=
  ∀ T : State, T.heap = H → Stand p l e R s m args below meth c T locs cells slots → ∃ t, Steps p.tables e below ((T.setTop g).pushFrame (.throwing q)) t ∧ Q t
def vx_Run (p : Program) (l : Launch) (e : Env) (R : Room) (s : State) (m : MethodId) (args : Array Value) (below : List Frame) (meth : Method) (c : Code) (H : Heap) (locs : List Loc) (cells slots mc ms : Nat) (g : JFrame) (rest : List Value) (Qa : State → Outcome → State → Prop) (XC : String → State → State → Prop) (free : Addr → Prop) : Prop :=
  ∀ T : State, T.heap = H → Stand p l e R s m args below meth c T locs cells slots →
    (∃ (v : Option Value) (st₀ t T' : State) (L : List Loc), st₀.heap = H ∧ Stand p l e R s m args below meth c T' (locs ++ L) (cells + mc) (slots + ms) ∧ (∀ q ∈ L, free q.base) ∧ T'.heap = t.heap ∧ T'.vm = t.vm ∧ Qa st₀ (.returned v) t ∧
      Goes p e below T g T' { g with pc := g.pc + 3, stack := v.toList ++ rest }) ∨
    (∃ (q : Addr) (st₀ t T' : State) (L : List Loc) (E : String) (ce : Cell), st₀.heap = H ∧ Stand p l e R s m args below meth c T' (locs ++ L) (cells + mc) (slots + ms) ∧ (∀ z ∈ L, free z.base) ∧ T'.heap = t.heap ∧ T'.vm = t.vm ∧ XC E st₀ t ∧ t.heap[q]? = some ce ∧ ce.vm = .none ∧ s.vm.findClass E = some ce.cls ∧
      Steps p.tables e below (T.setTop g) ((T'.setTop { g with stack := rest }).pushFrame (.throwing q)))
def vx_X {S : Type} (px : S → Prop) (B : String → S → State → Prop) (A : Nat → Prop) : String → State → State → Prop := fun E st t => ∃ u : S, px u ∧ B E u t ∧ va_F A st t
section Runs
variable {p : Program} {l : Launch} {e : Env} {R : Room} {s : State} {m : MethodId} {args : Array Value} {below : List Frame} {meth : Method} {c : Code} {H : Heap} {locs : List Loc} {cells slots : Nat}
variable {y : MethodName} {bytes cc : ByteArray} {maxL nL mc ms n index : Nat} {ret : Option FieldType} {ws : List Cond} {rm : Room} {Pc : Array Value → State → Prop} {Qc : Array Value → State → Outcome → State → Prop} {XC : String → State → State → Prop} {free : Addr → Prop} {Ts : List Cond} {own C : String} {b : Addr} {As rest : List Value} {g : JFrame}
theorem vx_callBack (cb : CallB R s args own index y bytes maxL ret ws rm mc ms n) (hM : vx_Met l y ws rm Pc Qc XC mc ms free) (hbl : FrameBlind Pc) : vx_Back l R p e below s args y 3 8 (PreOf R mc ms Pc) (PostOf Qc mc ms free) (vx_Post XC mc ms free) := by
  obtain ⟨hrc, hrs, hfr, hlo, hws, hcw, -, hini, -⟩ := cb
  exact vx_back (bytes := bytes) (maxL := maxL) (ret := ret) hM hbl hrc hrs hfr hlo hws hcw (fun a' U hW => word_at hW (Or.inl (by first | rfl | simp [Cond.onTables, Cond.keeps, Cond.steady])) hini)
theorem vx_runV (S : CallFix p m c cc nL s args Ts own) (hM : vx_Met l y ws rm Pc Qc XC mc ms free) (cw : CallW R s args own C index y bytes maxL ret ws rm mc ms n) (hp : PreV s H C b Pc As)
    (hg : g.method = m) (hn : As.length = n) (hsize : g.locals.size = nL) (hstack : g.stack = As.reverse ++ .ref b :: rest) (hW : 2 * g.monitorRoom + (rest.map fun v => v.category).sum ≤ 8) (hdg : decode cc g.pc = .ok (.invokevirtual index, 3)) (hf : cells + mc ≤ R.cells ∧ slots + ms ≤ R.slots) :
    vx_Run p l e R s m args below meth c H locs cells slots mc ms g rest (Qc (Value.ref b :: As).toArray) XC free := by
  have hK : vx_Back l R p e below s args y 3 8 (PreOf R mc ms Pc) (PostOf Qc mc ms free) (vx_Post XC mc ms free) := vx_callBack cw.1 hM hp.1
  obtain ⟨⟨-, -, -, -, -, -, hcode, -, hy, hlen, hl⟩, hin, hse⟩ := cw
  obtain ⟨hx, hb, hml, ho, -⟩ := S
  obtain ⟨-, ⟨cellB, hcB, hoB, hclB⟩, hPc⟩ := hp
  intro T hT X
  rcases vx_callV X hx (C := C) (bytes := bytes) (maxL := maxL) (ret := ret) ho hl hin hse hcode hy hK (by rw [hT]; exact hcB) hoB hclB hg (hsize.trans hml.symm) (argsL := As) (rest := rest) (fun sig h => hn.trans (hlen sig h)) hstack hW (by rw [hb]; exact hdg)
    (fun vm₁ hW₁ => ⟨hf.1, hf.2, hPc (T.setVm vm₁) hT hW₁⟩) with ⟨v, vm₁, ⟨U', l2, c2, s2⟩, hW₁, X', ⟨g', mk, t, L, e1, e2, hq, h1, hL, h2, h3⟩, st⟩ | ⟨q, vm₁, ⟨U', l2, c2, s2⟩, hW₁, X', ⟨g', mk, t, L, E, ce, e1, e2, hq, hce, hcv, hcl, h1, hL, h2, h3⟩, st⟩
  · dsimp only [Pt.U, Pt.locs, Pt.cells, Pt.slots] at X' e1 e2 h1 h2 h3 st
    subst h1; subst h2; subst h3
    exact Or.inl ⟨v, (T.setVm vm₁).calling g' mk (Value.ref b :: As).toArray, t, U', L, hT, X', hL, e1, e2, hq, st⟩
  · dsimp only [Pt.U, Pt.locs, Pt.cells, Pt.slots] at X' e1 e2 h1 h2 h3 st hcl
    subst h1; subst h2; subst h3
    exact Or.inr ⟨q, (T.setVm vm₁).calling g' mk (Value.ref b :: As).toArray, t, U', L, E, ce, hT, X', hL, e1, e2, hq, hce, hcv, vx_cls hW₁ hcl, st⟩
theorem vx_runS (S : CallFix p m c cc nL s args Ts own) (hM : vx_Met l y ws rm Pc Qc XC mc ms free) (cw : CallB R s args own index y bytes maxL ret ws rm mc ms n ∧ (Cond.static y).before args s = true) (hp : PreS s H Pc As)
    (hg : g.method = m) (hn : As.length = n) (hsize : g.locals.size = nL) (hstack : g.stack = As.reverse ++ rest) (hW : 2 * g.monitorRoom + (rest.map fun v => v.category).sum ≤ 8) (hdg : decode cc g.pc = .ok (.invokestatic index, 3)) (hf : cells + mc ≤ R.cells ∧ slots + ms ≤ R.slots) :
    vx_Run p l e R s m args below meth c H locs cells slots mc ms g rest (Qc As.toArray) XC free := by
  have hK : vx_Back l R p e below s args y 3 8 (PreOf R mc ms Pc) (PostOf Qc mc ms free) (vx_Post XC mc ms free) := vx_callBack cw.1 hM hp.1
  obtain ⟨⟨-, -, -, -, -, -, hcode, hini, hy, hlen, hl⟩, hstt⟩ := cw
  obtain ⟨hx, hb, hml, ho, -⟩ := S
  intro T hT X
  rcases vx_callS X hx (bytes := bytes) (maxL := maxL) (ret := ret) ho hl hstt hini hcode hy hK hg (hsize.trans hml.symm) (argsL := As) (rest := rest) (fun sig h => hn.trans (hlen sig h)) hstack hW (by rw [hb]; exact hdg)
    (fun vm₁ hW₁ => ⟨hf.1, hf.2, hp.2 (T.setVm vm₁) hT hW₁⟩) with ⟨v, vm₁, ⟨U', l2, c2, s2⟩, hW₁, X', ⟨g', mk, t, L, e1, e2, hq, h1, hL, h2, h3⟩, st⟩ | ⟨q, vm₁, ⟨U', l2, c2, s2⟩, hW₁, X', ⟨g', mk, t, L, E, ce, e1, e2, hq, hce, hcv, hcl, h1, hL, h2, h3⟩, st⟩
  · dsimp only [Pt.U, Pt.locs, Pt.cells, Pt.slots] at X' e1 e2 h1 h2 h3 st
    subst h1; subst h2; subst h3
    exact Or.inl ⟨v, (T.setVm vm₁).calling g' mk As.toArray, t, U', L, hT, X', hL, e1, e2, hq, st⟩
  · dsimp only [Pt.U, Pt.locs, Pt.cells, Pt.slots] at X' e1 e2 h1 h2 h3 st hcl
    subst h1; subst h2; subst h3
    exact Or.inr ⟨q, (T.setVm vm₁).calling g' mk As.toArray, t, U', L, E, ce, hT, X', hL, e1, e2, hq, hce, hcv, vx_cls hW₁ hcl, st⟩
end Runs
section Rows
variable {p : Program} {l : Launch} {e : Env} {R : Room} {s : State} {m : MethodId} {args : Array Value} {below : List Frame} {meth : Method} {c : Code} {H : Heap} {locs : List Loc} {cells slots : Nat} {Q : State → Prop}
variable {mc ms : Nat} {free : Addr → Prop} {A0 A1 : Nat → Prop} {H0 : Heap} {a : Array Value} {pc : Nat} {ls : Array Slot} {st0 rest : List Value}
theorem vx_keep {st₀ t T' : State} {L : List Loc} (h0 : st₀.heap = H) (e1 : T'.heap = t.heap) (hS : va_S A0 H0 H locs) (hA : ∀ q, q < H.size → A1 q → A0 q) (hf : ∀ q, free q → A0 q) (hL : ∀ q ∈ L, free q.base) (hF : va_F A1 st₀ t) :
    H.size ≤ T'.heap.size ∧ (∀ q : Nat, q < H.size → ¬ A1 q → T'.heap[q]? = H[q]?) ∧ va_S A0 H0 T'.heap (locs ++ L) := by
  obtain ⟨hz, hk⟩ := hF
  rw [h0] at hz hk
  exact ⟨by rw [e1]; exact hz, fun q h1 h2 => by rw [e1]; exact hk q h1 h2,
    ⟨Nat.le_trans hS.1 (by rw [e1]; exact hz), fun q h1 h2 => by rw [e1, hk q (Nat.lt_of_lt_of_le h1 hS.1) (fun z => h2 (hA q (Nat.lt_of_lt_of_le h1 hS.1) z))]; exact hS.2.1 q h1 h2, fun q hq => by
      rcases List.mem_append.mp hq with h | h
      · exact hS.2.2 q h
      · exact hf _ (hL q h)⟩⟩
theorem vx_calli {S SX : Type} {post : Int32 → S → Prop} {px : SX → Prop} {B : S → State → Prop} {BX : String → SX → State → Prop} {AX : Nat → Prop} (hr : vx_Run p l e R s m args below meth c H locs cells slots mc ms (F0 m pc ls st0) rest (va_Qi post B A1 a) (vx_X px BX AX) free) (hS : va_S A0 H0 H locs) (hA : ∀ q, q < H.size → A1 q → A0 q) (hf : ∀ q, free q → A0 q) (hAX : ∀ q, q < H.size → AX q → A0 q)
    (kx : ∀ (E : String) (ce : Cell) (q9 : Addr) (u : SX) (t : State) (H1 : Heap) (locs1 : List Loc), t.heap = H1 → s.vm.Alike t.vm → px u → BX E u t → H.size ≤ H1.size → (∀ q : Nat, q < H.size → ¬ AX q → H1[q]? = H[q]?) → va_S A0 H0 H1 locs1 → H1[q9]? = some ce → ce.vm = .none → s.vm.findClass E = some ce.cls → vx_W p l e R s m args below meth c H1 locs1 (cells + mc) (slots + ms) Q (F0 m pc ls rest) q9)
    (kk : ∀ (r : Int32) (u : S) (t : State) (H1 : Heap) (locs1 : List Loc), t.heap = H1 → s.vm.Alike t.vm → post r u → B u t → H.size ≤ H1.size → (∀ q : Nat, q < H.size → ¬ A1 q → H1[q]? = H[q]?) → va_S A0 H0 H1 locs1 → W p l e R s m args below meth c H1 locs1 (cells + mc) (slots + ms) Q (F0 m (pc + 3) ls (.int r :: rest))) : W p l e R s m args below meth c H locs cells slots Q (F0 m pc ls st0) := by
  intro T hT X
  rcases hr T hT X with ⟨v, st₀, t, T', L, h0, X', hL, e1, e2, ⟨⟨r, u, hv, hp, hb⟩, hF⟩, st⟩ | ⟨q, st₀, t, T', L, E, ce, h0, X', hL, e1, e2, ⟨u, hp, hb, hF⟩, hce, hcv, hcl, st⟩
  · cases hv
    obtain ⟨k1, k2, k3⟩ := vx_keep h0 e1 hS hA hf hL hF
    obtain ⟨t2, a1, b1⟩ := kk r u t T'.heap (locs ++ L) e1.symm (by rw [← e2]; exact X'.warmed.alike) hp hb k1 k2 k3 T' rfl X'
    exact ⟨t2, st t2 a1, b1⟩
  · obtain ⟨k1, k2, k3⟩ := vx_keep h0 e1 hS hAX hf hL hF
    obtain ⟨t2, a1, b1⟩ := kx E ce q u t T'.heap (locs ++ L) e1.symm (by rw [← e2]; exact X'.warmed.alike) hp hb k1 k2 k3 (by rw [e1]; exact hce) hcv hcl T' rfl X'
    exact ⟨t2, st.trans a1, b1⟩
theorem vx_calll {S SX : Type} {post : Int64 → S → Prop} {px : SX → Prop} {B : S → State → Prop} {BX : String → SX → State → Prop} {AX : Nat → Prop} (hr : vx_Run p l e R s m args below meth c H locs cells slots mc ms (F0 m pc ls st0) rest (va_Ql post B A1 a) (vx_X px BX AX) free) (hS : va_S A0 H0 H locs) (hA : ∀ q, q < H.size → A1 q → A0 q) (hf : ∀ q, free q → A0 q) (hAX : ∀ q, q < H.size → AX q → A0 q)
    (kx : ∀ (E : String) (ce : Cell) (q9 : Addr) (u : SX) (t : State) (H1 : Heap) (locs1 : List Loc), t.heap = H1 → s.vm.Alike t.vm → px u → BX E u t → H.size ≤ H1.size → (∀ q : Nat, q < H.size → ¬ AX q → H1[q]? = H[q]?) → va_S A0 H0 H1 locs1 → H1[q9]? = some ce → ce.vm = .none → s.vm.findClass E = some ce.cls → vx_W p l e R s m args below meth c H1 locs1 (cells + mc) (slots + ms) Q (F0 m pc ls rest) q9)
    (kk : ∀ (r : Int64) (u : S) (t : State) (H1 : Heap) (locs1 : List Loc), t.heap = H1 → s.vm.Alike t.vm → post r u → B u t → H.size ≤ H1.size → (∀ q : Nat, q < H.size → ¬ A1 q → H1[q]? = H[q]?) → va_S A0 H0 H1 locs1 → W p l e R s m args below meth c H1 locs1 (cells + mc) (slots + ms) Q (F0 m (pc + 3) ls (.long r :: rest))) : W p l e R s m args below meth c H locs cells slots Q (F0 m pc ls st0) := by
  intro T hT X
  rcases hr T hT X with ⟨v, st₀, t, T', L, h0, X', hL, e1, e2, ⟨⟨r, u, hv, hp, hb⟩, hF⟩, st⟩ | ⟨q, st₀, t, T', L, E, ce, h0, X', hL, e1, e2, ⟨u, hp, hb, hF⟩, hce, hcv, hcl, st⟩
  · cases hv
    obtain ⟨k1, k2, k3⟩ := vx_keep h0 e1 hS hA hf hL hF
    obtain ⟨t2, a1, b1⟩ := kk r u t T'.heap (locs ++ L) e1.symm (by rw [← e2]; exact X'.warmed.alike) hp hb k1 k2 k3 T' rfl X'
    exact ⟨t2, st t2 a1, b1⟩
  · obtain ⟨k1, k2, k3⟩ := vx_keep h0 e1 hS hAX hf hL hF
    obtain ⟨t2, a1, b1⟩ := kx E ce q u t T'.heap (locs ++ L) e1.symm (by rw [← e2]; exact X'.warmed.alike) hp hb k1 k2 k3 (by rw [e1]; exact hce) hcv hcl T' rfl X'
    exact ⟨t2, st.trans a1, b1⟩
theorem vx_callf {S SX : Type} {post : UInt32 → S → Prop} {px : SX → Prop} {B : S → State → Prop} {BX : String → SX → State → Prop} {AX : Nat → Prop} (hr : vx_Run p l e R s m args below meth c H locs cells slots mc ms (F0 m pc ls st0) rest (va_Qf post B A1 a) (vx_X px BX AX) free) (hS : va_S A0 H0 H locs) (hA : ∀ q, q < H.size → A1 q → A0 q) (hf : ∀ q, free q → A0 q) (hAX : ∀ q, q < H.size → AX q → A0 q)
    (kx : ∀ (E : String) (ce : Cell) (q9 : Addr) (u : SX) (t : State) (H1 : Heap) (locs1 : List Loc), t.heap = H1 → s.vm.Alike t.vm → px u → BX E u t → H.size ≤ H1.size → (∀ q : Nat, q < H.size → ¬ AX q → H1[q]? = H[q]?) → va_S A0 H0 H1 locs1 → H1[q9]? = some ce → ce.vm = .none → s.vm.findClass E = some ce.cls → vx_W p l e R s m args below meth c H1 locs1 (cells + mc) (slots + ms) Q (F0 m pc ls rest) q9)
    (kk : ∀ (r : UInt32) (u : S) (t : State) (H1 : Heap) (locs1 : List Loc), t.heap = H1 → s.vm.Alike t.vm → post r u → B u t → H.size ≤ H1.size → (∀ q : Nat, q < H.size → ¬ A1 q → H1[q]? = H[q]?) → va_S A0 H0 H1 locs1 → W p l e R s m args below meth c H1 locs1 (cells + mc) (slots + ms) Q (F0 m (pc + 3) ls (.float r :: rest))) : W p l e R s m args below meth c H locs cells slots Q (F0 m pc ls st0) := by
  intro T hT X
  rcases hr T hT X with ⟨v, st₀, t, T', L, h0, X', hL, e1, e2, ⟨⟨r, u, hv, hp, hb⟩, hF⟩, st⟩ | ⟨q, st₀, t, T', L, E, ce, h0, X', hL, e1, e2, ⟨u, hp, hb, hF⟩, hce, hcv, hcl, st⟩
  · cases hv
    obtain ⟨k1, k2, k3⟩ := vx_keep h0 e1 hS hA hf hL hF
    obtain ⟨t2, a1, b1⟩ := kk r u t T'.heap (locs ++ L) e1.symm (by rw [← e2]; exact X'.warmed.alike) hp hb k1 k2 k3 T' rfl X'
    exact ⟨t2, st t2 a1, b1⟩
  · obtain ⟨k1, k2, k3⟩ := vx_keep h0 e1 hS hAX hf hL hF
    obtain ⟨t2, a1, b1⟩ := kx E ce q u t T'.heap (locs ++ L) e1.symm (by rw [← e2]; exact X'.warmed.alike) hp hb k1 k2 k3 (by rw [e1]; exact hce) hcv hcl T' rfl X'
    exact ⟨t2, st.trans a1, b1⟩
theorem vx_calld {S SX : Type} {post : UInt64 → S → Prop} {px : SX → Prop} {B : S → State → Prop} {BX : String → SX → State → Prop} {AX : Nat → Prop} (hr : vx_Run p l e R s m args below meth c H locs cells slots mc ms (F0 m pc ls st0) rest (va_Qd post B A1 a) (vx_X px BX AX) free) (hS : va_S A0 H0 H locs) (hA : ∀ q, q < H.size → A1 q → A0 q) (hf : ∀ q, free q → A0 q) (hAX : ∀ q, q < H.size → AX q → A0 q)
    (kx : ∀ (E : String) (ce : Cell) (q9 : Addr) (u : SX) (t : State) (H1 : Heap) (locs1 : List Loc), t.heap = H1 → s.vm.Alike t.vm → px u → BX E u t → H.size ≤ H1.size → (∀ q : Nat, q < H.size → ¬ AX q → H1[q]? = H[q]?) → va_S A0 H0 H1 locs1 → H1[q9]? = some ce → ce.vm = .none → s.vm.findClass E = some ce.cls → vx_W p l e R s m args below meth c H1 locs1 (cells + mc) (slots + ms) Q (F0 m pc ls rest) q9)
    (kk : ∀ (r : UInt64) (u : S) (t : State) (H1 : Heap) (locs1 : List Loc), t.heap = H1 → s.vm.Alike t.vm → post r u → B u t → H.size ≤ H1.size → (∀ q : Nat, q < H.size → ¬ A1 q → H1[q]? = H[q]?) → va_S A0 H0 H1 locs1 → W p l e R s m args below meth c H1 locs1 (cells + mc) (slots + ms) Q (F0 m (pc + 3) ls (.double r :: rest))) : W p l e R s m args below meth c H locs cells slots Q (F0 m pc ls st0) := by
  intro T hT X
  rcases hr T hT X with ⟨v, st₀, t, T', L, h0, X', hL, e1, e2, ⟨⟨r, u, hv, hp, hb⟩, hF⟩, st⟩ | ⟨q, st₀, t, T', L, E, ce, h0, X', hL, e1, e2, ⟨u, hp, hb, hF⟩, hce, hcv, hcl, st⟩
  · cases hv
    obtain ⟨k1, k2, k3⟩ := vx_keep h0 e1 hS hA hf hL hF
    obtain ⟨t2, a1, b1⟩ := kk r u t T'.heap (locs ++ L) e1.symm (by rw [← e2]; exact X'.warmed.alike) hp hb k1 k2 k3 T' rfl X'
    exact ⟨t2, st t2 a1, b1⟩
  · obtain ⟨k1, k2, k3⟩ := vx_keep h0 e1 hS hAX hf hL hF
    obtain ⟨t2, a1, b1⟩ := kx E ce q u t T'.heap (locs ++ L) e1.symm (by rw [← e2]; exact X'.warmed.alike) hp hb k1 k2 k3 (by rw [e1]; exact hce) hcv hcl T' rfl X'
    exact ⟨t2, st.trans a1, b1⟩
theorem vx_callv {S SX : Type} {post : S → Prop} {px : SX → Prop} {B : S → State → Prop} {BX : String → SX → State → Prop} {AX : Nat → Prop} (hr : vx_Run p l e R s m args below meth c H locs cells slots mc ms (F0 m pc ls st0) rest (va_Qv post B A1 a) (vx_X px BX AX) free) (hS : va_S A0 H0 H locs) (hA : ∀ q, q < H.size → A1 q → A0 q) (hf : ∀ q, free q → A0 q) (hAX : ∀ q, q < H.size → AX q → A0 q)
    (kx : ∀ (E : String) (ce : Cell) (q9 : Addr) (u : SX) (t : State) (H1 : Heap) (locs1 : List Loc), t.heap = H1 → s.vm.Alike t.vm → px u → BX E u t → H.size ≤ H1.size → (∀ q : Nat, q < H.size → ¬ AX q → H1[q]? = H[q]?) → va_S A0 H0 H1 locs1 → H1[q9]? = some ce → ce.vm = .none → s.vm.findClass E = some ce.cls → vx_W p l e R s m args below meth c H1 locs1 (cells + mc) (slots + ms) Q (F0 m pc ls rest) q9)
    (kk : ∀ (u : S) (t : State) (H1 : Heap) (locs1 : List Loc), t.heap = H1 → s.vm.Alike t.vm → post u → B u t → H.size ≤ H1.size → (∀ q : Nat, q < H.size → ¬ A1 q → H1[q]? = H[q]?) → va_S A0 H0 H1 locs1 → W p l e R s m args below meth c H1 locs1 (cells + mc) (slots + ms) Q (F0 m (pc + 3) ls (rest))) : W p l e R s m args below meth c H locs cells slots Q (F0 m pc ls st0) := by
  intro T hT X
  rcases hr T hT X with ⟨v, st₀, t, T', L, h0, X', hL, e1, e2, ⟨⟨u, hv, hp, hb⟩, hF⟩, st⟩ | ⟨q, st₀, t, T', L, E, ce, h0, X', hL, e1, e2, ⟨u, hp, hb, hF⟩, hce, hcv, hcl, st⟩
  · cases hv
    obtain ⟨k1, k2, k3⟩ := vx_keep h0 e1 hS hA hf hL hF
    obtain ⟨t2, a1, b1⟩ := kk u t T'.heap (locs ++ L) e1.symm (by rw [← e2]; exact X'.warmed.alike) hp hb k1 k2 k3 T' rfl X'
    exact ⟨t2, st t2 a1, b1⟩
  · obtain ⟨k1, k2, k3⟩ := vx_keep h0 e1 hS hAX hf hL hF
    obtain ⟨t2, a1, b1⟩ := kx E ce q u t T'.heap (locs ++ L) e1.symm (by rw [← e2]; exact X'.warmed.alike) hp hb k1 k2 k3 (by rw [e1]; exact hce) hcv hcl T' rfl X'
    exact ⟨t2, st.trans a1, b1⟩
end Rows
section Ends
variable {p : Program} {l : Launch} {e : Env} {R : Room} {s : State} {m : MethodId} {args : Array Value} {below : List Frame} {meth : Method} {c : Code} {H : Heap} {locs : List Loc} {cells slots : Nat} {Q : State → Prop}
variable {mc ms : Nat} {free : Addr → Prop} {A0 A1 : Nat → Prop} {H0 : Heap} {a : Array Value} {ls : Array Slot} {st0 rest : List Value}
variable {Qc : Array Value → State → Outcome → State → Prop} {XC : String → State → State → Prop}
/-- what a body that may throw owes at its end -/
def vx_MQ (below : List Frame) (Qc : Array Value → State → Outcome → State → Prop) (XC : String → State → State → Prop) (a : Array Value) (s : State) (mc ms : Nat) (free : Addr → Prop) : State → Prop := fun t =>
  ∃ o, t.status = .running ∧ Ended t below o ∧ vx_Q Qc XC mc ms free a s o t
theorem vx_ret {g : JFrame} {mc ms : Nat} (k : W p l e R s m args below meth c H locs cells slots (MQ below Qc args s mc ms free) g) : W p l e R s m args below meth c H locs cells slots (vx_MQ below Qc XC args s mc ms free) g := by
  intro T hT X
  obtain ⟨t, a1, o, b1, b2, b3, b4⟩ := k T hT X
  exact ⟨t, a1, o, b1, b2, Or.inl ⟨b3, b4⟩⟩
/-- not caught here: it goes on to the caller -/
theorem vx_widen {g : JFrame} {q : Addr} {k n : Nat} (h1 : cells ≤ k) (h2 : slots ≤ n) (kk : vx_W p l e R s m args below meth c H locs k n Q g q) : vx_W p l e R s m args below meth c H locs cells slots Q g q := fun T hT X => kk T hT (stand_widen X h1 h2)
theorem vx_out {pc : Nat} {E : String} {ce : Cell} {q : Addr} {mc ms : Nat} (hout : ∀ x ∈ c.exceptionTable.toList, covers x pc = false) (hlocks : meth.locks = false) (hcell : H[q]? = some ce) (hv : ce.vm = .none) (hcl : s.vm.findClass E = some ce.cls)
    (hx : ∀ t : State, t.heap = H → s.vm.Alike t.vm → XC E s t) (hf : ∀ z ∈ locs, free z.base) (hc : cells ≤ mc) (hs : slots ≤ ms) :
    vx_W p l e R s m args below meth c H locs cells slots (vx_MQ below Qc XC args s mc ms free) (F0 m pc ls rest) q := by
  intro T hT X
  obtain ⟨st1, hrun, hend, hW, hsm⟩ := X.leaveThrown q (g := F0 m pc ls rest) rfl rfl rfl hout hlocks
  have hcell9 : (T.setFrames (.throwing q :: below)).heap[q]? = some ce := by
    show T.heap[q]? = some ce
    rw [hT]; exact hcell
  exact ⟨_, st1, .threw q, hrun, hend, Or.inr ⟨q, rfl, E, ce, locs, hx _ hT hW.alike, hcell9, hv, hcl, hW, hsm.mono hc hs, hf⟩⟩
theorem vx_frame {U : State} {k n : Nat} (h : s.sameButNew ({ U with vm := s.vm } : State) locs k n) : s.heap.size ≤ U.heap.size ∧ ∀ q : Nat, q < s.heap.size → (∀ z ∈ locs, z.base ≠ q) → U.heap[q]? = s.heap[q]? := by
  obtain ⟨-, h2, -, -, -, h6⟩ := h
  refine ⟨h2, fun q hq hz => ?_⟩
  obtain ⟨c9, e1, e2, e3, e4⟩ := h6 q _ (Array.getElem?_eq_getElem hq)
  have hs : c9.slots = (s.heap[q]).slots := Array.ext_getElem? fun i => e4 i fun hm => hz _ hm rfl
  have h9 : c9 = s.heap[q] := by
    rw [hs] at e2
    exact e2
  have e5 : U.heap[q]? = some c9 := e1
  rw [e5, h9, Array.getElem?_eq_getElem hq]
/-- the words of a throw but the four that speak of the heap -/
def vx_no (w : Cond) : Bool := decide (w ≠ .isRef (.static Bundle.tN "UNASSIGNED_STACK" Bundle.steD)) && decide (w ≠ .isRef (.static Bundle.tN "SUPPRESSED_SENTINEL" Bundle.listD)) && decide (w ≠ .laysStatic Bundle.tN "UNASSIGNED_STACK" Bundle.steD) && decide (w ≠ .laysStatic Bundle.tN "SUPPRESSED_SENTINEL" Bundle.listD)
def vx_at0 (own : String) (ic : Nat) (X : String) (names : List String) : List Cond := (Bundle.ownAtoms0 own ic X names).filter vx_no
def vx_atS (own : String) (ic : Nat) (X : String) (names : List String) : List Cond := (Bundle.ownAtoms own ic X names).filter vx_no
/-- a word that the tables alone decide, or a good one -/
def vx_ot (w : Cond) : Bool := w.onTables || goodWord w
theorem vx_ot_at {args a' : Array Value} {s U : State} {w : Cond} (hW : s.WarmedH U.vm) (hvm : s.vm = U.vm) (hg : vx_ot w = true) (h : w.before args s = true) : w.before a' U = true := by
  simp only [vx_ot, Bool.or_eq_true] at hg
  rcases hg with hg | hg
  · exact va_tabs hg hvm h
  · exact word_at hW (good_of_word hg) h
/-- a list's words: the good ones out of the method's own list, the others by premises of their own -/
theorem vx_hat {args : Array Value} {s : State} {L B : List Cond} (h1 : ∀ w ∈ L.filter goodWord, w.before args s = true) (h2 : ∀ w ∈ L.filter (fun w => !goodWord w), w ∈ B) (h3 : ∀ w ∈ B, w.before args s = true) : ∀ w ∈ L, w.before args s = true := by
  intro w hw
  by_cases g : goodWord w = true
  · exact h1 w (List.mem_filter.mpr ⟨hw, g⟩)
  · refine h3 w (h2 w (List.mem_filter.mpr ⟨hw, ?_⟩))
    show (!goodWord w) = true
    cases hgw : goodWord w
    · rfl
    · exact absurd hgw g
theorem vx_c {args : Array Value} {s : State} {w : Cond} {B : List Cond} (h : w.before args s = true) (t : ∀ w ∈ B, w.before args s = true) : ∀ w' ∈ w :: B, w'.before args s = true := fun w' h' => (List.mem_cons.mp h').elim (fun e => by rw [e]; exact h) (t w')
theorem vx_n {args : Array Value} {s : State} : ∀ w ∈ ([] : List Cond), w.before args s = true := fun _ h => nomatch h
theorem vx_own {args : Array Value} {s : State} {L : List Cond} (h1 : ∀ w ∈ L.filter vx_no, w.before args s = true)
    (hU : (Cond.isRef (.static Bundle.tN "UNASSIGNED_STACK" Bundle.steD)).before args s = true) (hN : (Cond.isRef (.static Bundle.tN "SUPPRESSED_SENTINEL" Bundle.listD)).before args s = true)
    (lU : (Cond.laysStatic Bundle.tN "UNASSIGNED_STACK" Bundle.steD).before args s = true) (lN : (Cond.laysStatic Bundle.tN "SUPPRESSED_SENTINEL" Bundle.listD).before args s = true) : ∀ w ∈ L, w.before args s = true := by
  intro w hw
  by_cases e1 : w = .isRef (.static Bundle.tN "UNASSIGNED_STACK" Bundle.steD)
  · rw [e1]; exact hU
  · by_cases e2 : w = .isRef (.static Bundle.tN "SUPPRESSED_SENTINEL" Bundle.listD)
    · rw [e2]; exact hN
    · by_cases e3 : w = .laysStatic Bundle.tN "UNASSIGNED_STACK" Bundle.steD
      · rw [e3]; exact lU
      · by_cases e4 : w = .laysStatic Bundle.tN "SUPPRESSED_SENTINEL" Bundle.listD
        · rw [e4]; exact lN
        · exact h1 w (List.mem_filter.mpr ⟨hw, by unfold vx_no; rw [decide_eq_true e1, decide_eq_true e2, decide_eq_true e3, decide_eq_true e4]; rfl⟩)
/-- where a static field lies, its class's statics cell in H -/
def vx_L (C n d : String) (A : Nat → Prop) (U : State) (H : Heap) : Prop := ∃ (c : ClassId) (k : Class) (i : Nat) (f : Field) (a : Nat) (cell : Cell), U.vm.findClass C = some c ∧ U.fieldFound? C n d = some (c, k, i, f) ∧ f.isStatic = true ∧ k.statics = some a ∧ H[a]? = some cell ∧ cell.vm.isStatics = true ∧ cell.cls = c ∧ f.slot < cell.slots.size ∧ k.staticTypes[f.slot]? = some f.type ∧ ¬ A a
theorem vx_L.moved {C n d : String} {A : Nat → Prop} {u U : State} {H : Heap} (hvm : u.vm.Alike U.vm) (h : vx_L C n d A u H) : vx_L C n d A U H := by
  obtain ⟨c, k, i, f, a, cell, h1, h2, h3, h4, h5, h6, h7, h8, h9, h10⟩ := h
  obtain ⟨k', hi', he⟩ := State.fieldFound?_setVm hvm h2
  exact ⟨c, k', i, f, a, cell, by rw [hvm.findClass]; exact h1, hi', h3, by rw [he]; exact h4, h5, h6, h7, h8, by rw [he]; exact h9, h10⟩
theorem vx_L.kept {C n d : String} {A : Nat → Prop} {U : State} {H H1 : Heap} (h : vx_L C n d A U H) (hq : ∀ a : Nat, a < H.size → ¬ A a → H1[a]? = H[a]?) : vx_L C n d A U H1 := by
  obtain ⟨c, k, i, f, a, cell, h1, h2, h3, h4, h5, h6, h7, h8, h9, h10⟩ := h
  exact ⟨c, k, i, f, a, cell, h1, h2, h3, h4, by rw [hq a (Array.getElem?_eq_some_iff.mp h5).1 h10]; exact h5, h6, h7, h8, h9, h10⟩
theorem vx_L.narrow {C n d : String} {A B : Nat → Prop} {U : State} {H : Heap} (h : vx_L C n d A U H) (hAB : ∀ q, B q → A q) : vx_L C n d B U H := by
  obtain ⟨c, k, i, f, a, cell, h1, h2, h3, h4, h5, h6, h7, h8, h9, h10⟩ := h
  exact ⟨c, k, i, f, a, cell, h1, h2, h3, h4, h5, h6, h7, h8, h9, fun z => h10 (hAB _ z)⟩
theorem vx_L.word {C n d : String} {A : Nat → Prop} {s : State} {args : Array Value} (h : vx_L C n d A s s.heap) : (Cond.laysStatic C n d).before args s = true := by
  obtain ⟨c, k, i, f, a, cell, h1, h2, h3, h4, h5, h6, h7, h8, h9, -⟩ := h
  show (Cond.laysStatic C n d).holds args s none s [] = true
  exact Cond.laysStatic_of h1 h2 h3 h4 h5 h6 h7 h8 h9
/-- .. and what it holds: null or some reference -/
def vx_Zq (C n d : String) (A : Nat → Prop) (U : State) (H : Heap) : Prop := va_Zq C n d A U H ∧ vx_L C n d A U H
theorem vx_Zq.moved {C n d : String} {A : Nat → Prop} {u U : State} {H : Heap} (hvm : u.vm.Alike U.vm) (h : vx_Zq C n d A u H) : vx_Zq C n d A U H := ⟨va_Zq.moved hvm h.1, vx_L.moved hvm h.2⟩
theorem vx_Zq.kept {C n d : String} {A : Nat → Prop} {U : State} {H H1 : Heap} (h : vx_Zq C n d A U H) (hq : ∀ a : Nat, a < H.size → ¬ A a → H1[a]? = H[a]?) : vx_Zq C n d A U H1 := ⟨va_Zq.kept h.1 hq, vx_L.kept h.2 hq⟩
theorem vx_Zq.narrow {C n d : String} {A B : Nat → Prop} {U : State} {H : Heap} (h : vx_Zq C n d A U H) (hAB : ∀ q, B q → A q) : vx_Zq C n d B U H := ⟨va_Zq.narrow h.1 hAB, vx_L.narrow h.2 hAB⟩
theorem vx_Zqof {args : Array Value} {s : State} {C n d : String} {A : Nat → Prop} (hl : (Cond.laysStatic C n d).before args s = true) (hini : (Cond.initialized C).before args s = true) (h : (Cond.isRef (.static C n d)).before args s = true) (hA : ∀ a : Nat, a < s.heap.size → ¬ A a) : vx_Zq C n d A s s.heap := by
  refine ⟨va_Zqof hl hini h hA, ?_⟩
  obtain ⟨c, k, i, f, a, cell, h1, h2, h3, h4, h5, h6, h7, h8, h9⟩ := Cond.laysStatic_spec hl
  exact ⟨c, k, i, f, a, cell, h1, h2, h3, h4, h5, h6, h7, h8, h9, hA a (Array.getElem?_eq_some_iff.mp h5).1⟩
theorem vx_isRef {C n d : String} {v : Value} {A : Nat → Prop} {s : State} {args : Array Value} (h : va_Z C n d v A s s.heap) (hv : v.isRef = true) : (Cond.isRef (.static C n d)).before args s = true := by
  obtain ⟨cf, kf, fi, f, a, cell, h1, h2, h3, h4, h5, h6, h7, -⟩ := h
  have he : (Term.static C n d).eval args s none [] s = some v := by
    simp [Term.eval, State.fieldNamed?, h1, h2, h4, h5, h6, h7]
  simp only [Cond.before, Cond.holds, Cond.value, he]
  cases v <;> simp_all [Value.isRef]
theorem vx_isRefq {C n d : String} {A : Nat → Prop} {s : State} {args : Array Value} (h : va_Zq C n d A s s.heap) : (Cond.isRef (.static C n d)).before args s = true := by
  rcases h with h | ⟨t, h⟩
  · exact vx_isRef h rfl
  · exact vx_isRef h rfl
/-- the same frame, seen from here: as if the method were called anew in this heap -/
theorem vx_rebase {T : State} (X : Stand p l e R s m args below meth c T locs cells slots) {R' : Room} (hf : R'.frames ≤ R.frames) (hl : R'.locals ≤ R.locals) (hc : cells + R'.cells ≤ R.cells) (hs : slots + R'.slots ≤ R.slots) :
    Stand p l e R' ((T.setVm s.vm).setFrames (.invoking m args :: below)) m args below meth c T [] 0 0 := by
  have htop : (T.setVm s.vm).topJava?.isSome := X.here.top
  have hF : ((T.setVm s.vm).setFrames (.invoking m args :: below)).frames = .invoking m args :: below := State.frames_setFrames _ (State.cur_lt_of_top htop)
  obtain ⟨g₀, hg0⟩ := Option.isSome_iff_exists.mp htop
  obtain ⟨r, hr⟩ := State.topJava?_eq_some.mp hg0
  have hl9 : e.platform.stackLimits (T.setVm s.vm).me = e.platform.stackLimits s.me := X.limits
  have hb9 : (T.setVm s.vm).me.stackBytes = s.me.stackBytes := X.bytes
  refine ⟨X.admits, X.cas, X.clock, hF, ?_, X.hears, X.method, X.code, X.here, X.tail, X.warmed, ?_, ?_, ?_⟩
  · have h := X.room
    have hU : ((T.setVm s.vm).setFrames (.invoking m args :: below)).localsInUse = s.localsInUse := by
      rw [State.localsInUse_invoking hF (meth := meth) (c := c) X.method X.code, State.localsInUse_invoking X.frames X.method X.code]
    simp only [State.hasRoom, Bool.and_eq_true, decide_eq_true_eq] at h ⊢
    obtain ⟨⟨⟨⟨h1, h2, h3, h4, h5, h6⟩, h7⟩, h8⟩, h9⟩ := h
    rw [X.frames, List.length_cons] at h2 h3
    have q1 := X.heapSize
    have q2 := X.used
    simp only [hF, hU, List.length_cons, State.stackLimits_setFrames, State.stackBytes_setFrames, hl9, hb9]
    refine ⟨⟨⟨⟨by omega, by omega, by omega, by omega, by omega, h6⟩, ?_⟩, ?_⟩, X.book⟩
    · show T.heap.size + R'.cells ≤ e.platform.maxCells
      omega
    · show T.slotsUsed + R'.slots ≤ e.platform.maxSlots
      omega
  · rw [State.stackLimits_setFrames]; rfl
  · rw [State.stackBytes_setFrames]; rfl
  · refine ⟨?_, Nat.le_refl _, Nat.le_refl _, ?_, ?_, fun a c9 h9 => ⟨c9, h9, rfl, rfl, fun _ _ => rfl⟩⟩
    · obtain ⟨t, ht, -⟩ := State.frames_cons hr
      show T.setVm s.vm = { ((T.setVm s.vm).setFrames (.invoking m args :: below)).setFrames (T.setVm s.vm).frames with heap := T.heap, slotsUsed := T.slotsUsed }
      rw [State.setFrames_setFrames, State.setFrames_self ht]
      rfl
    · show T.slotsUsed = T.slotsUsed + ((T.heap.toList.drop T.heap.size).map (·.slots.size)).sum
      rw [List.drop_eq_nil_of_le (Nat.le_of_eq Array.length_toList)]
      rfl
    · show ((T.heap.toList.drop T.heap.size).map (·.slots.size)).sum ≤ 0
      rw [List.drop_eq_nil_of_le (Nat.le_of_eq Array.length_toList)]
      exact Nat.le_refl _
/-- 'throw new E()': new; dup; invokespecial; athrow -/
theorem vx_throw0 {cc : ByteArray} {pc : Nat} (hexec : p.tables.exec = Jvm.exec) (hb : c.code = cc) (hl : l.stackTraces = false) {own cls : String} {names : List String} {ik ic mc ms : Nat} {A : Nat → Prop}
    (hown : s.vm.findClass own = some m.cls) (hcls : Bundle.fit cls = true) (hnames : ∀ n ∈ names, Bundle.fit n = true)
    (hk : (Cond.classLink own ik cls).before args s = true) (hini : (Cond.initialized cls).before args s = true) (hat : ∀ w ∈ vx_at0 own ic cls names, w.before args s = true)
    (hgood : ∀ w ∈ Cond.classLink own ik cls :: Cond.initialized cls :: vx_at0 own ic cls names, vx_ot w = true)
    (hU : vx_Zq Bundle.tN "UNASSIGNED_STACK" Bundle.steD A s s.heap) (hN : vx_Zq Bundle.tN "SUPPRESSED_SENTINEL" Bundle.listD A s s.heap) (hS : va_S A s.heap H locs) (hsize : ls.size = c.maxLocals)
    (d0 : decode cc pc = .ok (.new ik, 3)) (d3 : decode cc (pc + 3) = .ok (.dup, 1)) (d4 : decode cc (pc + 4) = .ok (.invokespecial ic, 3)) (d7 : decode cc (pc + 7) = .ok (.athrow, 1))
    (hout : ∀ x ∈ c.exceptionTable.toList, covers x (pc + 7) = false)
    (hRframes : names.length + 3 < R.frames) (hRlocals : (rest.map fun v => v.category).sum + (13 * (names.length + 1) + 42) ≤ R.locals) (hRcells : cells + 1 ≤ R.cells) (hRslots : slots + 6 ≤ R.slots) (hlocks : meth.locks = false)
    (hx : ∀ t : State, s.vm.Alike t.vm → H.size ≤ t.heap.size → (∀ q : Nat, q < H.size → t.heap[q]? = H[q]?) → XC cls s t)
    (hf : ∀ z ∈ locs, free z.base) (hc : cells + 1 ≤ mc) (hs : slots + 6 ≤ ms) :
    W p l e R s m args below meth c H locs cells slots (vx_MQ below Qc XC args s mc ms free) (F0 m pc ls rest) := by
  intro T hT X
  have htr : e.platform.stackTraces = false := (show e.platform.stackTraces = l.stackTraces by rw [X.admits.platform]).trans hl
  have Y := vx_rebase X (R' := { frames := R.frames, locals := R.locals, cells := 1, slots := 6 }) (Nat.le_refl _) (Nat.le_refl _) hRcells hRslots
  obtain ⟨s', hA⟩ : ∃ z, z = (T.setVm s.vm).setFrames (.invoking m args :: below) := ⟨_, rfl⟩
  rw [← hA] at Y
  have hvm : s'.vm = s.vm := by rw [hA]; rfl
  have hhp : s'.heap = H := by rw [hA]; exact hT
  have hW0 : s.WarmedH s'.vm := by rw [hvm]; exact State.WarmedH.refl s
  have hat' : ∀ w ∈ vx_at0 own ic cls names, w.before args s' = true := fun w hw => vx_ot_at hW0 hvm.symm (hgood w (List.mem_cons_of_mem _ (List.mem_cons_of_mem _ hw))) (hat w hw)
  have hk' : (Cond.classLink own ik cls).before args s' = true := vx_ot_at hW0 hvm.symm (hgood _ List.mem_cons_self) hk
  have hini' : (Cond.initialized cls).before args s' = true := vx_ot_at hW0 hvm.symm (hgood _ (List.mem_cons_of_mem _ List.mem_cons_self)) hini
  have hU' : vx_Zq Bundle.tN "UNASSIGNED_STACK" Bundle.steD A s' s'.heap := by rw [hhp]; exact vx_Zq.moved hW0.alike (hU.kept hS.2.1)
  have hN' : vx_Zq Bundle.tN "SUPPRESSED_SENTINEL" Bundle.listD A s' s'.heap := by rw [hhp]; exact vx_Zq.moved hW0.alike (hN.kept hS.2.1)
  have h : ∀ w ∈ Bundle.ownAtoms0 own ic cls names, w.before args s' = true := vx_own hat' (vx_isRefq hU'.1) (vx_isRefq hN'.1) hU'.2.word hN'.2.word
  have hown' : s'.vm.findClass own = some m.cls := by rw [hvm]; exact hown
  have hins : (Cond.instantiable cls 6).before args s' = true := h _ (by simp [Bundle.ownAtoms0])
  obtain ⟨vm₁, cX, kX, hfX, hkX, -, -, X₁, st1⟩ := Y.newCold hexec (own := own) (C := cls) (index := ik) (n := 6) hown' hk' hins hini'
    (g := F0 m pc ls rest) rfl (by rw [hb]; exact d0) (Nat.le_refl _) (Nat.le_refl _)
  generalize hT1 : (T.setVm vm₁).pushCell { cls := cX, slots := kX.instanceTypes.map defaultValue, vm := .none } = T1 at X₁ st1
  have hcat : (Value.ref T.heap.size).category = 1 := rfl
  have hcellA : T1.heap[T.heap.size]? = some (freshCell cX kX) := by rw [← hT1]; exact State.heap_pushCell_size _ _
  have d3' : decode c.code (pc + 3) = .ok (.dup, 1) := by rw [hb]; exact d3
  obtain ⟨U, hsteps, hrun, hend, hW, hsame, ce, hce, hO⟩ := X₁.ctorThrow0 hexec htr (own := own) (cls := cls) (names := names) (ic := ic) hown' hcls hnames h (fun x hx => nomatch hx) hfX hkX hcellA (by rw [hhp, hT]; exact Nat.le_refl _)
    (g := { method := m, pc := pc + 4, locals := ls, stack := .ref T.heap.size :: .ref T.heap.size :: rest, locked := none }) rfl hsize rfl rfl (rest := rest) rfl
    (by rw [hb]; exact d4) (by rw [hb]; exact d7) hout hRframes (by simp only [List.map_cons, List.sum_cons, hcat]; omega) hlocks
  obtain ⟨f1, f2⟩ := vx_frame hsame
  rw [hhp] at f1 f2
  have hWs : s.WarmedH U.vm := State.WarmedH.trans hW0 hW
  have hcl : s.vm.findClass cls = some ce.cls := by
    have h9 := hO.cls
    rw [hvm] at h9
    exact h9
  have hall : s.sameButNew ({ U with vm := s.vm } : State) locs mc ms := by
    subst hA
    obtain ⟨e1, e2⟩ := hsame
    rw [State.setFrames_setFrames] at e1
    have h2 : (T.setVm s.vm).sameButNew ({ U with vm := s.vm } : State) [] (0 + 1) (0 + 6) := ⟨e1, e2⟩
    have h3 := X.same.trans h2
    rw [List.append_nil] at h3
    exact h3.mono hc hs
  refine ⟨U, ?_, .threw T.heap.size, hrun, hend, Or.inr ⟨T.heap.size, rfl, cls, ce, locs, hx U hWs.alike f1 (fun q hq => f2 q hq (fun z hz => nomatch hz)), hce, hO.vm, hcl, hWs, hall, hf⟩⟩
  refine st1 _ ?_
  show Steps p.tables e below (T1.setTop { method := m, pc := pc + 3, locals := ls, stack := .ref T.heap.size :: rest, locked := none }) _
  jvm_step X₁.here [X₁.here.top, hexec, d3', Value.category]
  exact hsteps
/-- 'throw new E("text")': new; dup; ldc; invokespecial; athrow -/
theorem vx_throwS {cc : ByteArray} {pc : Nat} (hexec : p.tables.exec = Jvm.exec) (hb : c.code = cc) (hl : l.stackTraces = false) {own cls text : String} {names : List String} {ik is ic mc ms sa : Nat} {A : Nat → Prop}
    (hown : s.vm.findClass own = some m.cls) (hcls : Bundle.fit cls = true) (hnames : ∀ n ∈ names, Bundle.fit n = true)
    (hk : (Cond.classLink own ik cls).before args s = true) (hini : (Cond.initialized cls).before args s = true) (hstr : vk_R own is text sa s) (hat : ∀ w ∈ vx_atS own ic cls names, w.before args s = true)
    (hgood : ∀ w ∈ Cond.classLink own ik cls :: Cond.initialized cls :: vx_atS own ic cls names, vx_ot w = true)
    (hU : vx_Zq Bundle.tN "UNASSIGNED_STACK" Bundle.steD A s s.heap) (hN : vx_Zq Bundle.tN "SUPPRESSED_SENTINEL" Bundle.listD A s s.heap) (hS : va_S A s.heap H locs) (hsize : ls.size = c.maxLocals)
    (d0 : decode cc pc = .ok (.new ik, 3)) (d3 : decode cc (pc + 3) = .ok (.dup, 1)) (d4 : decode cc (pc + 4) = .ok (.ldc is, 2)) (d6 : decode cc (pc + 6) = .ok (.invokespecial ic, 3)) (d9 : decode cc (pc + 9) = .ok (.athrow, 1))
    (hout : ∀ x ∈ c.exceptionTable.toList, covers x (pc + 9) = false)
    (hRframes : names.length + 3 < R.frames) (hRlocals : (rest.map fun v => v.category).sum + (13 * (names.length + 1) + 43) ≤ R.locals) (hRcells : cells + 1 ≤ R.cells) (hRslots : slots + 6 ≤ R.slots) (hlocks : meth.locks = false)
    (hx : ∀ t : State, s.vm.Alike t.vm → H.size ≤ t.heap.size → (∀ q : Nat, q < H.size → t.heap[q]? = H[q]?) → XC cls s t)
    (hf : ∀ z ∈ locs, free z.base) (hc : cells + 1 ≤ mc) (hs : slots + 6 ≤ ms) :
    W p l e R s m args below meth c H locs cells slots (vx_MQ below Qc XC args s mc ms free) (F0 m pc ls rest) := by
  intro T hT X
  have htr : e.platform.stackTraces = false := (show e.platform.stackTraces = l.stackTraces by rw [X.admits.platform]).trans hl
  have Y := vx_rebase X (R' := { frames := R.frames, locals := R.locals, cells := 1, slots := 6 }) (Nat.le_refl _) (Nat.le_refl _) hRcells hRslots
  obtain ⟨s', hA⟩ : ∃ z, z = (T.setVm s.vm).setFrames (.invoking m args :: below) := ⟨_, rfl⟩
  rw [← hA] at Y
  have hvm : s'.vm = s.vm := by rw [hA]; rfl
  have hhp : s'.heap = H := by rw [hA]; exact hT
  have hW0 : s.WarmedH s'.vm := by rw [hvm]; exact State.WarmedH.refl s
  have hat' : ∀ w ∈ vx_atS own ic cls names, w.before args s' = true := fun w hw => vx_ot_at hW0 hvm.symm (hgood w (List.mem_cons_of_mem _ (List.mem_cons_of_mem _ hw))) (hat w hw)
  have hk' : (Cond.classLink own ik cls).before args s' = true := vx_ot_at hW0 hvm.symm (hgood _ List.mem_cons_self) hk
  have hini' : (Cond.initialized cls).before args s' = true := vx_ot_at hW0 hvm.symm (hgood _ (List.mem_cons_of_mem _ List.mem_cons_self)) hini
  have hU' : vx_Zq Bundle.tN "UNASSIGNED_STACK" Bundle.steD A s' s'.heap := by rw [hhp]; exact vx_Zq.moved hW0.alike (hU.kept hS.2.1)
  have hN' : vx_Zq Bundle.tN "SUPPRESSED_SENTINEL" Bundle.listD A s' s'.heap := by rw [hhp]; exact vx_Zq.moved hW0.alike (hN.kept hS.2.1)
  have h : ∀ w ∈ Bundle.ownAtoms own ic cls names, w.before args s' = true := vx_own hat' (vx_isRefq hU'.1) (vx_isRefq hN'.1) hU'.2.word hN'.2.word
  have hown' : s'.vm.findClass own = some m.cls := by rw [hvm]; exact hown
  have hins : (Cond.instantiable cls 6).before args s' = true := h _ (by simp [Bundle.ownAtoms])
  obtain ⟨vm₁, cX, kX, hfX, hkX, -, -, X₁, st1⟩ := Y.newCold hexec (own := own) (C := cls) (index := ik) (n := 6) hown' hk' hins hini'
    (g := F0 m pc ls rest) rfl (by rw [hb]; exact d0) (Nat.le_refl _) (Nat.le_refl _)
  generalize hT1 : (T.setVm vm₁).pushCell { cls := cX, slots := kX.instanceTypes.map defaultValue, vm := .none } = T1 at X₁ st1
  have hcat : (Value.ref T.heap.size).category = 1 := rfl
  have hcellA : T1.heap[T.heap.size]? = some (freshCell cX kX) := by rw [← hT1]; exact State.heap_pushCell_size _ _
  have d3' : decode c.code (pc + 3) = .ok (.dup, 1) := by rw [hb]; exact d3
  have d4' : decode c.code (pc + 4) = .ok (.ldc is, 2) := by rw [hb]; exact d4
  have hstr' : vk_R own is text sa s' := vk_R.warm hW0 hstr
  obtain ⟨U, hsteps, hrun, hend, hW, hsame, ce, hce, hO⟩ := X₁.ctorThrowS hexec htr (own := own) (cls := cls) (names := names) (ic := ic) hown' hcls hnames h (fun x hx => nomatch hx) hfX hkX hcellA (by rw [hhp, hT]; exact Nat.le_refl _) (msg := .ref sa) rfl
    (g := { method := m, pc := pc + 6, locals := ls, stack := .ref sa :: .ref T.heap.size :: .ref T.heap.size :: rest, locked := none }) rfl hsize rfl rfl (rest := rest) rfl
    (by rw [hb]; exact d6) (by rw [hb]; exact d9) hout hRframes (by simp only [List.map_cons, List.sum_cons, hcat]; omega) hlocks
  obtain ⟨f1, f2⟩ := vx_frame hsame
  rw [hhp] at f1 f2
  have hWs : s.WarmedH U.vm := State.WarmedH.trans hW0 hW
  have hcl : s.vm.findClass cls = some ce.cls := by
    have h9 := hO.cls
    rw [hvm] at h9
    exact h9
  have hall : s.sameButNew ({ U with vm := s.vm } : State) locs mc ms := by
    subst hA
    obtain ⟨e1, e2⟩ := hsame
    rw [State.setFrames_setFrames] at e1
    have h2 : (T.setVm s.vm).sameButNew ({ U with vm := s.vm } : State) [] (0 + 1) (0 + 6) := ⟨e1, e2⟩
    have h3 := X.same.trans h2
    rw [List.append_nil] at h3
    exact h3.mono hc hs
  refine ⟨U, ?_, .threw T.heap.size, hrun, hend, Or.inr ⟨T.heap.size, rfl, cls, ce, locs, hx U hWs.alike f1 (fun q hq => f2 q hq (fun z hz => nomatch hz)), hce, hO.vm, hcl, hWs, hall, hf⟩⟩
  refine st1 _ ?_
  show Steps p.tables e below (T1.setTop { method := m, pc := pc + 3, locals := ls, stack := .ref T.heap.size :: rest, locked := none }) _
  jvm_step X₁.here [X₁.here.top, hexec, d3', Value.category]
  exact X₁.ldcString hexec (own := own) (text := text) (index := is) (a := sa) hown' hstr'.1 hstr'.2
    (g := { method := m, pc := pc + 4, locals := ls, stack := .ref T.heap.size :: .ref T.heap.size :: rest, locked := none }) rfl d4' _ hsteps
/-- 'throw new E("text")', the text by a wide index -/
theorem vx_throwSW {cc : ByteArray} {pc : Nat} (hexec : p.tables.exec = Jvm.exec) (hb : c.code = cc) (hl : l.stackTraces = false) {own cls text : String} {names : List String} {ik is ic mc ms sa : Nat} {A : Nat → Prop}
    (hown : s.vm.findClass own = some m.cls) (hcls : Bundle.fit cls = true) (hnames : ∀ n ∈ names, Bundle.fit n = true)
    (hk : (Cond.classLink own ik cls).before args s = true) (hini : (Cond.initialized cls).before args s = true) (hstr : vk_R own is text sa s) (hat : ∀ w ∈ vx_atS own ic cls names, w.before args s = true)
    (hgood : ∀ w ∈ Cond.classLink own ik cls :: Cond.initialized cls :: vx_atS own ic cls names, vx_ot w = true)
    (hU : vx_Zq Bundle.tN "UNASSIGNED_STACK" Bundle.steD A s s.heap) (hN : vx_Zq Bundle.tN "SUPPRESSED_SENTINEL" Bundle.listD A s s.heap) (hS : va_S A s.heap H locs) (hsize : ls.size = c.maxLocals)
    (d0 : decode cc pc = .ok (.new ik, 3)) (d3 : decode cc (pc + 3) = .ok (.dup, 1)) (d4 : decode cc (pc + 4) = .ok (.ldc_w is, 3)) (d7 : decode cc (pc + 7) = .ok (.invokespecial ic, 3)) (d10 : decode cc (pc + 10) = .ok (.athrow, 1))
    (hout : ∀ x ∈ c.exceptionTable.toList, covers x (pc + 10) = false)
    (hRframes : names.length + 3 < R.frames) (hRlocals : (rest.map fun v => v.category).sum + (13 * (names.length + 1) + 43) ≤ R.locals) (hRcells : cells + 1 ≤ R.cells) (hRslots : slots + 6 ≤ R.slots) (hlocks : meth.locks = false)
    (hx : ∀ t : State, s.vm.Alike t.vm → H.size ≤ t.heap.size → (∀ q : Nat, q < H.size → t.heap[q]? = H[q]?) → XC cls s t)
    (hf : ∀ z ∈ locs, free z.base) (hc : cells + 1 ≤ mc) (hs : slots + 6 ≤ ms) :
    W p l e R s m args below meth c H locs cells slots (vx_MQ below Qc XC args s mc ms free) (F0 m pc ls rest) := by
  intro T hT X
  have htr : e.platform.stackTraces = false := (show e.platform.stackTraces = l.stackTraces by rw [X.admits.platform]).trans hl
  have Y := vx_rebase X (R' := { frames := R.frames, locals := R.locals, cells := 1, slots := 6 }) (Nat.le_refl _) (Nat.le_refl _) hRcells hRslots
  obtain ⟨s', hA⟩ : ∃ z, z = (T.setVm s.vm).setFrames (.invoking m args :: below) := ⟨_, rfl⟩
  rw [← hA] at Y
  have hvm : s'.vm = s.vm := by rw [hA]; rfl
  have hhp : s'.heap = H := by rw [hA]; exact hT
  have hW0 : s.WarmedH s'.vm := by rw [hvm]; exact State.WarmedH.refl s
  have hat' : ∀ w ∈ vx_atS own ic cls names, w.before args s' = true := fun w hw => vx_ot_at hW0 hvm.symm (hgood w (List.mem_cons_of_mem _ (List.mem_cons_of_mem _ hw))) (hat w hw)
  have hk' : (Cond.classLink own ik cls).before args s' = true := vx_ot_at hW0 hvm.symm (hgood _ List.mem_cons_self) hk
  have hini' : (Cond.initialized cls).before args s' = true := vx_ot_at hW0 hvm.symm (hgood _ (List.mem_cons_of_mem _ List.mem_cons_self)) hini
  have hU' : vx_Zq Bundle.tN "UNASSIGNED_STACK" Bundle.steD A s' s'.heap := by rw [hhp]; exact vx_Zq.moved hW0.alike (hU.kept hS.2.1)
  have hN' : vx_Zq Bundle.tN "SUPPRESSED_SENTINEL" Bundle.listD A s' s'.heap := by rw [hhp]; exact vx_Zq.moved hW0.alike (hN.kept hS.2.1)
  have h : ∀ w ∈ Bundle.ownAtoms own ic cls names, w.before args s' = true := vx_own hat' (vx_isRefq hU'.1) (vx_isRefq hN'.1) hU'.2.word hN'.2.word
  have hown' : s'.vm.findClass own = some m.cls := by rw [hvm]; exact hown
  have hins : (Cond.instantiable cls 6).before args s' = true := h _ (by simp [Bundle.ownAtoms])
  obtain ⟨vm₁, cX, kX, hfX, hkX, -, -, X₁, st1⟩ := Y.newCold hexec (own := own) (C := cls) (index := ik) (n := 6) hown' hk' hins hini'
    (g := F0 m pc ls rest) rfl (by rw [hb]; exact d0) (Nat.le_refl _) (Nat.le_refl _)
  generalize hT1 : (T.setVm vm₁).pushCell { cls := cX, slots := kX.instanceTypes.map defaultValue, vm := .none } = T1 at X₁ st1
  have hcat : (Value.ref T.heap.size).category = 1 := rfl
  have hcellA : T1.heap[T.heap.size]? = some (freshCell cX kX) := by rw [← hT1]; exact State.heap_pushCell_size _ _
  have d3' : decode c.code (pc + 3) = .ok (.dup, 1) := by rw [hb]; exact d3
  have d4' : decode c.code (pc + 4) = .ok (.ldc_w is, 3) := by rw [hb]; exact d4
  have hstr' : vk_R own is text sa s' := vk_R.warm hW0 hstr
  obtain ⟨U, hsteps, hrun, hend, hW, hsame, ce, hce, hO⟩ := X₁.ctorThrowS hexec htr (own := own) (cls := cls) (names := names) (ic := ic) hown' hcls hnames h (fun x hx => nomatch hx) hfX hkX hcellA (by rw [hhp, hT]; exact Nat.le_refl _) (msg := .ref sa) rfl
    (g := { method := m, pc := pc + 7, locals := ls, stack := .ref sa :: .ref T.heap.size :: .ref T.heap.size :: rest, locked := none }) rfl hsize rfl rfl (rest := rest) rfl
    (by rw [hb]; exact d7) (by rw [hb]; exact d10) hout hRframes (by simp only [List.map_cons, List.sum_cons, hcat]; omega) hlocks
  obtain ⟨f1, f2⟩ := vx_frame hsame
  rw [hhp] at f1 f2
  have hWs : s.WarmedH U.vm := State.WarmedH.trans hW0 hW
  have hcl : s.vm.findClass cls = some ce.cls := by
    have h9 := hO.cls
    rw [hvm] at h9
    exact h9
  have hall : s.sameButNew ({ U with vm := s.vm } : State) locs mc ms := by
    subst hA
    obtain ⟨e1, e2⟩ := hsame
    rw [State.setFrames_setFrames] at e1
    have h2 : (T.setVm s.vm).sameButNew ({ U with vm := s.vm } : State) [] (0 + 1) (0 + 6) := ⟨e1, e2⟩
    have h3 := X.same.trans h2
    rw [List.append_nil] at h3
    exact h3.mono hc hs
  refine ⟨U, ?_, .threw T.heap.size, hrun, hend, Or.inr ⟨T.heap.size, rfl, cls, ce, locs, hx U hWs.alike f1 (fun q hq => f2 q hq (fun z hz => nomatch hz)), hce, hO.vm, hcl, hWs, hall, hf⟩⟩
  refine st1 _ ?_
  show Steps p.tables e below (T1.setTop { method := m, pc := pc + 3, locals := ls, stack := .ref T.heap.size :: rest, locked := none }) _
  jvm_step X₁.here [X₁.here.top, hexec, d3', Value.category]
  exact X₁.ldcStringW hexec (own := own) (text := text) (index := is) (a := sa) hown' hstr'.1 hstr'.2
    (g := { method := m, pc := pc + 4, locals := ls, stack := .ref T.heap.size :: .ref T.heap.size :: rest, locked := none }) rfl d4' _ hsteps
end Ends
section Bodies
variable {l : Launch}
theorem vx_ofW {y : MethodName} {ws ws' : List Cond} {rm : Room} {Pc : Array Value → State → Prop} {Qc : Array Value → State → Outcome → State → Prop} {XC : String → State → State → Prop} {mc ms : Nat} {free : Addr → Prop} {cc : ByteArray} {maxL : Nat} {ret : Option FieldType}
    (hy : plainName y.cls = true) (hw : ws = Cond.code y cc maxL ret :: ws')
    (body : ∀ p e s m args below meth c s₁, BodyLoose p l y (headSpec ws rm) cc maxL ret e s m args below meth c s₁ → c.maxLocals = maxL → (∀ x ∈ c.exceptionTable.toList, False) → Pc args s →
      W p l e (headSpec ws rm).room s m args below meth c s.heap [] 0 0 (vx_MQ below Qc XC args s mc ms free) (entryFrame m args maxL)) : vx_Met l y ws rm Pc Qc XC mc ms free := by
  refine MetFree.of_bodyS (code := cc) (maxLocals := maxL) (ret := ret) hy ?_ ?_
  · intro args s m h hn
    obtain ⟨meth, c, h1, h2, h3, h4, h5, h6, -, -⟩ := Cond.code_spec hn (atoms_spec (ws := ws) h _ (by rw [hw]; exact List.mem_cons_self))
    exact ⟨meth, c, h1, h2, h3, h4, h5, h6⟩
  · intro p e s m args below meth c s₁ B hml hP _
    have hh0 : s₁.heap = s.heap := by rw [B.state]; rfl
    have ht : ∀ x ∈ c.exceptionTable.toList, False := by
      obtain ⟨meth9, c9, h1, h2, -, -, -, -, h7, -⟩ := Cond.code_spec B.named (atoms_spec (ws := ws) B.pre _ (by rw [hw]; exact List.mem_cons_self))
      cases Option.some.inj (h1.symm.trans B.method)
      cases Option.some.inj (h2.symm.trans (Stand.of_body B).code)
      intro x hx
      rw [Array.isEmpty_iff.mp h7] at hx
      cases hx
    obtain ⟨t, a1, o, b1, b2, b3⟩ := body p e s m args below meth c s₁ B hml ht hP s₁ hh0 (Stand.of_body B)
    exact ⟨t, o, a1, b1, b2, b3⟩
/-- the table of a body with handlers -/
theorem vx_table {p : Program} {x y : MethodName} {S : Spec} {cc bytes : ByteArray} {maxL maxL' : Nat} {ret ret' : Option FieldType} {e : Env} {s s₁ : State} {m : MethodId} {args : Array Value} {below : List Frame} {meth : Method} {c : Code} {hh : List (Nat × Nat × Nat × Nat)}
    (B : BodyLoose p l y S cc maxL ret e s m args below meth c s₁) (h : (Cond.codeWith y bytes maxL' ret' hh).before args s = true) : c.exceptionTable.toList = tableOf hh := by
  obtain ⟨m9, meth9, c9, hn9, h1, h2, -, -, h6, -⟩ := Cond.codeWith_spec h
  cases Option.some.inj (hn9.symm.trans B.named)
  cases Option.some.inj (h1.symm.trans B.method)
  cases Option.some.inj (h2.symm.trans (Stand.of_body B).code)
  rw [← h6, table_eq]
end Bodies
end VXA
/-! ===== END ===== -/
/-! ===== BEGIN a static call of a method with an exception table ===== -/
section VXS
variable {p : Program} {l : Launch} {e : Env} {R : Room} {s : State} {m : MethodId} {args : Array Value} {below : List Frame} {meth : Method} {c : Code} {T : State} {H : Heap} {locs : List Loc} {cells slots : Nat}
abbrev vx_CSW (R : Room) (s : State) (args : Array Value) (own : String) (index : Nat) (y : MethodName) (bytes : ByteArray) (maxL : Nat) (ret : Option FieldType) (hh : List (Nat × Nat × Nat × Nat)) (ws : List Cond) (rm : Room) (mc ms n : Nat) : Prop :=
  (rm.cells = mc ∧ rm.slots = ms ∧ rm.frames + 1 ≤ R.frames ∧ 8 + (maxL + 11) + rm.locals ≤ R.locals ∧ (∀ w ∈ ws, ∀ (a' : Array Value) (U : State), s.WarmedH U.vm → w.before a' U = true) ∧ Cond.codeWith y bytes maxL ret hh ∈ ws) ∧
  (Cond.codeWith y bytes maxL ret hh).before args s = true ∧ (Cond.initialized y.cls).before args s = true ∧ (y.cls ≠ "java/lang/invoke/MethodHandle" ∧ y.cls ≠ "java/lang/invoke/VarHandle") ∧
  (∀ sig, parseMethodDescriptor y.desc = some sig → n = sig.parameters.length) ∧ (Cond.methodLink own index y).before args s = true ∧ (Cond.static y).before args s = true
theorem vx_cwSW {own : String} {index maxL mc ms : Nat} {y : MethodName} {bytes : ByteArray} {ret : Option FieldType} {hh : List (Nat × Nat × Nat × Nat)} {Ts ws ws' : List Cond} {rm : Room} (n : Nat) (ht : ∀ w ∈ Ts, w.before args s = true) (hT : GoodIn Ts (va_wsS own index y ws)) (hw : ws = Cond.codeWith y bytes maxL ret hh :: ws') (hrc : rm.cells = mc) (hrs : rm.slots = ms)
    (hd : y.cls ≠ "java/lang/invoke/MethodHandle" ∧ y.cls ≠ "java/lang/invoke/VarHandle" ∧ (parseMethodDescriptor y.desc).map (fun d => d.parameters.length) = some n) (hR : rm.frames + 1 ≤ R.frames ∧ 8 + (maxL + 11) + rm.locals ≤ R.locals) :
    vx_CSW R s args own index y bytes maxL ret hh ws rm mc ms n := by
  have ok : ∀ w ∈ va_wsS own index y ws, w.before args s = true := fun w h => ht w (hT w h).1
  have hG : GoodIn Ts ws := fun w h => hT w (by unfold va_wsS; exact List.mem_append_right _ h)
  have hc : Cond.codeWith y bytes maxL ret hh ∈ ws := by rw [hw]; exact List.mem_cons_self
  refine ⟨⟨hrc, hrs, hR.1, hR.2, pay_in ht hG, hc⟩, ht _ (hG _ hc).1, ok _ (by simp [va_wsS]), ⟨hd.1, hd.2.1⟩, fun sig h => ?_, ok _ (by simp [va_wsS]), ok _ (by simp [va_wsS])⟩
  have h2 := hd.2.2
  rw [h] at h2
  exact (Option.some.inj h2).symm
theorem vx_callSW (X : Stand p l e R s m args below meth c T locs cells slots) (hexec : p.tables.exec = Jvm.exec) {own : String} {index : Nat} {y : MethodName} {bytes : ByteArray} {maxL : Nat} {ret : Option FieldType} {hh : List (Nat × Nat × Nat × Nat)}
    (hown : s.vm.findClass own = some m.cls) (hlink : (Cond.methodLink own index y).before args s = true) (hstat : (Cond.static y).before args s = true) (hinit : (Cond.initialized y.cls).before args s = true)
    (hcode : (Cond.codeWith y bytes maxL ret hh).before args s = true) (hy : y.cls ≠ "java/lang/invoke/MethodHandle" ∧ y.cls ≠ "java/lang/invoke/VarHandle")
    {W9 : Nat} {Pre : Pt → Array Value → Prop} {Post : Pt → Array Value → Option Value → Pt → Prop} (hK : Back l R p e below s args y 3 W9 Pre Post)
    {g : JFrame} (hg : g.method = m) (hsize : g.locals.size = c.maxLocals) {argsL rest : List Value} (hlen : ∀ sig, parseMethodDescriptor y.desc = some sig → argsL.length = sig.parameters.length)
    (hstack : g.stack = argsL.reverse ++ rest) (hW : 2 * g.monitorRoom + (rest.map fun v => v.category).sum ≤ W9) (hdg : decode c.code g.pc = .ok (.invokestatic index, 3))
    (hpre : ∀ vm₁, s.WarmedH vm₁ → Pre ⟨T.setVm vm₁, locs, cells, slots⟩ argsL.toArray) :
    ∃ (v : Option Value) (vm₁ : Vm) (B : Pt), s.WarmedH vm₁ ∧ Stand p l e R s m args below meth c B.U B.locs B.cells B.slots ∧ Post ⟨T.setVm vm₁, locs, cells, slots⟩ argsL.toArray v B ∧
      ∀ target, Steps p.tables e below (B.U.setTop { g with pc := g.pc + 3, stack := v.toList ++ rest }) target → Steps p.tables e below (T.setTop g) target := by
  obtain ⟨mk, methM, cM, hnamed, hmethM, -, -, -, -, -, -, hsigM⟩ := Cond.codeWith_spec hcode
  have hstatic : methM.isStatic = true := Cond.static_spec hnamed hmethM hstat
  obtain ⟨kP, hkP, -⟩ := className_of_methodNamed hnamed
  have hinitP : kP.init = .initialized := Cond.initialized_spec (findClass_of_methodNamed hnamed) hkP hinit
  obtain ⟨vm₁, X₁, hstep₁⟩ := X.invokestatic hexec hown hlink hnamed hmethM hstatic hkP hinitP hy (g := g) hg (argsL := argsL) (rest := rest) (hlen _ hsigM) hstack hdg
  obtain ⟨v, B, X', hpost, hsteps⟩ := hK m meth c ⟨T.setVm vm₁, locs, cells, slots⟩ { g with stack := rest } (.invokestatic index) mk argsL.toArray X₁ hg hsize hdg hW (X₁.named hnamed) (hpre vm₁ X₁.warmed)
  exact ⟨v, vm₁, B, X₁.warmed, X', hpost, fun target h => hstep₁ _ fun acts => by rw [doInvoke_state]; exact hsteps.trans h⟩
theorem vx_runSW {y : MethodName} {bytes cc : ByteArray} {maxL nL mc ms n index : Nat} {ret : Option FieldType} {hh : List (Nat × Nat × Nat × Nat)} {ws : List Cond} {rm : Room} {Pc : Array Value → State → Prop} {Qc : Array Value → State → Outcome → State → Prop} {free : Addr → Prop} {Ts : List Cond} {own : String} {As rest : List Value} {g : JFrame}
    (S : CallFix p m c cc nL s args Ts own) (hM : Met l y ws rm Pc Qc mc ms free) (cw : vx_CSW R s args own index y bytes maxL ret hh ws rm mc ms n) (hp : PreS s H Pc As)
    (hg : g.method = m) (hn : As.length = n) (hsize : g.locals.size = nL) (hstack : g.stack = As.reverse ++ rest) (hW : 2 * g.monitorRoom + (rest.map fun v => v.category).sum ≤ 8) (hdg : decode cc g.pc = .ok (.invokestatic index, 3)) (hf : cells + mc ≤ R.cells ∧ slots + ms ≤ R.slots) :
    va_Run p l e R s m args below meth c H locs cells slots mc ms g rest (Qc As.toArray) (free) := by
  obtain ⟨⟨hrc, hrs, hfr, hlo, hws, hcw⟩, hcode, hini, hy, hlen, hl, hstt⟩ := cw
  have hK : Back l R p e below s args y 3 8 (PreOf R mc ms Pc) (PostOf Qc mc ms free) := va_backW (hh := hh) (bytes := bytes) (maxL := maxL) (ret := ret) hM hp.1 hrc hrs hfr hlo hws hcw (fun a' U hW => word_at hW (Or.inl (by first | rfl | simp [Cond.onTables, Cond.keeps, Cond.steady])) hini)
  obtain ⟨hx, hb, hml, ho, -⟩ := S
  intro T hT X
  obtain ⟨v, vm₁, ⟨U', l2, c2, s2⟩, hW₁, X', ⟨g', mk, t, L, e1, e2, hq, h1, hL, h2, h3⟩, st⟩ := vx_callSW X hx (hh := hh) (bytes := bytes) (maxL := maxL) (ret := ret) ho hl hstt hini hcode hy hK hg (hsize.trans hml.symm) (argsL := As) (rest := rest) (fun sig h => hn.trans (hlen sig h)) hstack hW (by rw [hb]; exact hdg)
    (fun vm₁ hW₁ => ⟨hf.1, hf.2, hp.2 (T.setVm vm₁) hT hW₁⟩)
  dsimp only [Pt.U, Pt.locs, Pt.cells, Pt.slots] at X' e1 e2 h1 h2 h3 st
  subst h1; subst h2; subst h3
  exact ⟨v, (T.setVm vm₁).calling g' mk As.toArray, t, U', L, hT, X', hL, e1, e2, hq, st⟩
/-- a thing of a world lies in the heap -/
theorem vx_lt {D : va_G} {cl : List vw_C} {ws : va_W} {H1 : Heap} (h : va_P D cl ws H1) {k : Nat} {q : Nat × va_E} (hk : ws[k]? = some q) : q.1 < H1.size := (h k q hk).lt
end VXS
/-! ===== END ===== -/
/-! ===== BEGIN methods with a table of their own: called by a name, returning or throwing ===== -/
section VXH
/-! vx_backW, vx_callVX, vx_callSX, vx_callVW, vx_runVW, vx_runVX, vx_runSX, vx_ofWH follow the same proofs as their sisters above (Free/Laws.lean, Shelf42/LK1.lean); vx_outP calls Shelf42/NT130.lean (outThrough). -/
section
variable {l : Launch} {R : Room} {p : Program} {e : Env} {below : List Frame} {s : State} {sargs : Array Value} {y : MethodName} {len W9 : Nat}
theorem vx_backW {ws : List Cond} {rm : Room} {Pc : Array Value → State → Prop} {Qc : Array Value → State → Outcome → State → Prop} {XC : String → State → State → Prop} {mc ms : Nat} {free : Addr → Prop} {bytes : ByteArray} {maxL : Nat} {ret : Option FieldType} {hh : List (Nat × Nat × Nat × Nat)}
    (hM : vx_Met l y ws rm Pc Qc XC mc ms free) (hblind : FrameBlind Pc) (hrc : rm.cells = mc) (hrs : rm.slots = ms)
    (hframes : rm.frames + 1 ≤ R.frames) (hlocals : W9 + (maxL + 11) + rm.locals ≤ R.locals)
    (hws : ∀ w ∈ ws, ∀ a' U, s.WarmedH U.vm → w.before a' U = true) (hcode : Cond.codeWith y bytes maxL ret hh ∈ ws) (hinit : ∀ a' U, s.WarmedH U.vm → (Cond.initialized y.cls).before a' U = true) :
    vx_Back l R p e below s sargs y len W9 (PreOf R mc ms Pc) (PostOf Qc mc ms free) (vx_Post XC mc ms free) := by
  intro m meth c A g ig mk a X hg hsize hdg hW hn hp
  have h1 : (headSpec ws rm).pre.before a A.U = true := atoms_intro fun w hw => hws w hw _ _ X.warmed
  have h2 : (Cond.codeWith y bytes maxL ret hh).before a A.U = true := hws _ hcode _ _ X.warmed
  have h3 : (Cond.initialized y.cls).before a A.U = true := hinit _ _ X.warmed
  have h4 : A.cells + (headSpec ws rm).room.cells ≤ R.cells := by rw [show (headSpec ws rm).room.cells = mc from hrc]; exact hp.1
  have h5 : A.slots + (headSpec ws rm).room.slots ≤ R.slots := by rw [show (headSpec ws rm).room.slots = ms from hrs]; exact hp.2.1
  have hPc : Pc a (A.U.calling g mk a) := hblind _ _ _ _ hp.2.2
  obtain ⟨U, Ls, c0, s0⟩ := A
  dsimp only [Pt.U, Pt.locs, Pt.cells, Pt.slots] at h1 h2 h3 h4 h5 X hn hPc ⊢
  obtain ⟨m9, methY, cY, hn9, hmY, hcY, -, hlY, -⟩ := Cond.codeWith_spec h2
  cases Option.some.inj (hn9.symm.trans hn)
  obtain ⟨kY, hkY, -⟩ := className_of_methodNamed hn
  have hinitY : kY.init = .initialized := Cond.initialized_spec (findClass_of_methodNamed hn) hkY h3
  have h : At U g.method c below := by rw [hg]; exact X.here
  have hlocals9 : W9 + (maxL + 11) + (headSpec ws rm).room.locals ≤ R.locals := hlocals
  have happ : (headSpec ws rm).appliesLoose y e.platform (U.calling g mk a) = true :=
    Spec.appliesLoose_calling (g := g) h hdg hn hkY hinitY
      (X.room_calling (g := g) (R' := (headSpec ws rm).room) hsize hmY hcY hframes (by rw [hlY]; omega) h4 h5) h1
  obtain ⟨mid, hmid⟩ := h.above
  have hfr : (U.setTop g).frames = (.java g :: mid) ++ below := by rw [State.frames_setTop' g h.top, hmid]; rfl
  obtain ⟨o, s₂, hsteps, -, hend, hq⟩ := Steps.callFree hM p X.admits X.cas X.clock (acts := []) hfr happ hPc trivial
  have hq' : vx_Q Qc XC mc ms free a (U.calling g mk a) o s₂ := hq
  rw [State.frames_setTop' g h.top] at hend
  obtain ⟨g₀, hg0⟩ := Option.isSome_iff_exists.mp h.top
  obtain ⟨r, hr⟩ := State.topJava?_eq_some.mp hg0
  have hr' : (({ U with heap := s₂.heap, slotsUsed := s₂.slotsUsed } : State).setVm s₂.vm).frames = .java g₀ :: r := hr
  rcases hq' with ⟨hqc, L, hfe, hL⟩ | ⟨q, rfl, E, ce, L, hx, hce, hcv, hcl, hW₂, hsm, hL⟩
  · obtain ⟨⟨v, rfl⟩, hW₂, e2, q2, q3, q4, q5, q6⟩ := id hfe
    have e3 : s₂ = ({ (U.calling g mk a).setFrames s₂.frames with heap := s₂.heap, slotsUsed := s₂.slotsUsed } : State).setVm s₂.vm := by
      have : s₂ = ({ s₂ with vm := (U.calling g mk a).vm } : State).setVm s₂.vm := rfl
      rw [e2] at this
      exact this
    obtain ⟨c₂, i₂, len₂, hc₂, hd₂, hf₂⟩ := hend
    have hW' : U.WarmedH s₂.vm := hW₂
    have hcc : c₂ = c := by
      have h1 : s₂.code? g.method = U.code? g.method := by
        rw [State.code?_eq, State.code?_eq, hW'.alike.method?]
      exact Option.some.inj (hc₂.symm.trans (h1.trans h.code))
    subst hcc
    have hlen : len₂ = len := by rw [hdg] at hd₂; cases hd₂; rfl
    subst hlen
    have hs₂ : s₂ = (({ U with heap := s₂.heap, slotsUsed := s₂.slotsUsed } : State).setVm s₂.vm).setTop { g with pc := g.pc + len₂, stack := v.toList ++ g.stack } := by
      refine e3.trans ?_
      rw [hf₂, State.calling_eq h.top, State.setFrames_setFrames, State.setTop_of_frames _ hr', hr]
      rfl
    have hsame : U.sameButNew ({ U with heap := s₂.heap, slotsUsed := s₂.slotsUsed } : State) L mc ms := by
      refine ⟨?_, q2, q3, q4, q5, q6⟩
      obtain ⟨t, ht, -⟩ := State.frames_cons hr
      show ({ U with heap := s₂.heap, slotsUsed := s₂.slotsUsed } : State) = { U.setFrames U.frames with heap := s₂.heap, slotsUsed := s₂.slotsUsed }
      rw [State.setFrames_self ht]
    subst hg
    refine Or.inl ⟨v, ⟨(({ U with heap := s₂.heap, slotsUsed := s₂.slotsUsed } : State).setVm s₂.vm), Ls ++ L, c0 + mc, s0 + ms⟩,
      ⟨X.admits, X.cas, X.clock, X.frames, X.room, X.hears, X.method, X.code, (X.here.setHeapUsed s₂.heap s₂.slotsUsed).setVm hW'.alike, X.tail, State.WarmedH.trans X.warmed hW', X.limits, X.bytes, X.same.trans (hsame.setVm s.vm)⟩,
      ⟨g, mk, s₂, L, rfl, rfl, hqc, rfl, hL, rfl, rfl⟩, ?_⟩
    show Steps p.tables e below _ ((({ U with heap := s₂.heap, slotsUsed := s₂.slotsUsed } : State).setVm s₂.vm).setTop { g with pc := g.pc + len₂, stack := v.toList ++ g.stack })
    rw [← hs₂]
    exact hsteps
  · obtain ⟨e2, q2, q3, q4, q5, q6⟩ := id hsm
    have e3 : s₂ = ({ (U.calling g mk a).setFrames s₂.frames with heap := s₂.heap, slotsUsed := s₂.slotsUsed } : State).setVm s₂.vm := by
      have : s₂ = ({ s₂ with vm := (U.calling g mk a).vm } : State).setVm s₂.vm := rfl
      rw [e2] at this
      exact this
    have hf₂ : s₂.frames = .throwing q :: .java g :: U.frames.tail := hend
    have hW' : U.WarmedH s₂.vm := hW₂
    have hs₂ : s₂ = ((({ U with heap := s₂.heap, slotsUsed := s₂.slotsUsed } : State).setVm s₂.vm).setTop g).pushFrame (.throwing q) := by
      refine e3.trans ?_
      rw [hf₂, State.calling_eq h.top, State.setFrames_setFrames, State.pushFrame, State.frames_setTop _ hr', State.setTop_of_frames _ hr', State.setFrames_setFrames, hr]
      rfl
    have hsame : U.sameButNew ({ U with heap := s₂.heap, slotsUsed := s₂.slotsUsed } : State) L mc ms := by
      refine ⟨?_, q2, q3, q4, q5, q6⟩
      obtain ⟨t, ht, -⟩ := State.frames_cons hr
      show ({ U with heap := s₂.heap, slotsUsed := s₂.slotsUsed } : State) = { U.setFrames U.frames with heap := s₂.heap, slotsUsed := s₂.slotsUsed }
      rw [State.setFrames_self ht]
    subst hg
    refine Or.inr ⟨q, ⟨(({ U with heap := s₂.heap, slotsUsed := s₂.slotsUsed } : State).setVm s₂.vm), Ls ++ L, c0 + mc, s0 + ms⟩,
      ⟨X.admits, X.cas, X.clock, X.frames, X.room, X.hears, X.method, X.code, (X.here.setHeapUsed s₂.heap s₂.slotsUsed).setVm hW'.alike, X.tail, State.WarmedH.trans X.warmed hW', X.limits, X.bytes, X.same.trans (hsame.setVm s.vm)⟩,
      ⟨g, mk, s₂, L, E, ce, rfl, rfl, hx, hce, hcv, hcl, rfl, hL, rfl, rfl⟩, ?_⟩
    show Steps p.tables e below _ (((({ U with heap := s₂.heap, slotsUsed := s₂.slotsUsed } : State).setVm s₂.vm).setTop g).pushFrame (.throwing q))
    rw [← hs₂]
    exact hsteps
end
variable {p : Program} {l : Launch} {e : Env} {R : Room} {s : State} {m : MethodId} {args : Array Value} {below : List Frame} {meth : Method} {c : Code} {T : State} {H : Heap} {locs : List Loc} {cells slots : Nat}
theorem vx_callVX (X : Stand p l e R s m args below meth c T locs cells slots) (hexec : p.tables.exec = Jvm.exec) {own C : String} {index : Nat} {y : MethodName} {bytes : ByteArray} {maxL : Nat} {ret : Option FieldType} {hh : List (Nat × Nat × Nat × Nat)}
    (hown : s.vm.findClass own = some m.cls) (hlink : (Cond.methodLink own index y).before args s = true) (hinst : (Cond.instanceMethod y).before args s = true) (hsel : (Cond.selects C y y).before args s = true)
    (hcode : (Cond.codeWith y bytes maxL ret hh).before args s = true) (hy : y.cls ≠ "java/lang/invoke/MethodHandle" ∧ y.cls ≠ "java/lang/invoke/VarHandle")
    {W9 : Nat} {Pre : Pt → Array Value → Prop} {Post : Pt → Array Value → Option Value → Pt → Prop} {PostX : Pt → Array Value → Addr → Pt → Prop} (hK : vx_Back l R p e below s args y 3 W9 Pre Post PostX)
    {b : Addr} {cellB : Cell} (hcell : T.heap[b]? = some cellB) (hobj : cellB.vm.isStatics = false) (hcls : s.vm.findClass C = some cellB.cls)
    {g : JFrame} (hg : g.method = m) (hsize : g.locals.size = c.maxLocals) {argsL rest : List Value} (hlen : ∀ sig, parseMethodDescriptor y.desc = some sig → argsL.length = sig.parameters.length)
    (hstack : g.stack = argsL.reverse ++ .ref b :: rest) (hW : 2 * g.monitorRoom + (rest.map fun v => v.category).sum ≤ W9) (hdg : decode c.code g.pc = .ok (.invokevirtual index, 3))
    (hpre : ∀ vm₁, s.WarmedH vm₁ → Pre ⟨T.setVm vm₁, locs, cells, slots⟩ (Value.ref b :: argsL).toArray) :
    (∃ (v : Option Value) (vm₁ : Vm) (B : Pt), s.WarmedH vm₁ ∧ Stand p l e R s m args below meth c B.U B.locs B.cells B.slots ∧ Post ⟨T.setVm vm₁, locs, cells, slots⟩ (Value.ref b :: argsL).toArray v B ∧
      ∀ target, Steps p.tables e below (B.U.setTop { g with pc := g.pc + 3, stack := v.toList ++ rest }) target → Steps p.tables e below (T.setTop g) target) ∨
    (∃ (q : Addr) (vm₁ : Vm) (B : Pt), s.WarmedH vm₁ ∧ Stand p l e R s m args below meth c B.U B.locs B.cells B.slots ∧ PostX ⟨T.setVm vm₁, locs, cells, slots⟩ (Value.ref b :: argsL).toArray q B ∧
      Steps p.tables e below (T.setTop g) ((B.U.setTop { g with stack := rest }).pushFrame (.throwing q))) := by
  obtain ⟨mk, methM, hnamed, hmethM, hstM, habM⟩ := Cond.instanceMethod_spec hinst
  obtain ⟨m8, methM', cM, hn8, hmethM', -, -, -, -, -, -, hsigM⟩ := Cond.codeWith_spec hcode
  cases Option.some.inj (hn8.symm.trans hnamed)
  cases hmethM.symm.trans hmethM'
  obtain ⟨c2, r2, m2, q1, q2, q3, q4, kP, hkP, hkPi⟩ := Cond.selects_spec hsel
  cases hcls.symm.trans q1
  cases (State.methodFound?_of_named hnamed hy).symm.trans q2
  cases hnamed.symm.trans q3
  have hselP : selectMethod e.platform s.vm cellB.cls mk = .method mk := by rw [Launch.admits_selectMethod X.admits]; exact q4
  obtain ⟨vm₁, X₁, hstep₁⟩ := X.invokevirtual hexec hown hlink hnamed hmethM hstM hkP hkPi hy (a := b) (cell := cellB) hcell
    (fun z h => by rw [h] at hobj; cases hobj) hselP hmethM habM hkP hkPi (g := g) hg (argsL := argsL) (rest := rest) (hlen _ hsigM) hstack hdg
  rcases hK m meth c ⟨T.setVm vm₁, locs, cells, slots⟩ { g with stack := rest } (.invokevirtual index) mk (Value.ref b :: argsL).toArray X₁ hg hsize hdg hW (X₁.named hnamed) (hpre vm₁ X₁.warmed) with ⟨v, B, X', hpost, hsteps⟩ | ⟨q, B, X', hpost, hsteps⟩
  · exact Or.inl ⟨v, vm₁, B, X₁.warmed, X', hpost, fun target h => hstep₁ _ fun acts => by rw [doInvoke_state]; exact hsteps.trans h⟩
  · exact Or.inr ⟨q, vm₁, B, X₁.warmed, X', hpost, hstep₁ _ fun acts => by rw [doInvoke_state]; exact hsteps⟩
theorem vx_callSX (X : Stand p l e R s m args below meth c T locs cells slots) (hexec : p.tables.exec = Jvm.exec) {own : String} {index : Nat} {y : MethodName} {bytes : ByteArray} {maxL : Nat} {ret : Option FieldType} {hh : List (Nat × Nat × Nat × Nat)}
    (hown : s.vm.findClass own = some m.cls) (hlink : (Cond.methodLink own index y).before args s = true) (hstat : (Cond.static y).before args s = true) (hinit : (Cond.initialized y.cls).before args s = true)
    (hcode : (Cond.codeWith y bytes maxL ret hh).before args s = true) (hy : y.cls ≠ "java/lang/invoke/MethodHandle" ∧ y.cls ≠ "java/lang/invoke/VarHandle")
    {W9 : Nat} {Pre : Pt → Array Value → Prop} {Post : Pt → Array Value → Option Value → Pt → Prop} {PostX : Pt → Array Value → Addr → Pt → Prop} (hK : vx_Back l R p e below s args y 3 W9 Pre Post PostX)
    {g : JFrame} (hg : g.method = m) (hsize : g.locals.size = c.maxLocals) {argsL rest : List Value} (hlen : ∀ sig, parseMethodDescriptor y.desc = some sig → argsL.length = sig.parameters.length)
    (hstack : g.stack = argsL.reverse ++ rest) (hW : 2 * g.monitorRoom + (rest.map fun v => v.category).sum ≤ W9) (hdg : decode c.code g.pc = .ok (.invokestatic index, 3))
    (hpre : ∀ vm₁, s.WarmedH vm₁ → Pre ⟨T.setVm vm₁, locs, cells, slots⟩ argsL.toArray) :
    (∃ (v : Option Value) (vm₁ : Vm) (B : Pt), s.WarmedH vm₁ ∧ Stand p l e R s m args below meth c B.U B.locs B.cells B.slots ∧ Post ⟨T.setVm vm₁, locs, cells, slots⟩ argsL.toArray v B ∧
      ∀ target, Steps p.tables e below (B.U.setTop { g with pc := g.pc + 3, stack := v.toList ++ rest }) target → Steps p.tables e below (T.setTop g) target) ∨
    (∃ (q : Addr) (vm₁ : Vm) (B : Pt), s.WarmedH vm₁ ∧ Stand p l e R s m args below meth c B.U B.locs B.cells B.slots ∧ PostX ⟨T.setVm vm₁, locs, cells, slots⟩ argsL.toArray q B ∧
      Steps p.tables e below (T.setTop g) ((B.U.setTop { g with stack := rest }).pushFrame (.throwing q))) := by
  obtain ⟨mk, methM, cM, hnamed, hmethM, -, -, -, -, -, -, hsigM⟩ := Cond.codeWith_spec hcode
  have hstatic : methM.isStatic = true := Cond.static_spec hnamed hmethM hstat
  obtain ⟨kP, hkP, -⟩ := className_of_methodNamed hnamed
  have hinitP : kP.init = .initialized := Cond.initialized_spec (findClass_of_methodNamed hnamed) hkP hinit
  obtain ⟨vm₁, X₁, hstep₁⟩ := X.invokestatic hexec hown hlink hnamed hmethM hstatic hkP hinitP hy (g := g) hg (argsL := argsL) (rest := rest) (hlen _ hsigM) hstack hdg
  rcases hK m meth c ⟨T.setVm vm₁, locs, cells, slots⟩ { g with stack := rest } (.invokestatic index) mk argsL.toArray X₁ hg hsize hdg hW (X₁.named hnamed) (hpre vm₁ X₁.warmed) with ⟨v, B, X', hpost, hsteps⟩ | ⟨q, B, X', hpost, hsteps⟩
  · exact Or.inl ⟨v, vm₁, B, X₁.warmed, X', hpost, fun target h => hstep₁ _ fun acts => by rw [doInvoke_state]; exact hsteps.trans h⟩
  · exact Or.inr ⟨q, vm₁, B, X₁.warmed, X', hpost, hstep₁ _ fun acts => by rw [doInvoke_state]; exact hsteps⟩
theorem vx_callVW (X : Stand p l e R s m args below meth c T locs cells slots) (hexec : p.tables.exec = Jvm.exec) {own C : String} {index : Nat} {y : MethodName} {bytes : ByteArray} {maxL : Nat} {ret : Option FieldType} {hh : List (Nat × Nat × Nat × Nat)}
    (hown : s.vm.findClass own = some m.cls) (hlink : (Cond.methodLink own index y).before args s = true) (hinst : (Cond.instanceMethod y).before args s = true) (hsel : (Cond.selects C y y).before args s = true)
    (hcode : (Cond.codeWith y bytes maxL ret hh).before args s = true) (hy : y.cls ≠ "java/lang/invoke/MethodHandle" ∧ y.cls ≠ "java/lang/invoke/VarHandle")
    {W9 : Nat} {Pre : Pt → Array Value → Prop} {Post : Pt → Array Value → Option Value → Pt → Prop} (hK : Back l R p e below s args y 3 W9 Pre Post)
    {b : Addr} {cellB : Cell} (hcell : T.heap[b]? = some cellB) (hobj : cellB.vm.isStatics = false) (hcls : s.vm.findClass C = some cellB.cls)
    {g : JFrame} (hg : g.method = m) (hsize : g.locals.size = c.maxLocals) {argsL rest : List Value} (hlen : ∀ sig, parseMethodDescriptor y.desc = some sig → argsL.length = sig.parameters.length)
    (hstack : g.stack = argsL.reverse ++ .ref b :: rest) (hW : 2 * g.monitorRoom + (rest.map fun v => v.category).sum ≤ W9) (hdg : decode c.code g.pc = .ok (.invokevirtual index, 3))
    (hpre : ∀ vm₁, s.WarmedH vm₁ → Pre ⟨T.setVm vm₁, locs, cells, slots⟩ (Value.ref b :: argsL).toArray) :
    ∃ (v : Option Value) (vm₁ : Vm) (B : Pt), s.WarmedH vm₁ ∧ Stand p l e R s m args below meth c B.U B.locs B.cells B.slots ∧ Post ⟨T.setVm vm₁, locs, cells, slots⟩ (Value.ref b :: argsL).toArray v B ∧
      ∀ target, Steps p.tables e below (B.U.setTop { g with pc := g.pc + 3, stack := v.toList ++ rest }) target → Steps p.tables e below (T.setTop g) target := by
  obtain ⟨mk, methM, hnamed, hmethM, hstM, habM⟩ := Cond.instanceMethod_spec hinst
  obtain ⟨m8, methM', cM, hn8, hmethM', -, -, -, -, -, -, hsigM⟩ := Cond.codeWith_spec hcode
  cases Option.some.inj (hn8.symm.trans hnamed)
  cases hmethM.symm.trans hmethM'
  obtain ⟨c2, r2, m2, q1, q2, q3, q4, kP, hkP, hkPi⟩ := Cond.selects_spec hsel
  cases hcls.symm.trans q1
  cases (State.methodFound?_of_named hnamed hy).symm.trans q2
  cases hnamed.symm.trans q3
  have hselP : selectMethod e.platform s.vm cellB.cls mk = .method mk := by rw [Launch.admits_selectMethod X.admits]; exact q4
  obtain ⟨vm₁, X₁, hstep₁⟩ := X.invokevirtual hexec hown hlink hnamed hmethM hstM hkP hkPi hy (a := b) (cell := cellB) hcell
    (fun z h => by rw [h] at hobj; cases hobj) hselP hmethM habM hkP hkPi (g := g) hg (argsL := argsL) (rest := rest) (hlen _ hsigM) hstack hdg
  obtain ⟨v, B, X', hpost, hsteps⟩ := hK m meth c ⟨T.setVm vm₁, locs, cells, slots⟩ { g with stack := rest } (.invokevirtual index) mk (Value.ref b :: argsL).toArray X₁ hg hsize hdg hW (X₁.named hnamed) (hpre vm₁ X₁.warmed)
  exact ⟨v, vm₁, B, X₁.warmed, X', hpost, fun target h => hstep₁ _ fun acts => by rw [doInvoke_state]; exact hsteps.trans h⟩
abbrev vx_CVW (R : Room) (s : State) (args : Array Value) (own C : String) (index : Nat) (y : MethodName) (bytes : ByteArray) (maxL : Nat) (ret : Option FieldType) (hh : List (Nat × Nat × Nat × Nat)) (ws : List Cond) (rm : Room) (mc ms n : Nat) : Prop :=
  (rm.cells = mc ∧ rm.slots = ms ∧ rm.frames + 1 ≤ R.frames ∧ 8 + (maxL + 11) + rm.locals ≤ R.locals ∧ (∀ w ∈ ws, ∀ (a' : Array Value) (U : State), s.WarmedH U.vm → w.before a' U = true) ∧ Cond.codeWith y bytes maxL ret hh ∈ ws) ∧
  (Cond.codeWith y bytes maxL ret hh).before args s = true ∧ (Cond.initialized y.cls).before args s = true ∧ (y.cls ≠ "java/lang/invoke/MethodHandle" ∧ y.cls ≠ "java/lang/invoke/VarHandle") ∧
  (∀ sig, parseMethodDescriptor y.desc = some sig → n = sig.parameters.length) ∧ (Cond.methodLink own index y).before args s = true ∧ (Cond.instanceMethod y).before args s = true ∧ (Cond.selects C y y).before args s = true
theorem vx_cwVW {own C : String} {index maxL mc ms : Nat} {y : MethodName} {bytes : ByteArray} {ret : Option FieldType} {hh : List (Nat × Nat × Nat × Nat)} {Ts ws ws' : List Cond} {rm : Room} (n : Nat) (ht : ∀ w ∈ Ts, w.before args s = true) (hT : GoodIn Ts (wsV own index C y ws)) (hw : ws = Cond.codeWith y bytes maxL ret hh :: ws') (hrc : rm.cells = mc) (hrs : rm.slots = ms)
    (hd : y.cls = C ∧ y.cls ≠ "java/lang/invoke/MethodHandle" ∧ y.cls ≠ "java/lang/invoke/VarHandle" ∧ (parseMethodDescriptor y.desc).map (fun d => d.parameters.length) = some n) (hR : rm.frames + 1 ≤ R.frames ∧ 8 + (maxL + 11) + rm.locals ≤ R.locals) :
    vx_CVW R s args own C index y bytes maxL ret hh ws rm mc ms n := by
  obtain ⟨hC, hd⟩ := hd
  subst hC
  have ok : ∀ w ∈ wsV own index y.cls y ws, w.before args s = true := fun w h => ht w (hT w h).1
  have hG : GoodIn Ts ws := fun w h => hT w (by unfold wsV; exact List.mem_append_right _ h)
  have hc : Cond.codeWith y bytes maxL ret hh ∈ ws := by rw [hw]; exact List.mem_cons_self
  refine ⟨⟨hrc, hrs, hR.1, hR.2, pay_in ht hG, hc⟩, ht _ (hG _ hc).1, ok _ (by simp [wsV]), ⟨hd.1, hd.2.1⟩, fun sig h => ?_, ok _ (by simp [wsV]), ok _ (by simp [wsV]), ok _ (by simp [wsV])⟩
  have h2 := hd.2.2
  rw [h] at h2
  exact (Option.some.inj h2).symm
theorem vx_runVW {y : MethodName} {bytes cc : ByteArray} {maxL nL mc ms n index : Nat} {ret : Option FieldType} {hh : List (Nat × Nat × Nat × Nat)} {ws : List Cond} {rm : Room} {Pc : Array Value → State → Prop} {Qc : Array Value → State → Outcome → State → Prop} {free : Addr → Prop} {Ts : List Cond} {own C : String} {b : Addr} {As rest : List Value} {g : JFrame}
    (S : CallFix p m c cc nL s args Ts own) (hM : Met l y ws rm Pc Qc mc ms free) (cw : vx_CVW R s args own C index y bytes maxL ret hh ws rm mc ms n) (hp : PreV s H C b Pc As)
    (hg : g.method = m) (hn : As.length = n) (hsize : g.locals.size = nL) (hstack : g.stack = As.reverse ++ .ref b :: rest) (hW : 2 * g.monitorRoom + (rest.map fun v => v.category).sum ≤ 8) (hdg : decode cc g.pc = .ok (.invokevirtual index, 3)) (hf : cells + mc ≤ R.cells ∧ slots + ms ≤ R.slots) :
    va_Run p l e R s m args below meth c H locs cells slots mc ms g rest (Qc (Value.ref b :: As).toArray) free := by
  obtain ⟨⟨hrc, hrs, hfr, hlo, hws, hcw⟩, hcode, hini, hy, hlen, hl, hin, hse⟩ := cw
  have hK : Back l R p e below s args y 3 8 (PreOf R mc ms Pc) (PostOf Qc mc ms free) := va_backW (hh := hh) (bytes := bytes) (maxL := maxL) (ret := ret) hM hp.1 hrc hrs hfr hlo hws hcw (fun a' U hW => word_at hW (Or.inl (by first | rfl | simp [Cond.onTables, Cond.keeps, Cond.steady])) hini)
  obtain ⟨hx, hb, hml, ho, -⟩ := S
  obtain ⟨-, ⟨cellB, hcB, hoB, hclB⟩, hPc⟩ := hp
  intro T hT X
  obtain ⟨v, vm₁, ⟨U', l2, c2, s2⟩, hW₁, X', ⟨g', mk, t, L, e1, e2, hq, h1, hL, h2, h3⟩, st⟩ := vx_callVW X hx (C := C) (hh := hh) (bytes := bytes) (maxL := maxL) (ret := ret) ho hl hin hse hcode hy hK (by rw [hT]; exact hcB) hoB hclB hg (hsize.trans hml.symm) (argsL := As) (rest := rest) (fun sig h => hn.trans (hlen sig h)) hstack hW (by rw [hb]; exact hdg)
    (fun vm₁ hW₁ => ⟨hf.1, hf.2, hPc (T.setVm vm₁) hT hW₁⟩)
  dsimp only [Pt.U, Pt.locs, Pt.cells, Pt.slots] at X' e1 e2 h1 h2 h3 st
  subst h1; subst h2; subst h3
  exact ⟨v, (T.setVm vm₁).calling g' mk (Value.ref b :: As).toArray, t, U', L, hT, X', hL, e1, e2, hq, st⟩
section
variable {y : MethodName} {bytes cc : ByteArray} {maxL nL mc ms n index : Nat} {ret : Option FieldType} {ws : List Cond} {rm : Room} {Pc : Array Value → State → Prop} {Qc : Array Value → State → Outcome → State → Prop} {XC : String → State → State → Prop} {free : Addr → Prop} {Ts : List Cond} {own C : String} {b : Addr} {As rest : List Value} {g : JFrame}
theorem vx_runVX {hh : List (Nat × Nat × Nat × Nat)} (S : CallFix p m c cc nL s args Ts own) (hM : vx_Met l y ws rm Pc Qc XC mc ms free) (cw : vx_CVW R s args own C index y bytes maxL ret hh ws rm mc ms n) (hp : PreV s H C b Pc As)
    (hg : g.method = m) (hn : As.length = n) (hsize : g.locals.size = nL) (hstack : g.stack = As.reverse ++ .ref b :: rest) (hW : 2 * g.monitorRoom + (rest.map fun v => v.category).sum ≤ 8) (hdg : decode cc g.pc = .ok (.invokevirtual index, 3)) (hf : cells + mc ≤ R.cells ∧ slots + ms ≤ R.slots) :
    vx_Run p l e R s m args below meth c H locs cells slots mc ms g rest (Qc (Value.ref b :: As).toArray) XC free := by
  obtain ⟨⟨hrc, hrs, hfr, hlo, hws, hcw⟩, hcode, hini, hy, hlen, hl, hin, hse⟩ := cw
  have hK : vx_Back l R p e below s args y 3 8 (PreOf R mc ms Pc) (PostOf Qc mc ms free) (vx_Post XC mc ms free) := vx_backW (hh := hh) (bytes := bytes) (maxL := maxL) (ret := ret) hM hp.1 hrc hrs hfr hlo hws hcw (fun a' U hW => word_at hW (Or.inl (by first | rfl | simp [Cond.onTables, Cond.keeps, Cond.steady])) hini)
  obtain ⟨hx, hb, hml, ho, -⟩ := S
  obtain ⟨-, ⟨cellB, hcB, hoB, hclB⟩, hPc⟩ := hp
  intro T hT X
  rcases vx_callVX X hx (C := C) (hh := hh) (bytes := bytes) (maxL := maxL) (ret := ret) ho hl hin hse hcode hy hK (by rw [hT]; exact hcB) hoB hclB hg (hsize.trans hml.symm) (argsL := As) (rest := rest) (fun sig h => hn.trans (hlen sig h)) hstack hW (by rw [hb]; exact hdg)
    (fun vm₁ hW₁ => ⟨hf.1, hf.2, hPc (T.setVm vm₁) hT hW₁⟩) with ⟨v, vm₁, ⟨U', l2, c2, s2⟩, hW₁, X', ⟨g', mk, t, L, e1, e2, hq, h1, hL, h2, h3⟩, st⟩ | ⟨q, vm₁, ⟨U', l2, c2, s2⟩, hW₁, X', ⟨g', mk, t, L, E, ce, e1, e2, hq, hce, hcv, hcl, h1, hL, h2, h3⟩, st⟩
  · dsimp only [Pt.U, Pt.locs, Pt.cells, Pt.slots] at X' e1 e2 h1 h2 h3 st
    subst h1; subst h2; subst h3
    exact Or.inl ⟨v, (T.setVm vm₁).calling g' mk (Value.ref b :: As).toArray, t, U', L, hT, X', hL, e1, e2, hq, st⟩
  · dsimp only [Pt.U, Pt.locs, Pt.cells, Pt.slots] at X' e1 e2 h1 h2 h3 st hcl
    subst h1; subst h2; subst h3
    exact Or.inr ⟨q, (T.setVm vm₁).calling g' mk (Value.ref b :: As).toArray, t, U', L, E, ce, hT, X', hL, e1, e2, hq, hce, hcv, vx_cls hW₁ hcl, st⟩
theorem vx_runSX {hh : List (Nat × Nat × Nat × Nat)} (S : CallFix p m c cc nL s args Ts own) (hM : vx_Met l y ws rm Pc Qc XC mc ms free) (cw : vx_CSW R s args own index y bytes maxL ret hh ws rm mc ms n) (hp : PreS s H Pc As)
    (hg : g.method = m) (hn : As.length = n) (hsize : g.locals.size = nL) (hstack : g.stack = As.reverse ++ rest) (hW : 2 * g.monitorRoom + (rest.map fun v => v.category).sum ≤ 8) (hdg : decode cc g.pc = .ok (.invokestatic index, 3)) (hf : cells + mc ≤ R.cells ∧ slots + ms ≤ R.slots) :
    vx_Run p l e R s m args below meth c H locs cells slots mc ms g rest (Qc As.toArray) XC free := by
  obtain ⟨⟨hrc, hrs, hfr, hlo, hws, hcw⟩, hcode, hini, hy, hlen, hl, hstt⟩ := cw
  have hK : vx_Back l R p e below s args y 3 8 (PreOf R mc ms Pc) (PostOf Qc mc ms free) (vx_Post XC mc ms free) := vx_backW (hh := hh) (bytes := bytes) (maxL := maxL) (ret := ret) hM hp.1 hrc hrs hfr hlo hws hcw (fun a' U hW => word_at hW (Or.inl (by first | rfl | simp [Cond.onTables, Cond.keeps, Cond.steady])) hini)
  obtain ⟨hx, hb, hml, ho, -⟩ := S
  intro T hT X
  rcases vx_callSX X hx (hh := hh) (bytes := bytes) (maxL := maxL) (ret := ret) ho hl hstt hini hcode hy hK hg (hsize.trans hml.symm) (argsL := As) (rest := rest) (fun sig h => hn.trans (hlen sig h)) hstack hW (by rw [hb]; exact hdg)
    (fun vm₁ hW₁ => ⟨hf.1, hf.2, hp.2 (T.setVm vm₁) hT hW₁⟩) with ⟨v, vm₁, ⟨U', l2, c2, s2⟩, hW₁, X', ⟨g', mk, t, L, e1, e2, hq, h1, hL, h2, h3⟩, st⟩ | ⟨q, vm₁, ⟨U', l2, c2, s2⟩, hW₁, X', ⟨g', mk, t, L, E, ce, e1, e2, hq, hce, hcv, hcl, h1, hL, h2, h3⟩, st⟩
  · dsimp only [Pt.U, Pt.locs, Pt.cells, Pt.slots] at X' e1 e2 h1 h2 h3 st
    subst h1; subst h2; subst h3
    exact Or.inl ⟨v, (T.setVm vm₁).calling g' mk As.toArray, t, U', L, hT, X', hL, e1, e2, hq, st⟩
  · dsimp only [Pt.U, Pt.locs, Pt.cells, Pt.slots] at X' e1 e2 h1 h2 h3 st hcl
    subst h1; subst h2; subst h3
    exact Or.inr ⟨q, (T.setVm vm₁).calling g' mk As.toArray, t, U', L, E, ce, hT, X', hL, e1, e2, hq, hce, hcv, vx_cls hW₁ hcl, st⟩
end
end VXH
theorem vx_ofWH {l : Launch} {y : MethodName} {ws ws' : List Cond} {rm : Room} {Pc : Array Value → State → Prop} {Qc : Array Value → State → Outcome → State → Prop} {XC : String → State → State → Prop} {mc ms : Nat} {free : Addr → Prop} {cc : ByteArray} {maxL : Nat} {ret : Option FieldType} {hh : List (Nat × Nat × Nat × Nat)}
    (hy : plainName y.cls = true) (hw : ws = Cond.codeWith y cc maxL ret hh :: ws')
    (body : ∀ p e s m args below meth c s₁, BodyLoose p l y (headSpec ws rm) cc maxL ret e s m args below meth c s₁ → c.maxLocals = maxL → Pc args s →
      W p l e (headSpec ws rm).room s m args below meth c s.heap [] 0 0 (vx_MQ below Qc XC args s mc ms free) (entryFrame m args maxL)) : vx_Met l y ws rm Pc Qc XC mc ms free := by
  refine MetFree.of_bodyS (code := cc) (maxLocals := maxL) (ret := ret) hy ?_ ?_
  · intro args s m h hn
    obtain ⟨m9, meth, c, hn9, h1, h2, h3, h4, -, h5, h6, -⟩ := Cond.codeWith_spec (atoms_spec (ws := ws) h _ (by rw [hw]; exact List.mem_cons_self))
    cases hn.symm.trans hn9
    exact ⟨meth, c, h1, h2, h3, h4, h5, h6⟩
  · intro p e s m args below meth c s₁ B hml hP _
    have hh0 : s₁.heap = s.heap := by rw [B.state]; rfl
    obtain ⟨t, a1, o, b1, b2, b3⟩ := body p e s m args below meth c s₁ B hml hP s₁ hh0 (Stand.of_body B)
    exact ⟨t, o, a1, b1, b2, b3⟩
/-! ===== END ===== -/
end
section
/-! ===== BEGIN printed: names, fields, word lists, decode rows ===== -/
def RX0 : String := "ScaleHouse$Court"
def TX0 : u_T := fun k => match k with
  | 0 => ("ScaleHouse$Court", "allowance", "I", false)
  | 1 => ("ScaleHouse$Court", "stood", "I", false)
  | 2 => ("ScaleHouse$Court", "buyerOff", "I", false)
  | _ => ("ScaleHouse$Court", "sellerOff", "I", false)
def tyX0 : Nat → FieldType := fun k => match k with
  | 0 => .int
  | 1 => .int
  | 2 => .int
  | _ => .int
abbrev wsX00 : List Cond := u_ws RX0 TX0 4
theorem nmX0 : ∀ a, a < 4 → ∀ b, b < 4 → a ≠ b → (TX0 a).2.1 ≠ (TX0 b).2.1 := by decide +kernel
theorem tyX0_ok : ∀ k, k < 4 → parseFieldDescriptor (TX0 k).2.2.1 = some (tyX0 k) := by decide +kernel
abbrev cX0_init : ByteArray := prog_2_method_1_code
def yX0_init : MethodName := ⟨RX0, "<init>", "()V"⟩
abbrev cX0_decide : ByteArray := prog_2_method_2_code
def yX0_decide : MethodName := ⟨RX0, "decide", "(III)I"⟩
abbrev cX0_isNear : ByteArray := prog_2_method_3_code
def yX0_isNear : MethodName := ⟨RX0, "isNear", "(II)Z"⟩
def RX1 : String := "ScaleHouse$Law"
def TX1 : u_T := fun k => match k with
  | _ => ("ScaleHouse$Law", "tokens", "[I", true)
def tyX1 : Nat → FieldType := fun k => match k with
  | _ => .array .int
abbrev wsX10 : List Cond := u_ws RX1 TX1 1
theorem nmX1 : ∀ a, a < 1 → ∀ b, b < 1 → a ≠ b → (TX1 a).2.1 ≠ (TX1 b).2.1 := by decide +kernel
theorem tyX1_ok : ∀ k, k < 1 → parseFieldDescriptor (TX1 k).2.2.1 = some (tyX1 k) := by decide +kernel
abbrev cX1_init : ByteArray := prog_3_method_1_code
def yX1_init : MethodName := ⟨RX1, "<init>", "([I)V"⟩
def RX2 : String := "ScaleHouse$Ledger"
def TX2 : u_T := fun k => match k with
  | 0 => ("ScaleHouse$Ledger", "days", "[I", false)
  | 1 => ("ScaleHouse$Ledger", "logs", "[I", false)
  | 2 => ("ScaleHouse$Ledger", "coins", "[I", false)
  | 3 => ("ScaleHouse$Ledger", "size", "I", false)
  | _ => ("ScaleHouse$Ledger", "allCoins", "I", false)
def tyX2 : Nat → FieldType := fun k => match k with
  | 0 => .array .int
  | 1 => .array .int
  | 2 => .array .int
  | 3 => .int
  | _ => .int
abbrev wsX20 : List Cond := u_ws RX2 TX2 5
theorem nmX2 : ∀ a, a < 5 → ∀ b, b < 5 → a ≠ b → (TX2 a).2.1 ≠ (TX2 b).2.1 := by decide +kernel
theorem tyX2_ok : ∀ k, k < 5 → parseFieldDescriptor (TX2 k).2.2.1 = some (tyX2 k) := by decide +kernel
abbrev cX2_init : ByteArray := prog_4_method_1_code
def yX2_init : MethodName := ⟨RX2, "<init>", "()V"⟩
abbrev cX2_write : ByteArray := prog_4_method_2_code
def yX2_write : MethodName := ⟨RX2, "write", "(III)V"⟩
abbrev cX2_grow : ByteArray := prog_4_method_3_code
def yX2_grow : MethodName := ⟨RX2, "grow", "()V"⟩
def RX3 : String := "ScaleHouse$Log"
def TX3 : u_T := fun k => match k with
  | 0 => ("ScaleHouse$Log", "owner", "I", true)
  | 1 => ("ScaleHouse$Log", "stick", "I", true)
  | 2 => ("ScaleHouse$Log", "read", "I", true)
  | 3 => ("ScaleHouse$Log", "length", "I", true)
  | 4 => ("ScaleHouse$Log", "day", "I", true)
  | 5 => ("ScaleHouse$Log", "rot", "I", false)
  | 6 => ("ScaleHouse$Log", "bend", "I", false)
  | 7 => ("ScaleHouse$Log", "checked", "I", false)
  | _ => ("ScaleHouse$Log", "booked", "I", false)
def tyX3 : Nat → FieldType := fun k => match k with
  | 0 => .int
  | 1 => .int
  | 2 => .int
  | 3 => .int
  | 4 => .int
  | 5 => .int
  | 6 => .int
  | 7 => .int
  | _ => .int
abbrev wsX30 : List Cond := u_ws RX3 TX3 9
theorem nmX3 : ∀ a, a < 9 → ∀ b, b < 9 → a ≠ b → (TX3 a).2.1 ≠ (TX3 b).2.1 := by decide +kernel
theorem tyX3_ok : ∀ k, k < 9 → parseFieldDescriptor (TX3 k).2.2.1 = some (tyX3 k) := by decide +kernel
abbrev cX3_init : ByteArray := prog_5_method_1_code
def yX3_init : MethodName := ⟨RX3, "<init>", "(IIIII)V"⟩
def RX4 : String := "ScaleHouse$Pairing"
def TX4 : u_T := fun k => match k with
  | 0 => ("ScaleHouse$Pairing", "buyer", "LScaleHouse$Tally;", true)
  | 1 => ("ScaleHouse$Pairing", "seller", "LScaleHouse$Tally;", true)
  | 2 => ("ScaleHouse$Pairing", "sellerOf", "[I", true)
  | 3 => ("ScaleHouse$Pairing", "buyerOf", "[I", true)
  | 4 => ("ScaleHouse$Pairing", "agreeing", "[I", true)
  | 5 => ("ScaleHouse$Pairing", "reachedFrom", "[I", true)
  | 6 => ("ScaleHouse$Pairing", "waiting", "[I", true)
  | 7 => ("ScaleHouse$Pairing", "td", "I", false)
  | 8 => ("ScaleHouse$Pairing", "tl", "I", false)
  | 9 => ("ScaleHouse$Pairing", "found", "I", false)
  | _ => ("ScaleHouse$Pairing", "settled", "Z", false)
def tyX4 : Nat → FieldType := fun k => match k with
  | 0 => .object "ScaleHouse$Tally"
  | 1 => .object "ScaleHouse$Tally"
  | 2 => .array .int
  | 3 => .array .int
  | 4 => .array .int
  | 5 => .array .int
  | 6 => .array .int
  | 7 => .int
  | 8 => .int
  | 9 => .int
  | _ => .boolean
abbrev wsX40 : List Cond := u_ws RX4 TX4 11
theorem nmX4 : ∀ a, a < 11 → ∀ b, b < 11 → a ≠ b → (TX4 a).2.1 ≠ (TX4 b).2.1 := by decide +kernel
theorem tyX4_ok : ∀ k, k < 11 → parseFieldDescriptor (TX4 k).2.2.1 = some (tyX4 k) := by decide +kernel
abbrev cX4_init : ByteArray := prog_6_method_1_code
def yX4_init : MethodName := ⟨RX4, "<init>", "()V"⟩
abbrev cX4_addRow : ByteArray := prog_6_method_2_code
def yX4_addRow : MethodName := ⟨RX4, "addRow", "(III)I"⟩
abbrev cX4_removeRows : ByteArray := prog_6_method_3_code
def yX4_removeRows : MethodName := ⟨RX4, "removeRows", "()V"⟩
abbrev cX4_setApart : ByteArray := prog_6_method_4_code
def yX4_setApart : MethodName := ⟨RX4, "setApart", "(II)V"⟩
abbrev cX4_settle : ByteArray := prog_6_method_5_code
def yX4_settle : MethodName := ⟨RX4, "settle", "()V"⟩
abbrev cX4_compareRows : ByteArray := prog_6_method_6_code
def yX4_compareRows : MethodName := ⟨RX4, "compareRows", "()V"⟩
abbrev cX4_findAsManyAsCanBe : ByteArray := prog_6_method_7_code
def yX4_findAsManyAsCanBe : MethodName := ⟨RX4, "findAsManyAsCanBe", "()V"⟩
abbrev cX4_takeLowest : ByteArray := prog_6_method_8_code
def yX4_takeLowest : MethodName := ⟨RX4, "takeLowest", "(I)V"⟩
abbrev cX4_isKept : ByteArray := prog_6_method_9_code
def yX4_isKept : MethodName := ⟨RX4, "isKept", "(II)Z"⟩
abbrev cX4_moveTo : ByteArray := prog_6_method_10_code
def yX4_moveTo : MethodName := ⟨RX4, "moveTo", "(II)Z"⟩
abbrev cX4_join : ByteArray := prog_6_method_11_code
def yX4_join : MethodName := ⟨RX4, "join", "(II)V"⟩
abbrev cX4_pairOneMore : ByteArray := prog_6_method_12_code
def yX4_pairOneMore : MethodName := ⟨RX4, "pairOneMore", "(I)Z"⟩
abbrev cX4_joinBackFrom : ByteArray := prog_6_method_13_code
def yX4_joinBackFrom : MethodName := ⟨RX4, "joinBackFrom", "(I)V"⟩
def RX5 : String := "ScaleHouse$Reckoner"
def TX5 : u_T := fun k => match k with
  | 0 => ("ScaleHouse$Reckoner", "sums", "[J", true)
  | 1 => ("ScaleHouse$Reckoner", "products", "[J", true)
  | 2 => ("ScaleHouse$Reckoner", "sumSigns", "[I", true)
  | 3 => ("ScaleHouse$Reckoner", "productSigns", "[I", true)
  | _ => ("ScaleHouse$Reckoner", "depth", "I", false)
def tyX5 : Nat → FieldType := fun k => match k with
  | 0 => .array .long
  | 1 => .array .long
  | 2 => .array .int
  | 3 => .array .int
  | _ => .int
abbrev wsX50 : List Cond := u_ws RX5 TX5 5
theorem nmX5 : ∀ a, a < 5 → ∀ b, b < 5 → a ≠ b → (TX5 a).2.1 ≠ (TX5 b).2.1 := by decide +kernel
theorem tyX5_ok : ∀ k, k < 5 → parseFieldDescriptor (TX5 k).2.2.1 = some (tyX5 k) := by decide +kernel
abbrev cX5_init : ByteArray := prog_7_method_1_code
def yX5_init : MethodName := ⟨RX5, "<init>", "()V"⟩
abbrev cX5_reckon : ByteArray := prog_7_method_2_code
def yX5_reckon : MethodName := ⟨RX5, "reckon", "([III)J"⟩
abbrev cX5_begin : ByteArray := prog_7_method_3_code
def yX5_begin : MethodName := ⟨RX5, "begin", "()V"⟩
abbrev cX5_beginProduct : ByteArray := prog_7_method_4_code
def yX5_beginProduct : MethodName := ⟨RX5, "beginProduct", "()V"⟩
abbrev cX5_takeFactor : ByteArray := prog_7_method_5_code
def yX5_takeFactor : MethodName := ⟨RX5, "takeFactor", "(J)V"⟩
abbrev cX5_wholeSum : ByteArray := prog_7_method_6_code
def yX5_wholeSum : MethodName := ⟨RX5, "wholeSum", "()J"⟩
abbrev cX5_bounded : ByteArray := prog_7_method_7_code
def yX5_bounded : MethodName := ⟨RX5, "bounded", "(J)J"⟩
def RX6 : String := "ScaleHouse$Register"
def TX6 : u_T := fun k => match k with
  | 0 => ("ScaleHouse$Register", "names", "[I", true)
  | 1 => ("ScaleHouse$Register", "froms", "[I", true)
  | 2 => ("ScaleHouse$Register", "tolds", "[I", true)
  | _ => ("ScaleHouse$Register", "size", "I", false)
def tyX6 : Nat → FieldType := fun k => match k with
  | 0 => .array .int
  | 1 => .array .int
  | 2 => .array .int
  | _ => .int
abbrev wsX60 : List Cond := u_ws RX6 TX6 4
theorem nmX6 : ∀ a, a < 4 → ∀ b, b < 4 → a ≠ b → (TX6 a).2.1 ≠ (TX6 b).2.1 := by decide +kernel
theorem tyX6_ok : ∀ k, k < 4 → parseFieldDescriptor (TX6 k).2.2.1 = some (tyX6 k) := by decide +kernel
abbrev cX6_init : ByteArray := prog_8_method_1_code
def yX6_init : MethodName := ⟨RX6, "<init>", "(I)V"⟩
abbrev cX6_isFull : ByteArray := prog_8_method_2_code
def yX6_isFull : MethodName := ⟨RX6, "isFull", "()Z"⟩
abbrev cX6_enter : ByteArray := prog_8_method_3_code
def yX6_enter : MethodName := ⟨RX6, "enter", "(III)I"⟩
abbrev cX6_inForce : ByteArray := prog_8_method_4_code
def yX6_inForce : MethodName := ⟨RX6, "inForce", "(III)I"⟩
def RX7 : String := "ScaleHouse$Tally"
def TX7 : u_T := fun k => match k with
  | 0 => ("ScaleHouse$Tally", "ds", "[I", true)
  | 1 => ("ScaleHouse$Tally", "ls", "[I", true)
  | _ => ("ScaleHouse$Tally", "size", "I", false)
def tyX7 : Nat → FieldType := fun k => match k with
  | 0 => .array .int
  | 1 => .array .int
  | _ => .int
abbrev wsX70 : List Cond := u_ws RX7 TX7 3
theorem nmX7 : ∀ a, a < 3 → ∀ b, b < 3 → a ≠ b → (TX7 a).2.1 ≠ (TX7 b).2.1 := by decide +kernel
theorem tyX7_ok : ∀ k, k < 3 → parseFieldDescriptor (TX7 k).2.2.1 = some (tyX7 k) := by decide +kernel
abbrev cX7_init : ByteArray := prog_9_method_1_code
def yX7_init : MethodName := ⟨RX7, "<init>", "()V"⟩
abbrev cX7_add : ByteArray := prog_9_method_2_code
def yX7_add : MethodName := ⟨RX7, "add", "(II)I"⟩
def RX8 : String := "ScaleHouse$Tape"
def TX8 : u_T := fun k => match k with
  | 0 => ("ScaleHouse$Tape", "bytes", "[I", true)
  | _ => ("ScaleHouse$Tape", "size", "I", false)
def tyX8 : Nat → FieldType := fun k => match k with
  | 0 => .array .int
  | _ => .int
abbrev wsX80 : List Cond := u_ws RX8 TX8 2
theorem nmX8 : ∀ a, a < 2 → ∀ b, b < 2 → a ≠ b → (TX8 a).2.1 ≠ (TX8 b).2.1 := by decide +kernel
theorem tyX8_ok : ∀ k, k < 2 → parseFieldDescriptor (TX8 k).2.2.1 = some (tyX8 k) := by decide +kernel
abbrev cX8_init : ByteArray := prog_10_method_1_code
def yX8_init : MethodName := ⟨RX8, "<init>", "()V"⟩
abbrev cX8_bytesIn : ByteArray := prog_10_method_2_code
def yX8_bytesIn : MethodName := ⟨RX8, "bytesIn", "(I)I"⟩
abbrev cX8_append : ByteArray := prog_10_method_3_code
def yX8_append : MethodName := ⟨RX8, "append", "(I)V"⟩
abbrev cX8_firstFault : ByteArray := prog_10_method_4_code
def yX8_firstFault : MethodName := ⟨RX8, "firstFault", "()I"⟩
abbrev cX8_fits : ByteArray := prog_10_method_5_code
def yX8_fits : MethodName := ⟨RX8, "fits", "(IZI)Z"⟩
abbrev cX8_tokens : ByteArray := prog_10_method_6_code
def yX8_tokens : MethodName := ⟨RX8, "tokens", "()[I"⟩
abbrev cX8_isDigit : ByteArray := prog_10_method_7_code
def yX8_isDigit : MethodName := ⟨RX8, "isDigit", "(I)Z"⟩
def RX9 : String := "ScaleHouse"
def TX9 : u_T := fun k => match k with
  | 0 => ("ScaleHouse", "tape", "LScaleHouse$Tape;", true)
  | 1 => ("ScaleHouse", "reckoner", "LScaleHouse$Reckoner;", true)
  | 2 => ("ScaleHouse", "lawDays", "LScaleHouse$Register;", true)
  | 3 => ("ScaleHouse", "laws", "[LScaleHouse$Law;", true)
  | 4 => ("ScaleHouse", "errorDays", "LScaleHouse$Register;", true)
  | 5 => ("ScaleHouse", "errorParts", "[I", true)
  | 6 => ("ScaleHouse", "logs", "[LScaleHouse$Log;", true)
  | 7 => ("ScaleHouse", "prices", "[I", true)
  | 8 => ("ScaleHouse", "pays", "[I", true)
  | 9 => ("ScaleHouse", "ledger", "LScaleHouse$Ledger;", true)
  | 10 => ("ScaleHouse", "pairing", "LScaleHouse$Pairing;", true)
  | 11 => ("ScaleHouse", "court", "LScaleHouse$Court;", true)
  | 12 => ("ScaleHouse", "logCount", "I", false)
  | _ => ("ScaleHouse", "now", "I", false)
def tyX9 : Nat → FieldType := fun k => match k with
  | 0 => .object "ScaleHouse$Tape"
  | 1 => .object "ScaleHouse$Reckoner"
  | 2 => .object "ScaleHouse$Register"
  | 3 => .array (.object "ScaleHouse$Law")
  | 4 => .object "ScaleHouse$Register"
  | 5 => .array .int
  | 6 => .array (.object "ScaleHouse$Log")
  | 7 => .array .int
  | 8 => .array .int
  | 9 => .object "ScaleHouse$Ledger"
  | 10 => .object "ScaleHouse$Pairing"
  | 11 => .object "ScaleHouse$Court"
  | 12 => .int
  | _ => .int
abbrev wsX90 : List Cond := u_ws RX9 TX9 14
theorem nmX9 : ∀ a, a < 14 → ∀ b, b < 14 → a ≠ b → (TX9 a).2.1 ≠ (TX9 b).2.1 := by decide +kernel
theorem tyX9_ok : ∀ k, k < 14 → parseFieldDescriptor (TX9 k).2.2.1 = some (tyX9 k) := by decide +kernel
abbrev cX9_init : ByteArray := prog_1_method_1_code
def yX9_init : MethodName := ⟨RX9, "<init>", "()V"⟩
abbrev cX9_feed : ByteArray := prog_1_method_2_code
def yX9_feed : MethodName := ⟨RX9, "feed", "(IIIII)I"⟩
abbrev cX9_end : ByteArray := prog_1_method_3_code
def yX9_end : MethodName := ⟨RX9, "end", "(I)Z"⟩
abbrev cX9_fault : ByteArray := prog_1_method_4_code
def yX9_fault : MethodName := ⟨RX9, "fault", "()I"⟩
abbrev cX9_law : ByteArray := prog_1_method_5_code
def yX9_law : MethodName := ⟨RX9, "law", "(I)I"⟩
abbrev cX9_value : ByteArray := prog_1_method_6_code
def yX9_value : MethodName := ⟨RX9, "value", "(III)J"⟩
abbrev cX9_force : ByteArray := prog_1_method_7_code
def yX9_force : MethodName := ⟨RX9, "force", "(II)I"⟩
abbrev cX9_most : ByteArray := prog_1_method_8_code
def yX9_most : MethodName := ⟨RX9, "most", "(II)I"⟩
abbrev cX9_error : ByteArray := prog_1_method_9_code
def yX9_error : MethodName := ⟨RX9, "error", "(III)Z"⟩
abbrev cX9_log : ByteArray := prog_1_method_10_code
def yX9_log : MethodName := ⟨RX9, "log", "(IIII)I"⟩
abbrev cX9_defects : ByteArray := prog_1_method_11_code
def yX9_defects : MethodName := ⟨RX9, "defects", "(III)Z"⟩
abbrev cX9_scale : ByteArray := prog_1_method_12_code
def yX9_scale : MethodName := ⟨RX9, "scale", "(II)I"⟩
abbrev cX9_sum : ByteArray := prog_1_method_13_code
def yX9_sum : MethodName := ⟨RX9, "sum", "(II)I"⟩
abbrev cX9_price : ByteArray := prog_1_method_14_code
def yX9_price : MethodName := ⟨RX9, "price", "(II)Z"⟩
abbrev cX9_day : ByteArray := prog_1_method_15_code
def yX9_day : MethodName := ⟨RX9, "day", "()I"⟩
abbrev cX9_line : ByteArray := prog_1_method_16_code
def yX9_line : MethodName := ⟨RX9, "line", "(II)I"⟩
abbrev cX9_check : ByteArray := prog_1_method_17_code
def yX9_check : MethodName := ⟨RX9, "check", "(II)Z"⟩
abbrev cX9_habit : ByteArray := prog_1_method_18_code
def yX9_habit : MethodName := ⟨RX9, "habit", "(II)J"⟩
abbrev cX9_row : ByteArray := prog_1_method_19_code
def yX9_row : MethodName := ⟨RX9, "row", "(III)I"⟩
abbrev cX9_clear : ByteArray := prog_1_method_20_code
def yX9_clear : MethodName := ⟨RX9, "clear", "()V"⟩
abbrev cX9_allow : ByteArray := prog_1_method_21_code
def yX9_allow : MethodName := ⟨RX9, "allow", "(II)Z"⟩
abbrev cX9_pairs : ByteArray := prog_1_method_22_code
def yX9_pairs : MethodName := ⟨RX9, "pairs", "()I"⟩
abbrev cX9_pair : ByteArray := prog_1_method_23_code
def yX9_pair : MethodName := ⟨RX9, "pair", "(I)I"⟩
abbrev cX9_near : ByteArray := prog_1_method_24_code
def yX9_near : MethodName := ⟨RX9, "near", "(I)Z"⟩
abbrev cX9_judge : ByteArray := prog_1_method_25_code
def yX9_judge : MethodName := ⟨RX9, "judge", "(III)I"⟩
abbrev cX9_count : ByteArray := prog_1_method_26_code
def yX9_count : MethodName := ⟨RX9, "count", "(I)I"⟩
abbrev cX9_within : ByteArray := prog_1_method_27_code
def yX9_within : MethodName := ⟨RX9, "within", "(III)Z"⟩
abbrev cX9_isDay : ByteArray := prog_1_method_28_code
def yX9_isDay : MethodName := ⟨RX9, "isDay", "(I)Z"⟩
abbrev cX9_isOwner : ByteArray := prog_1_method_29_code
def yX9_isOwner : MethodName := ⟨RX9, "isOwner", "(I)Z"⟩
abbrev cX9_isStick : ByteArray := prog_1_method_30_code
def yX9_isStick : MethodName := ⟨RX9, "isStick", "(I)Z"⟩
abbrev cX9_isSizeByLaw : ByteArray := prog_1_method_31_code
def yX9_isSizeByLaw : MethodName := ⟨RX9, "isSizeByLaw", "(I)Z"⟩
abbrev cX9_isScale : ByteArray := prog_1_method_32_code
def yX9_isScale : MethodName := ⟨RX9, "isScale", "(I)Z"⟩
abbrev cX9_isKnown : ByteArray := prog_1_method_33_code
def yX9_isKnown : MethodName := ⟨RX9, "isKnown", "(I)Z"⟩
abbrev cX9_isLog : ByteArray := prog_1_method_34_code
def yX9_isLog : MethodName := ⟨RX9, "isLog", "(I)Z"⟩
abbrev cX9_scaleOf : ByteArray := prog_1_method_35_code
def yX9_scaleOf : MethodName := ⟨RX9, "scaleOf", "(LScaleHouse$Log;I)I"⟩
abbrev cX9_trueD : ByteArray := prog_1_method_36_code
def yX9_trueD : MethodName := ⟨RX9, "trueD", "(LScaleHouse$Log;I)I"⟩
abbrev cX9_scaleOrNothing : ByteArray := prog_1_method_37_code
def yX9_scaleOrNothing : MethodName := ⟨RX9, "scaleOrNothing", "(LScaleHouse$Log;I)I"⟩
abbrev cX9_reckonPays : ByteArray := prog_1_method_38_code
def yX9_reckonPays : MethodName := ⟨RX9, "reckonPays", "()I"⟩
abbrev cX9_bookPays : ByteArray := prog_1_method_39_code
def yX9_bookPays : MethodName := ⟨RX9, "bookPays", "()V"⟩
abbrev cX9_commonDivisor : ByteArray := prog_1_method_40_code
def yX9_commonDivisor : MethodName := ⟨RX9, "commonDivisor", "(JJ)J"⟩
def RX10 : String := "ScaleHouseModel"
def TX10 : u_T := fun k => match k with
  | 0 => ("ScaleHouseModel", "thrown", "I", false)
  | 1 => ("ScaleHouseModel", "tape", "[B", true)
  | 2 => ("ScaleHouseModel", "lawText", "[B", true)
  | 3 => ("ScaleHouseModel", "lawLong", "[I", true)
  | 4 => ("ScaleHouseModel", "lawFrom", "[I", true)
  | 5 => ("ScaleHouseModel", "lawTold", "[I", true)
  | 6 => ("ScaleHouseModel", "errorStick", "[I", true)
  | 7 => ("ScaleHouseModel", "errorParts", "[I", true)
  | 8 => ("ScaleHouseModel", "errorFrom", "[I", true)
  | 9 => ("ScaleHouseModel", "errorTold", "[I", true)
  | 10 => ("ScaleHouseModel", "logOwner", "[I", true)
  | 11 => ("ScaleHouseModel", "logStick", "[I", true)
  | 12 => ("ScaleHouseModel", "logRead", "[I", true)
  | 13 => ("ScaleHouseModel", "logLong", "[I", true)
  | 14 => ("ScaleHouseModel", "logDay", "[I", true)
  | 15 => ("ScaleHouseModel", "rot", "[I", true)
  | 16 => ("ScaleHouseModel", "bend", "[I", true)
  | 17 => ("ScaleHouseModel", "booked", "[I", true)
  | 18 => ("ScaleHouseModel", "check", "[I", true)
  | 19 => ("ScaleHouseModel", "price", "[I", true)
  | 20 => ("ScaleHouseModel", "lineDay", "[I", true)
  | 21 => ("ScaleHouseModel", "lineLog", "[I", true)
  | 22 => ("ScaleHouseModel", "lineCoins", "[I", true)
  | 23 => ("ScaleHouseModel", "length", "I", false)
  | 24 => ("ScaleHouseModel", "now", "I", false)
  | 25 => ("ScaleHouseModel", "laws", "I", false)
  | 26 => ("ScaleHouseModel", "errors", "I", false)
  | 27 => ("ScaleHouseModel", "logs", "I", false)
  | 28 => ("ScaleHouseModel", "lines", "I", false)
  | 29 => ("ScaleHouseModel", "coins", "I", false)
  | 30 => ("ScaleHouseModel", "row", "[B", false)
  | 31 => ("ScaleHouseModel", "rowFrom", "I", false)
  | 32 => ("ScaleHouseModel", "rowLong", "I", false)
  | 33 => ("ScaleHouseModel", "at", "I", false)
  | 34 => ("ScaleHouseModel", "fault", "I", false)
  | 35 => ("ScaleHouseModel", "open", "I", false)
  | 36 => ("ScaleHouseModel", "givenD", "J", false)
  | 37 => ("ScaleHouseModel", "givenL", "J", false)
  | 38 => ("ScaleHouseModel", "rowD", "[I", true)
  | 39 => ("ScaleHouseModel", "rowL", "[I", true)
  | 40 => ("ScaleHouseModel", "rows", "[I", true)
  | 41 => ("ScaleHouseModel", "has", "[I", true)
  | 42 => ("ScaleHouseModel", "isTaken", "[Z", true)
  | 43 => ("ScaleHouseModel", "isTried", "[Z", true)
  | 44 => ("ScaleHouseModel", "farD", "I", false)
  | 45 => ("ScaleHouseModel", "farL", "I", false)
  | 46 => ("ScaleHouseModel", "allowance", "I", false)
  | 47 => ("ScaleHouseModel", "stood", "I", false)
  | 48 => ("ScaleHouseModel", "buyerOff", "I", false)
  | _ => ("ScaleHouseModel", "sellerOff", "I", false)
def tyX10 : Nat → FieldType := fun k => match k with
  | 0 => .int
  | 1 => .array .byte
  | 2 => .array .byte
  | 3 => .array .int
  | 4 => .array .int
  | 5 => .array .int
  | 6 => .array .int
  | 7 => .array .int
  | 8 => .array .int
  | 9 => .array .int
  | 10 => .array .int
  | 11 => .array .int
  | 12 => .array .int
  | 13 => .array .int
  | 14 => .array .int
  | 15 => .array .int
  | 16 => .array .int
  | 17 => .array .int
  | 18 => .array .int
  | 19 => .array .int
  | 20 => .array .int
  | 21 => .array .int
  | 22 => .array .int
  | 23 => .int
  | 24 => .int
  | 25 => .int
  | 26 => .int
  | 27 => .int
  | 28 => .int
  | 29 => .int
  | 30 => .array .byte
  | 31 => .int
  | 32 => .int
  | 33 => .int
  | 34 => .int
  | 35 => .int
  | 36 => .long
  | 37 => .long
  | 38 => .array .int
  | 39 => .array .int
  | 40 => .array .int
  | 41 => .array .int
  | 42 => .array .boolean
  | 43 => .array .boolean
  | 44 => .int
  | 45 => .int
  | 46 => .int
  | 47 => .int
  | 48 => .int
  | _ => .int
abbrev wsX100 : List Cond := u_ws RX10 TX10 50
theorem nmX10 : ∀ a, a < 50 → ∀ b, b < 50 → a ≠ b → (TX10 a).2.1 ≠ (TX10 b).2.1 := by decide +kernel
theorem tyX10_ok : ∀ k, k < 50 → parseFieldDescriptor (TX10 k).2.2.1 = some (tyX10 k) := by decide +kernel
abbrev cX10_init : ByteArray := prog_12_method_1_code
def yX10_init : MethodName := ⟨RX10, "<init>", "()V"⟩
abbrev cX10_thrown : ByteArray := prog_12_method_2_code
def yX10_thrown : MethodName := ⟨RX10, "thrown", "()I"⟩
abbrev cX10_isIn : ByteArray := prog_12_method_3_code
def yX10_isIn : MethodName := ⟨RX10, "isIn", "(III)Z"⟩
abbrev cX10_bytesIn : ByteArray := prog_12_method_4_code
def yX10_bytesIn : MethodName := ⟨RX10, "bytesIn", "(I)I"⟩
abbrev cX10_put : ByteArray := prog_12_method_5_code
def yX10_put : MethodName := ⟨RX10, "put", "(I)V"⟩
abbrev cX10_feed : ByteArray := prog_12_method_6_code
def yX10_feed : MethodName := ⟨RX10, "feed", "(IIIII)I"⟩
abbrev cX10_end : ByteArray := prog_12_method_7_code
def yX10_end : MethodName := ⟨RX10, "end", "(I)Z"⟩
abbrev cX10_look : ByteArray := prog_12_method_8_code
def yX10_look : MethodName := ⟨RX10, "look", "()I"⟩
abbrev cX10_wrong : ByteArray := prog_12_method_9_code
def yX10_wrong : MethodName := ⟨RX10, "wrong", "()J"⟩
abbrev cX10_bound : ByteArray := prog_12_method_10_code
def yX10_bound : MethodName := ⟨RX10, "bound", "(J)J"⟩
abbrev cX10_isDigit : ByteArray := prog_12_method_11_code
def yX10_isDigit : MethodName := ⟨RX10, "isDigit", "()Z"⟩
abbrev cX10_factor : ByteArray := prog_12_method_12_code
def yX10_factor : MethodName := ⟨RX10, "factor", "()J"⟩
abbrev cX10_product : ByteArray := prog_12_method_13_code
def yX10_product : MethodName := ⟨RX10, "product", "()J"⟩
abbrev cX10_sums : ByteArray := prog_12_method_14_code
def yX10_sums : MethodName := ⟨RX10, "sums", "()J"⟩
abbrev cX10_goThrough : ByteArray := prog_12_method_15_code
def yX10_goThrough : MethodName := ⟨RX10, "goThrough", "([BIIII)J"⟩
abbrev cX10_fault : ByteArray := prog_12_method_16_code
def yX10_fault : MethodName := ⟨RX10, "fault", "()I"⟩
abbrev cX10_isLaterDay : ByteArray := prog_12_method_17_code
def yX10_isLaterDay : MethodName := ⟨RX10, "isLaterDay", "(I)Z"⟩
abbrev cX10_law : ByteArray := prog_12_method_18_code
def yX10_law : MethodName := ⟨RX10, "law", "(I)I"⟩
abbrev cX10_lawValue : ByteArray := prog_12_method_19_code
def yX10_lawValue : MethodName := ⟨RX10, "lawValue", "(III)J"⟩
abbrev cX10_value : ByteArray := prog_12_method_20_code
def yX10_value : MethodName := ⟨RX10, "value", "(III)J"⟩
abbrev cX10_inForce : ByteArray := prog_12_method_21_code
def yX10_inForce : MethodName := ⟨RX10, "inForce", "(II)I"⟩
abbrev cX10_isKnown : ByteArray := prog_12_method_22_code
def yX10_isKnown : MethodName := ⟨RX10, "isKnown", "(I)Z"⟩
abbrev cX10_force : ByteArray := prog_12_method_23_code
def yX10_force : MethodName := ⟨RX10, "force", "(II)I"⟩
abbrev cX10_most : ByteArray := prog_12_method_24_code
def yX10_most : MethodName := ⟨RX10, "most", "(II)I"⟩
abbrev cX10_error : ByteArray := prog_12_method_25_code
def yX10_error : MethodName := ⟨RX10, "error", "(III)Z"⟩
abbrev cX10_errorOn : ByteArray := prog_12_method_26_code
def yX10_errorOn : MethodName := ⟨RX10, "errorOn", "(III)I"⟩
abbrev cX10_log : ByteArray := prog_12_method_27_code
def yX10_log : MethodName := ⟨RX10, "log", "(IIII)I"⟩
abbrev cX10_isLog : ByteArray := prog_12_method_28_code
def yX10_isLog : MethodName := ⟨RX10, "isLog", "(I)Z"⟩
abbrev cX10_defects : ByteArray := prog_12_method_29_code
def yX10_defects : MethodName := ⟨RX10, "defects", "(III)Z"⟩
abbrev cX10_scaleOf : ByteArray := prog_12_method_30_code
def yX10_scaleOf : MethodName := ⟨RX10, "scaleOf", "(II)I"⟩
abbrev cX10_scale : ByteArray := prog_12_method_31_code
def yX10_scale : MethodName := ⟨RX10, "scale", "(II)I"⟩
abbrev cX10_sum : ByteArray := prog_12_method_32_code
def yX10_sum : MethodName := ⟨RX10, "sum", "(II)I"⟩
abbrev cX10_price : ByteArray := prog_12_method_33_code
def yX10_price : MethodName := ⟨RX10, "price", "(II)Z"⟩
abbrev cX10_payOf : ByteArray := prog_12_method_34_code
def yX10_payOf : MethodName := ⟨RX10, "payOf", "(I)I"⟩
abbrev cX10_day : ByteArray := prog_12_method_35_code
def yX10_day : MethodName := ⟨RX10, "day", "()I"⟩
abbrev cX10_line : ByteArray := prog_12_method_36_code
def yX10_line : MethodName := ⟨RX10, "line", "(II)I"⟩
abbrev cX10_check : ByteArray := prog_12_method_37_code
def yX10_check : MethodName := ⟨RX10, "check", "(II)Z"⟩
abbrev cX10_habit : ByteArray := prog_12_method_38_code
def yX10_habit : MethodName := ⟨RX10, "habit", "(II)J"⟩
abbrev cX10_row : ByteArray := prog_12_method_39_code
def yX10_row : MethodName := ⟨RX10, "row", "(III)I"⟩
abbrev cX10_clear : ByteArray := prog_12_method_40_code
def yX10_clear : MethodName := ⟨RX10, "clear", "()V"⟩
abbrev cX10_allow : ByteArray := prog_12_method_41_code
def yX10_allow : MethodName := ⟨RX10, "allow", "(II)Z"⟩
abbrev cX10_agree : ByteArray := prog_12_method_42_code
def yX10_agree : MethodName := ⟨RX10, "agree", "(II)Z"⟩
abbrev cX10_finds : ByteArray := prog_12_method_43_code
def yX10_finds : MethodName := ⟨RX10, "finds", "(I)Z"⟩
abbrev cX10_mostFrom : ByteArray := prog_12_method_44_code
def yX10_mostFrom : MethodName := ⟨RX10, "mostFrom", "(I)I"⟩
abbrev cX10_free : ByteArray := prog_12_method_45_code
def yX10_free : MethodName := ⟨RX10, "free", "()V"⟩
abbrev cX10_pairs : ByteArray := prog_12_method_46_code
def yX10_pairs : MethodName := ⟨RX10, "pairs", "()I"⟩
abbrev cX10_pair : ByteArray := prog_12_method_47_code
def yX10_pair : MethodName := ⟨RX10, "pair", "(I)I"⟩
abbrev cX10_near : ByteArray := prog_12_method_48_code
def yX10_near : MethodName := ⟨RX10, "near", "(I)Z"⟩
abbrev cX10_isNear : ByteArray := prog_12_method_49_code
def yX10_isNear : MethodName := ⟨RX10, "isNear", "(II)Z"⟩
abbrev cX10_judge : ByteArray := prog_12_method_50_code
def yX10_judge : MethodName := ⟨RX10, "judge", "(III)I"⟩
abbrev cX10_count : ByteArray := prog_12_method_51_code
def yX10_count : MethodName := ⟨RX10, "count", "(I)I"⟩
def RJx8e188 : String := "java/lang/Cloneable"
def TJx8e188 : u_T := fun k => match k with
  | _ => ("", "", "", false)
def tyJx8e188 : Nat → FieldType := fun k => match k with
  | _ => .int
abbrev wsJx8e1880 : List Cond := u_ws RJx8e188 TJx8e188 0
theorem nmJx8e188 : ∀ a, a < 0 → ∀ b, b < 0 → a ≠ b → (TJx8e188 a).2.1 ≠ (TJx8e188 b).2.1 := by decide +kernel
theorem tyJx8e188_ok : ∀ k, k < 0 → parseFieldDescriptor (TJx8e188 k).2.2.1 = some (tyJx8e188 k) := by decide +kernel
def RJ9 : String := "java/lang/Math"
def TJ9 : u_T := fun k => match k with
  | _ => ("", "", "", false)
def tyJ9 : Nat → FieldType := fun k => match k with
  | _ => .int
abbrev wsJ90 : List Cond := u_ws RJ9 TJ9 0
theorem nmJ9 : ∀ a, a < 0 → ∀ b, b < 0 → a ≠ b → (TJ9 a).2.1 ≠ (TJ9 b).2.1 := by decide +kernel
theorem tyJ9_ok : ∀ k, k < 0 → parseFieldDescriptor (TJ9 k).2.2.1 = some (tyJ9 k) := by decide +kernel
abbrev cJ9_floorDiv_f86c9 : ByteArray := prog_15_method_49_code
def yJ9_floorDiv_f86c9 : MethodName := ⟨RJ9, "floorDiv", "(JJ)J"⟩
abbrev cJ9_abs_0f7a4 : ByteArray := prog_15_method_59_code
def yJ9_abs_0f7a4 : MethodName := ⟨RJ9, "abs", "(I)I"⟩
abbrev cJ9_max_7cf53 : ByteArray := prog_15_method_65_code
def yJ9_max_7cf53 : MethodName := ⟨RJ9, "max", "(II)I"⟩
abbrev cJ9_max_f86c9 : ByteArray := prog_15_method_66_code
def yJ9_max_f86c9 : MethodName := ⟨RJ9, "max", "(JJ)J"⟩
abbrev cJ9_min_7cf53 : ByteArray := prog_15_method_69_code
def yJ9_min_7cf53 : MethodName := ⟨RJ9, "min", "(II)I"⟩
abbrev cJ9_min_f86c9 : ByteArray := prog_15_method_70_code
def yJ9_min_f86c9 : MethodName := ⟨RJ9, "min", "(JJ)J"⟩
def RJ10 : String := "java/lang/System"
def TJ10 : u_T := fun k => match k with
  | _ => ("", "", "", false)
def tyJ10 : Nat → FieldType := fun k => match k with
  | _ => .int
abbrev wsJ100 : List Cond := u_ws RJ10 TJ10 0
theorem nmJ10 : ∀ a, a < 0 → ∀ b, b < 0 → a ≠ b → (TJ10 a).2.1 ≠ (TJ10 b).2.1 := by decide +kernel
theorem tyJ10_ok : ∀ k, k < 0 → parseFieldDescriptor (TJ10 k).2.2.1 = some (tyJ10 k) := by decide +kernel
def RJ7 : String := "java/util/Arrays"
def TJ7 : u_T := fun k => match k with
  | _ => ("", "", "", false)
def tyJ7 : Nat → FieldType := fun k => match k with
  | _ => .int
abbrev wsJ70 : List Cond := u_ws RJ7 TJ7 0
theorem nmJ7 : ∀ a, a < 0 → ∀ b, b < 0 → a ≠ b → (TJ7 a).2.1 ≠ (TJ7 b).2.1 := by decide +kernel
theorem tyJ7_ok : ∀ k, k < 0 → parseFieldDescriptor (TJ7 k).2.2.1 = some (tyJ7 k) := by decide +kernel
abbrev cJ7_fill_53178 : ByteArray := prog_19_method_103_code
def yJ7_fill_53178 : MethodName := ⟨RJ7, "fill", "([II)V"⟩
abbrev cJ7_copyOf_59c91 : ByteArray := prog_19_method_123_code
def yJ7_copyOf_59c91 : MethodName := ⟨RJ7, "copyOf", "([II)[I"⟩
def RL : String := "ScaleHouseLaw"
abbrev cL_value : ByteArray := method_3_code
def yL_value : MethodName := ⟨RL, "value", "(LScaleHouse;III[J)I"⟩
abbrev cL_law : ByteArray := code
def yL_law : MethodName := ⟨RL, "law", "([I)Z"⟩
def wsX0_init : List Cond := .code yX0_init cX0_init 1 none :: ([.methodLink RX0 3 objectInit, .instanceMethod objectInit, .code objectInit ⟨#[0xb1]⟩ 1 none, .fieldLink RX0 9 "ScaleHouse$Court" "allowance" "I", .fieldLink RX0 15 "ScaleHouse$Court" "stood" "I", .fieldLink RX0 18 "ScaleHouse$Court" "buyerOff" "I", .fieldLink RX0 21 "ScaleHouse$Court" "sellerOff" "I"] ++ wsX00)
def wsX0_isNear : List Cond := .code yX0_isNear cX0_isNear 3 (some .boolean) :: ([.methodLink RX0 28 Lib.Math.abs.name, .static Lib.Math.abs.name, .initialized "java/lang/Math", .code Lib.Math.abs.name Lib.Math.abs.code 1 (some .int), .fieldLink RX0 9 "ScaleHouse$Court" "allowance" "I"] ++ wsX00)
def wsX0_decide : List Cond := .code yX0_decide cX0_decide 6 (some .int) :: ([.fieldLink RX0 18 "ScaleHouse$Court" "buyerOff" "I", .fieldLink RX0 21 "ScaleHouse$Court" "sellerOff" "I", .fieldLink RX0 15 "ScaleHouse$Court" "stood" "I", .methodLink RX0 24 yX0_isNear, .instanceMethod yX0_isNear, .selects RX0 yX0_isNear yX0_isNear, .initialized RX0, .code yX0_isNear cX0_isNear 3 (some .boolean), .methodLink RX0 28 Lib.Math.abs.name, .static Lib.Math.abs.name, .initialized "java/lang/Math", .code Lib.Math.abs.name Lib.Math.abs.code 1 (some .int), .fieldLink RX0 9 "ScaleHouse$Court" "allowance" "I"] ++ wsX00)
def wsX1_init : List Cond := .code yX1_init cX1_init 2 none :: ([.methodLink RX1 1 objectInit, .instanceMethod objectInit, .code objectInit ⟨#[0xb1]⟩ 1 none, .fieldLink RX1 7 "ScaleHouse$Law" "tokens" "[I"] ++ wsX10)
def wsX2_init : List Cond := .code yX2_init cX2_init 1 none :: ([.methodLink RX2 3 objectInit, .instanceMethod objectInit, .code objectInit ⟨#[0xb1]⟩ 1 none, .arrayClass .int, .fieldLink RX2 9 "ScaleHouse$Ledger" "days" "[I", .fieldLink RX2 15 "ScaleHouse$Ledger" "logs" "[I", .fieldLink RX2 18 "ScaleHouse$Ledger" "coins" "[I", .fieldLink RX2 21 "ScaleHouse$Ledger" "size" "I", .fieldLink RX2 25 "ScaleHouse$Ledger" "allCoins" "I"] ++ wsX20)
def wsJ7_copyOf_59c91 : List Cond := .code yJ7_copyOf_59c91 cJ7_copyOf_59c91 3 (some (.array .int)) :: ([.methodLink RJ7 316 ⟨"[I", "clone", "()Ljava/lang/Object;"⟩, .sameMethod "[I" "java/lang/Object" "clone" "()Ljava/lang/Object;", .native ⟨"java/lang/Object", "clone", "()Ljava/lang/Object;"⟩, .instanceMethod ⟨"java/lang/Object", "clone", "()Ljava/lang/Object;"⟩, .selects "[I" ⟨"[I", "clone", "()Ljava/lang/Object;"⟩ ⟨"java/lang/Object", "clone", "()Ljava/lang/Object;"⟩, .classLink RJ7 317 "[I", .arrayClass .int, .methodLink RJ7 304 Lib.Math.min.name, .static Lib.Math.min.name, .initialized "java/lang/Math", .code Lib.Math.min.name Lib.Math.min.code 2 (some .int), .methodLink RJ7 150 arraycopyName, .native arraycopyName, .static arraycopyName, .initialized "java/lang/System"])
def wsX2_grow : List Cond := .code yX2_grow cX2_grow 2 none :: ([.fieldLink RX2 9 "ScaleHouse$Ledger" "days" "[I", .methodLink RX2 31 Lib.Math.min.name, .static Lib.Math.min.name, .initialized "java/lang/Math", .code Lib.Math.min.name Lib.Math.min.code 2 (some .int), .fieldLink RX2 15 "ScaleHouse$Ledger" "logs" "[I", .fieldLink RX2 18 "ScaleHouse$Ledger" "coins" "[I", .methodLink RX2 37 yJ7_copyOf_59c91, .static yJ7_copyOf_59c91, .initialized RJ7, .code yJ7_copyOf_59c91 cJ7_copyOf_59c91 3 (some (.array .int)), .methodLink RJ7 316 ⟨"[I", "clone", "()Ljava/lang/Object;"⟩, .sameMethod "[I" "java/lang/Object" "clone" "()Ljava/lang/Object;", .native ⟨"java/lang/Object", "clone", "()Ljava/lang/Object;"⟩, .instanceMethod ⟨"java/lang/Object", "clone", "()Ljava/lang/Object;"⟩, .selects "[I" ⟨"[I", "clone", "()Ljava/lang/Object;"⟩ ⟨"java/lang/Object", "clone", "()Ljava/lang/Object;"⟩, .classLink RJ7 317 "[I", .arrayClass .int, .methodLink RJ7 304 Lib.Math.min.name, .methodLink RJ7 150 arraycopyName, .native arraycopyName, .static arraycopyName, .initialized "java/lang/System"] ++ wsX20)
def wsX2_write_r1 : List Cond := [Cond.fieldLink RX2 21 "ScaleHouse$Ledger" "size" "I", Cond.fieldLink RX2 9 "ScaleHouse$Ledger" "days" "[I", Cond.fieldLink RX2 15 "ScaleHouse$Ledger" "logs" "[I", Cond.fieldLink RX2 18 "ScaleHouse$Ledger" "coins" "[I", Cond.fieldLink RX2 25 "ScaleHouse$Ledger" "allCoins" "I", Cond.methodLink RX2 28 yX2_grow, Cond.instanceMethod yX2_grow, Cond.selects RX2 yX2_grow yX2_grow, Cond.initialized RX2, Cond.code yX2_grow cX2_grow 2 none, Cond.methodLink RX2 31 Lib.Math.min.name, Cond.static Lib.Math.min.name, Cond.initialized "java/lang/Math", Cond.code Lib.Math.min.name Lib.Math.min.code 2 (some .int), Cond.methodLink RX2 37 yJ7_copyOf_59c91, Cond.static yJ7_copyOf_59c91, Cond.initialized RJ7, Cond.code yJ7_copyOf_59c91 cJ7_copyOf_59c91 3 (some (.array .int)), Cond.methodLink RJ7 316 ⟨"[I", "clone", "()Ljava/lang/Object;"⟩, Cond.sameMethod "[I" "java/lang/Object" "clone" "()Ljava/lang/Object;", Cond.native ⟨"java/lang/Object", "clone", "()Ljava/lang/Object;"⟩, Cond.instanceMethod ⟨"java/lang/Object", "clone", "()Ljava/lang/Object;"⟩, Cond.selects "[I" ⟨"[I", "clone", "()Ljava/lang/Object;"⟩ ⟨"java/lang/Object", "clone", "()Ljava/lang/Object;"⟩, Cond.classLink RJ7 317 "[I"]
def wsX2_write_r2 : List Cond := [Cond.arrayClass .int, Cond.methodLink RJ7 304 Lib.Math.min.name, Cond.methodLink RJ7 150 arraycopyName, Cond.native arraycopyName, Cond.static arraycopyName, Cond.initialized "java/lang/System"]
def wsX2_write : List Cond := .code yX2_write cX2_write 4 none :: ((wsX2_write_r1 ++ wsX2_write_r2) ++ wsX20)
def wsX3_init : List Cond := .code yX3_init cX3_init 6 none :: ([.methodLink RX3 1 objectInit, .instanceMethod objectInit, .code objectInit ⟨#[0xb1]⟩ 1 none, .fieldLink RX3 7 "ScaleHouse$Log" "rot" "I", .fieldLink RX3 13 "ScaleHouse$Log" "bend" "I", .fieldLink RX3 16 "ScaleHouse$Log" "checked" "I", .fieldLink RX3 19 "ScaleHouse$Log" "booked" "I", .fieldLink RX3 22 "ScaleHouse$Log" "owner" "I", .fieldLink RX3 25 "ScaleHouse$Log" "stick" "I", .fieldLink RX3 28 "ScaleHouse$Log" "read" "I", .fieldLink RX3 31 "ScaleHouse$Log" "length" "I", .fieldLink RX3 34 "ScaleHouse$Log" "day" "I"] ++ wsX30)
def wsX7_init : List Cond := .code yX7_init cX7_init 1 none :: ([.methodLink RX7 3 objectInit, .instanceMethod objectInit, .code objectInit ⟨#[0xb1]⟩ 1 none, .arrayClass .int, .fieldLink RX7 9 "ScaleHouse$Tally" "ds" "[I", .fieldLink RX7 15 "ScaleHouse$Tally" "ls" "[I", .fieldLink RX7 18 "ScaleHouse$Tally" "size" "I"] ++ wsX70)
def wsX4_init : List Cond := .code yX4_init cX4_init 1 none :: ([.methodLink RX4 3 objectInit, .instanceMethod objectInit, .code objectInit ⟨#[0xb1]⟩ 1 none, .classLink RX4 9 RX7, .instantiable RX7 3, .initialized RX7, .fieldLink RX4 12 "ScaleHouse$Pairing" "buyer" "LScaleHouse$Tally;", .fieldLink RX4 18 "ScaleHouse$Pairing" "seller" "LScaleHouse$Tally;", .arrayClass .int, .fieldLink RX4 21 "ScaleHouse$Pairing" "sellerOf" "[I", .fieldLink RX4 25 "ScaleHouse$Pairing" "buyerOf" "[I", .fieldLink RX4 28 "ScaleHouse$Pairing" "agreeing" "[I", .fieldLink RX4 31 "ScaleHouse$Pairing" "reachedFrom" "[I", .fieldLink RX4 34 "ScaleHouse$Pairing" "waiting" "[I", .fieldLink RX4 37 "ScaleHouse$Pairing" "td" "I", .fieldLink RX4 41 "ScaleHouse$Pairing" "tl" "I", .fieldLink RX4 44 "ScaleHouse$Pairing" "found" "I", .fieldLink RX4 47 "ScaleHouse$Pairing" "settled" "Z", .instanceMethod yX7_init, .code yX7_init cX7_init 1 none, .methodLink RX7 3 objectInit, .fieldLink RX7 9 "ScaleHouse$Tally" "ds" "[I", .fieldLink RX7 15 "ScaleHouse$Tally" "ls" "[I", .fieldLink RX7 18 "ScaleHouse$Tally" "size" "I"] ++ wsX70 ++ wsX40)
def wsX7_add : List Cond := .code yX7_add cX7_add 3 (some .int) :: ([.fieldLink RX7 18 "ScaleHouse$Tally" "size" "I", .fieldLink RX7 9 "ScaleHouse$Tally" "ds" "[I", .fieldLink RX7 15 "ScaleHouse$Tally" "ls" "[I"] ++ wsX70)
def wsX4_addRow : List Cond := .code yX4_addRow cX4_addRow 4 (some .int) :: ([.fieldLink RX4 47 "ScaleHouse$Pairing" "settled" "Z", .fieldLink RX4 12 "ScaleHouse$Pairing" "buyer" "LScaleHouse$Tally;", .fieldLink RX4 18 "ScaleHouse$Pairing" "seller" "LScaleHouse$Tally;", .methodLink RX4 51 yX7_add, .instanceMethod yX7_add, .selects RX7 yX7_add yX7_add, .initialized RX7, .code yX7_add cX7_add 3 (some .int), .fieldLink RX7 18 "ScaleHouse$Tally" "size" "I", .fieldLink RX7 9 "ScaleHouse$Tally" "ds" "[I", .fieldLink RX7 15 "ScaleHouse$Tally" "ls" "[I"] ++ wsX40 ++ wsX70)
def wsX4_removeRows : List Cond := .code yX4_removeRows cX4_removeRows 1 none :: ([.fieldLink RX4 47 "ScaleHouse$Pairing" "settled" "Z", .fieldLink RX4 12 "ScaleHouse$Pairing" "buyer" "LScaleHouse$Tally;", .fieldLink RX4 18 "ScaleHouse$Pairing" "seller" "LScaleHouse$Tally;"] ++ wsX40 ++ wsX70)
def wsX4_setApart : List Cond := .code yX4_setApart cX4_setApart 3 none :: ([.fieldLink RX4 47 "ScaleHouse$Pairing" "settled" "Z", .fieldLink RX4 37 "ScaleHouse$Pairing" "td" "I", .fieldLink RX4 41 "ScaleHouse$Pairing" "tl" "I"] ++ wsX40)
def wsX4_compareRows : List Cond := .code yX4_compareRows cX4_compareRows 3 none :: ([.fieldLink RX4 12 "ScaleHouse$Pairing" "buyer" "LScaleHouse$Tally;", .fieldLink RX4 28 "ScaleHouse$Pairing" "agreeing" "[I", .fieldLink RX4 18 "ScaleHouse$Pairing" "seller" "LScaleHouse$Tally;", .methodLink RX4 71 Lib.Math.abs.name, .static Lib.Math.abs.name, .initialized "java/lang/Math", .code Lib.Math.abs.name Lib.Math.abs.code 1 (some .int), .fieldLink RX4 37 "ScaleHouse$Pairing" "td" "I", .fieldLink RX4 41 "ScaleHouse$Pairing" "tl" "I"] ++ wsX40 ++ wsX70)
def wsJ7_fill_53178 : List Cond := .code yJ7_fill_53178 cJ7_fill_53178 4 none :: ([])
def wsX4_isKept : List Cond := .code yX4_isKept cX4_isKept 3 (some .boolean) :: ([.fieldLink RX4 25 "ScaleHouse$Pairing" "buyerOf" "[I"] ++ wsX40)
def wsX4_join : List Cond := .code yX4_join cX4_join 3 none :: ([.fieldLink RX4 21 "ScaleHouse$Pairing" "sellerOf" "[I", .fieldLink RX4 25 "ScaleHouse$Pairing" "buyerOf" "[I"] ++ wsX40)
def wsX4_joinBackFrom : List Cond := .code yX4_joinBackFrom cX4_joinBackFrom 6 none :: ([.fieldLink RX4 31 "ScaleHouse$Pairing" "reachedFrom" "[I", .fieldLink RX4 21 "ScaleHouse$Pairing" "sellerOf" "[I", .methodLink RX4 97 yX4_join, .instanceMethod yX4_join, .selects RX4 yX4_join yX4_join, .initialized RX4, .code yX4_join cX4_join 3 none, .fieldLink RX4 25 "ScaleHouse$Pairing" "buyerOf" "[I"] ++ wsX40)
def wsX4_pairOneMore : List Cond := .code yX4_pairOneMore cX4_pairOneMore 7 (some .boolean) :: ([.fieldLink RX4 31 "ScaleHouse$Pairing" "reachedFrom" "[I", .fieldLink RX4 12 "ScaleHouse$Pairing" "buyer" "LScaleHouse$Tally;", .fieldLink RX4 21 "ScaleHouse$Pairing" "sellerOf" "[I", .fieldLink RX4 34 "ScaleHouse$Pairing" "waiting" "[I", .fieldLink RX4 18 "ScaleHouse$Pairing" "seller" "LScaleHouse$Tally;", .fieldLink RX4 28 "ScaleHouse$Pairing" "agreeing" "[I", .fieldLink RX4 25 "ScaleHouse$Pairing" "buyerOf" "[I", .methodLink RX4 80 yJ7_fill_53178, .static yJ7_fill_53178, .initialized RJ7, .code yJ7_fill_53178 cJ7_fill_53178 4 none, .methodLink RX4 90 yX4_isKept, .instanceMethod yX4_isKept, .selects RX4 yX4_isKept yX4_isKept, .initialized RX4, .code yX4_isKept cX4_isKept 3 (some .boolean), .methodLink RX4 101 yX4_joinBackFrom, .instanceMethod yX4_joinBackFrom, .selects RX4 yX4_joinBackFrom yX4_joinBackFrom, .code yX4_joinBackFrom cX4_joinBackFrom 6 none, .methodLink RX4 97 yX4_join, .instanceMethod yX4_join, .selects RX4 yX4_join yX4_join, .code yX4_join cX4_join 3 none] ++ wsX40 ++ wsX70)
def wsX4_findAsManyAsCanBe_r1 : List Cond := [Cond.fieldLink RX4 21 "ScaleHouse$Pairing" "sellerOf" "[I", Cond.fieldLink RX4 25 "ScaleHouse$Pairing" "buyerOf" "[I", Cond.fieldLink RX4 44 "ScaleHouse$Pairing" "found" "I", Cond.methodLink RX4 80 yJ7_fill_53178, Cond.static yJ7_fill_53178, Cond.initialized RJ7, Cond.code yJ7_fill_53178 cJ7_fill_53178 4 none, Cond.methodLink RX4 86 yX4_pairOneMore, Cond.instanceMethod yX4_pairOneMore, Cond.selects RX4 yX4_pairOneMore yX4_pairOneMore, Cond.initialized RX4, Cond.code yX4_pairOneMore cX4_pairOneMore 7 (some .boolean), Cond.fieldLink RX4 31 "ScaleHouse$Pairing" "reachedFrom" "[I", Cond.fieldLink RX4 12 "ScaleHouse$Pairing" "buyer" "LScaleHouse$Tally;", Cond.fieldLink RX4 34 "ScaleHouse$Pairing" "waiting" "[I", Cond.fieldLink RX4 18 "ScaleHouse$Pairing" "seller" "LScaleHouse$Tally;", Cond.fieldLink RX4 28 "ScaleHouse$Pairing" "agreeing" "[I", Cond.methodLink RX4 90 yX4_isKept, Cond.instanceMethod yX4_isKept, Cond.selects RX4 yX4_isKept yX4_isKept, Cond.code yX4_isKept cX4_isKept 3 (some .boolean), Cond.methodLink RX4 101 yX4_joinBackFrom, Cond.instanceMethod yX4_joinBackFrom, Cond.selects RX4 yX4_joinBackFrom yX4_joinBackFrom]
def wsX4_findAsManyAsCanBe_r2 : List Cond := [Cond.code yX4_joinBackFrom cX4_joinBackFrom 6 none, Cond.methodLink RX4 97 yX4_join, Cond.instanceMethod yX4_join, Cond.selects RX4 yX4_join yX4_join, Cond.code yX4_join cX4_join 3 none]
def wsX4_findAsManyAsCanBe : List Cond := .code yX4_findAsManyAsCanBe cX4_findAsManyAsCanBe 1 none :: ((wsX4_findAsManyAsCanBe_r1 ++ wsX4_findAsManyAsCanBe_r2) ++ wsX40 ++ wsX70)
def wsX4_moveTo_r1 : List Cond := [Cond.fieldLink RX4 21 "ScaleHouse$Pairing" "sellerOf" "[I", Cond.fieldLink RX4 25 "ScaleHouse$Pairing" "buyerOf" "[I", Cond.methodLink RX4 97 yX4_join, Cond.instanceMethod yX4_join, Cond.selects RX4 yX4_join yX4_join, Cond.initialized RX4, Cond.code yX4_join cX4_join 3 none, Cond.methodLink RX4 86 yX4_pairOneMore, Cond.instanceMethod yX4_pairOneMore, Cond.selects RX4 yX4_pairOneMore yX4_pairOneMore, Cond.code yX4_pairOneMore cX4_pairOneMore 7 (some .boolean), Cond.fieldLink RX4 31 "ScaleHouse$Pairing" "reachedFrom" "[I", Cond.fieldLink RX4 12 "ScaleHouse$Pairing" "buyer" "LScaleHouse$Tally;", Cond.fieldLink RX4 34 "ScaleHouse$Pairing" "waiting" "[I", Cond.fieldLink RX4 18 "ScaleHouse$Pairing" "seller" "LScaleHouse$Tally;", Cond.fieldLink RX4 28 "ScaleHouse$Pairing" "agreeing" "[I", Cond.methodLink RX4 80 yJ7_fill_53178, Cond.static yJ7_fill_53178, Cond.initialized RJ7, Cond.code yJ7_fill_53178 cJ7_fill_53178 4 none, Cond.methodLink RX4 90 yX4_isKept, Cond.instanceMethod yX4_isKept, Cond.selects RX4 yX4_isKept yX4_isKept, Cond.code yX4_isKept cX4_isKept 3 (some .boolean)]
def wsX4_moveTo_r2 : List Cond := [Cond.methodLink RX4 101 yX4_joinBackFrom, Cond.instanceMethod yX4_joinBackFrom, Cond.selects RX4 yX4_joinBackFrom yX4_joinBackFrom, Cond.code yX4_joinBackFrom cX4_joinBackFrom 6 none]
def wsX4_moveTo : List Cond := .code yX4_moveTo cX4_moveTo 5 (some .boolean) :: ((wsX4_moveTo_r1 ++ wsX4_moveTo_r2) ++ wsX40 ++ wsX70)
def wsX4_takeLowest_r1 : List Cond := [Cond.fieldLink RX4 18 "ScaleHouse$Pairing" "seller" "LScaleHouse$Tally;", Cond.fieldLink RX4 28 "ScaleHouse$Pairing" "agreeing" "[I", Cond.methodLink RX4 90 yX4_isKept, Cond.instanceMethod yX4_isKept, Cond.selects RX4 yX4_isKept yX4_isKept, Cond.initialized RX4, Cond.code yX4_isKept cX4_isKept 3 (some .boolean), Cond.fieldLink RX4 25 "ScaleHouse$Pairing" "buyerOf" "[I", Cond.methodLink RX4 94 yX4_moveTo, Cond.instanceMethod yX4_moveTo, Cond.selects RX4 yX4_moveTo yX4_moveTo, Cond.code yX4_moveTo cX4_moveTo 5 (some .boolean), Cond.fieldLink RX4 21 "ScaleHouse$Pairing" "sellerOf" "[I", Cond.methodLink RX4 97 yX4_join, Cond.instanceMethod yX4_join, Cond.selects RX4 yX4_join yX4_join, Cond.code yX4_join cX4_join 3 none, Cond.methodLink RX4 86 yX4_pairOneMore, Cond.instanceMethod yX4_pairOneMore, Cond.selects RX4 yX4_pairOneMore yX4_pairOneMore, Cond.code yX4_pairOneMore cX4_pairOneMore 7 (some .boolean), Cond.fieldLink RX4 31 "ScaleHouse$Pairing" "reachedFrom" "[I", Cond.fieldLink RX4 12 "ScaleHouse$Pairing" "buyer" "LScaleHouse$Tally;", Cond.fieldLink RX4 34 "ScaleHouse$Pairing" "waiting" "[I"]
def wsX4_takeLowest_r2 : List Cond := [Cond.methodLink RX4 80 yJ7_fill_53178, Cond.static yJ7_fill_53178, Cond.initialized RJ7, Cond.code yJ7_fill_53178 cJ7_fill_53178 4 none, Cond.methodLink RX4 101 yX4_joinBackFrom, Cond.instanceMethod yX4_joinBackFrom, Cond.selects RX4 yX4_joinBackFrom yX4_joinBackFrom, Cond.code yX4_joinBackFrom cX4_joinBackFrom 6 none]
def wsX4_takeLowest : List Cond := .code yX4_takeLowest cX4_takeLowest 4 none :: ((wsX4_takeLowest_r1 ++ wsX4_takeLowest_r2) ++ wsX40 ++ wsX70)
def wsX4_settle_r1 : List Cond := [Cond.fieldLink RX4 47 "ScaleHouse$Pairing" "settled" "Z", Cond.fieldLink RX4 12 "ScaleHouse$Pairing" "buyer" "LScaleHouse$Tally;", Cond.methodLink RX4 58 yX4_compareRows, Cond.instanceMethod yX4_compareRows, Cond.selects RX4 yX4_compareRows yX4_compareRows, Cond.initialized RX4, Cond.code yX4_compareRows cX4_compareRows 3 none, Cond.fieldLink RX4 28 "ScaleHouse$Pairing" "agreeing" "[I", Cond.fieldLink RX4 18 "ScaleHouse$Pairing" "seller" "LScaleHouse$Tally;", Cond.methodLink RX4 71 Lib.Math.abs.name, Cond.static Lib.Math.abs.name, Cond.initialized "java/lang/Math", Cond.code Lib.Math.abs.name Lib.Math.abs.code 1 (some .int), Cond.fieldLink RX4 37 "ScaleHouse$Pairing" "td" "I", Cond.fieldLink RX4 41 "ScaleHouse$Pairing" "tl" "I", Cond.methodLink RX4 61 yX4_findAsManyAsCanBe, Cond.instanceMethod yX4_findAsManyAsCanBe, Cond.selects RX4 yX4_findAsManyAsCanBe yX4_findAsManyAsCanBe, Cond.code yX4_findAsManyAsCanBe cX4_findAsManyAsCanBe 1 none, Cond.fieldLink RX4 21 "ScaleHouse$Pairing" "sellerOf" "[I", Cond.fieldLink RX4 25 "ScaleHouse$Pairing" "buyerOf" "[I", Cond.fieldLink RX4 44 "ScaleHouse$Pairing" "found" "I", Cond.methodLink RX4 80 yJ7_fill_53178, Cond.static yJ7_fill_53178]
def wsX4_settle_r2 : List Cond := [Cond.initialized RJ7, Cond.code yJ7_fill_53178 cJ7_fill_53178 4 none, Cond.methodLink RX4 86 yX4_pairOneMore, Cond.instanceMethod yX4_pairOneMore, Cond.selects RX4 yX4_pairOneMore yX4_pairOneMore, Cond.code yX4_pairOneMore cX4_pairOneMore 7 (some .boolean), Cond.fieldLink RX4 31 "ScaleHouse$Pairing" "reachedFrom" "[I", Cond.fieldLink RX4 34 "ScaleHouse$Pairing" "waiting" "[I", Cond.methodLink RX4 90 yX4_isKept, Cond.instanceMethod yX4_isKept, Cond.selects RX4 yX4_isKept yX4_isKept, Cond.code yX4_isKept cX4_isKept 3 (some .boolean), Cond.methodLink RX4 101 yX4_joinBackFrom, Cond.instanceMethod yX4_joinBackFrom, Cond.selects RX4 yX4_joinBackFrom yX4_joinBackFrom, Cond.code yX4_joinBackFrom cX4_joinBackFrom 6 none, Cond.methodLink RX4 97 yX4_join, Cond.instanceMethod yX4_join, Cond.selects RX4 yX4_join yX4_join, Cond.code yX4_join cX4_join 3 none, Cond.methodLink RX4 64 yX4_takeLowest, Cond.instanceMethod yX4_takeLowest, Cond.selects RX4 yX4_takeLowest yX4_takeLowest, Cond.code yX4_takeLowest cX4_takeLowest 4 none]
def wsX4_settle_r3 : List Cond := [Cond.methodLink RX4 94 yX4_moveTo, Cond.instanceMethod yX4_moveTo, Cond.selects RX4 yX4_moveTo yX4_moveTo, Cond.code yX4_moveTo cX4_moveTo 5 (some .boolean)]
def wsX4_settle : List Cond := .code yX4_settle cX4_settle 2 none :: ((wsX4_settle_r1 ++ (wsX4_settle_r2 ++ wsX4_settle_r3)) ++ wsX40 ++ wsX70)
def wsX5_init : List Cond := .code yX5_init cX5_init 1 none :: ([.methodLink RX5 3 objectInit, .instanceMethod objectInit, .code objectInit ⟨#[0xb1]⟩ 1 none, .arrayClass .long, .fieldLink RX5 9 "ScaleHouse$Reckoner" "sums" "[J", .fieldLink RX5 15 "ScaleHouse$Reckoner" "products" "[J", .arrayClass .int, .fieldLink RX5 18 "ScaleHouse$Reckoner" "sumSigns" "[I", .fieldLink RX5 22 "ScaleHouse$Reckoner" "productSigns" "[I", .fieldLink RX5 25 "ScaleHouse$Reckoner" "depth" "I"] ++ wsX50)
def wsX5_beginProduct : List Cond := .code yX5_beginProduct cX5_beginProduct 1 none :: ([.fieldLink RX5 15 "ScaleHouse$Reckoner" "products" "[J", .fieldLink RX5 25 "ScaleHouse$Reckoner" "depth" "I", .fieldLink RX5 22 "ScaleHouse$Reckoner" "productSigns" "[I"] ++ wsX50)
def wsX5_begin : List Cond := .code yX5_begin cX5_begin 1 none :: ([.fieldLink RX5 9 "ScaleHouse$Reckoner" "sums" "[J", .fieldLink RX5 25 "ScaleHouse$Reckoner" "depth" "I", .fieldLink RX5 18 "ScaleHouse$Reckoner" "sumSigns" "[I", .methodLink RX5 40 yX5_beginProduct, .instanceMethod yX5_beginProduct, .selects RX5 yX5_beginProduct yX5_beginProduct, .initialized RX5, .code yX5_beginProduct cX5_beginProduct 1 none, .fieldLink RX5 15 "ScaleHouse$Reckoner" "products" "[J", .fieldLink RX5 22 "ScaleHouse$Reckoner" "productSigns" "[I"] ++ wsX50)
def wsX5_bounded : List Cond := .code yX5_bounded cX5_bounded 2 (some .long) :: ([.constantLong RX5 53 (1000000000), .constantLong RX5 55 (-1000000000)])
def wsJ9_floorDiv_f86c9 : List Cond := .code yJ9_floorDiv_f86c9 cJ9_floorDiv_f86c9 6 (some .long) :: ([])
def wsX5_takeFactor : List Cond := .code yX5_takeFactor cX5_takeFactor 5 none :: ([.fieldLink RX5 15 "ScaleHouse$Reckoner" "products" "[J", .fieldLink RX5 25 "ScaleHouse$Reckoner" "depth" "I", .fieldLink RX5 22 "ScaleHouse$Reckoner" "productSigns" "[I", .methodLink RX5 43 yX5_bounded, .static yX5_bounded, .initialized RX5, .code yX5_bounded cX5_bounded 2 (some .long), .constantLong RX5 53 (1000000000), .constantLong RX5 55 (-1000000000), .methodLink RX5 47 yJ9_floorDiv_f86c9, .static yJ9_floorDiv_f86c9, .initialized RJ9, .code yJ9_floorDiv_f86c9 cJ9_floorDiv_f86c9 6 (some .long)] ++ wsX50)
def wsX5_wholeSum : List Cond := .code yX5_wholeSum cX5_wholeSum 3 (some .long) :: ([.fieldLink RX5 15 "ScaleHouse$Reckoner" "products" "[J", .fieldLink RX5 25 "ScaleHouse$Reckoner" "depth" "I", .fieldLink RX5 18 "ScaleHouse$Reckoner" "sumSigns" "[I", .fieldLink RX5 9 "ScaleHouse$Reckoner" "sums" "[J", .methodLink RX5 43 yX5_bounded, .static yX5_bounded, .initialized RX5, .code yX5_bounded cX5_bounded 2 (some .long), .constantLong RX5 53 (1000000000), .constantLong RX5 55 (-1000000000)] ++ wsX50)
def wsX5_reckon_r1 : List Cond := [Cond.fieldLink RX5 25 "ScaleHouse$Reckoner" "depth" "I", Cond.fieldLink RX5 9 "ScaleHouse$Reckoner" "sums" "[J", Cond.fieldLink RX5 18 "ScaleHouse$Reckoner" "sumSigns" "[I", Cond.fieldLink RX5 22 "ScaleHouse$Reckoner" "productSigns" "[I", Cond.methodLink RX5 29 yX5_begin, Cond.instanceMethod yX5_begin, Cond.selects RX5 yX5_begin yX5_begin, Cond.initialized RX5, Cond.code yX5_begin cX5_begin 1 none, Cond.methodLink RX5 40 yX5_beginProduct, Cond.instanceMethod yX5_beginProduct, Cond.selects RX5 yX5_beginProduct yX5_beginProduct, Cond.code yX5_beginProduct cX5_beginProduct 1 none, Cond.fieldLink RX5 15 "ScaleHouse$Reckoner" "products" "[J", Cond.methodLink RX5 32 yX5_takeFactor, Cond.instanceMethod yX5_takeFactor, Cond.selects RX5 yX5_takeFactor yX5_takeFactor, Cond.code yX5_takeFactor cX5_takeFactor 5 none, Cond.methodLink RX5 43 yX5_bounded, Cond.static yX5_bounded, Cond.code yX5_bounded cX5_bounded 2 (some .long), Cond.constantLong RX5 53 (1000000000), Cond.constantLong RX5 55 (-1000000000), Cond.methodLink RX5 47 yJ9_floorDiv_f86c9]
def wsX5_reckon_r2 : List Cond := [Cond.static yJ9_floorDiv_f86c9, Cond.initialized RJ9, Cond.code yJ9_floorDiv_f86c9 cJ9_floorDiv_f86c9 6 (some .long), Cond.methodLink RX5 36 yX5_wholeSum, Cond.instanceMethod yX5_wholeSum, Cond.selects RX5 yX5_wholeSum yX5_wholeSum, Cond.code yX5_wholeSum cX5_wholeSum 3 (some .long)]
def wsX5_reckon : List Cond := .code yX5_reckon cX5_reckon 8 (some .long) :: ((wsX5_reckon_r1 ++ wsX5_reckon_r2) ++ wsX50)
def wsX6_init : List Cond := .code yX6_init cX6_init 2 none :: ([.methodLink RX6 3 objectInit, .instanceMethod objectInit, .code objectInit ⟨#[0xb1]⟩ 1 none, .fieldLink RX6 9 "ScaleHouse$Register" "size" "I", .arrayClass .int, .fieldLink RX6 15 "ScaleHouse$Register" "names" "[I", .fieldLink RX6 19 "ScaleHouse$Register" "froms" "[I", .fieldLink RX6 22 "ScaleHouse$Register" "tolds" "[I"] ++ wsX60)
def wsX6_isFull : List Cond := .code yX6_isFull cX6_isFull 1 (some .boolean) :: ([.fieldLink RX6 9 "ScaleHouse$Register" "size" "I", .fieldLink RX6 15 "ScaleHouse$Register" "names" "[I"] ++ wsX60)
def wsX6_enter : List Cond := .code yX6_enter cX6_enter 4 (some .int) :: ([.fieldLink RX6 15 "ScaleHouse$Register" "names" "[I", .fieldLink RX6 9 "ScaleHouse$Register" "size" "I", .fieldLink RX6 19 "ScaleHouse$Register" "froms" "[I", .fieldLink RX6 22 "ScaleHouse$Register" "tolds" "[I"] ++ wsX60)
def wsX6_inForce : List Cond := .code yX6_inForce cX6_inForce 7 (some .int) :: ([.fieldLink RX6 9 "ScaleHouse$Register" "size" "I", .fieldLink RX6 15 "ScaleHouse$Register" "names" "[I", .fieldLink RX6 22 "ScaleHouse$Register" "tolds" "[I", .fieldLink RX6 19 "ScaleHouse$Register" "froms" "[I"] ++ wsX60)
def wsX8_init : List Cond := .code yX8_init cX8_init 1 none :: ([.methodLink RX8 3 objectInit, .instanceMethod objectInit, .code objectInit ⟨#[0xb1]⟩ 1 none, .arrayClass .int, .fieldLink RX8 9 "ScaleHouse$Tape" "bytes" "[I", .fieldLink RX8 15 "ScaleHouse$Tape" "size" "I"] ++ wsX80)
def wsX8_bytesIn : List Cond := .code yX8_bytesIn cX8_bytesIn 3 (some .int) :: ([])
def wsX8_append : List Cond := .code yX8_append cX8_append 4 none :: ([.fieldLink RX8 15 "ScaleHouse$Tape" "size" "I", .fieldLink RX8 9 "ScaleHouse$Tape" "bytes" "[I"] ++ wsX80)
def wsX8_isDigit : List Cond := .code yX8_isDigit cX8_isDigit 1 (some .boolean) :: ([])
def wsX8_fits : List Cond := .code yX8_fits cX8_fits 3 (some .boolean) :: ([])
def wsX8_firstFault : List Cond := .code yX8_firstFault cX8_firstFault 6 (some .int) :: ([.fieldLink RX8 15 "ScaleHouse$Tape" "size" "I", .fieldLink RX8 9 "ScaleHouse$Tape" "bytes" "[I", .methodLink RX8 19 yX8_isDigit, .static yX8_isDigit, .initialized RX8, .code yX8_isDigit cX8_isDigit 1 (some .boolean), .methodLink RX8 23 yX8_fits, .static yX8_fits, .code yX8_fits cX8_fits 3 (some .boolean)] ++ wsX80)
def wsX8_tokens_r1 : List Cond := [Cond.fieldLink RX8 15 "ScaleHouse$Tape" "size" "I", Cond.arrayClass .int, Cond.fieldLink RX8 9 "ScaleHouse$Tape" "bytes" "[I", Cond.methodLink RX8 19 yX8_isDigit, Cond.static yX8_isDigit, Cond.initialized RX8, Cond.code yX8_isDigit cX8_isDigit 1 (some .boolean), Cond.methodLink RX8 27 yJ7_copyOf_59c91, Cond.static yJ7_copyOf_59c91, Cond.initialized RJ7, Cond.code yJ7_copyOf_59c91 cJ7_copyOf_59c91 3 (some (.array .int)), Cond.methodLink RJ7 316 ⟨"[I", "clone", "()Ljava/lang/Object;"⟩, Cond.sameMethod "[I" "java/lang/Object" "clone" "()Ljava/lang/Object;", Cond.native ⟨"java/lang/Object", "clone", "()Ljava/lang/Object;"⟩, Cond.instanceMethod ⟨"java/lang/Object", "clone", "()Ljava/lang/Object;"⟩, Cond.selects "[I" ⟨"[I", "clone", "()Ljava/lang/Object;"⟩ ⟨"java/lang/Object", "clone", "()Ljava/lang/Object;"⟩, Cond.classLink RJ7 317 "[I", Cond.methodLink RJ7 304 Lib.Math.min.name, Cond.static Lib.Math.min.name, Cond.initialized "java/lang/Math", Cond.code Lib.Math.min.name Lib.Math.min.code 2 (some .int), Cond.methodLink RJ7 150 arraycopyName, Cond.native arraycopyName, Cond.static arraycopyName]
def wsX8_tokens_r2 : List Cond := [Cond.initialized "java/lang/System"]
def wsX8_tokens : List Cond := .code yX8_tokens cX8_tokens 6 (some (.array .int)) :: ((wsX8_tokens_r1 ++ wsX8_tokens_r2) ++ wsX80)
def wsX9_init_r1 : List Cond := [Cond.methodLink RX9 1 objectInit, Cond.instanceMethod objectInit, Cond.code objectInit ⟨#[0xb1]⟩ 1 none, Cond.classLink RX9 7 RX8, Cond.instantiable RX8 2, Cond.initialized RX8, Cond.fieldLink RX9 10 "ScaleHouse" "tape" "LScaleHouse$Tape;", Cond.classLink RX9 16 RX5, Cond.instantiable RX5 5, Cond.initialized RX5, Cond.fieldLink RX9 19 "ScaleHouse" "reckoner" "LScaleHouse$Reckoner;", Cond.classLink RX9 23 RX6, Cond.instantiable RX6 4, Cond.initialized RX6, Cond.fieldLink RX9 28 "ScaleHouse" "lawDays" "LScaleHouse$Register;", Cond.classLink RX9 32 RX1, Cond.fieldLink RX9 34 "ScaleHouse" "laws" "[LScaleHouse$Law;", Cond.fieldLink RX9 38 "ScaleHouse" "errorDays" "LScaleHouse$Register;", Cond.arrayClass .int, Cond.fieldLink RX9 41 "ScaleHouse" "errorParts" "[I", Cond.classLink RX9 45 RX3, Cond.fieldLink RX9 47 "ScaleHouse" "logs" "[LScaleHouse$Log;", Cond.fieldLink RX9 51 "ScaleHouse" "prices" "[I", Cond.fieldLink RX9 54 "ScaleHouse" "pays" "[I"]
def wsX9_init_r2 : List Cond := [Cond.classLink RX9 57 RX2, Cond.instantiable RX2 5, Cond.initialized RX2, Cond.fieldLink RX9 60 "ScaleHouse" "ledger" "LScaleHouse$Ledger;", Cond.classLink RX9 64 RX4, Cond.instantiable RX4 11, Cond.initialized RX4, Cond.fieldLink RX9 67 "ScaleHouse" "pairing" "LScaleHouse$Pairing;", Cond.classLink RX9 71 RX0, Cond.instantiable RX0 4, Cond.initialized RX0, Cond.fieldLink RX9 74 "ScaleHouse" "court" "LScaleHouse$Court;", Cond.fieldLink RX9 78 "ScaleHouse" "logCount" "I", Cond.fieldLink RX9 82 "ScaleHouse" "now" "I", Cond.instanceMethod yX8_init, Cond.code yX8_init cX8_init 1 none, Cond.methodLink RX8 3 objectInit, Cond.fieldLink RX8 9 "ScaleHouse$Tape" "bytes" "[I", Cond.fieldLink RX8 15 "ScaleHouse$Tape" "size" "I", Cond.instanceMethod yX5_init, Cond.code yX5_init cX5_init 1 none, Cond.methodLink RX5 3 objectInit, Cond.arrayClass .long, Cond.fieldLink RX5 9 "ScaleHouse$Reckoner" "sums" "[J"]
def wsX9_init_r3 : List Cond := [Cond.fieldLink RX5 15 "ScaleHouse$Reckoner" "products" "[J", Cond.fieldLink RX5 18 "ScaleHouse$Reckoner" "sumSigns" "[I", Cond.fieldLink RX5 22 "ScaleHouse$Reckoner" "productSigns" "[I", Cond.fieldLink RX5 25 "ScaleHouse$Reckoner" "depth" "I", Cond.methodLink RX9 25 yX6_init, Cond.instanceMethod yX6_init, Cond.code yX6_init cX6_init 2 none, Cond.methodLink RX6 3 objectInit, Cond.fieldLink RX6 9 "ScaleHouse$Register" "size" "I", Cond.fieldLink RX6 15 "ScaleHouse$Register" "names" "[I", Cond.fieldLink RX6 19 "ScaleHouse$Register" "froms" "[I", Cond.fieldLink RX6 22 "ScaleHouse$Register" "tolds" "[I", Cond.instanceMethod yX2_init, Cond.code yX2_init cX2_init 1 none, Cond.methodLink RX2 3 objectInit, Cond.fieldLink RX2 9 "ScaleHouse$Ledger" "days" "[I", Cond.fieldLink RX2 15 "ScaleHouse$Ledger" "logs" "[I", Cond.fieldLink RX2 18 "ScaleHouse$Ledger" "coins" "[I", Cond.fieldLink RX2 21 "ScaleHouse$Ledger" "size" "I", Cond.fieldLink RX2 25 "ScaleHouse$Ledger" "allCoins" "I", Cond.instanceMethod yX4_init, Cond.code yX4_init cX4_init 1 none, Cond.methodLink RX4 3 objectInit, Cond.classLink RX4 9 RX7]
def wsX9_init_r4 : List Cond := [Cond.instantiable RX7 3, Cond.initialized RX7, Cond.fieldLink RX4 12 "ScaleHouse$Pairing" "buyer" "LScaleHouse$Tally;", Cond.fieldLink RX4 18 "ScaleHouse$Pairing" "seller" "LScaleHouse$Tally;", Cond.fieldLink RX4 21 "ScaleHouse$Pairing" "sellerOf" "[I", Cond.fieldLink RX4 25 "ScaleHouse$Pairing" "buyerOf" "[I", Cond.fieldLink RX4 28 "ScaleHouse$Pairing" "agreeing" "[I", Cond.fieldLink RX4 31 "ScaleHouse$Pairing" "reachedFrom" "[I", Cond.fieldLink RX4 34 "ScaleHouse$Pairing" "waiting" "[I", Cond.fieldLink RX4 37 "ScaleHouse$Pairing" "td" "I", Cond.fieldLink RX4 41 "ScaleHouse$Pairing" "tl" "I", Cond.fieldLink RX4 44 "ScaleHouse$Pairing" "found" "I", Cond.fieldLink RX4 47 "ScaleHouse$Pairing" "settled" "Z", Cond.instanceMethod yX7_init, Cond.code yX7_init cX7_init 1 none, Cond.methodLink RX7 3 objectInit, Cond.fieldLink RX7 9 "ScaleHouse$Tally" "ds" "[I", Cond.fieldLink RX7 15 "ScaleHouse$Tally" "ls" "[I", Cond.fieldLink RX7 18 "ScaleHouse$Tally" "size" "I", Cond.instanceMethod yX0_init, Cond.code yX0_init cX0_init 1 none, Cond.methodLink RX0 3 objectInit, Cond.fieldLink RX0 9 "ScaleHouse$Court" "allowance" "I", Cond.fieldLink RX0 15 "ScaleHouse$Court" "stood" "I"]
def wsX9_init_r5 : List Cond := [Cond.fieldLink RX0 18 "ScaleHouse$Court" "buyerOff" "I", Cond.fieldLink RX0 21 "ScaleHouse$Court" "sellerOff" "I", Cond.methodLink RX9 85 yJ7_fill_53178, Cond.static yJ7_fill_53178, Cond.initialized RJ7, Cond.code yJ7_fill_53178 cJ7_fill_53178 4 none]
def wsX9_init : List Cond := .code yX9_init cX9_init 1 none :: ((wsX9_init_r1 ++ (wsX9_init_r2 ++ (wsX9_init_r3 ++ (wsX9_init_r4 ++ wsX9_init_r5)))) ++ wsX80 ++ wsX90 ++ wsX50 ++ wsX60 ++ wsX20 ++ wsX40 ++ wsX00 ++ wsX70)
def wsX9_feed : List Cond := .code yX9_feed cX9_feed 7 (some .int) :: ([.fieldLink RX9 10 "ScaleHouse" "tape" "LScaleHouse$Tape;", .methodLink RX9 91 yX8_bytesIn, .static yX8_bytesIn, .initialized RX8, .code yX8_bytesIn cX8_bytesIn 3 (some .int), .methodLink RX9 98 yX8_append, .instanceMethod yX8_append, .selects RX8 yX8_append yX8_append, .code yX8_append cX8_append 4 none, .fieldLink RX8 15 "ScaleHouse$Tape" "size" "I", .fieldLink RX8 9 "ScaleHouse$Tape" "bytes" "[I"] ++ wsX90 ++ wsX80)
def wsX9_within : List Cond := .code yX9_within cX9_within 3 (some .boolean) :: ([])
def wsX9_end : List Cond := .code yX9_end cX9_end 2 (some .boolean) :: ([.fieldLink RX9 10 "ScaleHouse" "tape" "LScaleHouse$Tape;", .methodLink RX9 101 yX9_within, .static yX9_within, .initialized RX9, .code yX9_within cX9_within 3 (some .boolean)] ++ wsX90 ++ wsX80)
def wsX9_fault : List Cond := .code yX9_fault cX9_fault 1 (some .int) :: ([.fieldLink RX9 10 "ScaleHouse" "tape" "LScaleHouse$Tape;", .methodLink RX9 105 yX8_firstFault, .instanceMethod yX8_firstFault, .selects RX8 yX8_firstFault yX8_firstFault, .initialized RX8, .code yX8_firstFault cX8_firstFault 6 (some .int), .fieldLink RX8 15 "ScaleHouse$Tape" "size" "I", .fieldLink RX8 9 "ScaleHouse$Tape" "bytes" "[I", .methodLink RX8 19 yX8_isDigit, .static yX8_isDigit, .code yX8_isDigit cX8_isDigit 1 (some .boolean), .methodLink RX8 23 yX8_fits, .static yX8_fits, .code yX8_fits cX8_fits 3 (some .boolean)] ++ wsX90 ++ wsX80)
def wsX9_isDay : List Cond := .code yX9_isDay cX9_isDay 1 (some .boolean) :: ([.methodLink RX9 101 yX9_within, .static yX9_within, .initialized RX9, .code yX9_within cX9_within 3 (some .boolean)])
def wsX9_law_r1 : List Cond := [Cond.fieldLink RX9 28 "ScaleHouse" "lawDays" "LScaleHouse$Register;", Cond.fieldLink RX9 10 "ScaleHouse" "tape" "LScaleHouse$Tape;", Cond.fieldLink RX9 82 "ScaleHouse" "now" "I", Cond.fieldLink RX9 34 "ScaleHouse" "laws" "[LScaleHouse$Law;", Cond.classLink RX9 32 RX1, Cond.instantiable RX1 1, Cond.initialized RX1, Cond.methodLink RX9 109 yX9_isDay, Cond.static yX9_isDay, Cond.initialized RX9, Cond.code yX9_isDay cX9_isDay 1 (some .boolean), Cond.methodLink RX9 101 yX9_within, Cond.static yX9_within, Cond.code yX9_within cX9_within 3 (some .boolean), Cond.methodLink RX9 113 yX6_isFull, Cond.instanceMethod yX6_isFull, Cond.selects RX6 yX6_isFull yX6_isFull, Cond.initialized RX6, Cond.code yX6_isFull cX6_isFull 1 (some .boolean), Cond.fieldLink RX6 9 "ScaleHouse$Register" "size" "I", Cond.fieldLink RX6 15 "ScaleHouse$Register" "names" "[I", Cond.methodLink RX9 105 yX8_firstFault, Cond.instanceMethod yX8_firstFault, Cond.selects RX8 yX8_firstFault yX8_firstFault]
def wsX9_law_r2 : List Cond := [Cond.initialized RX8, Cond.code yX8_firstFault cX8_firstFault 6 (some .int), Cond.fieldLink RX8 15 "ScaleHouse$Tape" "size" "I", Cond.fieldLink RX8 9 "ScaleHouse$Tape" "bytes" "[I", Cond.methodLink RX8 19 yX8_isDigit, Cond.static yX8_isDigit, Cond.code yX8_isDigit cX8_isDigit 1 (some .boolean), Cond.methodLink RX8 23 yX8_fits, Cond.static yX8_fits, Cond.code yX8_fits cX8_fits 3 (some .boolean), Cond.methodLink RX9 117 yX6_enter, Cond.instanceMethod yX6_enter, Cond.selects RX6 yX6_enter yX6_enter, Cond.code yX6_enter cX6_enter 4 (some .int), Cond.fieldLink RX6 19 "ScaleHouse$Register" "froms" "[I", Cond.fieldLink RX6 22 "ScaleHouse$Register" "tolds" "[I", Cond.methodLink RX9 121 yX8_tokens, Cond.instanceMethod yX8_tokens, Cond.selects RX8 yX8_tokens yX8_tokens, Cond.code yX8_tokens cX8_tokens 6 (some (.array .int)), Cond.arrayClass .int, Cond.methodLink RX8 27 yJ7_copyOf_59c91, Cond.static yJ7_copyOf_59c91, Cond.initialized RJ7]
def wsX9_law_r3 : List Cond := [Cond.code yJ7_copyOf_59c91 cJ7_copyOf_59c91 3 (some (.array .int)), Cond.methodLink RJ7 316 ⟨"[I", "clone", "()Ljava/lang/Object;"⟩, Cond.sameMethod "[I" "java/lang/Object" "clone" "()Ljava/lang/Object;", Cond.native ⟨"java/lang/Object", "clone", "()Ljava/lang/Object;"⟩, Cond.instanceMethod ⟨"java/lang/Object", "clone", "()Ljava/lang/Object;"⟩, Cond.selects "[I" ⟨"[I", "clone", "()Ljava/lang/Object;"⟩ ⟨"java/lang/Object", "clone", "()Ljava/lang/Object;"⟩, Cond.classLink RJ7 317 "[I", Cond.methodLink RJ7 304 Lib.Math.min.name, Cond.static Lib.Math.min.name, Cond.initialized "java/lang/Math", Cond.code Lib.Math.min.name Lib.Math.min.code 2 (some .int), Cond.methodLink RJ7 150 arraycopyName, Cond.native arraycopyName, Cond.static arraycopyName, Cond.initialized "java/lang/System", Cond.methodLink RX9 125 yX1_init, Cond.instanceMethod yX1_init, Cond.code yX1_init cX1_init 2 none, Cond.methodLink RX1 1 objectInit, Cond.instanceMethod objectInit, Cond.code objectInit ⟨#[0xb1]⟩ 1 none, Cond.fieldLink RX1 7 "ScaleHouse$Law" "tokens" "[I"]
def wsX9_law : List Cond := .code yX9_law cX9_law 3 (some .int) :: ((wsX9_law_r1 ++ (wsX9_law_r2 ++ wsX9_law_r3)) ++ wsX90 ++ wsX10 ++ wsX80 ++ wsX60)
def wsX9_isSizeByLaw : List Cond := .code yX9_isSizeByLaw cX9_isSizeByLaw 1 (some .boolean) :: ([.methodLink RX9 101 yX9_within, .static yX9_within, .initialized RX9, .code yX9_within cX9_within 3 (some .boolean)])
def wsX9_value_r1 : List Cond := [Cond.classLink RX9 132 "java/util/NoSuchElementException", Cond.initialized "java/util/NoSuchElementException", Cond.fieldLink RX9 28 "ScaleHouse" "lawDays" "LScaleHouse$Register;", Cond.fieldLink RX9 19 "ScaleHouse" "reckoner" "LScaleHouse$Reckoner;", Cond.fieldLink RX9 34 "ScaleHouse" "laws" "[LScaleHouse$Law;", Cond.methodLink RX9 101 yX9_within, Cond.static yX9_within, Cond.initialized RX9, Cond.code yX9_within cX9_within 3 (some .boolean), Cond.methodLink RX9 129 yX9_isSizeByLaw, Cond.static yX9_isSizeByLaw, Cond.code yX9_isSizeByLaw cX9_isSizeByLaw 1 (some .boolean), Cond.methodLink RX9 137 yX5_reckon, Cond.instanceMethod yX5_reckon, Cond.selects RX5 yX5_reckon yX5_reckon, Cond.initialized RX5, Cond.code yX5_reckon cX5_reckon 8 (some .long), Cond.fieldLink RX5 25 "ScaleHouse$Reckoner" "depth" "I", Cond.fieldLink RX5 9 "ScaleHouse$Reckoner" "sums" "[J", Cond.fieldLink RX5 18 "ScaleHouse$Reckoner" "sumSigns" "[I", Cond.fieldLink RX5 22 "ScaleHouse$Reckoner" "productSigns" "[I", Cond.methodLink RX5 29 yX5_begin, Cond.instanceMethod yX5_begin, Cond.selects RX5 yX5_begin yX5_begin]
def wsX9_value_r2 : List Cond := [Cond.code yX5_begin cX5_begin 1 none, Cond.methodLink RX5 40 yX5_beginProduct, Cond.instanceMethod yX5_beginProduct, Cond.selects RX5 yX5_beginProduct yX5_beginProduct, Cond.code yX5_beginProduct cX5_beginProduct 1 none, Cond.fieldLink RX5 15 "ScaleHouse$Reckoner" "products" "[J", Cond.methodLink RX5 32 yX5_takeFactor, Cond.instanceMethod yX5_takeFactor, Cond.selects RX5 yX5_takeFactor yX5_takeFactor, Cond.code yX5_takeFactor cX5_takeFactor 5 none, Cond.methodLink RX5 43 yX5_bounded, Cond.static yX5_bounded, Cond.code yX5_bounded cX5_bounded 2 (some .long), Cond.constantLong RX5 53 (1000000000), Cond.constantLong RX5 55 (-1000000000), Cond.methodLink RX5 47 yJ9_floorDiv_f86c9, Cond.static yJ9_floorDiv_f86c9, Cond.initialized RJ9, Cond.code yJ9_floorDiv_f86c9 cJ9_floorDiv_f86c9 6 (some .long), Cond.methodLink RX5 36 yX5_wholeSum, Cond.instanceMethod yX5_wholeSum, Cond.selects RX5 yX5_wholeSum yX5_wholeSum, Cond.code yX5_wholeSum cX5_wholeSum 3 (some .long)]
def wsX9_value : List Cond := .code yX9_value cX9_value 4 (some .long) :: ((wsX9_value_r1 ++ wsX9_value_r2) ++ wsX90 ++ wsX60 ++ wsX10 ++ wsX50 ++ (vx_at0 RX9 134 "java/util/NoSuchElementException" ["java/lang/RuntimeException", "java/lang/Exception"]).filter goodWord)
def wsX9_isKnown : List Cond := .code yX9_isKnown cX9_isKnown 2 (some .boolean) :: ([.fieldLink RX9 82 "ScaleHouse" "now" "I", .methodLink RX9 101 yX9_within, .static yX9_within, .initialized RX9, .code yX9_within cX9_within 3 (some .boolean)] ++ wsX90)
def wsX9_force : List Cond := .code yX9_force cX9_force 3 (some .int) :: ([.fieldLink RX9 28 "ScaleHouse" "lawDays" "LScaleHouse$Register;", .methodLink RX9 109 yX9_isDay, .static yX9_isDay, .initialized RX9, .code yX9_isDay cX9_isDay 1 (some .boolean), .methodLink RX9 101 yX9_within, .static yX9_within, .code yX9_within cX9_within 3 (some .boolean), .methodLink RX9 141 yX9_isKnown, .instanceMethod yX9_isKnown, .selects RX9 yX9_isKnown yX9_isKnown, .code yX9_isKnown cX9_isKnown 2 (some .boolean), .fieldLink RX9 82 "ScaleHouse" "now" "I", .methodLink RX9 144 yX6_inForce, .instanceMethod yX6_inForce, .selects RX6 yX6_inForce yX6_inForce, .initialized RX6, .code yX6_inForce cX6_inForce 7 (some .int), .fieldLink RX6 9 "ScaleHouse$Register" "size" "I", .fieldLink RX6 15 "ScaleHouse$Register" "names" "[I", .fieldLink RX6 22 "ScaleHouse$Register" "tolds" "[I", .fieldLink RX6 19 "ScaleHouse$Register" "froms" "[I"] ++ wsX90 ++ wsX60)
def wsX9_most_r1 : List Cond := [Cond.fieldLink RX9 28 "ScaleHouse" "lawDays" "LScaleHouse$Register;", Cond.fieldLink RX9 19 "ScaleHouse" "reckoner" "LScaleHouse$Reckoner;", Cond.fieldLink RX9 34 "ScaleHouse" "laws" "[LScaleHouse$Law;", Cond.methodLink RX9 129 yX9_isSizeByLaw, Cond.static yX9_isSizeByLaw, Cond.initialized RX9, Cond.code yX9_isSizeByLaw cX9_isSizeByLaw 1 (some .boolean), Cond.methodLink RX9 101 yX9_within, Cond.static yX9_within, Cond.code yX9_within cX9_within 3 (some .boolean), Cond.methodLink RX9 137 yX5_reckon, Cond.instanceMethod yX5_reckon, Cond.selects RX5 yX5_reckon yX5_reckon, Cond.initialized RX5, Cond.code yX5_reckon cX5_reckon 8 (some .long), Cond.fieldLink RX5 25 "ScaleHouse$Reckoner" "depth" "I", Cond.fieldLink RX5 9 "ScaleHouse$Reckoner" "sums" "[J", Cond.fieldLink RX5 18 "ScaleHouse$Reckoner" "sumSigns" "[I", Cond.fieldLink RX5 22 "ScaleHouse$Reckoner" "productSigns" "[I", Cond.methodLink RX5 29 yX5_begin, Cond.instanceMethod yX5_begin, Cond.selects RX5 yX5_begin yX5_begin, Cond.code yX5_begin cX5_begin 1 none, Cond.methodLink RX5 40 yX5_beginProduct]
def wsX9_most_r2 : List Cond := [Cond.instanceMethod yX5_beginProduct, Cond.selects RX5 yX5_beginProduct yX5_beginProduct, Cond.code yX5_beginProduct cX5_beginProduct 1 none, Cond.fieldLink RX5 15 "ScaleHouse$Reckoner" "products" "[J", Cond.methodLink RX5 32 yX5_takeFactor, Cond.instanceMethod yX5_takeFactor, Cond.selects RX5 yX5_takeFactor yX5_takeFactor, Cond.code yX5_takeFactor cX5_takeFactor 5 none, Cond.methodLink RX5 43 yX5_bounded, Cond.static yX5_bounded, Cond.code yX5_bounded cX5_bounded 2 (some .long), Cond.constantLong RX5 53 (1000000000), Cond.constantLong RX5 55 (-1000000000), Cond.methodLink RX5 47 yJ9_floorDiv_f86c9, Cond.static yJ9_floorDiv_f86c9, Cond.initialized RJ9, Cond.code yJ9_floorDiv_f86c9 cJ9_floorDiv_f86c9 6 (some .long), Cond.methodLink RX5 36 yX5_wholeSum, Cond.instanceMethod yX5_wholeSum, Cond.selects RX5 yX5_wholeSum yX5_wholeSum, Cond.code yX5_wholeSum cX5_wholeSum 3 (some .long)]
def wsX9_most : List Cond := .code yX9_most cX9_most 9 (some .int) :: ((wsX9_most_r1 ++ wsX9_most_r2) ++ wsX90 ++ wsX60 ++ wsX10 ++ wsX50)
def wsX9_isStick : List Cond := .code yX9_isStick cX9_isStick 1 (some .boolean) :: ([.methodLink RX9 101 yX9_within, .static yX9_within, .initialized RX9, .code yX9_within cX9_within 3 (some .boolean)])
def wsX9_error_r1 : List Cond := [Cond.fieldLink RX9 38 "ScaleHouse" "errorDays" "LScaleHouse$Register;", Cond.fieldLink RX9 82 "ScaleHouse" "now" "I", Cond.fieldLink RX9 41 "ScaleHouse" "errorParts" "[I", Cond.methodLink RX9 147 yX9_isStick, Cond.static yX9_isStick, Cond.initialized RX9, Cond.code yX9_isStick cX9_isStick 1 (some .boolean), Cond.methodLink RX9 101 yX9_within, Cond.static yX9_within, Cond.code yX9_within cX9_within 3 (some .boolean), Cond.methodLink RX9 109 yX9_isDay, Cond.static yX9_isDay, Cond.code yX9_isDay cX9_isDay 1 (some .boolean), Cond.methodLink RX9 113 yX6_isFull, Cond.instanceMethod yX6_isFull, Cond.selects RX6 yX6_isFull yX6_isFull, Cond.initialized RX6, Cond.code yX6_isFull cX6_isFull 1 (some .boolean), Cond.fieldLink RX6 9 "ScaleHouse$Register" "size" "I", Cond.fieldLink RX6 15 "ScaleHouse$Register" "names" "[I", Cond.methodLink RX9 117 yX6_enter, Cond.instanceMethod yX6_enter, Cond.selects RX6 yX6_enter yX6_enter, Cond.code yX6_enter cX6_enter 4 (some .int)]
def wsX9_error_r2 : List Cond := [Cond.fieldLink RX6 19 "ScaleHouse$Register" "froms" "[I", Cond.fieldLink RX6 22 "ScaleHouse$Register" "tolds" "[I"]
def wsX9_error : List Cond := .code yX9_error cX9_error 5 (some .boolean) :: ((wsX9_error_r1 ++ wsX9_error_r2) ++ wsX90 ++ wsX60)
def wsX9_isOwner : List Cond := .code yX9_isOwner cX9_isOwner 1 (some .boolean) :: ([.methodLink RX9 101 yX9_within, .static yX9_within, .initialized RX9, .code yX9_within cX9_within 3 (some .boolean)])
def wsX9_log_r1 : List Cond := [Cond.fieldLink RX9 78 "ScaleHouse" "logCount" "I", Cond.fieldLink RX9 47 "ScaleHouse" "logs" "[LScaleHouse$Log;", Cond.classLink RX9 45 RX3, Cond.instantiable RX3 9, Cond.initialized RX3, Cond.fieldLink RX9 82 "ScaleHouse" "now" "I", Cond.methodLink RX9 150 yX9_isOwner, Cond.static yX9_isOwner, Cond.initialized RX9, Cond.code yX9_isOwner cX9_isOwner 1 (some .boolean), Cond.methodLink RX9 101 yX9_within, Cond.static yX9_within, Cond.code yX9_within cX9_within 3 (some .boolean), Cond.methodLink RX9 147 yX9_isStick, Cond.static yX9_isStick, Cond.code yX9_isStick cX9_isStick 1 (some .boolean), Cond.methodLink RX9 153 yX3_init, Cond.instanceMethod yX3_init, Cond.code yX3_init cX3_init 6 none, Cond.methodLink RX3 1 objectInit, Cond.instanceMethod objectInit, Cond.code objectInit ⟨#[0xb1]⟩ 1 none, Cond.fieldLink RX3 7 "ScaleHouse$Log" "rot" "I", Cond.fieldLink RX3 13 "ScaleHouse$Log" "bend" "I"]
def wsX9_log_r2 : List Cond := [Cond.fieldLink RX3 16 "ScaleHouse$Log" "checked" "I", Cond.fieldLink RX3 19 "ScaleHouse$Log" "booked" "I", Cond.fieldLink RX3 22 "ScaleHouse$Log" "owner" "I", Cond.fieldLink RX3 25 "ScaleHouse$Log" "stick" "I", Cond.fieldLink RX3 28 "ScaleHouse$Log" "read" "I", Cond.fieldLink RX3 31 "ScaleHouse$Log" "length" "I", Cond.fieldLink RX3 34 "ScaleHouse$Log" "day" "I"]
def wsX9_log : List Cond := .code yX9_log cX9_log 5 (some .int) :: ((wsX9_log_r1 ++ wsX9_log_r2) ++ wsX90 ++ wsX30)
def wsX9_isLog : List Cond := .code yX9_isLog cX9_isLog 2 (some .boolean) :: ([.fieldLink RX9 78 "ScaleHouse" "logCount" "I", .methodLink RX9 101 yX9_within, .static yX9_within, .initialized RX9, .code yX9_within cX9_within 3 (some .boolean)] ++ wsX90)
def wsX9_defects : List Cond := .code yX9_defects cX9_defects 4 (some .boolean) :: ([.fieldLink RX9 47 "ScaleHouse" "logs" "[LScaleHouse$Log;", .methodLink RX9 156 yX9_isLog, .instanceMethod yX9_isLog, .selects RX9 yX9_isLog yX9_isLog, .initialized RX9, .code yX9_isLog cX9_isLog 2 (some .boolean), .fieldLink RX9 78 "ScaleHouse" "logCount" "I", .methodLink RX9 101 yX9_within, .static yX9_within, .code yX9_within cX9_within 3 (some .boolean)] ++ wsX90 ++ wsX30)
def wsX9_trueD : List Cond := .code yX9_trueD cX9_trueD 5 (some .int) :: ([.fieldLink RX9 38 "ScaleHouse" "errorDays" "LScaleHouse$Register;", .fieldLink RX9 41 "ScaleHouse" "errorParts" "[I", .methodLink RX9 276 Lib.Math.max.name, .static Lib.Math.max.name, .initialized "java/lang/Math", .code Lib.Math.max.name Lib.Math.max.code 2 (some .int), .methodLink RX9 144 yX6_inForce, .instanceMethod yX6_inForce, .selects RX6 yX6_inForce yX6_inForce, .initialized RX6, .code yX6_inForce cX6_inForce 7 (some .int), .fieldLink RX6 9 "ScaleHouse$Register" "size" "I", .fieldLink RX6 15 "ScaleHouse$Register" "names" "[I", .fieldLink RX6 22 "ScaleHouse$Register" "tolds" "[I", .fieldLink RX6 19 "ScaleHouse$Register" "froms" "[I"] ++ wsX90 ++ wsX30 ++ wsX60)
def wsX9_scaleOf_r1 : List Cond := [Cond.fieldLink RX9 28 "ScaleHouse" "lawDays" "LScaleHouse$Register;", Cond.fieldLink RX9 19 "ScaleHouse" "reckoner" "LScaleHouse$Reckoner;", Cond.fieldLink RX9 34 "ScaleHouse" "laws" "[LScaleHouse$Law;", Cond.constantLong RX9 266 (1000000), Cond.methodLink RX9 268 Lib.MathLoose.min_long.x, Cond.static Lib.MathLoose.min_long.x, Cond.initialized "java/lang/Math", Cond.code Lib.MathLoose.min_long.x Lib.MathLoose.min_long.code 4 (some .long), Cond.methodLink RX9 273 Lib.MathLoose.max_long.x, Cond.static Lib.MathLoose.max_long.x, Cond.code Lib.MathLoose.max_long.x Lib.MathLoose.max_long.code 4 (some .long), Cond.methodLink RX9 144 yX6_inForce, Cond.instanceMethod yX6_inForce, Cond.selects RX6 yX6_inForce yX6_inForce, Cond.initialized RX6, Cond.code yX6_inForce cX6_inForce 7 (some .int), Cond.fieldLink RX6 9 "ScaleHouse$Register" "size" "I", Cond.fieldLink RX6 15 "ScaleHouse$Register" "names" "[I", Cond.fieldLink RX6 22 "ScaleHouse$Register" "tolds" "[I", Cond.fieldLink RX6 19 "ScaleHouse$Register" "froms" "[I", Cond.methodLink RX9 260 yX9_trueD, Cond.instanceMethod yX9_trueD, Cond.selects RX9 yX9_trueD yX9_trueD, Cond.initialized RX9]
def wsX9_scaleOf_r2 : List Cond := [Cond.code yX9_trueD cX9_trueD 5 (some .int), Cond.fieldLink RX9 38 "ScaleHouse" "errorDays" "LScaleHouse$Register;", Cond.fieldLink RX9 41 "ScaleHouse" "errorParts" "[I", Cond.methodLink RX9 276 Lib.Math.max.name, Cond.static Lib.Math.max.name, Cond.code Lib.Math.max.name Lib.Math.max.code 2 (some .int), Cond.methodLink RX9 137 yX5_reckon, Cond.instanceMethod yX5_reckon, Cond.selects RX5 yX5_reckon yX5_reckon, Cond.initialized RX5, Cond.code yX5_reckon cX5_reckon 8 (some .long), Cond.fieldLink RX5 25 "ScaleHouse$Reckoner" "depth" "I", Cond.fieldLink RX5 9 "ScaleHouse$Reckoner" "sums" "[J", Cond.fieldLink RX5 18 "ScaleHouse$Reckoner" "sumSigns" "[I", Cond.fieldLink RX5 22 "ScaleHouse$Reckoner" "productSigns" "[I", Cond.methodLink RX5 29 yX5_begin, Cond.instanceMethod yX5_begin, Cond.selects RX5 yX5_begin yX5_begin, Cond.code yX5_begin cX5_begin 1 none, Cond.methodLink RX5 40 yX5_beginProduct, Cond.instanceMethod yX5_beginProduct, Cond.selects RX5 yX5_beginProduct yX5_beginProduct, Cond.code yX5_beginProduct cX5_beginProduct 1 none, Cond.fieldLink RX5 15 "ScaleHouse$Reckoner" "products" "[J"]
def wsX9_scaleOf_r3 : List Cond := [Cond.methodLink RX5 32 yX5_takeFactor, Cond.instanceMethod yX5_takeFactor, Cond.selects RX5 yX5_takeFactor yX5_takeFactor, Cond.code yX5_takeFactor cX5_takeFactor 5 none, Cond.methodLink RX5 43 yX5_bounded, Cond.static yX5_bounded, Cond.code yX5_bounded cX5_bounded 2 (some .long), Cond.constantLong RX5 53 (1000000000), Cond.constantLong RX5 55 (-1000000000), Cond.methodLink RX5 47 yJ9_floorDiv_f86c9, Cond.static yJ9_floorDiv_f86c9, Cond.initialized RJ9, Cond.code yJ9_floorDiv_f86c9 cJ9_floorDiv_f86c9 6 (some .long), Cond.methodLink RX5 36 yX5_wholeSum, Cond.instanceMethod yX5_wholeSum, Cond.selects RX5 yX5_wholeSum yX5_wholeSum, Cond.code yX5_wholeSum cX5_wholeSum 3 (some .long)]
def wsX9_scaleOf : List Cond := .code yX9_scaleOf cX9_scaleOf 7 (some .int) :: ((wsX9_scaleOf_r1 ++ (wsX9_scaleOf_r2 ++ wsX9_scaleOf_r3)) ++ wsX30 ++ wsX90 ++ wsX10 ++ wsX60 ++ wsX50)
def wsX9_scale_r1 : List Cond := [Cond.fieldLink RX9 47 "ScaleHouse" "logs" "[LScaleHouse$Log;", Cond.methodLink RX9 156 yX9_isLog, Cond.instanceMethod yX9_isLog, Cond.selects RX9 yX9_isLog yX9_isLog, Cond.initialized RX9, Cond.code yX9_isLog cX9_isLog 2 (some .boolean), Cond.fieldLink RX9 78 "ScaleHouse" "logCount" "I", Cond.methodLink RX9 101 yX9_within, Cond.static yX9_within, Cond.code yX9_within cX9_within 3 (some .boolean), Cond.methodLink RX9 141 yX9_isKnown, Cond.instanceMethod yX9_isKnown, Cond.selects RX9 yX9_isKnown yX9_isKnown, Cond.code yX9_isKnown cX9_isKnown 2 (some .boolean), Cond.fieldLink RX9 82 "ScaleHouse" "now" "I", Cond.methodLink RX9 165 yX9_scaleOf, Cond.instanceMethod yX9_scaleOf, Cond.selects RX9 yX9_scaleOf yX9_scaleOf, Cond.code yX9_scaleOf cX9_scaleOf 7 (some .int), Cond.fieldLink RX9 28 "ScaleHouse" "lawDays" "LScaleHouse$Register;", Cond.fieldLink RX9 19 "ScaleHouse" "reckoner" "LScaleHouse$Reckoner;", Cond.fieldLink RX9 34 "ScaleHouse" "laws" "[LScaleHouse$Law;", Cond.constantLong RX9 266 (1000000), Cond.methodLink RX9 268 Lib.MathLoose.min_long.x]
def wsX9_scale_r2 : List Cond := [Cond.static Lib.MathLoose.min_long.x, Cond.initialized "java/lang/Math", Cond.code Lib.MathLoose.min_long.x Lib.MathLoose.min_long.code 4 (some .long), Cond.methodLink RX9 273 Lib.MathLoose.max_long.x, Cond.static Lib.MathLoose.max_long.x, Cond.code Lib.MathLoose.max_long.x Lib.MathLoose.max_long.code 4 (some .long), Cond.methodLink RX9 144 yX6_inForce, Cond.instanceMethod yX6_inForce, Cond.selects RX6 yX6_inForce yX6_inForce, Cond.initialized RX6, Cond.code yX6_inForce cX6_inForce 7 (some .int), Cond.fieldLink RX6 9 "ScaleHouse$Register" "size" "I", Cond.fieldLink RX6 15 "ScaleHouse$Register" "names" "[I", Cond.fieldLink RX6 22 "ScaleHouse$Register" "tolds" "[I", Cond.fieldLink RX6 19 "ScaleHouse$Register" "froms" "[I", Cond.methodLink RX9 260 yX9_trueD, Cond.instanceMethod yX9_trueD, Cond.selects RX9 yX9_trueD yX9_trueD, Cond.code yX9_trueD cX9_trueD 5 (some .int), Cond.fieldLink RX9 38 "ScaleHouse" "errorDays" "LScaleHouse$Register;", Cond.fieldLink RX9 41 "ScaleHouse" "errorParts" "[I", Cond.methodLink RX9 276 Lib.Math.max.name, Cond.static Lib.Math.max.name, Cond.code Lib.Math.max.name Lib.Math.max.code 2 (some .int)]
def wsX9_scale_r3 : List Cond := [Cond.methodLink RX9 137 yX5_reckon, Cond.instanceMethod yX5_reckon, Cond.selects RX5 yX5_reckon yX5_reckon, Cond.initialized RX5, Cond.code yX5_reckon cX5_reckon 8 (some .long), Cond.fieldLink RX5 25 "ScaleHouse$Reckoner" "depth" "I", Cond.fieldLink RX5 9 "ScaleHouse$Reckoner" "sums" "[J", Cond.fieldLink RX5 18 "ScaleHouse$Reckoner" "sumSigns" "[I", Cond.fieldLink RX5 22 "ScaleHouse$Reckoner" "productSigns" "[I", Cond.methodLink RX5 29 yX5_begin, Cond.instanceMethod yX5_begin, Cond.selects RX5 yX5_begin yX5_begin, Cond.code yX5_begin cX5_begin 1 none, Cond.methodLink RX5 40 yX5_beginProduct, Cond.instanceMethod yX5_beginProduct, Cond.selects RX5 yX5_beginProduct yX5_beginProduct, Cond.code yX5_beginProduct cX5_beginProduct 1 none, Cond.fieldLink RX5 15 "ScaleHouse$Reckoner" "products" "[J", Cond.methodLink RX5 32 yX5_takeFactor, Cond.instanceMethod yX5_takeFactor, Cond.selects RX5 yX5_takeFactor yX5_takeFactor, Cond.code yX5_takeFactor cX5_takeFactor 5 none, Cond.methodLink RX5 43 yX5_bounded, Cond.static yX5_bounded]
def wsX9_scale_r4 : List Cond := [Cond.code yX5_bounded cX5_bounded 2 (some .long), Cond.constantLong RX5 53 (1000000000), Cond.constantLong RX5 55 (-1000000000), Cond.methodLink RX5 47 yJ9_floorDiv_f86c9, Cond.static yJ9_floorDiv_f86c9, Cond.initialized RJ9, Cond.code yJ9_floorDiv_f86c9 cJ9_floorDiv_f86c9 6 (some .long), Cond.methodLink RX5 36 yX5_wholeSum, Cond.instanceMethod yX5_wholeSum, Cond.selects RX5 yX5_wholeSum yX5_wholeSum, Cond.code yX5_wholeSum cX5_wholeSum 3 (some .long)]
def wsX9_scale : List Cond := .code yX9_scale cX9_scale 3 (some .int) :: ((wsX9_scale_r1 ++ (wsX9_scale_r2 ++ (wsX9_scale_r3 ++ wsX9_scale_r4))) ++ wsX90 ++ wsX30 ++ wsX10 ++ wsX60 ++ wsX50)
def wsX9_scaleOrNothing_r1 : List Cond := [Cond.methodLink RX9 165 yX9_scaleOf, Cond.instanceMethod yX9_scaleOf, Cond.selects RX9 yX9_scaleOf yX9_scaleOf, Cond.initialized RX9, Cond.code yX9_scaleOf cX9_scaleOf 7 (some .int), Cond.fieldLink RX9 28 "ScaleHouse" "lawDays" "LScaleHouse$Register;", Cond.fieldLink RX9 19 "ScaleHouse" "reckoner" "LScaleHouse$Reckoner;", Cond.fieldLink RX9 34 "ScaleHouse" "laws" "[LScaleHouse$Law;", Cond.constantLong RX9 266 (1000000), Cond.methodLink RX9 268 Lib.MathLoose.min_long.x, Cond.static Lib.MathLoose.min_long.x, Cond.initialized "java/lang/Math", Cond.code Lib.MathLoose.min_long.x Lib.MathLoose.min_long.code 4 (some .long), Cond.methodLink RX9 273 Lib.MathLoose.max_long.x, Cond.static Lib.MathLoose.max_long.x, Cond.code Lib.MathLoose.max_long.x Lib.MathLoose.max_long.code 4 (some .long), Cond.methodLink RX9 144 yX6_inForce, Cond.instanceMethod yX6_inForce, Cond.selects RX6 yX6_inForce yX6_inForce, Cond.initialized RX6, Cond.code yX6_inForce cX6_inForce 7 (some .int), Cond.fieldLink RX6 9 "ScaleHouse$Register" "size" "I", Cond.fieldLink RX6 15 "ScaleHouse$Register" "names" "[I", Cond.fieldLink RX6 22 "ScaleHouse$Register" "tolds" "[I"]
def wsX9_scaleOrNothing_r2 : List Cond := [Cond.fieldLink RX6 19 "ScaleHouse$Register" "froms" "[I", Cond.methodLink RX9 260 yX9_trueD, Cond.instanceMethod yX9_trueD, Cond.selects RX9 yX9_trueD yX9_trueD, Cond.code yX9_trueD cX9_trueD 5 (some .int), Cond.fieldLink RX9 38 "ScaleHouse" "errorDays" "LScaleHouse$Register;", Cond.fieldLink RX9 41 "ScaleHouse" "errorParts" "[I", Cond.methodLink RX9 276 Lib.Math.max.name, Cond.static Lib.Math.max.name, Cond.code Lib.Math.max.name Lib.Math.max.code 2 (some .int), Cond.methodLink RX9 137 yX5_reckon, Cond.instanceMethod yX5_reckon, Cond.selects RX5 yX5_reckon yX5_reckon, Cond.initialized RX5, Cond.code yX5_reckon cX5_reckon 8 (some .long), Cond.fieldLink RX5 25 "ScaleHouse$Reckoner" "depth" "I", Cond.fieldLink RX5 9 "ScaleHouse$Reckoner" "sums" "[J", Cond.fieldLink RX5 18 "ScaleHouse$Reckoner" "sumSigns" "[I", Cond.fieldLink RX5 22 "ScaleHouse$Reckoner" "productSigns" "[I", Cond.methodLink RX5 29 yX5_begin, Cond.instanceMethod yX5_begin, Cond.selects RX5 yX5_begin yX5_begin, Cond.code yX5_begin cX5_begin 1 none, Cond.methodLink RX5 40 yX5_beginProduct]
def wsX9_scaleOrNothing_r3 : List Cond := [Cond.instanceMethod yX5_beginProduct, Cond.selects RX5 yX5_beginProduct yX5_beginProduct, Cond.code yX5_beginProduct cX5_beginProduct 1 none, Cond.fieldLink RX5 15 "ScaleHouse$Reckoner" "products" "[J", Cond.methodLink RX5 32 yX5_takeFactor, Cond.instanceMethod yX5_takeFactor, Cond.selects RX5 yX5_takeFactor yX5_takeFactor, Cond.code yX5_takeFactor cX5_takeFactor 5 none, Cond.methodLink RX5 43 yX5_bounded, Cond.static yX5_bounded, Cond.code yX5_bounded cX5_bounded 2 (some .long), Cond.constantLong RX5 53 (1000000000), Cond.constantLong RX5 55 (-1000000000), Cond.methodLink RX5 47 yJ9_floorDiv_f86c9, Cond.static yJ9_floorDiv_f86c9, Cond.initialized RJ9, Cond.code yJ9_floorDiv_f86c9 cJ9_floorDiv_f86c9 6 (some .long), Cond.methodLink RX5 36 yX5_wholeSum, Cond.instanceMethod yX5_wholeSum, Cond.selects RX5 yX5_wholeSum yX5_wholeSum, Cond.code yX5_wholeSum cX5_wholeSum 3 (some .long)]
def wsX9_scaleOrNothing : List Cond := .code yX9_scaleOrNothing cX9_scaleOrNothing 4 (some .int) :: ((wsX9_scaleOrNothing_r1 ++ (wsX9_scaleOrNothing_r2 ++ wsX9_scaleOrNothing_r3)) ++ wsX30 ++ wsX90 ++ wsX10 ++ wsX60 ++ wsX50)
def wsX9_sum_r1 : List Cond := [Cond.fieldLink RX9 78 "ScaleHouse" "logCount" "I", Cond.fieldLink RX9 47 "ScaleHouse" "logs" "[LScaleHouse$Log;", Cond.methodLink RX9 150 yX9_isOwner, Cond.static yX9_isOwner, Cond.initialized RX9, Cond.code yX9_isOwner cX9_isOwner 1 (some .boolean), Cond.methodLink RX9 101 yX9_within, Cond.static yX9_within, Cond.code yX9_within cX9_within 3 (some .boolean), Cond.methodLink RX9 141 yX9_isKnown, Cond.instanceMethod yX9_isKnown, Cond.selects RX9 yX9_isKnown yX9_isKnown, Cond.code yX9_isKnown cX9_isKnown 2 (some .boolean), Cond.fieldLink RX9 82 "ScaleHouse" "now" "I", Cond.methodLink RX9 172 yX9_scaleOrNothing, Cond.instanceMethod yX9_scaleOrNothing, Cond.selects RX9 yX9_scaleOrNothing yX9_scaleOrNothing, Cond.code yX9_scaleOrNothing cX9_scaleOrNothing 4 (some .int), Cond.methodLink RX9 165 yX9_scaleOf, Cond.instanceMethod yX9_scaleOf, Cond.selects RX9 yX9_scaleOf yX9_scaleOf, Cond.code yX9_scaleOf cX9_scaleOf 7 (some .int), Cond.fieldLink RX9 28 "ScaleHouse" "lawDays" "LScaleHouse$Register;", Cond.fieldLink RX9 19 "ScaleHouse" "reckoner" "LScaleHouse$Reckoner;"]
def wsX9_sum_r2 : List Cond := [Cond.fieldLink RX9 34 "ScaleHouse" "laws" "[LScaleHouse$Law;", Cond.constantLong RX9 266 (1000000), Cond.methodLink RX9 268 Lib.MathLoose.min_long.x, Cond.static Lib.MathLoose.min_long.x, Cond.initialized "java/lang/Math", Cond.code Lib.MathLoose.min_long.x Lib.MathLoose.min_long.code 4 (some .long), Cond.methodLink RX9 273 Lib.MathLoose.max_long.x, Cond.static Lib.MathLoose.max_long.x, Cond.code Lib.MathLoose.max_long.x Lib.MathLoose.max_long.code 4 (some .long), Cond.methodLink RX9 144 yX6_inForce, Cond.instanceMethod yX6_inForce, Cond.selects RX6 yX6_inForce yX6_inForce, Cond.initialized RX6, Cond.code yX6_inForce cX6_inForce 7 (some .int), Cond.fieldLink RX6 9 "ScaleHouse$Register" "size" "I", Cond.fieldLink RX6 15 "ScaleHouse$Register" "names" "[I", Cond.fieldLink RX6 22 "ScaleHouse$Register" "tolds" "[I", Cond.fieldLink RX6 19 "ScaleHouse$Register" "froms" "[I", Cond.methodLink RX9 260 yX9_trueD, Cond.instanceMethod yX9_trueD, Cond.selects RX9 yX9_trueD yX9_trueD, Cond.code yX9_trueD cX9_trueD 5 (some .int), Cond.fieldLink RX9 38 "ScaleHouse" "errorDays" "LScaleHouse$Register;", Cond.fieldLink RX9 41 "ScaleHouse" "errorParts" "[I"]
def wsX9_sum_r3 : List Cond := [Cond.methodLink RX9 276 Lib.Math.max.name, Cond.static Lib.Math.max.name, Cond.code Lib.Math.max.name Lib.Math.max.code 2 (some .int), Cond.methodLink RX9 137 yX5_reckon, Cond.instanceMethod yX5_reckon, Cond.selects RX5 yX5_reckon yX5_reckon, Cond.initialized RX5, Cond.code yX5_reckon cX5_reckon 8 (some .long), Cond.fieldLink RX5 25 "ScaleHouse$Reckoner" "depth" "I", Cond.fieldLink RX5 9 "ScaleHouse$Reckoner" "sums" "[J", Cond.fieldLink RX5 18 "ScaleHouse$Reckoner" "sumSigns" "[I", Cond.fieldLink RX5 22 "ScaleHouse$Reckoner" "productSigns" "[I", Cond.methodLink RX5 29 yX5_begin, Cond.instanceMethod yX5_begin, Cond.selects RX5 yX5_begin yX5_begin, Cond.code yX5_begin cX5_begin 1 none, Cond.methodLink RX5 40 yX5_beginProduct, Cond.instanceMethod yX5_beginProduct, Cond.selects RX5 yX5_beginProduct yX5_beginProduct, Cond.code yX5_beginProduct cX5_beginProduct 1 none, Cond.fieldLink RX5 15 "ScaleHouse$Reckoner" "products" "[J", Cond.methodLink RX5 32 yX5_takeFactor, Cond.instanceMethod yX5_takeFactor, Cond.selects RX5 yX5_takeFactor yX5_takeFactor]
def wsX9_sum_r4 : List Cond := [Cond.code yX5_takeFactor cX5_takeFactor 5 none, Cond.methodLink RX5 43 yX5_bounded, Cond.static yX5_bounded, Cond.code yX5_bounded cX5_bounded 2 (some .long), Cond.constantLong RX5 53 (1000000000), Cond.constantLong RX5 55 (-1000000000), Cond.methodLink RX5 47 yJ9_floorDiv_f86c9, Cond.static yJ9_floorDiv_f86c9, Cond.initialized RJ9, Cond.code yJ9_floorDiv_f86c9 cJ9_floorDiv_f86c9 6 (some .long), Cond.methodLink RX5 36 yX5_wholeSum, Cond.instanceMethod yX5_wholeSum, Cond.selects RX5 yX5_wholeSum yX5_wholeSum, Cond.code yX5_wholeSum cX5_wholeSum 3 (some .long)]
def wsX9_sum : List Cond := .code yX9_sum cX9_sum 5 (some .int) :: ((wsX9_sum_r1 ++ (wsX9_sum_r2 ++ (wsX9_sum_r3 ++ wsX9_sum_r4))) ++ wsX90 ++ wsX30 ++ wsX10 ++ wsX60 ++ wsX50)
def wsX9_price : List Cond := .code yX9_price cX9_price 3 (some .boolean) :: ([.fieldLink RX9 51 "ScaleHouse" "prices" "[I", .methodLink RX9 150 yX9_isOwner, .static yX9_isOwner, .initialized RX9, .code yX9_isOwner cX9_isOwner 1 (some .boolean), .methodLink RX9 101 yX9_within, .static yX9_within, .code yX9_within cX9_within 3 (some .boolean)] ++ wsX90)
def wsX9_reckonPays_r1 : List Cond := [Cond.fieldLink RX9 78 "ScaleHouse" "logCount" "I", Cond.fieldLink RX9 54 "ScaleHouse" "pays" "[I", Cond.fieldLink RX9 47 "ScaleHouse" "logs" "[LScaleHouse$Log;", Cond.fieldLink RX9 82 "ScaleHouse" "now" "I", Cond.fieldLink RX9 51 "ScaleHouse" "prices" "[I", Cond.methodLink RX9 172 yX9_scaleOrNothing, Cond.instanceMethod yX9_scaleOrNothing, Cond.selects RX9 yX9_scaleOrNothing yX9_scaleOrNothing, Cond.initialized RX9, Cond.code yX9_scaleOrNothing cX9_scaleOrNothing 4 (some .int), Cond.methodLink RX9 165 yX9_scaleOf, Cond.instanceMethod yX9_scaleOf, Cond.selects RX9 yX9_scaleOf yX9_scaleOf, Cond.code yX9_scaleOf cX9_scaleOf 7 (some .int), Cond.fieldLink RX9 28 "ScaleHouse" "lawDays" "LScaleHouse$Register;", Cond.fieldLink RX9 19 "ScaleHouse" "reckoner" "LScaleHouse$Reckoner;", Cond.fieldLink RX9 34 "ScaleHouse" "laws" "[LScaleHouse$Law;", Cond.constantLong RX9 266 (1000000), Cond.methodLink RX9 268 Lib.MathLoose.min_long.x, Cond.static Lib.MathLoose.min_long.x, Cond.initialized "java/lang/Math", Cond.code Lib.MathLoose.min_long.x Lib.MathLoose.min_long.code 4 (some .long), Cond.methodLink RX9 273 Lib.MathLoose.max_long.x, Cond.static Lib.MathLoose.max_long.x]
def wsX9_reckonPays_r2 : List Cond := [Cond.code Lib.MathLoose.max_long.x Lib.MathLoose.max_long.code 4 (some .long), Cond.methodLink RX9 144 yX6_inForce, Cond.instanceMethod yX6_inForce, Cond.selects RX6 yX6_inForce yX6_inForce, Cond.initialized RX6, Cond.code yX6_inForce cX6_inForce 7 (some .int), Cond.fieldLink RX6 9 "ScaleHouse$Register" "size" "I", Cond.fieldLink RX6 15 "ScaleHouse$Register" "names" "[I", Cond.fieldLink RX6 22 "ScaleHouse$Register" "tolds" "[I", Cond.fieldLink RX6 19 "ScaleHouse$Register" "froms" "[I", Cond.methodLink RX9 260 yX9_trueD, Cond.instanceMethod yX9_trueD, Cond.selects RX9 yX9_trueD yX9_trueD, Cond.code yX9_trueD cX9_trueD 5 (some .int), Cond.fieldLink RX9 38 "ScaleHouse" "errorDays" "LScaleHouse$Register;", Cond.fieldLink RX9 41 "ScaleHouse" "errorParts" "[I", Cond.methodLink RX9 276 Lib.Math.max.name, Cond.static Lib.Math.max.name, Cond.code Lib.Math.max.name Lib.Math.max.code 2 (some .int), Cond.methodLink RX9 137 yX5_reckon, Cond.instanceMethod yX5_reckon, Cond.selects RX5 yX5_reckon yX5_reckon, Cond.initialized RX5, Cond.code yX5_reckon cX5_reckon 8 (some .long)]
def wsX9_reckonPays_r3 : List Cond := [Cond.fieldLink RX5 25 "ScaleHouse$Reckoner" "depth" "I", Cond.fieldLink RX5 9 "ScaleHouse$Reckoner" "sums" "[J", Cond.fieldLink RX5 18 "ScaleHouse$Reckoner" "sumSigns" "[I", Cond.fieldLink RX5 22 "ScaleHouse$Reckoner" "productSigns" "[I", Cond.methodLink RX5 29 yX5_begin, Cond.instanceMethod yX5_begin, Cond.selects RX5 yX5_begin yX5_begin, Cond.code yX5_begin cX5_begin 1 none, Cond.methodLink RX5 40 yX5_beginProduct, Cond.instanceMethod yX5_beginProduct, Cond.selects RX5 yX5_beginProduct yX5_beginProduct, Cond.code yX5_beginProduct cX5_beginProduct 1 none, Cond.fieldLink RX5 15 "ScaleHouse$Reckoner" "products" "[J", Cond.methodLink RX5 32 yX5_takeFactor, Cond.instanceMethod yX5_takeFactor, Cond.selects RX5 yX5_takeFactor yX5_takeFactor, Cond.code yX5_takeFactor cX5_takeFactor 5 none, Cond.methodLink RX5 43 yX5_bounded, Cond.static yX5_bounded, Cond.code yX5_bounded cX5_bounded 2 (some .long), Cond.constantLong RX5 53 (1000000000), Cond.constantLong RX5 55 (-1000000000), Cond.methodLink RX5 47 yJ9_floorDiv_f86c9, Cond.static yJ9_floorDiv_f86c9]
def wsX9_reckonPays_r4 : List Cond := [Cond.initialized RJ9, Cond.code yJ9_floorDiv_f86c9 cJ9_floorDiv_f86c9 6 (some .long), Cond.methodLink RX5 36 yX5_wholeSum, Cond.instanceMethod yX5_wholeSum, Cond.selects RX5 yX5_wholeSum yX5_wholeSum, Cond.code yX5_wholeSum cX5_wholeSum 3 (some .long)]
def wsX9_reckonPays : List Cond := .code yX9_reckonPays cX9_reckonPays 3 (some .int) :: ((wsX9_reckonPays_r1 ++ (wsX9_reckonPays_r2 ++ (wsX9_reckonPays_r3 ++ wsX9_reckonPays_r4))) ++ wsX90 ++ wsX30 ++ wsX10 ++ wsX60 ++ wsX50)
def wsX9_bookPays_r1 : List Cond := [Cond.fieldLink RX9 78 "ScaleHouse" "logCount" "I", Cond.fieldLink RX9 54 "ScaleHouse" "pays" "[I", Cond.fieldLink RX9 47 "ScaleHouse" "logs" "[LScaleHouse$Log;", Cond.fieldLink RX9 60 "ScaleHouse" "ledger" "LScaleHouse$Ledger;", Cond.fieldLink RX9 82 "ScaleHouse" "now" "I", Cond.methodLink RX9 282 yX2_write, Cond.instanceMethod yX2_write, Cond.selects RX2 yX2_write yX2_write, Cond.initialized RX2, Cond.code yX2_write cX2_write 4 none, Cond.fieldLink RX2 21 "ScaleHouse$Ledger" "size" "I", Cond.fieldLink RX2 9 "ScaleHouse$Ledger" "days" "[I", Cond.fieldLink RX2 15 "ScaleHouse$Ledger" "logs" "[I", Cond.fieldLink RX2 18 "ScaleHouse$Ledger" "coins" "[I", Cond.fieldLink RX2 25 "ScaleHouse$Ledger" "allCoins" "I", Cond.methodLink RX2 28 yX2_grow, Cond.instanceMethod yX2_grow, Cond.selects RX2 yX2_grow yX2_grow, Cond.code yX2_grow cX2_grow 2 none, Cond.methodLink RX2 31 Lib.Math.min.name, Cond.static Lib.Math.min.name, Cond.initialized "java/lang/Math", Cond.code Lib.Math.min.name Lib.Math.min.code 2 (some .int), Cond.methodLink RX2 37 yJ7_copyOf_59c91]
def wsX9_bookPays_r2 : List Cond := [Cond.static yJ7_copyOf_59c91, Cond.initialized RJ7, Cond.code yJ7_copyOf_59c91 cJ7_copyOf_59c91 3 (some (.array .int)), Cond.methodLink RJ7 316 ⟨"[I", "clone", "()Ljava/lang/Object;"⟩, Cond.sameMethod "[I" "java/lang/Object" "clone" "()Ljava/lang/Object;", Cond.native ⟨"java/lang/Object", "clone", "()Ljava/lang/Object;"⟩, Cond.instanceMethod ⟨"java/lang/Object", "clone", "()Ljava/lang/Object;"⟩, Cond.selects "[I" ⟨"[I", "clone", "()Ljava/lang/Object;"⟩ ⟨"java/lang/Object", "clone", "()Ljava/lang/Object;"⟩, Cond.classLink RJ7 317 "[I", Cond.arrayClass .int, Cond.methodLink RJ7 304 Lib.Math.min.name, Cond.methodLink RJ7 150 arraycopyName, Cond.native arraycopyName, Cond.static arraycopyName, Cond.initialized "java/lang/System"]
def wsX9_bookPays : List Cond := .code yX9_bookPays cX9_bookPays 3 none :: ((wsX9_bookPays_r1 ++ wsX9_bookPays_r2) ++ wsX90 ++ wsX30 ++ wsX20)
def wsX9_day_r1 : List Cond := [Cond.fieldLink RX9 82 "ScaleHouse" "now" "I", Cond.fieldLink RX9 60 "ScaleHouse" "ledger" "LScaleHouse$Ledger;", Cond.methodLink RX9 175 yX9_reckonPays, Cond.instanceMethod yX9_reckonPays, Cond.selects RX9 yX9_reckonPays yX9_reckonPays, Cond.initialized RX9, Cond.code yX9_reckonPays cX9_reckonPays 3 (some .int), Cond.fieldLink RX9 78 "ScaleHouse" "logCount" "I", Cond.fieldLink RX9 54 "ScaleHouse" "pays" "[I", Cond.fieldLink RX9 47 "ScaleHouse" "logs" "[LScaleHouse$Log;", Cond.fieldLink RX9 51 "ScaleHouse" "prices" "[I", Cond.methodLink RX9 172 yX9_scaleOrNothing, Cond.instanceMethod yX9_scaleOrNothing, Cond.selects RX9 yX9_scaleOrNothing yX9_scaleOrNothing, Cond.code yX9_scaleOrNothing cX9_scaleOrNothing 4 (some .int), Cond.methodLink RX9 165 yX9_scaleOf, Cond.instanceMethod yX9_scaleOf, Cond.selects RX9 yX9_scaleOf yX9_scaleOf, Cond.code yX9_scaleOf cX9_scaleOf 7 (some .int), Cond.fieldLink RX9 28 "ScaleHouse" "lawDays" "LScaleHouse$Register;", Cond.fieldLink RX9 19 "ScaleHouse" "reckoner" "LScaleHouse$Reckoner;", Cond.fieldLink RX9 34 "ScaleHouse" "laws" "[LScaleHouse$Law;", Cond.constantLong RX9 266 (1000000), Cond.methodLink RX9 268 Lib.MathLoose.min_long.x]
def wsX9_day_r2 : List Cond := [Cond.static Lib.MathLoose.min_long.x, Cond.initialized "java/lang/Math", Cond.code Lib.MathLoose.min_long.x Lib.MathLoose.min_long.code 4 (some .long), Cond.methodLink RX9 273 Lib.MathLoose.max_long.x, Cond.static Lib.MathLoose.max_long.x, Cond.code Lib.MathLoose.max_long.x Lib.MathLoose.max_long.code 4 (some .long), Cond.methodLink RX9 144 yX6_inForce, Cond.instanceMethod yX6_inForce, Cond.selects RX6 yX6_inForce yX6_inForce, Cond.initialized RX6, Cond.code yX6_inForce cX6_inForce 7 (some .int), Cond.fieldLink RX6 9 "ScaleHouse$Register" "size" "I", Cond.fieldLink RX6 15 "ScaleHouse$Register" "names" "[I", Cond.fieldLink RX6 22 "ScaleHouse$Register" "tolds" "[I", Cond.fieldLink RX6 19 "ScaleHouse$Register" "froms" "[I", Cond.methodLink RX9 260 yX9_trueD, Cond.instanceMethod yX9_trueD, Cond.selects RX9 yX9_trueD yX9_trueD, Cond.code yX9_trueD cX9_trueD 5 (some .int), Cond.fieldLink RX9 38 "ScaleHouse" "errorDays" "LScaleHouse$Register;", Cond.fieldLink RX9 41 "ScaleHouse" "errorParts" "[I", Cond.methodLink RX9 276 Lib.Math.max.name, Cond.static Lib.Math.max.name, Cond.code Lib.Math.max.name Lib.Math.max.code 2 (some .int)]
def wsX9_day_r3 : List Cond := [Cond.methodLink RX9 137 yX5_reckon, Cond.instanceMethod yX5_reckon, Cond.selects RX5 yX5_reckon yX5_reckon, Cond.initialized RX5, Cond.code yX5_reckon cX5_reckon 8 (some .long), Cond.fieldLink RX5 25 "ScaleHouse$Reckoner" "depth" "I", Cond.fieldLink RX5 9 "ScaleHouse$Reckoner" "sums" "[J", Cond.fieldLink RX5 18 "ScaleHouse$Reckoner" "sumSigns" "[I", Cond.fieldLink RX5 22 "ScaleHouse$Reckoner" "productSigns" "[I", Cond.methodLink RX5 29 yX5_begin, Cond.instanceMethod yX5_begin, Cond.selects RX5 yX5_begin yX5_begin, Cond.code yX5_begin cX5_begin 1 none, Cond.methodLink RX5 40 yX5_beginProduct, Cond.instanceMethod yX5_beginProduct, Cond.selects RX5 yX5_beginProduct yX5_beginProduct, Cond.code yX5_beginProduct cX5_beginProduct 1 none, Cond.fieldLink RX5 15 "ScaleHouse$Reckoner" "products" "[J", Cond.methodLink RX5 32 yX5_takeFactor, Cond.instanceMethod yX5_takeFactor, Cond.selects RX5 yX5_takeFactor yX5_takeFactor, Cond.code yX5_takeFactor cX5_takeFactor 5 none, Cond.methodLink RX5 43 yX5_bounded, Cond.static yX5_bounded]
def wsX9_day_r4 : List Cond := [Cond.code yX5_bounded cX5_bounded 2 (some .long), Cond.constantLong RX5 53 (1000000000), Cond.constantLong RX5 55 (-1000000000), Cond.methodLink RX5 47 yJ9_floorDiv_f86c9, Cond.static yJ9_floorDiv_f86c9, Cond.initialized RJ9, Cond.code yJ9_floorDiv_f86c9 cJ9_floorDiv_f86c9 6 (some .long), Cond.methodLink RX5 36 yX5_wholeSum, Cond.instanceMethod yX5_wholeSum, Cond.selects RX5 yX5_wholeSum yX5_wholeSum, Cond.code yX5_wholeSum cX5_wholeSum 3 (some .long), Cond.methodLink RX9 179 yX9_bookPays, Cond.instanceMethod yX9_bookPays, Cond.selects RX9 yX9_bookPays yX9_bookPays, Cond.code yX9_bookPays cX9_bookPays 3 none, Cond.methodLink RX9 282 yX2_write, Cond.instanceMethod yX2_write, Cond.selects RX2 yX2_write yX2_write, Cond.initialized RX2, Cond.code yX2_write cX2_write 4 none, Cond.fieldLink RX2 21 "ScaleHouse$Ledger" "size" "I", Cond.fieldLink RX2 9 "ScaleHouse$Ledger" "days" "[I", Cond.fieldLink RX2 15 "ScaleHouse$Ledger" "logs" "[I", Cond.fieldLink RX2 18 "ScaleHouse$Ledger" "coins" "[I"]
def wsX9_day_r5 : List Cond := [Cond.fieldLink RX2 25 "ScaleHouse$Ledger" "allCoins" "I", Cond.methodLink RX2 28 yX2_grow, Cond.instanceMethod yX2_grow, Cond.selects RX2 yX2_grow yX2_grow, Cond.code yX2_grow cX2_grow 2 none, Cond.methodLink RX2 31 Lib.Math.min.name, Cond.static Lib.Math.min.name, Cond.code Lib.Math.min.name Lib.Math.min.code 2 (some .int), Cond.methodLink RX2 37 yJ7_copyOf_59c91, Cond.static yJ7_copyOf_59c91, Cond.initialized RJ7, Cond.code yJ7_copyOf_59c91 cJ7_copyOf_59c91 3 (some (.array .int)), Cond.methodLink RJ7 316 ⟨"[I", "clone", "()Ljava/lang/Object;"⟩, Cond.sameMethod "[I" "java/lang/Object" "clone" "()Ljava/lang/Object;", Cond.native ⟨"java/lang/Object", "clone", "()Ljava/lang/Object;"⟩, Cond.instanceMethod ⟨"java/lang/Object", "clone", "()Ljava/lang/Object;"⟩, Cond.selects "[I" ⟨"[I", "clone", "()Ljava/lang/Object;"⟩ ⟨"java/lang/Object", "clone", "()Ljava/lang/Object;"⟩, Cond.classLink RJ7 317 "[I", Cond.arrayClass .int, Cond.methodLink RJ7 304 Lib.Math.min.name, Cond.methodLink RJ7 150 arraycopyName, Cond.native arraycopyName, Cond.static arraycopyName, Cond.initialized "java/lang/System"]
def wsX9_day : List Cond := .code yX9_day cX9_day 2 (some .int) :: ((wsX9_day_r1 ++ (wsX9_day_r2 ++ (wsX9_day_r3 ++ (wsX9_day_r4 ++ wsX9_day_r5)))) ++ wsX90 ++ wsX20 ++ wsX30 ++ wsX10 ++ wsX60 ++ wsX50)
def wsX9_line : List Cond := .code yX9_line cX9_line 3 (some .int) :: ([.fieldLink RX9 60 "ScaleHouse" "ledger" "LScaleHouse$Ledger;", .constant RX9 182 (-1000000000), .methodLink RX9 101 yX9_within, .static yX9_within, .initialized RX9, .code yX9_within cX9_within 3 (some .boolean)] ++ wsX90 ++ wsX20)
def wsX9_check : List Cond := .code yX9_check cX9_check 3 (some .boolean) :: ([.fieldLink RX9 47 "ScaleHouse" "logs" "[LScaleHouse$Log;", .methodLink RX9 156 yX9_isLog, .instanceMethod yX9_isLog, .selects RX9 yX9_isLog yX9_isLog, .initialized RX9, .code yX9_isLog cX9_isLog 2 (some .boolean), .fieldLink RX9 78 "ScaleHouse" "logCount" "I", .methodLink RX9 101 yX9_within, .static yX9_within, .code yX9_within cX9_within 3 (some .boolean)] ++ wsX90 ++ wsX30)
def wsX9_commonDivisor : List Cond := .code yX9_commonDivisor cX9_commonDivisor 11 (some .long) :: ([])
def wsX9_habit : List Cond := .code yX9_habit cX9_habit 9 (some .long) :: ([.constantLong RX9 194 (-1), .fieldLink RX9 78 "ScaleHouse" "logCount" "I", .fieldLink RX9 47 "ScaleHouse" "logs" "[LScaleHouse$Log;", .methodLink RX9 147 yX9_isStick, .static yX9_isStick, .initialized RX9, .code yX9_isStick cX9_isStick 1 (some .boolean), .methodLink RX9 101 yX9_within, .static yX9_within, .code yX9_within cX9_within 3 (some .boolean), .methodLink RX9 202 yX9_commonDivisor, .static yX9_commonDivisor, .code yX9_commonDivisor cX9_commonDivisor 11 (some .long)] ++ wsX90 ++ wsX30)
def wsX9_row : List Cond := .code yX9_row cX9_row 4 (some .int) :: ([.fieldLink RX9 67 "ScaleHouse" "pairing" "LScaleHouse$Pairing;", .methodLink RX9 101 yX9_within, .static yX9_within, .initialized RX9, .code yX9_within cX9_within 3 (some .boolean), .methodLink RX9 206 yX4_addRow, .instanceMethod yX4_addRow, .selects RX4 yX4_addRow yX4_addRow, .initialized RX4, .code yX4_addRow cX4_addRow 4 (some .int), .fieldLink RX4 47 "ScaleHouse$Pairing" "settled" "Z", .fieldLink RX4 12 "ScaleHouse$Pairing" "buyer" "LScaleHouse$Tally;", .fieldLink RX4 18 "ScaleHouse$Pairing" "seller" "LScaleHouse$Tally;", .methodLink RX4 51 yX7_add, .instanceMethod yX7_add, .selects RX7 yX7_add yX7_add, .initialized RX7, .code yX7_add cX7_add 3 (some .int), .fieldLink RX7 18 "ScaleHouse$Tally" "size" "I", .fieldLink RX7 9 "ScaleHouse$Tally" "ds" "[I", .fieldLink RX7 15 "ScaleHouse$Tally" "ls" "[I"] ++ wsX90 ++ wsX40 ++ wsX70)
def wsX9_clear : List Cond := .code yX9_clear cX9_clear 1 none :: ([.fieldLink RX9 67 "ScaleHouse" "pairing" "LScaleHouse$Pairing;", .methodLink RX9 209 yX4_removeRows, .instanceMethod yX4_removeRows, .selects RX4 yX4_removeRows yX4_removeRows, .initialized RX4, .code yX4_removeRows cX4_removeRows 1 none, .fieldLink RX4 47 "ScaleHouse$Pairing" "settled" "Z", .fieldLink RX4 12 "ScaleHouse$Pairing" "buyer" "LScaleHouse$Tally;", .fieldLink RX4 18 "ScaleHouse$Pairing" "seller" "LScaleHouse$Tally;"] ++ wsX90 ++ wsX40 ++ wsX70)
def wsX9_allow : List Cond := .code yX9_allow cX9_allow 3 (some .boolean) :: ([.fieldLink RX9 67 "ScaleHouse" "pairing" "LScaleHouse$Pairing;", .methodLink RX9 101 yX9_within, .static yX9_within, .initialized RX9, .code yX9_within cX9_within 3 (some .boolean), .methodLink RX9 212 yX4_setApart, .instanceMethod yX4_setApart, .selects RX4 yX4_setApart yX4_setApart, .initialized RX4, .code yX4_setApart cX4_setApart 3 none, .fieldLink RX4 47 "ScaleHouse$Pairing" "settled" "Z", .fieldLink RX4 37 "ScaleHouse$Pairing" "td" "I", .fieldLink RX4 41 "ScaleHouse$Pairing" "tl" "I"] ++ wsX90 ++ wsX40)
def wsX9_pairs_r1 : List Cond := [Cond.fieldLink RX9 67 "ScaleHouse" "pairing" "LScaleHouse$Pairing;", Cond.methodLink RX9 216 yX4_settle, Cond.instanceMethod yX4_settle, Cond.selects RX4 yX4_settle yX4_settle, Cond.initialized RX4, Cond.code yX4_settle cX4_settle 2 none, Cond.fieldLink RX4 47 "ScaleHouse$Pairing" "settled" "Z", Cond.fieldLink RX4 12 "ScaleHouse$Pairing" "buyer" "LScaleHouse$Tally;", Cond.methodLink RX4 58 yX4_compareRows, Cond.instanceMethod yX4_compareRows, Cond.selects RX4 yX4_compareRows yX4_compareRows, Cond.code yX4_compareRows cX4_compareRows 3 none, Cond.fieldLink RX4 28 "ScaleHouse$Pairing" "agreeing" "[I", Cond.fieldLink RX4 18 "ScaleHouse$Pairing" "seller" "LScaleHouse$Tally;", Cond.methodLink RX4 71 Lib.Math.abs.name, Cond.static Lib.Math.abs.name, Cond.initialized "java/lang/Math", Cond.code Lib.Math.abs.name Lib.Math.abs.code 1 (some .int), Cond.fieldLink RX4 37 "ScaleHouse$Pairing" "td" "I", Cond.fieldLink RX4 41 "ScaleHouse$Pairing" "tl" "I", Cond.methodLink RX4 61 yX4_findAsManyAsCanBe, Cond.instanceMethod yX4_findAsManyAsCanBe, Cond.selects RX4 yX4_findAsManyAsCanBe yX4_findAsManyAsCanBe, Cond.code yX4_findAsManyAsCanBe cX4_findAsManyAsCanBe 1 none]
def wsX9_pairs_r2 : List Cond := [Cond.fieldLink RX4 21 "ScaleHouse$Pairing" "sellerOf" "[I", Cond.fieldLink RX4 25 "ScaleHouse$Pairing" "buyerOf" "[I", Cond.fieldLink RX4 44 "ScaleHouse$Pairing" "found" "I", Cond.methodLink RX4 80 yJ7_fill_53178, Cond.static yJ7_fill_53178, Cond.initialized RJ7, Cond.code yJ7_fill_53178 cJ7_fill_53178 4 none, Cond.methodLink RX4 86 yX4_pairOneMore, Cond.instanceMethod yX4_pairOneMore, Cond.selects RX4 yX4_pairOneMore yX4_pairOneMore, Cond.code yX4_pairOneMore cX4_pairOneMore 7 (some .boolean), Cond.fieldLink RX4 31 "ScaleHouse$Pairing" "reachedFrom" "[I", Cond.fieldLink RX4 34 "ScaleHouse$Pairing" "waiting" "[I", Cond.methodLink RX4 90 yX4_isKept, Cond.instanceMethod yX4_isKept, Cond.selects RX4 yX4_isKept yX4_isKept, Cond.code yX4_isKept cX4_isKept 3 (some .boolean), Cond.methodLink RX4 101 yX4_joinBackFrom, Cond.instanceMethod yX4_joinBackFrom, Cond.selects RX4 yX4_joinBackFrom yX4_joinBackFrom, Cond.code yX4_joinBackFrom cX4_joinBackFrom 6 none, Cond.methodLink RX4 97 yX4_join, Cond.instanceMethod yX4_join, Cond.selects RX4 yX4_join yX4_join]
def wsX9_pairs_r3 : List Cond := [Cond.code yX4_join cX4_join 3 none, Cond.methodLink RX4 64 yX4_takeLowest, Cond.instanceMethod yX4_takeLowest, Cond.selects RX4 yX4_takeLowest yX4_takeLowest, Cond.code yX4_takeLowest cX4_takeLowest 4 none, Cond.methodLink RX4 94 yX4_moveTo, Cond.instanceMethod yX4_moveTo, Cond.selects RX4 yX4_moveTo yX4_moveTo, Cond.code yX4_moveTo cX4_moveTo 5 (some .boolean)]
def wsX9_pairs : List Cond := .code yX9_pairs cX9_pairs 1 (some .int) :: ((wsX9_pairs_r1 ++ (wsX9_pairs_r2 ++ wsX9_pairs_r3)) ++ wsX90 ++ wsX40 ++ wsX70)
def wsX9_pair_r1 : List Cond := [Cond.fieldLink RX9 67 "ScaleHouse" "pairing" "LScaleHouse$Pairing;", Cond.methodLink RX9 101 yX9_within, Cond.static yX9_within, Cond.initialized RX9, Cond.code yX9_within cX9_within 3 (some .boolean), Cond.methodLink RX9 216 yX4_settle, Cond.instanceMethod yX4_settle, Cond.selects RX4 yX4_settle yX4_settle, Cond.initialized RX4, Cond.code yX4_settle cX4_settle 2 none, Cond.fieldLink RX4 47 "ScaleHouse$Pairing" "settled" "Z", Cond.fieldLink RX4 12 "ScaleHouse$Pairing" "buyer" "LScaleHouse$Tally;", Cond.methodLink RX4 58 yX4_compareRows, Cond.instanceMethod yX4_compareRows, Cond.selects RX4 yX4_compareRows yX4_compareRows, Cond.code yX4_compareRows cX4_compareRows 3 none, Cond.fieldLink RX4 28 "ScaleHouse$Pairing" "agreeing" "[I", Cond.fieldLink RX4 18 "ScaleHouse$Pairing" "seller" "LScaleHouse$Tally;", Cond.methodLink RX4 71 Lib.Math.abs.name, Cond.static Lib.Math.abs.name, Cond.initialized "java/lang/Math", Cond.code Lib.Math.abs.name Lib.Math.abs.code 1 (some .int), Cond.fieldLink RX4 37 "ScaleHouse$Pairing" "td" "I", Cond.fieldLink RX4 41 "ScaleHouse$Pairing" "tl" "I"]
def wsX9_pair_r2 : List Cond := [Cond.methodLink RX4 61 yX4_findAsManyAsCanBe, Cond.instanceMethod yX4_findAsManyAsCanBe, Cond.selects RX4 yX4_findAsManyAsCanBe yX4_findAsManyAsCanBe, Cond.code yX4_findAsManyAsCanBe cX4_findAsManyAsCanBe 1 none, Cond.fieldLink RX4 21 "ScaleHouse$Pairing" "sellerOf" "[I", Cond.fieldLink RX4 25 "ScaleHouse$Pairing" "buyerOf" "[I", Cond.fieldLink RX4 44 "ScaleHouse$Pairing" "found" "I", Cond.methodLink RX4 80 yJ7_fill_53178, Cond.static yJ7_fill_53178, Cond.initialized RJ7, Cond.code yJ7_fill_53178 cJ7_fill_53178 4 none, Cond.methodLink RX4 86 yX4_pairOneMore, Cond.instanceMethod yX4_pairOneMore, Cond.selects RX4 yX4_pairOneMore yX4_pairOneMore, Cond.code yX4_pairOneMore cX4_pairOneMore 7 (some .boolean), Cond.fieldLink RX4 31 "ScaleHouse$Pairing" "reachedFrom" "[I", Cond.fieldLink RX4 34 "ScaleHouse$Pairing" "waiting" "[I", Cond.methodLink RX4 90 yX4_isKept, Cond.instanceMethod yX4_isKept, Cond.selects RX4 yX4_isKept yX4_isKept, Cond.code yX4_isKept cX4_isKept 3 (some .boolean), Cond.methodLink RX4 101 yX4_joinBackFrom, Cond.instanceMethod yX4_joinBackFrom, Cond.selects RX4 yX4_joinBackFrom yX4_joinBackFrom]
def wsX9_pair_r3 : List Cond := [Cond.code yX4_joinBackFrom cX4_joinBackFrom 6 none, Cond.methodLink RX4 97 yX4_join, Cond.instanceMethod yX4_join, Cond.selects RX4 yX4_join yX4_join, Cond.code yX4_join cX4_join 3 none, Cond.methodLink RX4 64 yX4_takeLowest, Cond.instanceMethod yX4_takeLowest, Cond.selects RX4 yX4_takeLowest yX4_takeLowest, Cond.code yX4_takeLowest cX4_takeLowest 4 none, Cond.methodLink RX4 94 yX4_moveTo, Cond.instanceMethod yX4_moveTo, Cond.selects RX4 yX4_moveTo yX4_moveTo, Cond.code yX4_moveTo cX4_moveTo 5 (some .boolean)]
def wsX9_pair : List Cond := .code yX9_pair cX9_pair 2 (some .int) :: ((wsX9_pair_r1 ++ (wsX9_pair_r2 ++ wsX9_pair_r3)) ++ wsX90 ++ wsX40 ++ wsX70)
def wsX9_near : List Cond := .code yX9_near cX9_near 2 (some .boolean) :: ([.fieldLink RX9 74 "ScaleHouse" "court" "LScaleHouse$Court;", .methodLink RX9 101 yX9_within, .static yX9_within, .initialized RX9, .code yX9_within cX9_within 3 (some .boolean)] ++ wsX90 ++ wsX00)
def wsX9_isScale : List Cond := .code yX9_isScale cX9_isScale 1 (some .boolean) :: ([.constant RX9 256 (1000000), .methodLink RX9 101 yX9_within, .static yX9_within, .initialized RX9, .code yX9_within cX9_within 3 (some .boolean)])
def wsX9_judge_r1 : List Cond := [Cond.fieldLink RX9 74 "ScaleHouse" "court" "LScaleHouse$Court;", Cond.methodLink RX9 235 yX9_isScale, Cond.static yX9_isScale, Cond.initialized RX9, Cond.code yX9_isScale cX9_isScale 1 (some .boolean), Cond.constant RX9 256 (1000000), Cond.methodLink RX9 101 yX9_within, Cond.static yX9_within, Cond.code yX9_within cX9_within 3 (some .boolean), Cond.methodLink RX9 238 yX0_decide, Cond.instanceMethod yX0_decide, Cond.selects RX0 yX0_decide yX0_decide, Cond.initialized RX0, Cond.code yX0_decide cX0_decide 6 (some .int), Cond.fieldLink RX0 18 "ScaleHouse$Court" "buyerOff" "I", Cond.fieldLink RX0 21 "ScaleHouse$Court" "sellerOff" "I", Cond.fieldLink RX0 15 "ScaleHouse$Court" "stood" "I", Cond.methodLink RX0 24 yX0_isNear, Cond.instanceMethod yX0_isNear, Cond.selects RX0 yX0_isNear yX0_isNear, Cond.code yX0_isNear cX0_isNear 3 (some .boolean), Cond.methodLink RX0 28 Lib.Math.abs.name, Cond.static Lib.Math.abs.name, Cond.initialized "java/lang/Math"]
def wsX9_judge_r2 : List Cond := [Cond.code Lib.Math.abs.name Lib.Math.abs.code 1 (some .int), Cond.fieldLink RX0 9 "ScaleHouse$Court" "allowance" "I"]
def wsX9_judge : List Cond := .code yX9_judge cX9_judge 4 (some .int) :: ((wsX9_judge_r1 ++ wsX9_judge_r2) ++ wsX90 ++ wsX00)
def wsX9_count : List Cond := .code yX9_count cX9_count 2 (some .int) :: ([.fieldLink RX9 82 "ScaleHouse" "now" "I", .fieldLink RX9 28 "ScaleHouse" "lawDays" "LScaleHouse$Register;", .fieldLink RX9 78 "ScaleHouse" "logCount" "I", .fieldLink RX9 60 "ScaleHouse" "ledger" "LScaleHouse$Ledger;", .fieldLink RX9 67 "ScaleHouse" "pairing" "LScaleHouse$Pairing;", .fieldLink RX9 10 "ScaleHouse" "tape" "LScaleHouse$Tape;", .fieldLink RX9 74 "ScaleHouse" "court" "LScaleHouse$Court;"] ++ wsX90 ++ wsX60 ++ wsX20 ++ wsX40 ++ wsX70 ++ wsX80 ++ wsX00)
def wsX10_init_r1 : List Cond := [Cond.methodLink RX10 1 objectInit, Cond.instanceMethod objectInit, Cond.code objectInit ⟨#[0xb1]⟩ 1 none, Cond.arrayClass .byte, Cond.fieldLink RX10 9 "ScaleHouseModel" "tape" "[B", Cond.fieldLink RX10 13 "ScaleHouseModel" "lawText" "[B", Cond.arrayClass .int, Cond.fieldLink RX10 16 "ScaleHouseModel" "lawLong" "[I", Cond.fieldLink RX10 20 "ScaleHouseModel" "lawFrom" "[I", Cond.fieldLink RX10 23 "ScaleHouseModel" "lawTold" "[I", Cond.fieldLink RX10 26 "ScaleHouseModel" "errorStick" "[I", Cond.fieldLink RX10 29 "ScaleHouseModel" "errorParts" "[I", Cond.fieldLink RX10 32 "ScaleHouseModel" "errorFrom" "[I", Cond.fieldLink RX10 35 "ScaleHouseModel" "errorTold" "[I", Cond.fieldLink RX10 38 "ScaleHouseModel" "logOwner" "[I", Cond.fieldLink RX10 41 "ScaleHouseModel" "logStick" "[I", Cond.fieldLink RX10 44 "ScaleHouseModel" "logRead" "[I", Cond.fieldLink RX10 47 "ScaleHouseModel" "logLong" "[I", Cond.fieldLink RX10 50 "ScaleHouseModel" "logDay" "[I", Cond.fieldLink RX10 53 "ScaleHouseModel" "rot" "[I", Cond.fieldLink RX10 56 "ScaleHouseModel" "bend" "[I", Cond.fieldLink RX10 59 "ScaleHouseModel" "booked" "[I", Cond.fieldLink RX10 62 "ScaleHouseModel" "check" "[I", Cond.fieldLink RX10 65 "ScaleHouseModel" "price" "[I"]
def wsX10_init_r2 : List Cond := [Cond.fieldLink RX10 68 "ScaleHouseModel" "lineDay" "[I", Cond.fieldLink RX10 71 "ScaleHouseModel" "lineLog" "[I", Cond.fieldLink RX10 74 "ScaleHouseModel" "lineCoins" "[I", Cond.fieldLink RX10 77 "ScaleHouseModel" "row" "[B", Cond.fieldLink RX10 80 "ScaleHouseModel" "rowD" "[I", Cond.fieldLink RX10 83 "ScaleHouseModel" "rowL" "[I", Cond.fieldLink RX10 86 "ScaleHouseModel" "rows" "[I", Cond.fieldLink RX10 89 "ScaleHouseModel" "has" "[I", Cond.arrayClass .boolean, Cond.fieldLink RX10 92 "ScaleHouseModel" "isTaken" "[Z", Cond.fieldLink RX10 96 "ScaleHouseModel" "isTried" "[Z", Cond.fieldLink RX10 99 "ScaleHouseModel" "allowance" "I", Cond.fieldLink RX10 103 "ScaleHouseModel" "stood" "I"]
def wsX10_init : List Cond := .code yX10_init cX10_init 2 none :: ((wsX10_init_r1 ++ wsX10_init_r2) ++ wsX100)
def wsX10_thrown : List Cond := .code yX10_thrown cX10_thrown 1 (some .int) :: ([.fieldLink RX10 106 "ScaleHouseModel" "thrown" "I"] ++ wsX100)
def wsX10_isIn : List Cond := .code yX10_isIn cX10_isIn 3 (some .boolean) :: ([])
def wsX10_bytesIn : List Cond := .code yX10_bytesIn cX10_bytesIn 3 (some .int) :: ([])
def wsX10_put : List Cond := .code yX10_put cX10_put 3 none :: ([.fieldLink RX10 9 "ScaleHouseModel" "tape" "[B", .fieldLink RX10 109 "ScaleHouseModel" "length" "I"] ++ wsX100)
def wsX10_feed : List Cond := .code yX10_feed cX10_feed 6 (some .int) :: ([.fieldLink RX10 106 "ScaleHouseModel" "thrown" "I", .fieldLink RX10 109 "ScaleHouseModel" "length" "I", .methodLink RX10 112 yX10_bytesIn, .static yX10_bytesIn, .initialized RX10, .code yX10_bytesIn cX10_bytesIn 3 (some .int), .methodLink RX10 116 yX10_put, .instanceMethod yX10_put, .selects RX10 yX10_put yX10_put, .code yX10_put cX10_put 3 none, .fieldLink RX10 9 "ScaleHouseModel" "tape" "[B"] ++ wsX100)
def wsX10_end : List Cond := .code yX10_end cX10_end 2 (some .boolean) :: ([.fieldLink RX10 106 "ScaleHouseModel" "thrown" "I", .fieldLink RX10 109 "ScaleHouseModel" "length" "I"] ++ wsX100)
def wsX10_look : List Cond := .code yX10_look cX10_look 1 (some .int) :: ([.fieldLink RX10 120 "ScaleHouseModel" "at" "I", .fieldLink RX10 123 "ScaleHouseModel" "rowLong" "I", .fieldLink RX10 77 "ScaleHouseModel" "row" "[B", .fieldLink RX10 126 "ScaleHouseModel" "rowFrom" "I"] ++ wsX100)
def wsX10_wrong : List Cond := .code yX10_wrong cX10_wrong 1 (some .long) :: ([.fieldLink RX10 129 "ScaleHouseModel" "fault" "I", .fieldLink RX10 120 "ScaleHouseModel" "at" "I"] ++ wsX100)
def wsX10_bound : List Cond := .code yX10_bound cX10_bound 2 (some .long) :: ([.constantLong RX10 132 (-1000000000), .constantLong RX10 134 (1000000000), .methodLink RX10 136 Lib.MathLoose.min_long.x, .static Lib.MathLoose.min_long.x, .initialized "java/lang/Math", .code Lib.MathLoose.min_long.x Lib.MathLoose.min_long.code 4 (some .long), .methodLink RX10 142 Lib.MathLoose.max_long.x, .static Lib.MathLoose.max_long.x, .code Lib.MathLoose.max_long.x Lib.MathLoose.max_long.code 4 (some .long)])
def wsX10_isDigit : List Cond := .code yX10_isDigit cX10_isDigit 1 (some .boolean) :: ([.fieldLink RX10 120 "ScaleHouseModel" "at" "I", .fieldLink RX10 123 "ScaleHouseModel" "rowLong" "I", .fieldLink RX10 77 "ScaleHouseModel" "row" "[B", .fieldLink RX10 126 "ScaleHouseModel" "rowFrom" "I"] ++ wsX100)
def wsX10_factor_r1 : List Cond := [Cond.fieldLink RX10 120 "ScaleHouseModel" "at" "I", Cond.fieldLink RX10 149 "ScaleHouseModel" "givenD" "J", Cond.fieldLink RX10 153 "ScaleHouseModel" "givenL" "J", Cond.fieldLink RX10 156 "ScaleHouseModel" "open" "I", Cond.fieldLink RX10 129 "ScaleHouseModel" "fault" "I", Cond.constantLong RX10 170 (10), Cond.fieldLink RX10 77 "ScaleHouseModel" "row" "[B", Cond.fieldLink RX10 126 "ScaleHouseModel" "rowFrom" "I", Cond.constantLong RX10 172 (48), Cond.methodLink RX10 145 yX10_look, Cond.instanceMethod yX10_look, Cond.selects RX10 yX10_look yX10_look, Cond.initialized RX10, Cond.code yX10_look cX10_look 1 (some .int), Cond.fieldLink RX10 123 "ScaleHouseModel" "rowLong" "I", Cond.methodLink RX10 159 yX10_wrong, Cond.instanceMethod yX10_wrong, Cond.selects RX10 yX10_wrong yX10_wrong, Cond.code yX10_wrong cX10_wrong 1 (some .long), Cond.methodLink RX10 163 yX10_sums, Cond.instanceMethod yX10_sums, Cond.selects RX10 yX10_sums yX10_sums, Cond.methodLink RX10 166 yX10_isDigit, Cond.instanceMethod yX10_isDigit]
def wsX10_factor_r2 : List Cond := [Cond.selects RX10 yX10_isDigit yX10_isDigit, Cond.code yX10_isDigit cX10_isDigit 1 (some .boolean), Cond.code yX10_product cX10_product 6 (some .long), Cond.methodLink RX10 174 yX10_factor, Cond.instanceMethod yX10_factor, Cond.selects RX10 yX10_factor yX10_factor, Cond.methodLink RX10 177 yJ9_floorDiv_f86c9, Cond.static yJ9_floorDiv_f86c9, Cond.initialized RJ9, Cond.code yJ9_floorDiv_f86c9 cJ9_floorDiv_f86c9 6 (some .long), Cond.methodLink RX10 180 yX10_bound, Cond.static yX10_bound, Cond.code yX10_bound cX10_bound 2 (some .long), Cond.constantLong RX10 132 (-1000000000), Cond.constantLong RX10 134 (1000000000), Cond.methodLink RX10 136 Lib.MathLoose.min_long.x, Cond.static Lib.MathLoose.min_long.x, Cond.initialized "java/lang/Math", Cond.code Lib.MathLoose.min_long.x Lib.MathLoose.min_long.code 4 (some .long), Cond.methodLink RX10 142 Lib.MathLoose.max_long.x, Cond.static Lib.MathLoose.max_long.x, Cond.code Lib.MathLoose.max_long.x Lib.MathLoose.max_long.code 4 (some .long), Cond.code yX10_sums cX10_sums 6 (some .long), Cond.methodLink RX10 184 yX10_product]
def wsX10_factor_r3 : List Cond := [Cond.instanceMethod yX10_product, Cond.selects RX10 yX10_product yX10_product]
def wsX10_factor : List Cond := .code yX10_factor cX10_factor 5 (some .long) :: ((wsX10_factor_r1 ++ (wsX10_factor_r2 ++ wsX10_factor_r3)) ++ wsX100)
def wsX10_product_r1 : List Cond := [Cond.fieldLink RX10 129 "ScaleHouseModel" "fault" "I", Cond.fieldLink RX10 120 "ScaleHouseModel" "at" "I", Cond.methodLink RX10 174 yX10_factor, Cond.instanceMethod yX10_factor, Cond.selects RX10 yX10_factor yX10_factor, Cond.initialized RX10, Cond.methodLink RX10 145 yX10_look, Cond.instanceMethod yX10_look, Cond.selects RX10 yX10_look yX10_look, Cond.code yX10_look cX10_look 1 (some .int), Cond.fieldLink RX10 123 "ScaleHouseModel" "rowLong" "I", Cond.fieldLink RX10 77 "ScaleHouseModel" "row" "[B", Cond.fieldLink RX10 126 "ScaleHouseModel" "rowFrom" "I", Cond.methodLink RX10 177 yJ9_floorDiv_f86c9, Cond.static yJ9_floorDiv_f86c9, Cond.initialized RJ9, Cond.code yJ9_floorDiv_f86c9 cJ9_floorDiv_f86c9 6 (some .long), Cond.methodLink RX10 180 yX10_bound, Cond.static yX10_bound, Cond.code yX10_bound cX10_bound 2 (some .long), Cond.constantLong RX10 132 (-1000000000), Cond.constantLong RX10 134 (1000000000), Cond.methodLink RX10 136 Lib.MathLoose.min_long.x, Cond.static Lib.MathLoose.min_long.x]
def wsX10_product_r2 : List Cond := [Cond.initialized "java/lang/Math", Cond.code Lib.MathLoose.min_long.x Lib.MathLoose.min_long.code 4 (some .long), Cond.methodLink RX10 142 Lib.MathLoose.max_long.x, Cond.static Lib.MathLoose.max_long.x, Cond.code Lib.MathLoose.max_long.x Lib.MathLoose.max_long.code 4 (some .long), Cond.code yX10_factor cX10_factor 5 (some .long), Cond.fieldLink RX10 149 "ScaleHouseModel" "givenD" "J", Cond.fieldLink RX10 153 "ScaleHouseModel" "givenL" "J", Cond.fieldLink RX10 156 "ScaleHouseModel" "open" "I", Cond.constantLong RX10 170 (10), Cond.constantLong RX10 172 (48), Cond.methodLink RX10 159 yX10_wrong, Cond.instanceMethod yX10_wrong, Cond.selects RX10 yX10_wrong yX10_wrong, Cond.code yX10_wrong cX10_wrong 1 (some .long), Cond.methodLink RX10 163 yX10_sums, Cond.instanceMethod yX10_sums, Cond.selects RX10 yX10_sums yX10_sums, Cond.methodLink RX10 166 yX10_isDigit, Cond.instanceMethod yX10_isDigit, Cond.selects RX10 yX10_isDigit yX10_isDigit, Cond.code yX10_isDigit cX10_isDigit 1 (some .boolean), Cond.code yX10_sums cX10_sums 6 (some .long), Cond.methodLink RX10 184 yX10_product]
def wsX10_product_r3 : List Cond := [Cond.instanceMethod yX10_product, Cond.selects RX10 yX10_product yX10_product]
def wsX10_product : List Cond := .code yX10_product cX10_product 6 (some .long) :: ((wsX10_product_r1 ++ (wsX10_product_r2 ++ wsX10_product_r3)) ++ wsX100)
def wsX10_sums_r1 : List Cond := [Cond.fieldLink RX10 129 "ScaleHouseModel" "fault" "I", Cond.fieldLink RX10 120 "ScaleHouseModel" "at" "I", Cond.methodLink RX10 184 yX10_product, Cond.instanceMethod yX10_product, Cond.selects RX10 yX10_product yX10_product, Cond.initialized RX10, Cond.methodLink RX10 145 yX10_look, Cond.instanceMethod yX10_look, Cond.selects RX10 yX10_look yX10_look, Cond.code yX10_look cX10_look 1 (some .int), Cond.fieldLink RX10 123 "ScaleHouseModel" "rowLong" "I", Cond.fieldLink RX10 77 "ScaleHouseModel" "row" "[B", Cond.fieldLink RX10 126 "ScaleHouseModel" "rowFrom" "I", Cond.methodLink RX10 180 yX10_bound, Cond.static yX10_bound, Cond.code yX10_bound cX10_bound 2 (some .long), Cond.constantLong RX10 132 (-1000000000), Cond.constantLong RX10 134 (1000000000), Cond.methodLink RX10 136 Lib.MathLoose.min_long.x, Cond.static Lib.MathLoose.min_long.x, Cond.initialized "java/lang/Math", Cond.code Lib.MathLoose.min_long.x Lib.MathLoose.min_long.code 4 (some .long), Cond.methodLink RX10 142 Lib.MathLoose.max_long.x, Cond.static Lib.MathLoose.max_long.x]
def wsX10_sums_r2 : List Cond := [Cond.code Lib.MathLoose.max_long.x Lib.MathLoose.max_long.code 4 (some .long), Cond.code yX10_factor cX10_factor 5 (some .long), Cond.fieldLink RX10 149 "ScaleHouseModel" "givenD" "J", Cond.fieldLink RX10 153 "ScaleHouseModel" "givenL" "J", Cond.fieldLink RX10 156 "ScaleHouseModel" "open" "I", Cond.constantLong RX10 170 (10), Cond.constantLong RX10 172 (48), Cond.methodLink RX10 159 yX10_wrong, Cond.instanceMethod yX10_wrong, Cond.selects RX10 yX10_wrong yX10_wrong, Cond.code yX10_wrong cX10_wrong 1 (some .long), Cond.methodLink RX10 163 yX10_sums, Cond.instanceMethod yX10_sums, Cond.selects RX10 yX10_sums yX10_sums, Cond.methodLink RX10 166 yX10_isDigit, Cond.instanceMethod yX10_isDigit, Cond.selects RX10 yX10_isDigit yX10_isDigit, Cond.code yX10_isDigit cX10_isDigit 1 (some .boolean), Cond.code yX10_product cX10_product 6 (some .long), Cond.methodLink RX10 174 yX10_factor, Cond.instanceMethod yX10_factor, Cond.selects RX10 yX10_factor yX10_factor, Cond.methodLink RX10 177 yJ9_floorDiv_f86c9, Cond.static yJ9_floorDiv_f86c9]
def wsX10_sums_r3 : List Cond := [Cond.initialized RJ9, Cond.code yJ9_floorDiv_f86c9 cJ9_floorDiv_f86c9 6 (some .long)]
def wsX10_sums : List Cond := .code yX10_sums cX10_sums 6 (some .long) :: ((wsX10_sums_r1 ++ (wsX10_sums_r2 ++ wsX10_sums_r3)) ++ wsX100)
def wsX10_goThrough_r1 : List Cond := [Cond.fieldLink RX10 77 "ScaleHouseModel" "row" "[B", Cond.fieldLink RX10 126 "ScaleHouseModel" "rowFrom" "I", Cond.fieldLink RX10 123 "ScaleHouseModel" "rowLong" "I", Cond.fieldLink RX10 120 "ScaleHouseModel" "at" "I", Cond.fieldLink RX10 156 "ScaleHouseModel" "open" "I", Cond.fieldLink RX10 129 "ScaleHouseModel" "fault" "I", Cond.fieldLink RX10 149 "ScaleHouseModel" "givenD" "J", Cond.fieldLink RX10 153 "ScaleHouseModel" "givenL" "J", Cond.methodLink RX10 163 yX10_sums, Cond.instanceMethod yX10_sums, Cond.selects RX10 yX10_sums yX10_sums, Cond.initialized RX10, Cond.code yX10_sums cX10_sums 6 (some .long), Cond.methodLink RX10 184 yX10_product, Cond.instanceMethod yX10_product, Cond.selects RX10 yX10_product yX10_product, Cond.methodLink RX10 145 yX10_look, Cond.instanceMethod yX10_look, Cond.selects RX10 yX10_look yX10_look, Cond.code yX10_look cX10_look 1 (some .int), Cond.methodLink RX10 180 yX10_bound, Cond.static yX10_bound, Cond.code yX10_bound cX10_bound 2 (some .long), Cond.constantLong RX10 132 (-1000000000)]
def wsX10_goThrough_r2 : List Cond := [Cond.constantLong RX10 134 (1000000000), Cond.methodLink RX10 136 Lib.MathLoose.min_long.x, Cond.static Lib.MathLoose.min_long.x, Cond.initialized "java/lang/Math", Cond.code Lib.MathLoose.min_long.x Lib.MathLoose.min_long.code 4 (some .long), Cond.methodLink RX10 142 Lib.MathLoose.max_long.x, Cond.static Lib.MathLoose.max_long.x, Cond.code Lib.MathLoose.max_long.x Lib.MathLoose.max_long.code 4 (some .long), Cond.code yX10_factor cX10_factor 5 (some .long), Cond.constantLong RX10 170 (10), Cond.constantLong RX10 172 (48), Cond.methodLink RX10 159 yX10_wrong, Cond.instanceMethod yX10_wrong, Cond.selects RX10 yX10_wrong yX10_wrong, Cond.code yX10_wrong cX10_wrong 1 (some .long), Cond.methodLink RX10 166 yX10_isDigit, Cond.instanceMethod yX10_isDigit, Cond.selects RX10 yX10_isDigit yX10_isDigit, Cond.code yX10_isDigit cX10_isDigit 1 (some .boolean), Cond.code yX10_product cX10_product 6 (some .long), Cond.methodLink RX10 174 yX10_factor, Cond.instanceMethod yX10_factor, Cond.selects RX10 yX10_factor yX10_factor, Cond.methodLink RX10 177 yJ9_floorDiv_f86c9]
def wsX10_goThrough_r3 : List Cond := [Cond.static yJ9_floorDiv_f86c9, Cond.initialized RJ9, Cond.code yJ9_floorDiv_f86c9 cJ9_floorDiv_f86c9 6 (some .long)]
def wsX10_goThrough : List Cond := .code yX10_goThrough cX10_goThrough 8 (some .long) :: ((wsX10_goThrough_r1 ++ (wsX10_goThrough_r2 ++ wsX10_goThrough_r3)) ++ wsX100)
def wsX10_fault_r1 : List Cond := [Cond.fieldLink RX10 106 "ScaleHouseModel" "thrown" "I", Cond.fieldLink RX10 9 "ScaleHouseModel" "tape" "[B", Cond.fieldLink RX10 109 "ScaleHouseModel" "length" "I", Cond.fieldLink RX10 129 "ScaleHouseModel" "fault" "I", Cond.methodLink RX10 187 yX10_goThrough, Cond.instanceMethod yX10_goThrough, Cond.selects RX10 yX10_goThrough yX10_goThrough, Cond.initialized RX10, Cond.code yX10_goThrough cX10_goThrough 8 (some .long), Cond.fieldLink RX10 77 "ScaleHouseModel" "row" "[B", Cond.fieldLink RX10 126 "ScaleHouseModel" "rowFrom" "I", Cond.fieldLink RX10 123 "ScaleHouseModel" "rowLong" "I", Cond.fieldLink RX10 120 "ScaleHouseModel" "at" "I", Cond.fieldLink RX10 156 "ScaleHouseModel" "open" "I", Cond.fieldLink RX10 149 "ScaleHouseModel" "givenD" "J", Cond.fieldLink RX10 153 "ScaleHouseModel" "givenL" "J", Cond.methodLink RX10 163 yX10_sums, Cond.instanceMethod yX10_sums, Cond.selects RX10 yX10_sums yX10_sums, Cond.code yX10_sums cX10_sums 6 (some .long), Cond.methodLink RX10 184 yX10_product, Cond.instanceMethod yX10_product, Cond.selects RX10 yX10_product yX10_product, Cond.methodLink RX10 145 yX10_look]
def wsX10_fault_r2 : List Cond := [Cond.instanceMethod yX10_look, Cond.selects RX10 yX10_look yX10_look, Cond.code yX10_look cX10_look 1 (some .int), Cond.methodLink RX10 180 yX10_bound, Cond.static yX10_bound, Cond.code yX10_bound cX10_bound 2 (some .long), Cond.constantLong RX10 132 (-1000000000), Cond.constantLong RX10 134 (1000000000), Cond.methodLink RX10 136 Lib.MathLoose.min_long.x, Cond.static Lib.MathLoose.min_long.x, Cond.initialized "java/lang/Math", Cond.code Lib.MathLoose.min_long.x Lib.MathLoose.min_long.code 4 (some .long), Cond.methodLink RX10 142 Lib.MathLoose.max_long.x, Cond.static Lib.MathLoose.max_long.x, Cond.code Lib.MathLoose.max_long.x Lib.MathLoose.max_long.code 4 (some .long), Cond.code yX10_factor cX10_factor 5 (some .long), Cond.constantLong RX10 170 (10), Cond.constantLong RX10 172 (48), Cond.methodLink RX10 159 yX10_wrong, Cond.instanceMethod yX10_wrong, Cond.selects RX10 yX10_wrong yX10_wrong, Cond.code yX10_wrong cX10_wrong 1 (some .long), Cond.methodLink RX10 166 yX10_isDigit, Cond.instanceMethod yX10_isDigit]
def wsX10_fault_r3 : List Cond := [Cond.selects RX10 yX10_isDigit yX10_isDigit, Cond.code yX10_isDigit cX10_isDigit 1 (some .boolean), Cond.code yX10_product cX10_product 6 (some .long), Cond.methodLink RX10 174 yX10_factor, Cond.instanceMethod yX10_factor, Cond.selects RX10 yX10_factor yX10_factor, Cond.methodLink RX10 177 yJ9_floorDiv_f86c9, Cond.static yJ9_floorDiv_f86c9, Cond.initialized RJ9, Cond.code yJ9_floorDiv_f86c9 cJ9_floorDiv_f86c9 6 (some .long)]
def wsX10_fault : List Cond := .code yX10_fault cX10_fault 3 (some .int) :: ((wsX10_fault_r1 ++ (wsX10_fault_r2 ++ wsX10_fault_r3)) ++ wsX100)
def wsX10_isLaterDay : List Cond := .code yX10_isLaterDay cX10_isLaterDay 1 (some .boolean) :: ([.methodLink RX10 191 yX10_isIn, .static yX10_isIn, .initialized RX10, .code yX10_isIn cX10_isIn 3 (some .boolean)])
def wsX10_law_r1 : List Cond := [Cond.fieldLink RX10 106 "ScaleHouseModel" "thrown" "I", Cond.fieldLink RX10 9 "ScaleHouseModel" "tape" "[B", Cond.fieldLink RX10 109 "ScaleHouseModel" "length" "I", Cond.fieldLink RX10 129 "ScaleHouseModel" "fault" "I", Cond.fieldLink RX10 199 "ScaleHouseModel" "laws" "I", Cond.fieldLink RX10 13 "ScaleHouseModel" "lawText" "[B", Cond.fieldLink RX10 16 "ScaleHouseModel" "lawLong" "[I", Cond.fieldLink RX10 20 "ScaleHouseModel" "lawFrom" "[I", Cond.fieldLink RX10 23 "ScaleHouseModel" "lawTold" "[I", Cond.fieldLink RX10 202 "ScaleHouseModel" "now" "I", Cond.methodLink RX10 187 yX10_goThrough, Cond.instanceMethod yX10_goThrough, Cond.selects RX10 yX10_goThrough yX10_goThrough, Cond.initialized RX10, Cond.code yX10_goThrough cX10_goThrough 8 (some .long), Cond.fieldLink RX10 77 "ScaleHouseModel" "row" "[B", Cond.fieldLink RX10 126 "ScaleHouseModel" "rowFrom" "I", Cond.fieldLink RX10 123 "ScaleHouseModel" "rowLong" "I", Cond.fieldLink RX10 120 "ScaleHouseModel" "at" "I", Cond.fieldLink RX10 156 "ScaleHouseModel" "open" "I", Cond.fieldLink RX10 149 "ScaleHouseModel" "givenD" "J", Cond.fieldLink RX10 153 "ScaleHouseModel" "givenL" "J", Cond.methodLink RX10 163 yX10_sums, Cond.instanceMethod yX10_sums]
def wsX10_law_r2 : List Cond := [Cond.selects RX10 yX10_sums yX10_sums, Cond.code yX10_sums cX10_sums 6 (some .long), Cond.methodLink RX10 184 yX10_product, Cond.instanceMethod yX10_product, Cond.selects RX10 yX10_product yX10_product, Cond.methodLink RX10 145 yX10_look, Cond.instanceMethod yX10_look, Cond.selects RX10 yX10_look yX10_look, Cond.code yX10_look cX10_look 1 (some .int), Cond.methodLink RX10 180 yX10_bound, Cond.static yX10_bound, Cond.code yX10_bound cX10_bound 2 (some .long), Cond.constantLong RX10 132 (-1000000000), Cond.constantLong RX10 134 (1000000000), Cond.methodLink RX10 136 Lib.MathLoose.min_long.x, Cond.static Lib.MathLoose.min_long.x, Cond.initialized "java/lang/Math", Cond.code Lib.MathLoose.min_long.x Lib.MathLoose.min_long.code 4 (some .long), Cond.methodLink RX10 142 Lib.MathLoose.max_long.x, Cond.static Lib.MathLoose.max_long.x, Cond.code Lib.MathLoose.max_long.x Lib.MathLoose.max_long.code 4 (some .long), Cond.code yX10_factor cX10_factor 5 (some .long), Cond.constantLong RX10 170 (10), Cond.constantLong RX10 172 (48)]
def wsX10_law_r3 : List Cond := [Cond.methodLink RX10 159 yX10_wrong, Cond.instanceMethod yX10_wrong, Cond.selects RX10 yX10_wrong yX10_wrong, Cond.code yX10_wrong cX10_wrong 1 (some .long), Cond.methodLink RX10 166 yX10_isDigit, Cond.instanceMethod yX10_isDigit, Cond.selects RX10 yX10_isDigit yX10_isDigit, Cond.code yX10_isDigit cX10_isDigit 1 (some .boolean), Cond.code yX10_product cX10_product 6 (some .long), Cond.methodLink RX10 174 yX10_factor, Cond.instanceMethod yX10_factor, Cond.selects RX10 yX10_factor yX10_factor, Cond.methodLink RX10 177 yJ9_floorDiv_f86c9, Cond.static yJ9_floorDiv_f86c9, Cond.initialized RJ9, Cond.code yJ9_floorDiv_f86c9 cJ9_floorDiv_f86c9 6 (some .long), Cond.methodLink RX10 195 yX10_isLaterDay, Cond.static yX10_isLaterDay, Cond.code yX10_isLaterDay cX10_isLaterDay 1 (some .boolean), Cond.methodLink RX10 191 yX10_isIn, Cond.static yX10_isIn, Cond.code yX10_isIn cX10_isIn 3 (some .boolean)]
def wsX10_law : List Cond := .code yX10_law cX10_law 5 (some .int) :: ((wsX10_law_r1 ++ (wsX10_law_r2 ++ wsX10_law_r3)) ++ wsX100)
def wsX10_lawValue_r1 : List Cond := [Cond.fieldLink RX10 13 "ScaleHouseModel" "lawText" "[B", Cond.fieldLink RX10 16 "ScaleHouseModel" "lawLong" "[I", Cond.methodLink RX10 187 yX10_goThrough, Cond.instanceMethod yX10_goThrough, Cond.selects RX10 yX10_goThrough yX10_goThrough, Cond.initialized RX10, Cond.code yX10_goThrough cX10_goThrough 8 (some .long), Cond.fieldLink RX10 77 "ScaleHouseModel" "row" "[B", Cond.fieldLink RX10 126 "ScaleHouseModel" "rowFrom" "I", Cond.fieldLink RX10 123 "ScaleHouseModel" "rowLong" "I", Cond.fieldLink RX10 120 "ScaleHouseModel" "at" "I", Cond.fieldLink RX10 156 "ScaleHouseModel" "open" "I", Cond.fieldLink RX10 129 "ScaleHouseModel" "fault" "I", Cond.fieldLink RX10 149 "ScaleHouseModel" "givenD" "J", Cond.fieldLink RX10 153 "ScaleHouseModel" "givenL" "J", Cond.methodLink RX10 163 yX10_sums, Cond.instanceMethod yX10_sums, Cond.selects RX10 yX10_sums yX10_sums, Cond.code yX10_sums cX10_sums 6 (some .long), Cond.methodLink RX10 184 yX10_product, Cond.instanceMethod yX10_product, Cond.selects RX10 yX10_product yX10_product, Cond.methodLink RX10 145 yX10_look, Cond.instanceMethod yX10_look]
def wsX10_lawValue_r2 : List Cond := [Cond.selects RX10 yX10_look yX10_look, Cond.code yX10_look cX10_look 1 (some .int), Cond.methodLink RX10 180 yX10_bound, Cond.static yX10_bound, Cond.code yX10_bound cX10_bound 2 (some .long), Cond.constantLong RX10 132 (-1000000000), Cond.constantLong RX10 134 (1000000000), Cond.methodLink RX10 136 Lib.MathLoose.min_long.x, Cond.static Lib.MathLoose.min_long.x, Cond.initialized "java/lang/Math", Cond.code Lib.MathLoose.min_long.x Lib.MathLoose.min_long.code 4 (some .long), Cond.methodLink RX10 142 Lib.MathLoose.max_long.x, Cond.static Lib.MathLoose.max_long.x, Cond.code Lib.MathLoose.max_long.x Lib.MathLoose.max_long.code 4 (some .long), Cond.code yX10_factor cX10_factor 5 (some .long), Cond.constantLong RX10 170 (10), Cond.constantLong RX10 172 (48), Cond.methodLink RX10 159 yX10_wrong, Cond.instanceMethod yX10_wrong, Cond.selects RX10 yX10_wrong yX10_wrong, Cond.code yX10_wrong cX10_wrong 1 (some .long), Cond.methodLink RX10 166 yX10_isDigit, Cond.instanceMethod yX10_isDigit, Cond.selects RX10 yX10_isDigit yX10_isDigit]
def wsX10_lawValue_r3 : List Cond := [Cond.code yX10_isDigit cX10_isDigit 1 (some .boolean), Cond.code yX10_product cX10_product 6 (some .long), Cond.methodLink RX10 174 yX10_factor, Cond.instanceMethod yX10_factor, Cond.selects RX10 yX10_factor yX10_factor, Cond.methodLink RX10 177 yJ9_floorDiv_f86c9, Cond.static yJ9_floorDiv_f86c9, Cond.initialized RJ9, Cond.code yJ9_floorDiv_f86c9 cJ9_floorDiv_f86c9 6 (some .long)]
def wsX10_lawValue : List Cond := .code yX10_lawValue cX10_lawValue 4 (some .long) :: ((wsX10_lawValue_r1 ++ (wsX10_lawValue_r2 ++ wsX10_lawValue_r3)) ++ wsX100)
def wsX10_value_r1 : List Cond := [Cond.fieldLink RX10 199 "ScaleHouseModel" "laws" "I", Cond.fieldLink RX10 106 "ScaleHouseModel" "thrown" "I", Cond.methodLink RX10 191 yX10_isIn, Cond.static yX10_isIn, Cond.initialized RX10, Cond.code yX10_isIn cX10_isIn 3 (some .boolean), Cond.methodLink RX10 205 yX10_lawValue, Cond.instanceMethod yX10_lawValue, Cond.selects RX10 yX10_lawValue yX10_lawValue, Cond.code yX10_lawValue cX10_lawValue 4 (some .long), Cond.fieldLink RX10 13 "ScaleHouseModel" "lawText" "[B", Cond.fieldLink RX10 16 "ScaleHouseModel" "lawLong" "[I", Cond.methodLink RX10 187 yX10_goThrough, Cond.instanceMethod yX10_goThrough, Cond.selects RX10 yX10_goThrough yX10_goThrough, Cond.code yX10_goThrough cX10_goThrough 8 (some .long), Cond.fieldLink RX10 77 "ScaleHouseModel" "row" "[B", Cond.fieldLink RX10 126 "ScaleHouseModel" "rowFrom" "I", Cond.fieldLink RX10 123 "ScaleHouseModel" "rowLong" "I", Cond.fieldLink RX10 120 "ScaleHouseModel" "at" "I", Cond.fieldLink RX10 156 "ScaleHouseModel" "open" "I", Cond.fieldLink RX10 129 "ScaleHouseModel" "fault" "I", Cond.fieldLink RX10 149 "ScaleHouseModel" "givenD" "J", Cond.fieldLink RX10 153 "ScaleHouseModel" "givenL" "J"]
def wsX10_value_r2 : List Cond := [Cond.methodLink RX10 163 yX10_sums, Cond.instanceMethod yX10_sums, Cond.selects RX10 yX10_sums yX10_sums, Cond.code yX10_sums cX10_sums 6 (some .long), Cond.methodLink RX10 184 yX10_product, Cond.instanceMethod yX10_product, Cond.selects RX10 yX10_product yX10_product, Cond.methodLink RX10 145 yX10_look, Cond.instanceMethod yX10_look, Cond.selects RX10 yX10_look yX10_look, Cond.code yX10_look cX10_look 1 (some .int), Cond.methodLink RX10 180 yX10_bound, Cond.static yX10_bound, Cond.code yX10_bound cX10_bound 2 (some .long), Cond.constantLong RX10 132 (-1000000000), Cond.constantLong RX10 134 (1000000000), Cond.methodLink RX10 136 Lib.MathLoose.min_long.x, Cond.static Lib.MathLoose.min_long.x, Cond.initialized "java/lang/Math", Cond.code Lib.MathLoose.min_long.x Lib.MathLoose.min_long.code 4 (some .long), Cond.methodLink RX10 142 Lib.MathLoose.max_long.x, Cond.static Lib.MathLoose.max_long.x, Cond.code Lib.MathLoose.max_long.x Lib.MathLoose.max_long.code 4 (some .long), Cond.code yX10_factor cX10_factor 5 (some .long)]
def wsX10_value_r3 : List Cond := [Cond.constantLong RX10 170 (10), Cond.constantLong RX10 172 (48), Cond.methodLink RX10 159 yX10_wrong, Cond.instanceMethod yX10_wrong, Cond.selects RX10 yX10_wrong yX10_wrong, Cond.code yX10_wrong cX10_wrong 1 (some .long), Cond.methodLink RX10 166 yX10_isDigit, Cond.instanceMethod yX10_isDigit, Cond.selects RX10 yX10_isDigit yX10_isDigit, Cond.code yX10_isDigit cX10_isDigit 1 (some .boolean), Cond.code yX10_product cX10_product 6 (some .long), Cond.methodLink RX10 174 yX10_factor, Cond.instanceMethod yX10_factor, Cond.selects RX10 yX10_factor yX10_factor, Cond.methodLink RX10 177 yJ9_floorDiv_f86c9, Cond.static yJ9_floorDiv_f86c9, Cond.initialized RJ9, Cond.code yJ9_floorDiv_f86c9 cJ9_floorDiv_f86c9 6 (some .long)]
def wsX10_value : List Cond := .code yX10_value cX10_value 4 (some .long) :: ((wsX10_value_r1 ++ (wsX10_value_r2 ++ wsX10_value_r3)) ++ wsX100)
def wsX10_inForce : List Cond := .code yX10_inForce cX10_inForce 5 (some .int) :: ([.fieldLink RX10 199 "ScaleHouseModel" "laws" "I", .fieldLink RX10 23 "ScaleHouseModel" "lawTold" "[I", .fieldLink RX10 20 "ScaleHouseModel" "lawFrom" "[I"] ++ wsX100)
def wsX10_isKnown : List Cond := .code yX10_isKnown cX10_isKnown 2 (some .boolean) :: ([.fieldLink RX10 202 "ScaleHouseModel" "now" "I", .methodLink RX10 191 yX10_isIn, .static yX10_isIn, .initialized RX10, .code yX10_isIn cX10_isIn 3 (some .boolean)] ++ wsX100)
def wsX10_force : List Cond := .code yX10_force cX10_force 3 (some .int) :: ([.fieldLink RX10 106 "ScaleHouseModel" "thrown" "I", .methodLink RX10 195 yX10_isLaterDay, .static yX10_isLaterDay, .initialized RX10, .code yX10_isLaterDay cX10_isLaterDay 1 (some .boolean), .methodLink RX10 191 yX10_isIn, .static yX10_isIn, .code yX10_isIn cX10_isIn 3 (some .boolean), .methodLink RX10 209 yX10_isKnown, .instanceMethod yX10_isKnown, .selects RX10 yX10_isKnown yX10_isKnown, .code yX10_isKnown cX10_isKnown 2 (some .boolean), .fieldLink RX10 202 "ScaleHouseModel" "now" "I", .methodLink RX10 212 yX10_inForce, .instanceMethod yX10_inForce, .selects RX10 yX10_inForce yX10_inForce, .code yX10_inForce cX10_inForce 5 (some .int), .fieldLink RX10 199 "ScaleHouseModel" "laws" "I", .fieldLink RX10 23 "ScaleHouseModel" "lawTold" "[I", .fieldLink RX10 20 "ScaleHouseModel" "lawFrom" "[I"] ++ wsX100)
def wsX10_most_r1 : List Cond := [Cond.fieldLink RX10 106 "ScaleHouseModel" "thrown" "I", Cond.fieldLink RX10 199 "ScaleHouseModel" "laws" "I", Cond.methodLink RX10 191 yX10_isIn, Cond.static yX10_isIn, Cond.initialized RX10, Cond.code yX10_isIn cX10_isIn 3 (some .boolean), Cond.methodLink RX10 205 yX10_lawValue, Cond.instanceMethod yX10_lawValue, Cond.selects RX10 yX10_lawValue yX10_lawValue, Cond.code yX10_lawValue cX10_lawValue 4 (some .long), Cond.fieldLink RX10 13 "ScaleHouseModel" "lawText" "[B", Cond.fieldLink RX10 16 "ScaleHouseModel" "lawLong" "[I", Cond.methodLink RX10 187 yX10_goThrough, Cond.instanceMethod yX10_goThrough, Cond.selects RX10 yX10_goThrough yX10_goThrough, Cond.code yX10_goThrough cX10_goThrough 8 (some .long), Cond.fieldLink RX10 77 "ScaleHouseModel" "row" "[B", Cond.fieldLink RX10 126 "ScaleHouseModel" "rowFrom" "I", Cond.fieldLink RX10 123 "ScaleHouseModel" "rowLong" "I", Cond.fieldLink RX10 120 "ScaleHouseModel" "at" "I", Cond.fieldLink RX10 156 "ScaleHouseModel" "open" "I", Cond.fieldLink RX10 129 "ScaleHouseModel" "fault" "I", Cond.fieldLink RX10 149 "ScaleHouseModel" "givenD" "J", Cond.fieldLink RX10 153 "ScaleHouseModel" "givenL" "J"]
def wsX10_most_r2 : List Cond := [Cond.methodLink RX10 163 yX10_sums, Cond.instanceMethod yX10_sums, Cond.selects RX10 yX10_sums yX10_sums, Cond.code yX10_sums cX10_sums 6 (some .long), Cond.methodLink RX10 184 yX10_product, Cond.instanceMethod yX10_product, Cond.selects RX10 yX10_product yX10_product, Cond.methodLink RX10 145 yX10_look, Cond.instanceMethod yX10_look, Cond.selects RX10 yX10_look yX10_look, Cond.code yX10_look cX10_look 1 (some .int), Cond.methodLink RX10 180 yX10_bound, Cond.static yX10_bound, Cond.code yX10_bound cX10_bound 2 (some .long), Cond.constantLong RX10 132 (-1000000000), Cond.constantLong RX10 134 (1000000000), Cond.methodLink RX10 136 Lib.MathLoose.min_long.x, Cond.static Lib.MathLoose.min_long.x, Cond.initialized "java/lang/Math", Cond.code Lib.MathLoose.min_long.x Lib.MathLoose.min_long.code 4 (some .long), Cond.methodLink RX10 142 Lib.MathLoose.max_long.x, Cond.static Lib.MathLoose.max_long.x, Cond.code Lib.MathLoose.max_long.x Lib.MathLoose.max_long.code 4 (some .long), Cond.code yX10_factor cX10_factor 5 (some .long)]
def wsX10_most_r3 : List Cond := [Cond.constantLong RX10 170 (10), Cond.constantLong RX10 172 (48), Cond.methodLink RX10 159 yX10_wrong, Cond.instanceMethod yX10_wrong, Cond.selects RX10 yX10_wrong yX10_wrong, Cond.code yX10_wrong cX10_wrong 1 (some .long), Cond.methodLink RX10 166 yX10_isDigit, Cond.instanceMethod yX10_isDigit, Cond.selects RX10 yX10_isDigit yX10_isDigit, Cond.code yX10_isDigit cX10_isDigit 1 (some .boolean), Cond.code yX10_product cX10_product 6 (some .long), Cond.methodLink RX10 174 yX10_factor, Cond.instanceMethod yX10_factor, Cond.selects RX10 yX10_factor yX10_factor, Cond.methodLink RX10 177 yJ9_floorDiv_f86c9, Cond.static yJ9_floorDiv_f86c9, Cond.initialized RJ9, Cond.code yJ9_floorDiv_f86c9 cJ9_floorDiv_f86c9 6 (some .long)]
def wsX10_most : List Cond := .code yX10_most cX10_most 5 (some .int) :: ((wsX10_most_r1 ++ (wsX10_most_r2 ++ wsX10_most_r3)) ++ wsX100)
def wsX10_error : List Cond := .code yX10_error cX10_error 4 (some .boolean) :: ([.fieldLink RX10 106 "ScaleHouseModel" "thrown" "I", .fieldLink RX10 216 "ScaleHouseModel" "errors" "I", .fieldLink RX10 26 "ScaleHouseModel" "errorStick" "[I", .fieldLink RX10 29 "ScaleHouseModel" "errorParts" "[I", .fieldLink RX10 32 "ScaleHouseModel" "errorFrom" "[I", .fieldLink RX10 35 "ScaleHouseModel" "errorTold" "[I", .fieldLink RX10 202 "ScaleHouseModel" "now" "I", .methodLink RX10 191 yX10_isIn, .static yX10_isIn, .initialized RX10, .code yX10_isIn cX10_isIn 3 (some .boolean), .methodLink RX10 195 yX10_isLaterDay, .static yX10_isLaterDay, .code yX10_isLaterDay cX10_isLaterDay 1 (some .boolean)] ++ wsX100)
def wsX10_errorOn : List Cond := .code yX10_errorOn cX10_errorOn 7 (some .int) :: ([.fieldLink RX10 216 "ScaleHouseModel" "errors" "I", .fieldLink RX10 26 "ScaleHouseModel" "errorStick" "[I", .fieldLink RX10 35 "ScaleHouseModel" "errorTold" "[I", .fieldLink RX10 32 "ScaleHouseModel" "errorFrom" "[I", .fieldLink RX10 29 "ScaleHouseModel" "errorParts" "[I"] ++ wsX100)
def wsX10_log : List Cond := .code yX10_log cX10_log 5 (some .int) :: ([.fieldLink RX10 106 "ScaleHouseModel" "thrown" "I", .fieldLink RX10 219 "ScaleHouseModel" "logs" "I", .fieldLink RX10 38 "ScaleHouseModel" "logOwner" "[I", .fieldLink RX10 41 "ScaleHouseModel" "logStick" "[I", .fieldLink RX10 44 "ScaleHouseModel" "logRead" "[I", .fieldLink RX10 47 "ScaleHouseModel" "logLong" "[I", .fieldLink RX10 50 "ScaleHouseModel" "logDay" "[I", .fieldLink RX10 202 "ScaleHouseModel" "now" "I", .methodLink RX10 191 yX10_isIn, .static yX10_isIn, .initialized RX10, .code yX10_isIn cX10_isIn 3 (some .boolean)] ++ wsX100)
def wsX10_isLog : List Cond := .code yX10_isLog cX10_isLog 2 (some .boolean) :: ([.fieldLink RX10 219 "ScaleHouseModel" "logs" "I"] ++ wsX100)
def wsX10_defects : List Cond := .code yX10_defects cX10_defects 4 (some .boolean) :: ([.fieldLink RX10 106 "ScaleHouseModel" "thrown" "I", .fieldLink RX10 53 "ScaleHouseModel" "rot" "[I", .fieldLink RX10 56 "ScaleHouseModel" "bend" "[I", .methodLink RX10 222 yX10_isLog, .instanceMethod yX10_isLog, .selects RX10 yX10_isLog yX10_isLog, .initialized RX10, .code yX10_isLog cX10_isLog 2 (some .boolean), .fieldLink RX10 219 "ScaleHouseModel" "logs" "I", .methodLink RX10 191 yX10_isIn, .static yX10_isIn, .code yX10_isIn cX10_isIn 3 (some .boolean)] ++ wsX100)
def wsX10_scaleOf_r1 : List Cond := [Cond.fieldLink RX10 50 "ScaleHouseModel" "logDay" "[I", Cond.fieldLink RX10 44 "ScaleHouseModel" "logRead" "[I", Cond.fieldLink RX10 41 "ScaleHouseModel" "logStick" "[I", Cond.fieldLink RX10 53 "ScaleHouseModel" "rot" "[I", Cond.methodLink RX10 229 Lib.Math.max.name, Cond.static Lib.Math.max.name, Cond.initialized "java/lang/Math", Cond.code Lib.Math.max.name Lib.Math.max.code 2 (some .int), Cond.constantLong RX10 231 (1000000), Cond.fieldLink RX10 47 "ScaleHouseModel" "logLong" "[I", Cond.methodLink RX10 136 Lib.MathLoose.min_long.x, Cond.static Lib.MathLoose.min_long.x, Cond.code Lib.MathLoose.min_long.x Lib.MathLoose.min_long.code 4 (some .long), Cond.methodLink RX10 142 Lib.MathLoose.max_long.x, Cond.static Lib.MathLoose.max_long.x, Cond.code Lib.MathLoose.max_long.x Lib.MathLoose.max_long.code 4 (some .long), Cond.fieldLink RX10 56 "ScaleHouseModel" "bend" "[I", Cond.constantLong RX10 233 (100), Cond.methodLink RX10 212 yX10_inForce, Cond.instanceMethod yX10_inForce, Cond.selects RX10 yX10_inForce yX10_inForce, Cond.initialized RX10, Cond.code yX10_inForce cX10_inForce 5 (some .int), Cond.fieldLink RX10 199 "ScaleHouseModel" "laws" "I"]
def wsX10_scaleOf_r2 : List Cond := [Cond.fieldLink RX10 23 "ScaleHouseModel" "lawTold" "[I", Cond.fieldLink RX10 20 "ScaleHouseModel" "lawFrom" "[I", Cond.methodLink RX10 225 yX10_errorOn, Cond.instanceMethod yX10_errorOn, Cond.selects RX10 yX10_errorOn yX10_errorOn, Cond.code yX10_errorOn cX10_errorOn 7 (some .int), Cond.fieldLink RX10 216 "ScaleHouseModel" "errors" "I", Cond.fieldLink RX10 26 "ScaleHouseModel" "errorStick" "[I", Cond.fieldLink RX10 35 "ScaleHouseModel" "errorTold" "[I", Cond.fieldLink RX10 32 "ScaleHouseModel" "errorFrom" "[I", Cond.fieldLink RX10 29 "ScaleHouseModel" "errorParts" "[I", Cond.methodLink RX10 205 yX10_lawValue, Cond.instanceMethod yX10_lawValue, Cond.selects RX10 yX10_lawValue yX10_lawValue, Cond.code yX10_lawValue cX10_lawValue 4 (some .long), Cond.fieldLink RX10 13 "ScaleHouseModel" "lawText" "[B", Cond.fieldLink RX10 16 "ScaleHouseModel" "lawLong" "[I", Cond.methodLink RX10 187 yX10_goThrough, Cond.instanceMethod yX10_goThrough, Cond.selects RX10 yX10_goThrough yX10_goThrough, Cond.code yX10_goThrough cX10_goThrough 8 (some .long), Cond.fieldLink RX10 77 "ScaleHouseModel" "row" "[B", Cond.fieldLink RX10 126 "ScaleHouseModel" "rowFrom" "I", Cond.fieldLink RX10 123 "ScaleHouseModel" "rowLong" "I"]
def wsX10_scaleOf_r3 : List Cond := [Cond.fieldLink RX10 120 "ScaleHouseModel" "at" "I", Cond.fieldLink RX10 156 "ScaleHouseModel" "open" "I", Cond.fieldLink RX10 129 "ScaleHouseModel" "fault" "I", Cond.fieldLink RX10 149 "ScaleHouseModel" "givenD" "J", Cond.fieldLink RX10 153 "ScaleHouseModel" "givenL" "J", Cond.methodLink RX10 163 yX10_sums, Cond.instanceMethod yX10_sums, Cond.selects RX10 yX10_sums yX10_sums, Cond.code yX10_sums cX10_sums 6 (some .long), Cond.methodLink RX10 184 yX10_product, Cond.instanceMethod yX10_product, Cond.selects RX10 yX10_product yX10_product, Cond.methodLink RX10 145 yX10_look, Cond.instanceMethod yX10_look, Cond.selects RX10 yX10_look yX10_look, Cond.code yX10_look cX10_look 1 (some .int), Cond.methodLink RX10 180 yX10_bound, Cond.static yX10_bound, Cond.code yX10_bound cX10_bound 2 (some .long), Cond.constantLong RX10 132 (-1000000000), Cond.constantLong RX10 134 (1000000000), Cond.code yX10_factor cX10_factor 5 (some .long), Cond.constantLong RX10 170 (10), Cond.constantLong RX10 172 (48)]
def wsX10_scaleOf_r4 : List Cond := [Cond.methodLink RX10 159 yX10_wrong, Cond.instanceMethod yX10_wrong, Cond.selects RX10 yX10_wrong yX10_wrong, Cond.code yX10_wrong cX10_wrong 1 (some .long), Cond.methodLink RX10 166 yX10_isDigit, Cond.instanceMethod yX10_isDigit, Cond.selects RX10 yX10_isDigit yX10_isDigit, Cond.code yX10_isDigit cX10_isDigit 1 (some .boolean), Cond.code yX10_product cX10_product 6 (some .long), Cond.methodLink RX10 174 yX10_factor, Cond.instanceMethod yX10_factor, Cond.selects RX10 yX10_factor yX10_factor, Cond.methodLink RX10 177 yJ9_floorDiv_f86c9, Cond.static yJ9_floorDiv_f86c9, Cond.initialized RJ9, Cond.code yJ9_floorDiv_f86c9 cJ9_floorDiv_f86c9 6 (some .long)]
def wsX10_scaleOf : List Cond := .code yX10_scaleOf cX10_scaleOf 7 (some .int) :: ((wsX10_scaleOf_r1 ++ (wsX10_scaleOf_r2 ++ (wsX10_scaleOf_r3 ++ wsX10_scaleOf_r4))) ++ wsX100)
def wsX10_scale_r1 : List Cond := [Cond.fieldLink RX10 106 "ScaleHouseModel" "thrown" "I", Cond.methodLink RX10 222 yX10_isLog, Cond.instanceMethod yX10_isLog, Cond.selects RX10 yX10_isLog yX10_isLog, Cond.initialized RX10, Cond.code yX10_isLog cX10_isLog 2 (some .boolean), Cond.fieldLink RX10 219 "ScaleHouseModel" "logs" "I", Cond.methodLink RX10 209 yX10_isKnown, Cond.instanceMethod yX10_isKnown, Cond.selects RX10 yX10_isKnown yX10_isKnown, Cond.code yX10_isKnown cX10_isKnown 2 (some .boolean), Cond.fieldLink RX10 202 "ScaleHouseModel" "now" "I", Cond.methodLink RX10 191 yX10_isIn, Cond.static yX10_isIn, Cond.code yX10_isIn cX10_isIn 3 (some .boolean), Cond.methodLink RX10 235 yX10_scaleOf, Cond.instanceMethod yX10_scaleOf, Cond.selects RX10 yX10_scaleOf yX10_scaleOf, Cond.code yX10_scaleOf cX10_scaleOf 7 (some .int), Cond.fieldLink RX10 50 "ScaleHouseModel" "logDay" "[I", Cond.fieldLink RX10 44 "ScaleHouseModel" "logRead" "[I", Cond.fieldLink RX10 41 "ScaleHouseModel" "logStick" "[I", Cond.fieldLink RX10 53 "ScaleHouseModel" "rot" "[I", Cond.methodLink RX10 229 Lib.Math.max.name]
def wsX10_scale_r2 : List Cond := [Cond.static Lib.Math.max.name, Cond.initialized "java/lang/Math", Cond.code Lib.Math.max.name Lib.Math.max.code 2 (some .int), Cond.constantLong RX10 231 (1000000), Cond.fieldLink RX10 47 "ScaleHouseModel" "logLong" "[I", Cond.methodLink RX10 136 Lib.MathLoose.min_long.x, Cond.static Lib.MathLoose.min_long.x, Cond.code Lib.MathLoose.min_long.x Lib.MathLoose.min_long.code 4 (some .long), Cond.methodLink RX10 142 Lib.MathLoose.max_long.x, Cond.static Lib.MathLoose.max_long.x, Cond.code Lib.MathLoose.max_long.x Lib.MathLoose.max_long.code 4 (some .long), Cond.fieldLink RX10 56 "ScaleHouseModel" "bend" "[I", Cond.constantLong RX10 233 (100), Cond.methodLink RX10 212 yX10_inForce, Cond.instanceMethod yX10_inForce, Cond.selects RX10 yX10_inForce yX10_inForce, Cond.code yX10_inForce cX10_inForce 5 (some .int), Cond.fieldLink RX10 199 "ScaleHouseModel" "laws" "I", Cond.fieldLink RX10 23 "ScaleHouseModel" "lawTold" "[I", Cond.fieldLink RX10 20 "ScaleHouseModel" "lawFrom" "[I", Cond.methodLink RX10 225 yX10_errorOn, Cond.instanceMethod yX10_errorOn, Cond.selects RX10 yX10_errorOn yX10_errorOn, Cond.code yX10_errorOn cX10_errorOn 7 (some .int)]
def wsX10_scale_r3 : List Cond := [Cond.fieldLink RX10 216 "ScaleHouseModel" "errors" "I", Cond.fieldLink RX10 26 "ScaleHouseModel" "errorStick" "[I", Cond.fieldLink RX10 35 "ScaleHouseModel" "errorTold" "[I", Cond.fieldLink RX10 32 "ScaleHouseModel" "errorFrom" "[I", Cond.fieldLink RX10 29 "ScaleHouseModel" "errorParts" "[I", Cond.methodLink RX10 205 yX10_lawValue, Cond.instanceMethod yX10_lawValue, Cond.selects RX10 yX10_lawValue yX10_lawValue, Cond.code yX10_lawValue cX10_lawValue 4 (some .long), Cond.fieldLink RX10 13 "ScaleHouseModel" "lawText" "[B", Cond.fieldLink RX10 16 "ScaleHouseModel" "lawLong" "[I", Cond.methodLink RX10 187 yX10_goThrough, Cond.instanceMethod yX10_goThrough, Cond.selects RX10 yX10_goThrough yX10_goThrough, Cond.code yX10_goThrough cX10_goThrough 8 (some .long), Cond.fieldLink RX10 77 "ScaleHouseModel" "row" "[B", Cond.fieldLink RX10 126 "ScaleHouseModel" "rowFrom" "I", Cond.fieldLink RX10 123 "ScaleHouseModel" "rowLong" "I", Cond.fieldLink RX10 120 "ScaleHouseModel" "at" "I", Cond.fieldLink RX10 156 "ScaleHouseModel" "open" "I", Cond.fieldLink RX10 129 "ScaleHouseModel" "fault" "I", Cond.fieldLink RX10 149 "ScaleHouseModel" "givenD" "J", Cond.fieldLink RX10 153 "ScaleHouseModel" "givenL" "J", Cond.methodLink RX10 163 yX10_sums]
def wsX10_scale_r4 : List Cond := [Cond.instanceMethod yX10_sums, Cond.selects RX10 yX10_sums yX10_sums, Cond.code yX10_sums cX10_sums 6 (some .long), Cond.methodLink RX10 184 yX10_product, Cond.instanceMethod yX10_product, Cond.selects RX10 yX10_product yX10_product, Cond.methodLink RX10 145 yX10_look, Cond.instanceMethod yX10_look, Cond.selects RX10 yX10_look yX10_look, Cond.code yX10_look cX10_look 1 (some .int), Cond.methodLink RX10 180 yX10_bound, Cond.static yX10_bound, Cond.code yX10_bound cX10_bound 2 (some .long), Cond.constantLong RX10 132 (-1000000000), Cond.constantLong RX10 134 (1000000000), Cond.code yX10_factor cX10_factor 5 (some .long), Cond.constantLong RX10 170 (10), Cond.constantLong RX10 172 (48), Cond.methodLink RX10 159 yX10_wrong, Cond.instanceMethod yX10_wrong, Cond.selects RX10 yX10_wrong yX10_wrong, Cond.code yX10_wrong cX10_wrong 1 (some .long), Cond.methodLink RX10 166 yX10_isDigit, Cond.instanceMethod yX10_isDigit]
def wsX10_scale_r5 : List Cond := [Cond.selects RX10 yX10_isDigit yX10_isDigit, Cond.code yX10_isDigit cX10_isDigit 1 (some .boolean), Cond.code yX10_product cX10_product 6 (some .long), Cond.methodLink RX10 174 yX10_factor, Cond.instanceMethod yX10_factor, Cond.selects RX10 yX10_factor yX10_factor, Cond.methodLink RX10 177 yJ9_floorDiv_f86c9, Cond.static yJ9_floorDiv_f86c9, Cond.initialized RJ9, Cond.code yJ9_floorDiv_f86c9 cJ9_floorDiv_f86c9 6 (some .long)]
def wsX10_scale : List Cond := .code yX10_scale cX10_scale 3 (some .int) :: ((wsX10_scale_r1 ++ (wsX10_scale_r2 ++ (wsX10_scale_r3 ++ (wsX10_scale_r4 ++ wsX10_scale_r5)))) ++ wsX100)
def wsX10_sum_r1 : List Cond := [Cond.fieldLink RX10 106 "ScaleHouseModel" "thrown" "I", Cond.fieldLink RX10 219 "ScaleHouseModel" "logs" "I", Cond.fieldLink RX10 38 "ScaleHouseModel" "logOwner" "[I", Cond.methodLink RX10 229 Lib.Math.max.name, Cond.static Lib.Math.max.name, Cond.initialized "java/lang/Math", Cond.code Lib.Math.max.name Lib.Math.max.code 2 (some .int), Cond.methodLink RX10 191 yX10_isIn, Cond.static yX10_isIn, Cond.initialized RX10, Cond.code yX10_isIn cX10_isIn 3 (some .boolean), Cond.methodLink RX10 209 yX10_isKnown, Cond.instanceMethod yX10_isKnown, Cond.selects RX10 yX10_isKnown yX10_isKnown, Cond.code yX10_isKnown cX10_isKnown 2 (some .boolean), Cond.fieldLink RX10 202 "ScaleHouseModel" "now" "I", Cond.methodLink RX10 235 yX10_scaleOf, Cond.instanceMethod yX10_scaleOf, Cond.selects RX10 yX10_scaleOf yX10_scaleOf, Cond.code yX10_scaleOf cX10_scaleOf 7 (some .int), Cond.fieldLink RX10 50 "ScaleHouseModel" "logDay" "[I", Cond.fieldLink RX10 44 "ScaleHouseModel" "logRead" "[I", Cond.fieldLink RX10 41 "ScaleHouseModel" "logStick" "[I", Cond.fieldLink RX10 53 "ScaleHouseModel" "rot" "[I"]
def wsX10_sum_r2 : List Cond := [Cond.constantLong RX10 231 (1000000), Cond.fieldLink RX10 47 "ScaleHouseModel" "logLong" "[I", Cond.methodLink RX10 136 Lib.MathLoose.min_long.x, Cond.static Lib.MathLoose.min_long.x, Cond.code Lib.MathLoose.min_long.x Lib.MathLoose.min_long.code 4 (some .long), Cond.methodLink RX10 142 Lib.MathLoose.max_long.x, Cond.static Lib.MathLoose.max_long.x, Cond.code Lib.MathLoose.max_long.x Lib.MathLoose.max_long.code 4 (some .long), Cond.fieldLink RX10 56 "ScaleHouseModel" "bend" "[I", Cond.constantLong RX10 233 (100), Cond.methodLink RX10 212 yX10_inForce, Cond.instanceMethod yX10_inForce, Cond.selects RX10 yX10_inForce yX10_inForce, Cond.code yX10_inForce cX10_inForce 5 (some .int), Cond.fieldLink RX10 199 "ScaleHouseModel" "laws" "I", Cond.fieldLink RX10 23 "ScaleHouseModel" "lawTold" "[I", Cond.fieldLink RX10 20 "ScaleHouseModel" "lawFrom" "[I", Cond.methodLink RX10 225 yX10_errorOn, Cond.instanceMethod yX10_errorOn, Cond.selects RX10 yX10_errorOn yX10_errorOn, Cond.code yX10_errorOn cX10_errorOn 7 (some .int), Cond.fieldLink RX10 216 "ScaleHouseModel" "errors" "I", Cond.fieldLink RX10 26 "ScaleHouseModel" "errorStick" "[I", Cond.fieldLink RX10 35 "ScaleHouseModel" "errorTold" "[I"]
def wsX10_sum_r3 : List Cond := [Cond.fieldLink RX10 32 "ScaleHouseModel" "errorFrom" "[I", Cond.fieldLink RX10 29 "ScaleHouseModel" "errorParts" "[I", Cond.methodLink RX10 205 yX10_lawValue, Cond.instanceMethod yX10_lawValue, Cond.selects RX10 yX10_lawValue yX10_lawValue, Cond.code yX10_lawValue cX10_lawValue 4 (some .long), Cond.fieldLink RX10 13 "ScaleHouseModel" "lawText" "[B", Cond.fieldLink RX10 16 "ScaleHouseModel" "lawLong" "[I", Cond.methodLink RX10 187 yX10_goThrough, Cond.instanceMethod yX10_goThrough, Cond.selects RX10 yX10_goThrough yX10_goThrough, Cond.code yX10_goThrough cX10_goThrough 8 (some .long), Cond.fieldLink RX10 77 "ScaleHouseModel" "row" "[B", Cond.fieldLink RX10 126 "ScaleHouseModel" "rowFrom" "I", Cond.fieldLink RX10 123 "ScaleHouseModel" "rowLong" "I", Cond.fieldLink RX10 120 "ScaleHouseModel" "at" "I", Cond.fieldLink RX10 156 "ScaleHouseModel" "open" "I", Cond.fieldLink RX10 129 "ScaleHouseModel" "fault" "I", Cond.fieldLink RX10 149 "ScaleHouseModel" "givenD" "J", Cond.fieldLink RX10 153 "ScaleHouseModel" "givenL" "J", Cond.methodLink RX10 163 yX10_sums, Cond.instanceMethod yX10_sums, Cond.selects RX10 yX10_sums yX10_sums, Cond.code yX10_sums cX10_sums 6 (some .long)]
def wsX10_sum_r4 : List Cond := [Cond.methodLink RX10 184 yX10_product, Cond.instanceMethod yX10_product, Cond.selects RX10 yX10_product yX10_product, Cond.methodLink RX10 145 yX10_look, Cond.instanceMethod yX10_look, Cond.selects RX10 yX10_look yX10_look, Cond.code yX10_look cX10_look 1 (some .int), Cond.methodLink RX10 180 yX10_bound, Cond.static yX10_bound, Cond.code yX10_bound cX10_bound 2 (some .long), Cond.constantLong RX10 132 (-1000000000), Cond.constantLong RX10 134 (1000000000), Cond.code yX10_factor cX10_factor 5 (some .long), Cond.constantLong RX10 170 (10), Cond.constantLong RX10 172 (48), Cond.methodLink RX10 159 yX10_wrong, Cond.instanceMethod yX10_wrong, Cond.selects RX10 yX10_wrong yX10_wrong, Cond.code yX10_wrong cX10_wrong 1 (some .long), Cond.methodLink RX10 166 yX10_isDigit, Cond.instanceMethod yX10_isDigit, Cond.selects RX10 yX10_isDigit yX10_isDigit, Cond.code yX10_isDigit cX10_isDigit 1 (some .boolean), Cond.code yX10_product cX10_product 6 (some .long)]
def wsX10_sum_r5 : List Cond := [Cond.methodLink RX10 174 yX10_factor, Cond.instanceMethod yX10_factor, Cond.selects RX10 yX10_factor yX10_factor, Cond.methodLink RX10 177 yJ9_floorDiv_f86c9, Cond.static yJ9_floorDiv_f86c9, Cond.initialized RJ9, Cond.code yJ9_floorDiv_f86c9 cJ9_floorDiv_f86c9 6 (some .long)]
def wsX10_sum : List Cond := .code yX10_sum cX10_sum 5 (some .int) :: ((wsX10_sum_r1 ++ (wsX10_sum_r2 ++ (wsX10_sum_r3 ++ (wsX10_sum_r4 ++ wsX10_sum_r5)))) ++ wsX100)
def wsX10_price : List Cond := .code yX10_price cX10_price 3 (some .boolean) :: ([.fieldLink RX10 106 "ScaleHouseModel" "thrown" "I", .fieldLink RX10 65 "ScaleHouseModel" "price" "[I", .methodLink RX10 191 yX10_isIn, .static yX10_isIn, .initialized RX10, .code yX10_isIn cX10_isIn 3 (some .boolean)] ++ wsX100)
def wsX10_payOf_r1 : List Cond := [Cond.fieldLink RX10 202 "ScaleHouseModel" "now" "I", Cond.methodLink RX10 229 Lib.Math.max.name, Cond.static Lib.Math.max.name, Cond.initialized "java/lang/Math", Cond.code Lib.Math.max.name Lib.Math.max.code 2 (some .int), Cond.fieldLink RX10 65 "ScaleHouseModel" "price" "[I", Cond.fieldLink RX10 38 "ScaleHouseModel" "logOwner" "[I", Cond.methodLink RX10 235 yX10_scaleOf, Cond.instanceMethod yX10_scaleOf, Cond.selects RX10 yX10_scaleOf yX10_scaleOf, Cond.initialized RX10, Cond.code yX10_scaleOf cX10_scaleOf 7 (some .int), Cond.fieldLink RX10 50 "ScaleHouseModel" "logDay" "[I", Cond.fieldLink RX10 44 "ScaleHouseModel" "logRead" "[I", Cond.fieldLink RX10 41 "ScaleHouseModel" "logStick" "[I", Cond.fieldLink RX10 53 "ScaleHouseModel" "rot" "[I", Cond.constantLong RX10 231 (1000000), Cond.fieldLink RX10 47 "ScaleHouseModel" "logLong" "[I", Cond.methodLink RX10 136 Lib.MathLoose.min_long.x, Cond.static Lib.MathLoose.min_long.x, Cond.code Lib.MathLoose.min_long.x Lib.MathLoose.min_long.code 4 (some .long), Cond.methodLink RX10 142 Lib.MathLoose.max_long.x, Cond.static Lib.MathLoose.max_long.x, Cond.code Lib.MathLoose.max_long.x Lib.MathLoose.max_long.code 4 (some .long)]
def wsX10_payOf_r2 : List Cond := [Cond.fieldLink RX10 56 "ScaleHouseModel" "bend" "[I", Cond.constantLong RX10 233 (100), Cond.methodLink RX10 212 yX10_inForce, Cond.instanceMethod yX10_inForce, Cond.selects RX10 yX10_inForce yX10_inForce, Cond.code yX10_inForce cX10_inForce 5 (some .int), Cond.fieldLink RX10 199 "ScaleHouseModel" "laws" "I", Cond.fieldLink RX10 23 "ScaleHouseModel" "lawTold" "[I", Cond.fieldLink RX10 20 "ScaleHouseModel" "lawFrom" "[I", Cond.methodLink RX10 225 yX10_errorOn, Cond.instanceMethod yX10_errorOn, Cond.selects RX10 yX10_errorOn yX10_errorOn, Cond.code yX10_errorOn cX10_errorOn 7 (some .int), Cond.fieldLink RX10 216 "ScaleHouseModel" "errors" "I", Cond.fieldLink RX10 26 "ScaleHouseModel" "errorStick" "[I", Cond.fieldLink RX10 35 "ScaleHouseModel" "errorTold" "[I", Cond.fieldLink RX10 32 "ScaleHouseModel" "errorFrom" "[I", Cond.fieldLink RX10 29 "ScaleHouseModel" "errorParts" "[I", Cond.methodLink RX10 205 yX10_lawValue, Cond.instanceMethod yX10_lawValue, Cond.selects RX10 yX10_lawValue yX10_lawValue, Cond.code yX10_lawValue cX10_lawValue 4 (some .long), Cond.fieldLink RX10 13 "ScaleHouseModel" "lawText" "[B", Cond.fieldLink RX10 16 "ScaleHouseModel" "lawLong" "[I"]
def wsX10_payOf_r3 : List Cond := [Cond.methodLink RX10 187 yX10_goThrough, Cond.instanceMethod yX10_goThrough, Cond.selects RX10 yX10_goThrough yX10_goThrough, Cond.code yX10_goThrough cX10_goThrough 8 (some .long), Cond.fieldLink RX10 77 "ScaleHouseModel" "row" "[B", Cond.fieldLink RX10 126 "ScaleHouseModel" "rowFrom" "I", Cond.fieldLink RX10 123 "ScaleHouseModel" "rowLong" "I", Cond.fieldLink RX10 120 "ScaleHouseModel" "at" "I", Cond.fieldLink RX10 156 "ScaleHouseModel" "open" "I", Cond.fieldLink RX10 129 "ScaleHouseModel" "fault" "I", Cond.fieldLink RX10 149 "ScaleHouseModel" "givenD" "J", Cond.fieldLink RX10 153 "ScaleHouseModel" "givenL" "J", Cond.methodLink RX10 163 yX10_sums, Cond.instanceMethod yX10_sums, Cond.selects RX10 yX10_sums yX10_sums, Cond.code yX10_sums cX10_sums 6 (some .long), Cond.methodLink RX10 184 yX10_product, Cond.instanceMethod yX10_product, Cond.selects RX10 yX10_product yX10_product, Cond.methodLink RX10 145 yX10_look, Cond.instanceMethod yX10_look, Cond.selects RX10 yX10_look yX10_look, Cond.code yX10_look cX10_look 1 (some .int), Cond.methodLink RX10 180 yX10_bound]
def wsX10_payOf_r4 : List Cond := [Cond.static yX10_bound, Cond.code yX10_bound cX10_bound 2 (some .long), Cond.constantLong RX10 132 (-1000000000), Cond.constantLong RX10 134 (1000000000), Cond.code yX10_factor cX10_factor 5 (some .long), Cond.constantLong RX10 170 (10), Cond.constantLong RX10 172 (48), Cond.methodLink RX10 159 yX10_wrong, Cond.instanceMethod yX10_wrong, Cond.selects RX10 yX10_wrong yX10_wrong, Cond.code yX10_wrong cX10_wrong 1 (some .long), Cond.methodLink RX10 166 yX10_isDigit, Cond.instanceMethod yX10_isDigit, Cond.selects RX10 yX10_isDigit yX10_isDigit, Cond.code yX10_isDigit cX10_isDigit 1 (some .boolean), Cond.code yX10_product cX10_product 6 (some .long), Cond.methodLink RX10 174 yX10_factor, Cond.instanceMethod yX10_factor, Cond.selects RX10 yX10_factor yX10_factor, Cond.methodLink RX10 177 yJ9_floorDiv_f86c9, Cond.static yJ9_floorDiv_f86c9, Cond.initialized RJ9, Cond.code yJ9_floorDiv_f86c9 cJ9_floorDiv_f86c9 6 (some .long)]
def wsX10_payOf : List Cond := .code yX10_payOf cX10_payOf 2 (some .int) :: ((wsX10_payOf_r1 ++ (wsX10_payOf_r2 ++ (wsX10_payOf_r3 ++ wsX10_payOf_r4))) ++ wsX100)
def wsX10_day_r1 : List Cond := [Cond.fieldLink RX10 106 "ScaleHouseModel" "thrown" "I", Cond.fieldLink RX10 219 "ScaleHouseModel" "logs" "I", Cond.fieldLink RX10 59 "ScaleHouseModel" "booked" "[I", Cond.fieldLink RX10 202 "ScaleHouseModel" "now" "I", Cond.fieldLink RX10 241 "ScaleHouseModel" "lines" "I", Cond.fieldLink RX10 68 "ScaleHouseModel" "lineDay" "[I", Cond.fieldLink RX10 71 "ScaleHouseModel" "lineLog" "[I", Cond.fieldLink RX10 74 "ScaleHouseModel" "lineCoins" "[I", Cond.fieldLink RX10 244 "ScaleHouseModel" "coins" "I", Cond.methodLink RX10 238 yX10_payOf, Cond.instanceMethod yX10_payOf, Cond.selects RX10 yX10_payOf yX10_payOf, Cond.initialized RX10, Cond.code yX10_payOf cX10_payOf 2 (some .int), Cond.methodLink RX10 229 Lib.Math.max.name, Cond.static Lib.Math.max.name, Cond.initialized "java/lang/Math", Cond.code Lib.Math.max.name Lib.Math.max.code 2 (some .int), Cond.fieldLink RX10 65 "ScaleHouseModel" "price" "[I", Cond.fieldLink RX10 38 "ScaleHouseModel" "logOwner" "[I", Cond.methodLink RX10 235 yX10_scaleOf, Cond.instanceMethod yX10_scaleOf, Cond.selects RX10 yX10_scaleOf yX10_scaleOf, Cond.code yX10_scaleOf cX10_scaleOf 7 (some .int)]
def wsX10_day_r2 : List Cond := [Cond.fieldLink RX10 50 "ScaleHouseModel" "logDay" "[I", Cond.fieldLink RX10 44 "ScaleHouseModel" "logRead" "[I", Cond.fieldLink RX10 41 "ScaleHouseModel" "logStick" "[I", Cond.fieldLink RX10 53 "ScaleHouseModel" "rot" "[I", Cond.constantLong RX10 231 (1000000), Cond.fieldLink RX10 47 "ScaleHouseModel" "logLong" "[I", Cond.methodLink RX10 136 Lib.MathLoose.min_long.x, Cond.static Lib.MathLoose.min_long.x, Cond.code Lib.MathLoose.min_long.x Lib.MathLoose.min_long.code 4 (some .long), Cond.methodLink RX10 142 Lib.MathLoose.max_long.x, Cond.static Lib.MathLoose.max_long.x, Cond.code Lib.MathLoose.max_long.x Lib.MathLoose.max_long.code 4 (some .long), Cond.fieldLink RX10 56 "ScaleHouseModel" "bend" "[I", Cond.constantLong RX10 233 (100), Cond.methodLink RX10 212 yX10_inForce, Cond.instanceMethod yX10_inForce, Cond.selects RX10 yX10_inForce yX10_inForce, Cond.code yX10_inForce cX10_inForce 5 (some .int), Cond.fieldLink RX10 199 "ScaleHouseModel" "laws" "I", Cond.fieldLink RX10 23 "ScaleHouseModel" "lawTold" "[I", Cond.fieldLink RX10 20 "ScaleHouseModel" "lawFrom" "[I", Cond.methodLink RX10 225 yX10_errorOn, Cond.instanceMethod yX10_errorOn, Cond.selects RX10 yX10_errorOn yX10_errorOn]
def wsX10_day_r3 : List Cond := [Cond.code yX10_errorOn cX10_errorOn 7 (some .int), Cond.fieldLink RX10 216 "ScaleHouseModel" "errors" "I", Cond.fieldLink RX10 26 "ScaleHouseModel" "errorStick" "[I", Cond.fieldLink RX10 35 "ScaleHouseModel" "errorTold" "[I", Cond.fieldLink RX10 32 "ScaleHouseModel" "errorFrom" "[I", Cond.fieldLink RX10 29 "ScaleHouseModel" "errorParts" "[I", Cond.methodLink RX10 205 yX10_lawValue, Cond.instanceMethod yX10_lawValue, Cond.selects RX10 yX10_lawValue yX10_lawValue, Cond.code yX10_lawValue cX10_lawValue 4 (some .long), Cond.fieldLink RX10 13 "ScaleHouseModel" "lawText" "[B", Cond.fieldLink RX10 16 "ScaleHouseModel" "lawLong" "[I", Cond.methodLink RX10 187 yX10_goThrough, Cond.instanceMethod yX10_goThrough, Cond.selects RX10 yX10_goThrough yX10_goThrough, Cond.code yX10_goThrough cX10_goThrough 8 (some .long), Cond.fieldLink RX10 77 "ScaleHouseModel" "row" "[B", Cond.fieldLink RX10 126 "ScaleHouseModel" "rowFrom" "I", Cond.fieldLink RX10 123 "ScaleHouseModel" "rowLong" "I", Cond.fieldLink RX10 120 "ScaleHouseModel" "at" "I", Cond.fieldLink RX10 156 "ScaleHouseModel" "open" "I", Cond.fieldLink RX10 129 "ScaleHouseModel" "fault" "I", Cond.fieldLink RX10 149 "ScaleHouseModel" "givenD" "J", Cond.fieldLink RX10 153 "ScaleHouseModel" "givenL" "J"]
def wsX10_day_r4 : List Cond := [Cond.methodLink RX10 163 yX10_sums, Cond.instanceMethod yX10_sums, Cond.selects RX10 yX10_sums yX10_sums, Cond.code yX10_sums cX10_sums 6 (some .long), Cond.methodLink RX10 184 yX10_product, Cond.instanceMethod yX10_product, Cond.selects RX10 yX10_product yX10_product, Cond.methodLink RX10 145 yX10_look, Cond.instanceMethod yX10_look, Cond.selects RX10 yX10_look yX10_look, Cond.code yX10_look cX10_look 1 (some .int), Cond.methodLink RX10 180 yX10_bound, Cond.static yX10_bound, Cond.code yX10_bound cX10_bound 2 (some .long), Cond.constantLong RX10 132 (-1000000000), Cond.constantLong RX10 134 (1000000000), Cond.code yX10_factor cX10_factor 5 (some .long), Cond.constantLong RX10 170 (10), Cond.constantLong RX10 172 (48), Cond.methodLink RX10 159 yX10_wrong, Cond.instanceMethod yX10_wrong, Cond.selects RX10 yX10_wrong yX10_wrong, Cond.code yX10_wrong cX10_wrong 1 (some .long), Cond.methodLink RX10 166 yX10_isDigit]
def wsX10_day_r5 : List Cond := [Cond.instanceMethod yX10_isDigit, Cond.selects RX10 yX10_isDigit yX10_isDigit, Cond.code yX10_isDigit cX10_isDigit 1 (some .boolean), Cond.code yX10_product cX10_product 6 (some .long), Cond.methodLink RX10 174 yX10_factor, Cond.instanceMethod yX10_factor, Cond.selects RX10 yX10_factor yX10_factor, Cond.methodLink RX10 177 yJ9_floorDiv_f86c9, Cond.static yJ9_floorDiv_f86c9, Cond.initialized RJ9, Cond.code yJ9_floorDiv_f86c9 cJ9_floorDiv_f86c9 6 (some .long)]
def wsX10_day : List Cond := .code yX10_day cX10_day 4 (some .int) :: ((wsX10_day_r1 ++ (wsX10_day_r2 ++ (wsX10_day_r3 ++ (wsX10_day_r4 ++ wsX10_day_r5)))) ++ wsX100)
def wsX10_line : List Cond := .code yX10_line cX10_line 3 (some .int) :: ([.fieldLink RX10 106 "ScaleHouseModel" "thrown" "I", .fieldLink RX10 241 "ScaleHouseModel" "lines" "I", .constant RX10 247 (-1000000000), .fieldLink RX10 68 "ScaleHouseModel" "lineDay" "[I", .fieldLink RX10 71 "ScaleHouseModel" "lineLog" "[I", .fieldLink RX10 74 "ScaleHouseModel" "lineCoins" "[I", .methodLink RX10 191 yX10_isIn, .static yX10_isIn, .initialized RX10, .code yX10_isIn cX10_isIn 3 (some .boolean)] ++ wsX100)
def wsX10_check : List Cond := .code yX10_check cX10_check 3 (some .boolean) :: ([.fieldLink RX10 106 "ScaleHouseModel" "thrown" "I", .fieldLink RX10 62 "ScaleHouseModel" "check" "[I", .methodLink RX10 222 yX10_isLog, .instanceMethod yX10_isLog, .selects RX10 yX10_isLog yX10_isLog, .initialized RX10, .code yX10_isLog cX10_isLog 2 (some .boolean), .fieldLink RX10 219 "ScaleHouseModel" "logs" "I", .methodLink RX10 191 yX10_isIn, .static yX10_isIn, .code yX10_isIn cX10_isIn 3 (some .boolean)] ++ wsX100)
def wsX10_habit : List Cond := .code yX10_habit cX10_habit 13 (some .long) :: ([.fieldLink RX10 106 "ScaleHouseModel" "thrown" "I", .constantLong RX10 248 (-1), .fieldLink RX10 219 "ScaleHouseModel" "logs" "I", .fieldLink RX10 41 "ScaleHouseModel" "logStick" "[I", .fieldLink RX10 62 "ScaleHouseModel" "check" "[I", .fieldLink RX10 44 "ScaleHouseModel" "logRead" "[I", .methodLink RX10 191 yX10_isIn, .static yX10_isIn, .initialized RX10, .code yX10_isIn cX10_isIn 3 (some .boolean)] ++ wsX100)
def wsX10_row : List Cond := .code yX10_row cX10_row 4 (some .int) :: ([.fieldLink RX10 106 "ScaleHouseModel" "thrown" "I", .fieldLink RX10 86 "ScaleHouseModel" "rows" "[I", .fieldLink RX10 80 "ScaleHouseModel" "rowD" "[I", .fieldLink RX10 83 "ScaleHouseModel" "rowL" "[I", .methodLink RX10 191 yX10_isIn, .static yX10_isIn, .initialized RX10, .code yX10_isIn cX10_isIn 3 (some .boolean)] ++ wsX100)
def wsX10_clear : List Cond := .code yX10_clear cX10_clear 1 none :: ([.fieldLink RX10 106 "ScaleHouseModel" "thrown" "I", .fieldLink RX10 86 "ScaleHouseModel" "rows" "[I"] ++ wsX100)
def wsX10_allow : List Cond := .code yX10_allow cX10_allow 3 (some .boolean) :: ([.fieldLink RX10 106 "ScaleHouseModel" "thrown" "I", .fieldLink RX10 250 "ScaleHouseModel" "farD" "I", .fieldLink RX10 253 "ScaleHouseModel" "farL" "I", .methodLink RX10 191 yX10_isIn, .static yX10_isIn, .initialized RX10, .code yX10_isIn cX10_isIn 3 (some .boolean)] ++ wsX100)
def wsX10_agree : List Cond := .code yX10_agree cX10_agree 3 (some .boolean) :: ([.fieldLink RX10 80 "ScaleHouseModel" "rowD" "[I", .methodLink RX10 256 Lib.Math.abs.name, .static Lib.Math.abs.name, .initialized "java/lang/Math", .code Lib.Math.abs.name Lib.Math.abs.code 1 (some .int), .fieldLink RX10 250 "ScaleHouseModel" "farD" "I", .fieldLink RX10 83 "ScaleHouseModel" "rowL" "[I", .fieldLink RX10 253 "ScaleHouseModel" "farL" "I"] ++ wsX100)
def wsX10_finds : List Cond := .code yX10_finds cX10_finds 3 (some .boolean) :: ([.fieldLink RX10 86 "ScaleHouseModel" "rows" "[I", .fieldLink RX10 92 "ScaleHouseModel" "isTaken" "[Z", .fieldLink RX10 96 "ScaleHouseModel" "isTried" "[Z", .fieldLink RX10 89 "ScaleHouseModel" "has" "[I", .methodLink RX10 259 yX10_agree, .instanceMethod yX10_agree, .selects RX10 yX10_agree yX10_agree, .initialized RX10, .code yX10_agree cX10_agree 3 (some .boolean), .fieldLink RX10 80 "ScaleHouseModel" "rowD" "[I", .methodLink RX10 256 Lib.Math.abs.name, .static Lib.Math.abs.name, .initialized "java/lang/Math", .code Lib.Math.abs.name Lib.Math.abs.code 1 (some .int), .fieldLink RX10 250 "ScaleHouseModel" "farD" "I", .fieldLink RX10 83 "ScaleHouseModel" "rowL" "[I", .fieldLink RX10 253 "ScaleHouseModel" "farL" "I", .methodLink RX10 263 yX10_finds, .instanceMethod yX10_finds, .selects RX10 yX10_finds yX10_finds] ++ wsX100)
def wsX10_mostFrom : List Cond := .code yX10_mostFrom cX10_mostFrom 5 (some .int) :: ([.fieldLink RX10 86 "ScaleHouseModel" "rows" "[I", .fieldLink RX10 89 "ScaleHouseModel" "has" "[I", .fieldLink RX10 96 "ScaleHouseModel" "isTried" "[Z", .methodLink RX10 263 yX10_finds, .instanceMethod yX10_finds, .selects RX10 yX10_finds yX10_finds, .initialized RX10, .code yX10_finds cX10_finds 3 (some .boolean), .fieldLink RX10 92 "ScaleHouseModel" "isTaken" "[Z", .methodLink RX10 259 yX10_agree, .instanceMethod yX10_agree, .selects RX10 yX10_agree yX10_agree, .code yX10_agree cX10_agree 3 (some .boolean), .fieldLink RX10 80 "ScaleHouseModel" "rowD" "[I", .methodLink RX10 256 Lib.Math.abs.name, .static Lib.Math.abs.name, .initialized "java/lang/Math", .code Lib.Math.abs.name Lib.Math.abs.code 1 (some .int), .fieldLink RX10 250 "ScaleHouseModel" "farD" "I", .fieldLink RX10 83 "ScaleHouseModel" "rowL" "[I", .fieldLink RX10 253 "ScaleHouseModel" "farL" "I"] ++ wsX100)
def wsX10_free : List Cond := .code yX10_free cX10_free 2 none :: ([.fieldLink RX10 92 "ScaleHouseModel" "isTaken" "[Z"] ++ wsX100)
def wsX10_pairs_r1 : List Cond := [Cond.fieldLink RX10 106 "ScaleHouseModel" "thrown" "I", Cond.methodLink RX10 266 yX10_free, Cond.instanceMethod yX10_free, Cond.selects RX10 yX10_free yX10_free, Cond.initialized RX10, Cond.code yX10_free cX10_free 2 none, Cond.fieldLink RX10 92 "ScaleHouseModel" "isTaken" "[Z", Cond.methodLink RX10 269 yX10_mostFrom, Cond.instanceMethod yX10_mostFrom, Cond.selects RX10 yX10_mostFrom yX10_mostFrom, Cond.code yX10_mostFrom cX10_mostFrom 5 (some .int), Cond.fieldLink RX10 86 "ScaleHouseModel" "rows" "[I", Cond.fieldLink RX10 89 "ScaleHouseModel" "has" "[I", Cond.fieldLink RX10 96 "ScaleHouseModel" "isTried" "[Z", Cond.methodLink RX10 263 yX10_finds, Cond.instanceMethod yX10_finds, Cond.selects RX10 yX10_finds yX10_finds, Cond.code yX10_finds cX10_finds 3 (some .boolean), Cond.methodLink RX10 259 yX10_agree, Cond.instanceMethod yX10_agree, Cond.selects RX10 yX10_agree yX10_agree, Cond.code yX10_agree cX10_agree 3 (some .boolean), Cond.fieldLink RX10 80 "ScaleHouseModel" "rowD" "[I", Cond.methodLink RX10 256 Lib.Math.abs.name]
def wsX10_pairs_r2 : List Cond := [Cond.static Lib.Math.abs.name, Cond.initialized "java/lang/Math", Cond.code Lib.Math.abs.name Lib.Math.abs.code 1 (some .int), Cond.fieldLink RX10 250 "ScaleHouseModel" "farD" "I", Cond.fieldLink RX10 83 "ScaleHouseModel" "rowL" "[I", Cond.fieldLink RX10 253 "ScaleHouseModel" "farL" "I"]
def wsX10_pairs : List Cond := .code yX10_pairs cX10_pairs 1 (some .int) :: ((wsX10_pairs_r1 ++ wsX10_pairs_r2) ++ wsX100)
def wsX10_pair_r1 : List Cond := [Cond.fieldLink RX10 106 "ScaleHouseModel" "thrown" "I", Cond.fieldLink RX10 86 "ScaleHouseModel" "rows" "[I", Cond.fieldLink RX10 92 "ScaleHouseModel" "isTaken" "[Z", Cond.methodLink RX10 191 yX10_isIn, Cond.static yX10_isIn, Cond.initialized RX10, Cond.code yX10_isIn cX10_isIn 3 (some .boolean), Cond.methodLink RX10 266 yX10_free, Cond.instanceMethod yX10_free, Cond.selects RX10 yX10_free yX10_free, Cond.code yX10_free cX10_free 2 none, Cond.methodLink RX10 269 yX10_mostFrom, Cond.instanceMethod yX10_mostFrom, Cond.selects RX10 yX10_mostFrom yX10_mostFrom, Cond.code yX10_mostFrom cX10_mostFrom 5 (some .int), Cond.fieldLink RX10 89 "ScaleHouseModel" "has" "[I", Cond.fieldLink RX10 96 "ScaleHouseModel" "isTried" "[Z", Cond.methodLink RX10 263 yX10_finds, Cond.instanceMethod yX10_finds, Cond.selects RX10 yX10_finds yX10_finds, Cond.code yX10_finds cX10_finds 3 (some .boolean), Cond.methodLink RX10 259 yX10_agree, Cond.instanceMethod yX10_agree, Cond.selects RX10 yX10_agree yX10_agree]
def wsX10_pair_r2 : List Cond := [Cond.code yX10_agree cX10_agree 3 (some .boolean), Cond.fieldLink RX10 80 "ScaleHouseModel" "rowD" "[I", Cond.methodLink RX10 256 Lib.Math.abs.name, Cond.static Lib.Math.abs.name, Cond.initialized "java/lang/Math", Cond.code Lib.Math.abs.name Lib.Math.abs.code 1 (some .int), Cond.fieldLink RX10 250 "ScaleHouseModel" "farD" "I", Cond.fieldLink RX10 83 "ScaleHouseModel" "rowL" "[I", Cond.fieldLink RX10 253 "ScaleHouseModel" "farL" "I"]
def wsX10_pair : List Cond := .code yX10_pair cX10_pair 6 (some .int) :: ((wsX10_pair_r1 ++ wsX10_pair_r2) ++ wsX100)
def wsX10_near : List Cond := .code yX10_near cX10_near 2 (some .boolean) :: ([.fieldLink RX10 106 "ScaleHouseModel" "thrown" "I", .fieldLink RX10 99 "ScaleHouseModel" "allowance" "I", .methodLink RX10 191 yX10_isIn, .static yX10_isIn, .initialized RX10, .code yX10_isIn cX10_isIn 3 (some .boolean)] ++ wsX100)
def wsX10_isNear : List Cond := .code yX10_isNear cX10_isNear 3 (some .boolean) :: ([.methodLink RX10 256 Lib.Math.abs.name, .static Lib.Math.abs.name, .initialized "java/lang/Math", .code Lib.Math.abs.name Lib.Math.abs.code 1 (some .int), .constantLong RX10 233 (100), .fieldLink RX10 99 "ScaleHouseModel" "allowance" "I"] ++ wsX100)
def wsX10_judge : List Cond := .code yX10_judge cX10_judge 7 (some .int) :: ([.fieldLink RX10 106 "ScaleHouseModel" "thrown" "I", .constant RX10 272 (1000000), .fieldLink RX10 276 "ScaleHouseModel" "buyerOff" "I", .fieldLink RX10 279 "ScaleHouseModel" "sellerOff" "I", .fieldLink RX10 103 "ScaleHouseModel" "stood" "I", .methodLink RX10 191 yX10_isIn, .static yX10_isIn, .initialized RX10, .code yX10_isIn cX10_isIn 3 (some .boolean), .methodLink RX10 273 yX10_isNear, .instanceMethod yX10_isNear, .selects RX10 yX10_isNear yX10_isNear, .code yX10_isNear cX10_isNear 3 (some .boolean), .methodLink RX10 256 Lib.Math.abs.name, .static Lib.Math.abs.name, .initialized "java/lang/Math", .code Lib.Math.abs.name Lib.Math.abs.code 1 (some .int), .constantLong RX10 233 (100), .fieldLink RX10 99 "ScaleHouseModel" "allowance" "I"] ++ wsX100)
def wsX10_count : List Cond := .code yX10_count cX10_count 2 (some .int) :: ([.fieldLink RX10 106 "ScaleHouseModel" "thrown" "I", .fieldLink RX10 202 "ScaleHouseModel" "now" "I", .fieldLink RX10 199 "ScaleHouseModel" "laws" "I", .fieldLink RX10 219 "ScaleHouseModel" "logs" "I", .fieldLink RX10 241 "ScaleHouseModel" "lines" "I", .fieldLink RX10 244 "ScaleHouseModel" "coins" "I", .fieldLink RX10 86 "ScaleHouseModel" "rows" "[I", .fieldLink RX10 109 "ScaleHouseModel" "length" "I", .fieldLink RX10 103 "ScaleHouseModel" "stood" "I", .fieldLink RX10 276 "ScaleHouseModel" "buyerOff" "I", .fieldLink RX10 279 "ScaleHouseModel" "sellerOff" "I"] ++ wsX100)
def wsJ9_abs_0f7a4 : List Cond := .code yJ9_abs_0f7a4 cJ9_abs_0f7a4 1 (some .int) :: ([])
def wsJ9_max_7cf53 : List Cond := .code yJ9_max_7cf53 cJ9_max_7cf53 2 (some .int) :: ([])
def wsJ9_max_f86c9 : List Cond := .code yJ9_max_f86c9 cJ9_max_f86c9 4 (some .long) :: ([])
def wsJ9_min_7cf53 : List Cond := .code yJ9_min_7cf53 cJ9_min_7cf53 2 (some .int) :: ([])
def wsJ9_min_f86c9 : List Cond := .code yJ9_min_f86c9 cJ9_min_f86c9 4 (some .long) :: ([])
def wsL_value_r1 : List Cond := [Cond.classLink RL 13 "java/util/NoSuchElementException", Cond.methodLink RL 7 yX9_value, Cond.instanceMethod yX9_value, Cond.selects RX9 yX9_value yX9_value, Cond.initialized RX9, Cond.code yX9_value cX9_value 4 (some .long), Cond.classLink RX9 132 "java/util/NoSuchElementException", Cond.initialized "java/util/NoSuchElementException", Cond.fieldLink RX9 28 "ScaleHouse" "lawDays" "LScaleHouse$Register;", Cond.fieldLink RX9 19 "ScaleHouse" "reckoner" "LScaleHouse$Reckoner;", Cond.fieldLink RX9 34 "ScaleHouse" "laws" "[LScaleHouse$Law;", Cond.methodLink RX9 101 yX9_within, Cond.static yX9_within, Cond.code yX9_within cX9_within 3 (some .boolean), Cond.methodLink RX9 129 yX9_isSizeByLaw, Cond.static yX9_isSizeByLaw, Cond.code yX9_isSizeByLaw cX9_isSizeByLaw 1 (some .boolean), Cond.methodLink RX9 137 yX5_reckon, Cond.instanceMethod yX5_reckon, Cond.selects RX5 yX5_reckon yX5_reckon, Cond.initialized RX5, Cond.code yX5_reckon cX5_reckon 8 (some .long), Cond.fieldLink RX5 25 "ScaleHouse$Reckoner" "depth" "I", Cond.fieldLink RX5 9 "ScaleHouse$Reckoner" "sums" "[J"]
def wsL_value_r2 : List Cond := [Cond.fieldLink RX5 18 "ScaleHouse$Reckoner" "sumSigns" "[I", Cond.fieldLink RX5 22 "ScaleHouse$Reckoner" "productSigns" "[I", Cond.methodLink RX5 29 yX5_begin, Cond.instanceMethod yX5_begin, Cond.selects RX5 yX5_begin yX5_begin, Cond.code yX5_begin cX5_begin 1 none, Cond.methodLink RX5 40 yX5_beginProduct, Cond.instanceMethod yX5_beginProduct, Cond.selects RX5 yX5_beginProduct yX5_beginProduct, Cond.code yX5_beginProduct cX5_beginProduct 1 none, Cond.fieldLink RX5 15 "ScaleHouse$Reckoner" "products" "[J", Cond.methodLink RX5 32 yX5_takeFactor, Cond.instanceMethod yX5_takeFactor, Cond.selects RX5 yX5_takeFactor yX5_takeFactor, Cond.code yX5_takeFactor cX5_takeFactor 5 none, Cond.methodLink RX5 43 yX5_bounded, Cond.static yX5_bounded, Cond.code yX5_bounded cX5_bounded 2 (some .long), Cond.constantLong RX5 53 (1000000000), Cond.constantLong RX5 55 (-1000000000), Cond.methodLink RX5 47 yJ9_floorDiv_f86c9, Cond.static yJ9_floorDiv_f86c9, Cond.initialized RJ9, Cond.code yJ9_floorDiv_f86c9 cJ9_floorDiv_f86c9 6 (some .long)]
def wsL_value_r3 : List Cond := [Cond.methodLink RX5 36 yX5_wholeSum, Cond.instanceMethod yX5_wholeSum, Cond.selects RX5 yX5_wholeSum yX5_wholeSum, Cond.code yX5_wholeSum cX5_wholeSum 3 (some .long)]
def wsL_value : List Cond := .codeWith yL_value cL_value 6 (some .int) [(0, 11, 14, 13)] :: ((wsL_value_r1 ++ (wsL_value_r2 ++ wsL_value_r3)) ++ wsX90 ++ wsX60 ++ wsX10 ++ wsX50 ++ (vx_at0 RX9 134 "java/util/NoSuchElementException" ["java/lang/RuntimeException", "java/lang/Exception"]).filter goodWord)
def wsL_law0_r1 : List Cond := [Cond.classLink RL 8 RX9, Cond.instantiable RX9 14, Cond.initialized RX9, Cond.classLink RL 16 RX10, Cond.instantiable RX10 50, Cond.initialized RX10, Cond.arrayClass .long, Cond.methodLink RL 15 yX9_init, Cond.instanceMethod yX9_init, Cond.code yX9_init cX9_init 1 none, Cond.methodLink RX9 1 objectInit, Cond.instanceMethod objectInit, Cond.code objectInit ⟨#[0xb1]⟩ 1 none, Cond.classLink RX9 7 RX8, Cond.instantiable RX8 2, Cond.initialized RX8, Cond.fieldLink RX9 10 "ScaleHouse" "tape" "LScaleHouse$Tape;", Cond.classLink RX9 16 RX5, Cond.instantiable RX5 5, Cond.initialized RX5, Cond.fieldLink RX9 19 "ScaleHouse" "reckoner" "LScaleHouse$Reckoner;", Cond.classLink RX9 23 RX6, Cond.instantiable RX6 4, Cond.initialized RX6]
def wsL_law0_r2 : List Cond := [Cond.fieldLink RX9 28 "ScaleHouse" "lawDays" "LScaleHouse$Register;", Cond.classLink RX9 32 RX1, Cond.fieldLink RX9 34 "ScaleHouse" "laws" "[LScaleHouse$Law;", Cond.fieldLink RX9 38 "ScaleHouse" "errorDays" "LScaleHouse$Register;", Cond.arrayClass .int, Cond.fieldLink RX9 41 "ScaleHouse" "errorParts" "[I", Cond.classLink RX9 45 RX3, Cond.fieldLink RX9 47 "ScaleHouse" "logs" "[LScaleHouse$Log;", Cond.fieldLink RX9 51 "ScaleHouse" "prices" "[I", Cond.fieldLink RX9 54 "ScaleHouse" "pays" "[I", Cond.classLink RX9 57 RX2, Cond.instantiable RX2 5, Cond.initialized RX2, Cond.fieldLink RX9 60 "ScaleHouse" "ledger" "LScaleHouse$Ledger;", Cond.classLink RX9 64 RX4, Cond.instantiable RX4 11, Cond.initialized RX4, Cond.fieldLink RX9 67 "ScaleHouse" "pairing" "LScaleHouse$Pairing;", Cond.classLink RX9 71 RX0, Cond.instantiable RX0 4, Cond.initialized RX0, Cond.fieldLink RX9 74 "ScaleHouse" "court" "LScaleHouse$Court;", Cond.fieldLink RX9 78 "ScaleHouse" "logCount" "I", Cond.fieldLink RX9 82 "ScaleHouse" "now" "I"]
def wsL_law0_r3 : List Cond := [Cond.instanceMethod yX8_init, Cond.code yX8_init cX8_init 1 none, Cond.methodLink RX8 3 objectInit, Cond.fieldLink RX8 9 "ScaleHouse$Tape" "bytes" "[I", Cond.fieldLink RX8 15 "ScaleHouse$Tape" "size" "I", Cond.instanceMethod yX5_init, Cond.code yX5_init cX5_init 1 none, Cond.methodLink RX5 3 objectInit, Cond.fieldLink RX5 9 "ScaleHouse$Reckoner" "sums" "[J", Cond.fieldLink RX5 15 "ScaleHouse$Reckoner" "products" "[J", Cond.fieldLink RX5 18 "ScaleHouse$Reckoner" "sumSigns" "[I", Cond.fieldLink RX5 22 "ScaleHouse$Reckoner" "productSigns" "[I", Cond.fieldLink RX5 25 "ScaleHouse$Reckoner" "depth" "I", Cond.methodLink RX9 25 yX6_init, Cond.instanceMethod yX6_init, Cond.code yX6_init cX6_init 2 none, Cond.methodLink RX6 3 objectInit, Cond.fieldLink RX6 9 "ScaleHouse$Register" "size" "I", Cond.fieldLink RX6 15 "ScaleHouse$Register" "names" "[I", Cond.fieldLink RX6 19 "ScaleHouse$Register" "froms" "[I", Cond.fieldLink RX6 22 "ScaleHouse$Register" "tolds" "[I", Cond.instanceMethod yX2_init, Cond.code yX2_init cX2_init 1 none, Cond.methodLink RX2 3 objectInit]
def wsL_law0_r4 : List Cond := [Cond.fieldLink RX2 9 "ScaleHouse$Ledger" "days" "[I", Cond.fieldLink RX2 15 "ScaleHouse$Ledger" "logs" "[I", Cond.fieldLink RX2 18 "ScaleHouse$Ledger" "coins" "[I", Cond.fieldLink RX2 21 "ScaleHouse$Ledger" "size" "I", Cond.fieldLink RX2 25 "ScaleHouse$Ledger" "allCoins" "I", Cond.instanceMethod yX4_init, Cond.code yX4_init cX4_init 1 none, Cond.methodLink RX4 3 objectInit, Cond.classLink RX4 9 RX7, Cond.instantiable RX7 3, Cond.initialized RX7, Cond.fieldLink RX4 12 "ScaleHouse$Pairing" "buyer" "LScaleHouse$Tally;", Cond.fieldLink RX4 18 "ScaleHouse$Pairing" "seller" "LScaleHouse$Tally;", Cond.fieldLink RX4 21 "ScaleHouse$Pairing" "sellerOf" "[I", Cond.fieldLink RX4 25 "ScaleHouse$Pairing" "buyerOf" "[I", Cond.fieldLink RX4 28 "ScaleHouse$Pairing" "agreeing" "[I", Cond.fieldLink RX4 31 "ScaleHouse$Pairing" "reachedFrom" "[I", Cond.fieldLink RX4 34 "ScaleHouse$Pairing" "waiting" "[I", Cond.fieldLink RX4 37 "ScaleHouse$Pairing" "td" "I", Cond.fieldLink RX4 41 "ScaleHouse$Pairing" "tl" "I", Cond.fieldLink RX4 44 "ScaleHouse$Pairing" "found" "I", Cond.fieldLink RX4 47 "ScaleHouse$Pairing" "settled" "Z", Cond.instanceMethod yX7_init, Cond.code yX7_init cX7_init 1 none]
def wsL_law0_r5 : List Cond := [Cond.methodLink RX7 3 objectInit, Cond.fieldLink RX7 9 "ScaleHouse$Tally" "ds" "[I", Cond.fieldLink RX7 15 "ScaleHouse$Tally" "ls" "[I", Cond.fieldLink RX7 18 "ScaleHouse$Tally" "size" "I", Cond.instanceMethod yX0_init, Cond.code yX0_init cX0_init 1 none, Cond.methodLink RX0 3 objectInit, Cond.fieldLink RX0 9 "ScaleHouse$Court" "allowance" "I", Cond.fieldLink RX0 15 "ScaleHouse$Court" "stood" "I", Cond.fieldLink RX0 18 "ScaleHouse$Court" "buyerOff" "I", Cond.fieldLink RX0 21 "ScaleHouse$Court" "sellerOff" "I", Cond.methodLink RX9 85 yJ7_fill_53178, Cond.static yJ7_fill_53178, Cond.initialized RJ7, Cond.code yJ7_fill_53178 cJ7_fill_53178 4 none, Cond.methodLink RL 18 yX10_init, Cond.instanceMethod yX10_init, Cond.code yX10_init cX10_init 2 none, Cond.methodLink RX10 1 objectInit, Cond.arrayClass .byte, Cond.fieldLink RX10 9 "ScaleHouseModel" "tape" "[B", Cond.fieldLink RX10 13 "ScaleHouseModel" "lawText" "[B", Cond.fieldLink RX10 16 "ScaleHouseModel" "lawLong" "[I", Cond.fieldLink RX10 20 "ScaleHouseModel" "lawFrom" "[I"]
def wsL_law0_r6 : List Cond := [Cond.fieldLink RX10 23 "ScaleHouseModel" "lawTold" "[I", Cond.fieldLink RX10 26 "ScaleHouseModel" "errorStick" "[I", Cond.fieldLink RX10 29 "ScaleHouseModel" "errorParts" "[I", Cond.fieldLink RX10 32 "ScaleHouseModel" "errorFrom" "[I", Cond.fieldLink RX10 35 "ScaleHouseModel" "errorTold" "[I", Cond.fieldLink RX10 38 "ScaleHouseModel" "logOwner" "[I", Cond.fieldLink RX10 41 "ScaleHouseModel" "logStick" "[I", Cond.fieldLink RX10 44 "ScaleHouseModel" "logRead" "[I", Cond.fieldLink RX10 47 "ScaleHouseModel" "logLong" "[I", Cond.fieldLink RX10 50 "ScaleHouseModel" "logDay" "[I", Cond.fieldLink RX10 53 "ScaleHouseModel" "rot" "[I", Cond.fieldLink RX10 56 "ScaleHouseModel" "bend" "[I", Cond.fieldLink RX10 59 "ScaleHouseModel" "booked" "[I", Cond.fieldLink RX10 62 "ScaleHouseModel" "check" "[I", Cond.fieldLink RX10 65 "ScaleHouseModel" "price" "[I", Cond.fieldLink RX10 68 "ScaleHouseModel" "lineDay" "[I", Cond.fieldLink RX10 71 "ScaleHouseModel" "lineLog" "[I", Cond.fieldLink RX10 74 "ScaleHouseModel" "lineCoins" "[I", Cond.fieldLink RX10 77 "ScaleHouseModel" "row" "[B", Cond.fieldLink RX10 80 "ScaleHouseModel" "rowD" "[I", Cond.fieldLink RX10 83 "ScaleHouseModel" "rowL" "[I", Cond.fieldLink RX10 86 "ScaleHouseModel" "rows" "[I", Cond.fieldLink RX10 89 "ScaleHouseModel" "has" "[I", Cond.arrayClass .boolean]
def wsL_law0_r7 : List Cond := [Cond.fieldLink RX10 92 "ScaleHouseModel" "isTaken" "[Z", Cond.fieldLink RX10 96 "ScaleHouseModel" "isTried" "[Z", Cond.fieldLink RX10 99 "ScaleHouseModel" "allowance" "I", Cond.fieldLink RX10 103 "ScaleHouseModel" "stood" "I", Cond.methodLink RL 19 yX9_feed, Cond.instanceMethod yX9_feed, Cond.selects RX9 yX9_feed yX9_feed, Cond.code yX9_feed cX9_feed 7 (some .int), Cond.methodLink RX9 91 yX8_bytesIn, Cond.static yX8_bytesIn, Cond.code yX8_bytesIn cX8_bytesIn 3 (some .int), Cond.methodLink RX9 98 yX8_append, Cond.instanceMethod yX8_append, Cond.selects RX8 yX8_append yX8_append, Cond.code yX8_append cX8_append 4 none, Cond.methodLink RL 23 yX10_feed, Cond.instanceMethod yX10_feed, Cond.selects RX10 yX10_feed yX10_feed, Cond.code yX10_feed cX10_feed 6 (some .int), Cond.fieldLink RX10 106 "ScaleHouseModel" "thrown" "I", Cond.fieldLink RX10 109 "ScaleHouseModel" "length" "I", Cond.methodLink RX10 112 yX10_bytesIn, Cond.static yX10_bytesIn, Cond.code yX10_bytesIn cX10_bytesIn 3 (some .int)]
def wsL_law0_r8 : List Cond := [Cond.methodLink RX10 116 yX10_put, Cond.instanceMethod yX10_put, Cond.selects RX10 yX10_put yX10_put, Cond.code yX10_put cX10_put 3 none, Cond.methodLink RL 24 yX9_end, Cond.instanceMethod yX9_end, Cond.selects RX9 yX9_end yX9_end, Cond.code yX9_end cX9_end 2 (some .boolean), Cond.methodLink RX9 101 yX9_within, Cond.static yX9_within, Cond.code yX9_within cX9_within 3 (some .boolean), Cond.methodLink RL 28 yX10_end, Cond.instanceMethod yX10_end, Cond.selects RX10 yX10_end yX10_end, Cond.code yX10_end cX10_end 2 (some .boolean), Cond.methodLink RL 29 yX9_fault, Cond.instanceMethod yX9_fault, Cond.selects RX9 yX9_fault yX9_fault, Cond.code yX9_fault cX9_fault 1 (some .int), Cond.methodLink RX9 105 yX8_firstFault, Cond.instanceMethod yX8_firstFault, Cond.selects RX8 yX8_firstFault yX8_firstFault, Cond.code yX8_firstFault cX8_firstFault 6 (some .int), Cond.methodLink RX8 19 yX8_isDigit]
def wsL_law0_r9 : List Cond := [Cond.static yX8_isDigit, Cond.code yX8_isDigit cX8_isDigit 1 (some .boolean), Cond.methodLink RX8 23 yX8_fits, Cond.static yX8_fits, Cond.code yX8_fits cX8_fits 3 (some .boolean), Cond.methodLink RL 33 yX10_fault, Cond.instanceMethod yX10_fault, Cond.selects RX10 yX10_fault yX10_fault, Cond.code yX10_fault cX10_fault 3 (some .int), Cond.fieldLink RX10 129 "ScaleHouseModel" "fault" "I", Cond.methodLink RX10 187 yX10_goThrough, Cond.instanceMethod yX10_goThrough, Cond.selects RX10 yX10_goThrough yX10_goThrough, Cond.code yX10_goThrough cX10_goThrough 8 (some .long), Cond.fieldLink RX10 126 "ScaleHouseModel" "rowFrom" "I", Cond.fieldLink RX10 123 "ScaleHouseModel" "rowLong" "I", Cond.fieldLink RX10 120 "ScaleHouseModel" "at" "I", Cond.fieldLink RX10 156 "ScaleHouseModel" "open" "I", Cond.fieldLink RX10 149 "ScaleHouseModel" "givenD" "J", Cond.fieldLink RX10 153 "ScaleHouseModel" "givenL" "J", Cond.methodLink RX10 163 yX10_sums, Cond.instanceMethod yX10_sums, Cond.selects RX10 yX10_sums yX10_sums, Cond.code yX10_sums cX10_sums 6 (some .long)]
def wsL_law0_r10 : List Cond := [Cond.methodLink RX10 184 yX10_product, Cond.instanceMethod yX10_product, Cond.selects RX10 yX10_product yX10_product, Cond.methodLink RX10 145 yX10_look, Cond.instanceMethod yX10_look, Cond.selects RX10 yX10_look yX10_look, Cond.code yX10_look cX10_look 1 (some .int), Cond.methodLink RX10 180 yX10_bound, Cond.static yX10_bound, Cond.code yX10_bound cX10_bound 2 (some .long), Cond.constantLong RX10 132 (-1000000000), Cond.constantLong RX10 134 (1000000000), Cond.methodLink RX10 136 Lib.MathLoose.min_long.x, Cond.static Lib.MathLoose.min_long.x, Cond.initialized "java/lang/Math", Cond.code Lib.MathLoose.min_long.x Lib.MathLoose.min_long.code 4 (some .long), Cond.methodLink RX10 142 Lib.MathLoose.max_long.x, Cond.static Lib.MathLoose.max_long.x, Cond.code Lib.MathLoose.max_long.x Lib.MathLoose.max_long.code 4 (some .long), Cond.code yX10_factor cX10_factor 5 (some .long), Cond.constantLong RX10 170 (10), Cond.constantLong RX10 172 (48), Cond.methodLink RX10 159 yX10_wrong, Cond.instanceMethod yX10_wrong]
def wsL_law0_r11 : List Cond := [Cond.selects RX10 yX10_wrong yX10_wrong, Cond.code yX10_wrong cX10_wrong 1 (some .long), Cond.methodLink RX10 166 yX10_isDigit, Cond.instanceMethod yX10_isDigit, Cond.selects RX10 yX10_isDigit yX10_isDigit, Cond.code yX10_isDigit cX10_isDigit 1 (some .boolean), Cond.code yX10_product cX10_product 6 (some .long), Cond.methodLink RX10 174 yX10_factor, Cond.instanceMethod yX10_factor, Cond.selects RX10 yX10_factor yX10_factor, Cond.methodLink RX10 177 yJ9_floorDiv_f86c9, Cond.static yJ9_floorDiv_f86c9, Cond.initialized RJ9, Cond.code yJ9_floorDiv_f86c9 cJ9_floorDiv_f86c9 6 (some .long), Cond.methodLink RL 34 yX9_law, Cond.instanceMethod yX9_law, Cond.selects RX9 yX9_law yX9_law, Cond.code yX9_law cX9_law 3 (some .int), Cond.instantiable RX1 1, Cond.initialized RX1, Cond.methodLink RX9 109 yX9_isDay, Cond.static yX9_isDay, Cond.code yX9_isDay cX9_isDay 1 (some .boolean), Cond.methodLink RX9 113 yX6_isFull]
def wsL_law0_r12 : List Cond := [Cond.instanceMethod yX6_isFull, Cond.selects RX6 yX6_isFull yX6_isFull, Cond.code yX6_isFull cX6_isFull 1 (some .boolean), Cond.methodLink RX9 117 yX6_enter, Cond.instanceMethod yX6_enter, Cond.selects RX6 yX6_enter yX6_enter, Cond.code yX6_enter cX6_enter 4 (some .int), Cond.methodLink RX9 121 yX8_tokens, Cond.instanceMethod yX8_tokens, Cond.selects RX8 yX8_tokens yX8_tokens, Cond.code yX8_tokens cX8_tokens 6 (some (.array .int)), Cond.methodLink RX8 27 yJ7_copyOf_59c91, Cond.static yJ7_copyOf_59c91, Cond.code yJ7_copyOf_59c91 cJ7_copyOf_59c91 3 (some (.array .int)), Cond.methodLink RJ7 316 ⟨"[I", "clone", "()Ljava/lang/Object;"⟩, Cond.sameMethod "[I" "java/lang/Object" "clone" "()Ljava/lang/Object;", Cond.native ⟨"java/lang/Object", "clone", "()Ljava/lang/Object;"⟩, Cond.instanceMethod ⟨"java/lang/Object", "clone", "()Ljava/lang/Object;"⟩, Cond.selects "[I" ⟨"[I", "clone", "()Ljava/lang/Object;"⟩ ⟨"java/lang/Object", "clone", "()Ljava/lang/Object;"⟩, Cond.classLink RJ7 317 "[I", Cond.methodLink RJ7 304 Lib.Math.min.name, Cond.static Lib.Math.min.name, Cond.code Lib.Math.min.name Lib.Math.min.code 2 (some .int), Cond.methodLink RJ7 150 arraycopyName]
def wsL_law0_r13 : List Cond := [Cond.native arraycopyName, Cond.static arraycopyName, Cond.initialized "java/lang/System", Cond.methodLink RX9 125 yX1_init, Cond.instanceMethod yX1_init, Cond.code yX1_init cX1_init 2 none, Cond.methodLink RX1 1 objectInit, Cond.fieldLink RX1 7 "ScaleHouse$Law" "tokens" "[I", Cond.methodLink RL 38 yX10_law, Cond.instanceMethod yX10_law, Cond.selects RX10 yX10_law yX10_law, Cond.code yX10_law cX10_law 5 (some .int), Cond.fieldLink RX10 199 "ScaleHouseModel" "laws" "I", Cond.fieldLink RX10 202 "ScaleHouseModel" "now" "I", Cond.methodLink RX10 195 yX10_isLaterDay, Cond.static yX10_isLaterDay, Cond.code yX10_isLaterDay cX10_isLaterDay 1 (some .boolean), Cond.methodLink RX10 191 yX10_isIn, Cond.static yX10_isIn, Cond.code yX10_isIn cX10_isIn 3 (some .boolean), Cond.methodLink RL 39 yL_value, Cond.static yL_value, Cond.initialized RL, Cond.codeWith yL_value cL_value 6 (some .int) [(0, 11, 14, 13)]]
def wsL_law0_r14 : List Cond := [Cond.classLink RL 13 "java/util/NoSuchElementException", Cond.methodLink RL 7 yX9_value, Cond.instanceMethod yX9_value, Cond.selects RX9 yX9_value yX9_value, Cond.code yX9_value cX9_value 4 (some .long), Cond.classLink RX9 132 "java/util/NoSuchElementException", Cond.initialized "java/util/NoSuchElementException", Cond.methodLink RX9 129 yX9_isSizeByLaw, Cond.static yX9_isSizeByLaw, Cond.code yX9_isSizeByLaw cX9_isSizeByLaw 1 (some .boolean), Cond.methodLink RX9 137 yX5_reckon, Cond.instanceMethod yX5_reckon, Cond.selects RX5 yX5_reckon yX5_reckon, Cond.code yX5_reckon cX5_reckon 8 (some .long), Cond.methodLink RX5 29 yX5_begin, Cond.instanceMethod yX5_begin, Cond.selects RX5 yX5_begin yX5_begin, Cond.code yX5_begin cX5_begin 1 none, Cond.methodLink RX5 40 yX5_beginProduct, Cond.instanceMethod yX5_beginProduct, Cond.selects RX5 yX5_beginProduct yX5_beginProduct, Cond.code yX5_beginProduct cX5_beginProduct 1 none, Cond.methodLink RX5 32 yX5_takeFactor, Cond.instanceMethod yX5_takeFactor]
def wsL_law0_r15 : List Cond := [Cond.selects RX5 yX5_takeFactor yX5_takeFactor, Cond.code yX5_takeFactor cX5_takeFactor 5 none, Cond.methodLink RX5 43 yX5_bounded, Cond.static yX5_bounded, Cond.code yX5_bounded cX5_bounded 2 (some .long), Cond.constantLong RX5 53 (1000000000), Cond.constantLong RX5 55 (-1000000000), Cond.methodLink RX5 47 yJ9_floorDiv_f86c9, Cond.methodLink RX5 36 yX5_wholeSum, Cond.instanceMethod yX5_wholeSum, Cond.selects RX5 yX5_wholeSum yX5_wholeSum, Cond.code yX5_wholeSum cX5_wholeSum 3 (some .long), Cond.methodLink RL 44 yX10_value, Cond.instanceMethod yX10_value, Cond.selects RX10 yX10_value yX10_value, Cond.code yX10_value cX10_value 4 (some .long), Cond.methodLink RX10 205 yX10_lawValue, Cond.instanceMethod yX10_lawValue, Cond.selects RX10 yX10_lawValue yX10_lawValue, Cond.code yX10_lawValue cX10_lawValue 4 (some .long), Cond.methodLink RL 45 yX10_thrown, Cond.instanceMethod yX10_thrown, Cond.selects RX10 yX10_thrown yX10_thrown, Cond.code yX10_thrown cX10_thrown 1 (some .int)]
def wsL_law0_r16 : List Cond := [Cond.methodLink RL 48 yX9_force, Cond.instanceMethod yX9_force, Cond.selects RX9 yX9_force yX9_force, Cond.code yX9_force cX9_force 3 (some .int), Cond.methodLink RX9 141 yX9_isKnown, Cond.instanceMethod yX9_isKnown, Cond.selects RX9 yX9_isKnown yX9_isKnown, Cond.code yX9_isKnown cX9_isKnown 2 (some .boolean), Cond.methodLink RX9 144 yX6_inForce, Cond.instanceMethod yX6_inForce, Cond.selects RX6 yX6_inForce yX6_inForce, Cond.code yX6_inForce cX6_inForce 7 (some .int), Cond.methodLink RL 52 yX10_force, Cond.instanceMethod yX10_force, Cond.selects RX10 yX10_force yX10_force, Cond.code yX10_force cX10_force 3 (some .int), Cond.methodLink RX10 209 yX10_isKnown, Cond.instanceMethod yX10_isKnown, Cond.selects RX10 yX10_isKnown yX10_isKnown, Cond.code yX10_isKnown cX10_isKnown 2 (some .boolean), Cond.methodLink RX10 212 yX10_inForce, Cond.instanceMethod yX10_inForce, Cond.selects RX10 yX10_inForce yX10_inForce, Cond.code yX10_inForce cX10_inForce 5 (some .int)]
def wsL_law0_r17 : List Cond := [Cond.methodLink RL 53 yX9_most, Cond.instanceMethod yX9_most, Cond.selects RX9 yX9_most yX9_most, Cond.code yX9_most cX9_most 9 (some .int), Cond.methodLink RL 56 yX10_most, Cond.instanceMethod yX10_most, Cond.selects RX10 yX10_most yX10_most, Cond.code yX10_most cX10_most 5 (some .int), Cond.methodLink RL 57 yX9_error, Cond.instanceMethod yX9_error, Cond.selects RX9 yX9_error yX9_error, Cond.code yX9_error cX9_error 5 (some .boolean), Cond.methodLink RX9 147 yX9_isStick, Cond.static yX9_isStick, Cond.code yX9_isStick cX9_isStick 1 (some .boolean), Cond.methodLink RL 61 yX10_error, Cond.instanceMethod yX10_error, Cond.selects RX10 yX10_error yX10_error, Cond.code yX10_error cX10_error 4 (some .boolean), Cond.fieldLink RX10 216 "ScaleHouseModel" "errors" "I", Cond.methodLink RL 62 yX9_log, Cond.instanceMethod yX9_log, Cond.selects RX9 yX9_log yX9_log, Cond.code yX9_log cX9_log 5 (some .int)]
def wsL_law0_r18 : List Cond := [Cond.instantiable RX3 9, Cond.initialized RX3, Cond.methodLink RX9 150 yX9_isOwner, Cond.static yX9_isOwner, Cond.code yX9_isOwner cX9_isOwner 1 (some .boolean), Cond.methodLink RX9 153 yX3_init, Cond.instanceMethod yX3_init, Cond.code yX3_init cX3_init 6 none, Cond.methodLink RX3 1 objectInit, Cond.fieldLink RX3 7 "ScaleHouse$Log" "rot" "I", Cond.fieldLink RX3 13 "ScaleHouse$Log" "bend" "I", Cond.fieldLink RX3 16 "ScaleHouse$Log" "checked" "I", Cond.fieldLink RX3 19 "ScaleHouse$Log" "booked" "I", Cond.fieldLink RX3 22 "ScaleHouse$Log" "owner" "I", Cond.fieldLink RX3 25 "ScaleHouse$Log" "stick" "I", Cond.fieldLink RX3 28 "ScaleHouse$Log" "read" "I", Cond.fieldLink RX3 31 "ScaleHouse$Log" "length" "I", Cond.fieldLink RX3 34 "ScaleHouse$Log" "day" "I", Cond.methodLink RL 66 yX10_log, Cond.instanceMethod yX10_log, Cond.selects RX10 yX10_log yX10_log, Cond.code yX10_log cX10_log 5 (some .int), Cond.fieldLink RX10 219 "ScaleHouseModel" "logs" "I", Cond.methodLink RL 67 yX9_defects]
def wsL_law0_r19 : List Cond := [Cond.instanceMethod yX9_defects, Cond.selects RX9 yX9_defects yX9_defects, Cond.code yX9_defects cX9_defects 4 (some .boolean), Cond.methodLink RX9 156 yX9_isLog, Cond.instanceMethod yX9_isLog, Cond.selects RX9 yX9_isLog yX9_isLog, Cond.code yX9_isLog cX9_isLog 2 (some .boolean), Cond.methodLink RL 70 yX10_defects, Cond.instanceMethod yX10_defects, Cond.selects RX10 yX10_defects yX10_defects, Cond.code yX10_defects cX10_defects 4 (some .boolean), Cond.methodLink RX10 222 yX10_isLog, Cond.instanceMethod yX10_isLog, Cond.selects RX10 yX10_isLog yX10_isLog, Cond.code yX10_isLog cX10_isLog 2 (some .boolean), Cond.methodLink RL 71 yX9_scale, Cond.instanceMethod yX9_scale, Cond.selects RX9 yX9_scale yX9_scale, Cond.code yX9_scale cX9_scale 3 (some .int), Cond.methodLink RX9 165 yX9_scaleOf, Cond.instanceMethod yX9_scaleOf, Cond.selects RX9 yX9_scaleOf yX9_scaleOf, Cond.code yX9_scaleOf cX9_scaleOf 7 (some .int), Cond.constantLong RX9 266 (1000000)]
def wsL_law0_r20 : List Cond := [Cond.methodLink RX9 268 Lib.MathLoose.min_long.x, Cond.methodLink RX9 273 Lib.MathLoose.max_long.x, Cond.methodLink RX9 260 yX9_trueD, Cond.instanceMethod yX9_trueD, Cond.selects RX9 yX9_trueD yX9_trueD, Cond.code yX9_trueD cX9_trueD 5 (some .int), Cond.methodLink RX9 276 Lib.Math.max.name, Cond.static Lib.Math.max.name, Cond.code Lib.Math.max.name Lib.Math.max.code 2 (some .int), Cond.methodLink RL 74 yX10_scale, Cond.instanceMethod yX10_scale, Cond.selects RX10 yX10_scale yX10_scale, Cond.code yX10_scale cX10_scale 3 (some .int), Cond.methodLink RX10 235 yX10_scaleOf, Cond.instanceMethod yX10_scaleOf, Cond.selects RX10 yX10_scaleOf yX10_scaleOf, Cond.code yX10_scaleOf cX10_scaleOf 7 (some .int), Cond.methodLink RX10 229 Lib.Math.max.name, Cond.constantLong RX10 231 (1000000), Cond.constantLong RX10 233 (100), Cond.methodLink RX10 225 yX10_errorOn, Cond.instanceMethod yX10_errorOn, Cond.selects RX10 yX10_errorOn yX10_errorOn, Cond.code yX10_errorOn cX10_errorOn 7 (some .int)]
def wsL_law0_r21 : List Cond := [Cond.methodLink RL 75 yX9_sum, Cond.instanceMethod yX9_sum, Cond.selects RX9 yX9_sum yX9_sum, Cond.code yX9_sum cX9_sum 5 (some .int), Cond.methodLink RX9 172 yX9_scaleOrNothing, Cond.instanceMethod yX9_scaleOrNothing, Cond.selects RX9 yX9_scaleOrNothing yX9_scaleOrNothing, Cond.code yX9_scaleOrNothing cX9_scaleOrNothing 4 (some .int), Cond.methodLink RL 78 yX10_sum, Cond.instanceMethod yX10_sum, Cond.selects RX10 yX10_sum yX10_sum, Cond.code yX10_sum cX10_sum 5 (some .int), Cond.methodLink RL 79 yX9_price, Cond.instanceMethod yX9_price, Cond.selects RX9 yX9_price yX9_price, Cond.code yX9_price cX9_price 3 (some .boolean), Cond.methodLink RL 83 yX10_price, Cond.instanceMethod yX10_price, Cond.selects RX10 yX10_price yX10_price, Cond.code yX10_price cX10_price 3 (some .boolean), Cond.methodLink RL 84 yX9_day, Cond.instanceMethod yX9_day, Cond.selects RX9 yX9_day yX9_day, Cond.code yX9_day cX9_day 2 (some .int)]
def wsL_law0_r22 : List Cond := [Cond.methodLink RX9 175 yX9_reckonPays, Cond.instanceMethod yX9_reckonPays, Cond.selects RX9 yX9_reckonPays yX9_reckonPays, Cond.code yX9_reckonPays cX9_reckonPays 3 (some .int), Cond.methodLink RX9 179 yX9_bookPays, Cond.instanceMethod yX9_bookPays, Cond.selects RX9 yX9_bookPays yX9_bookPays, Cond.code yX9_bookPays cX9_bookPays 3 none, Cond.methodLink RX9 282 yX2_write, Cond.instanceMethod yX2_write, Cond.selects RX2 yX2_write yX2_write, Cond.code yX2_write cX2_write 4 none, Cond.methodLink RX2 28 yX2_grow, Cond.instanceMethod yX2_grow, Cond.selects RX2 yX2_grow yX2_grow, Cond.code yX2_grow cX2_grow 2 none, Cond.methodLink RX2 31 Lib.Math.min.name, Cond.methodLink RX2 37 yJ7_copyOf_59c91, Cond.methodLink RL 87 yX10_day, Cond.instanceMethod yX10_day, Cond.selects RX10 yX10_day yX10_day, Cond.code yX10_day cX10_day 4 (some .int), Cond.fieldLink RX10 241 "ScaleHouseModel" "lines" "I", Cond.fieldLink RX10 244 "ScaleHouseModel" "coins" "I"]
def wsL_law0_r23 : List Cond := [Cond.methodLink RX10 238 yX10_payOf, Cond.instanceMethod yX10_payOf, Cond.selects RX10 yX10_payOf yX10_payOf, Cond.code yX10_payOf cX10_payOf 2 (some .int), Cond.methodLink RL 88 yX9_line, Cond.instanceMethod yX9_line, Cond.selects RX9 yX9_line yX9_line, Cond.code yX9_line cX9_line 3 (some .int), Cond.constant RX9 182 (-1000000000), Cond.methodLink RL 91 yX10_line, Cond.instanceMethod yX10_line, Cond.selects RX10 yX10_line yX10_line, Cond.code yX10_line cX10_line 3 (some .int), Cond.constant RX10 247 (-1000000000), Cond.methodLink RL 92 yX9_check, Cond.instanceMethod yX9_check, Cond.selects RX9 yX9_check yX9_check, Cond.code yX9_check cX9_check 3 (some .boolean), Cond.methodLink RL 95 yX10_check, Cond.instanceMethod yX10_check, Cond.selects RX10 yX10_check yX10_check, Cond.code yX10_check cX10_check 3 (some .boolean), Cond.methodLink RL 96 yX9_habit, Cond.instanceMethod yX9_habit]
def wsL_law0_r24 : List Cond := [Cond.selects RX9 yX9_habit yX9_habit, Cond.code yX9_habit cX9_habit 9 (some .long), Cond.constantLong RX9 194 (-1), Cond.methodLink RX9 202 yX9_commonDivisor, Cond.static yX9_commonDivisor, Cond.code yX9_commonDivisor cX9_commonDivisor 11 (some .long), Cond.methodLink RL 100 yX10_habit, Cond.instanceMethod yX10_habit, Cond.selects RX10 yX10_habit yX10_habit, Cond.code yX10_habit cX10_habit 13 (some .long), Cond.constantLong RX10 248 (-1), Cond.methodLink RL 101 yX9_row, Cond.instanceMethod yX9_row, Cond.selects RX9 yX9_row yX9_row, Cond.code yX9_row cX9_row 4 (some .int), Cond.methodLink RX9 206 yX4_addRow, Cond.instanceMethod yX4_addRow, Cond.selects RX4 yX4_addRow yX4_addRow, Cond.code yX4_addRow cX4_addRow 4 (some .int), Cond.methodLink RX4 51 yX7_add, Cond.instanceMethod yX7_add, Cond.selects RX7 yX7_add yX7_add, Cond.code yX7_add cX7_add 3 (some .int), Cond.methodLink RL 105 yX10_row]
def wsL_law0_r25 : List Cond := [Cond.instanceMethod yX10_row, Cond.selects RX10 yX10_row yX10_row, Cond.code yX10_row cX10_row 4 (some .int), Cond.methodLink RL 106 yX9_clear, Cond.instanceMethod yX9_clear, Cond.selects RX9 yX9_clear yX9_clear, Cond.code yX9_clear cX9_clear 1 none, Cond.methodLink RX9 209 yX4_removeRows, Cond.instanceMethod yX4_removeRows, Cond.selects RX4 yX4_removeRows yX4_removeRows, Cond.code yX4_removeRows cX4_removeRows 1 none, Cond.methodLink RL 109 yX10_clear, Cond.instanceMethod yX10_clear, Cond.selects RX10 yX10_clear yX10_clear, Cond.code yX10_clear cX10_clear 1 none, Cond.methodLink RL 110 yX9_allow, Cond.instanceMethod yX9_allow, Cond.selects RX9 yX9_allow yX9_allow, Cond.code yX9_allow cX9_allow 3 (some .boolean), Cond.methodLink RX9 212 yX4_setApart, Cond.instanceMethod yX4_setApart, Cond.selects RX4 yX4_setApart yX4_setApart, Cond.code yX4_setApart cX4_setApart 3 none, Cond.methodLink RL 113 yX10_allow]
def wsL_law0_r26 : List Cond := [Cond.instanceMethod yX10_allow, Cond.selects RX10 yX10_allow yX10_allow, Cond.code yX10_allow cX10_allow 3 (some .boolean), Cond.fieldLink RX10 250 "ScaleHouseModel" "farD" "I", Cond.fieldLink RX10 253 "ScaleHouseModel" "farL" "I", Cond.methodLink RL 114 yX9_pairs, Cond.instanceMethod yX9_pairs, Cond.selects RX9 yX9_pairs yX9_pairs, Cond.code yX9_pairs cX9_pairs 1 (some .int), Cond.methodLink RX9 216 yX4_settle, Cond.instanceMethod yX4_settle, Cond.selects RX4 yX4_settle yX4_settle, Cond.code yX4_settle cX4_settle 2 none, Cond.methodLink RX4 58 yX4_compareRows, Cond.instanceMethod yX4_compareRows, Cond.selects RX4 yX4_compareRows yX4_compareRows, Cond.code yX4_compareRows cX4_compareRows 3 none, Cond.methodLink RX4 71 Lib.Math.abs.name, Cond.static Lib.Math.abs.name, Cond.code Lib.Math.abs.name Lib.Math.abs.code 1 (some .int), Cond.methodLink RX4 61 yX4_findAsManyAsCanBe, Cond.instanceMethod yX4_findAsManyAsCanBe, Cond.selects RX4 yX4_findAsManyAsCanBe yX4_findAsManyAsCanBe, Cond.code yX4_findAsManyAsCanBe cX4_findAsManyAsCanBe 1 none]
def wsL_law0_r27 : List Cond := [Cond.methodLink RX4 80 yJ7_fill_53178, Cond.methodLink RX4 86 yX4_pairOneMore, Cond.instanceMethod yX4_pairOneMore, Cond.selects RX4 yX4_pairOneMore yX4_pairOneMore, Cond.code yX4_pairOneMore cX4_pairOneMore 7 (some .boolean), Cond.methodLink RX4 90 yX4_isKept, Cond.instanceMethod yX4_isKept, Cond.selects RX4 yX4_isKept yX4_isKept, Cond.code yX4_isKept cX4_isKept 3 (some .boolean), Cond.methodLink RX4 101 yX4_joinBackFrom, Cond.instanceMethod yX4_joinBackFrom, Cond.selects RX4 yX4_joinBackFrom yX4_joinBackFrom, Cond.code yX4_joinBackFrom cX4_joinBackFrom 6 none, Cond.methodLink RX4 97 yX4_join, Cond.instanceMethod yX4_join, Cond.selects RX4 yX4_join yX4_join, Cond.code yX4_join cX4_join 3 none, Cond.methodLink RX4 64 yX4_takeLowest, Cond.instanceMethod yX4_takeLowest, Cond.selects RX4 yX4_takeLowest yX4_takeLowest, Cond.code yX4_takeLowest cX4_takeLowest 4 none, Cond.methodLink RX4 94 yX4_moveTo, Cond.instanceMethod yX4_moveTo, Cond.selects RX4 yX4_moveTo yX4_moveTo]
def wsL_law0_r28 : List Cond := [Cond.code yX4_moveTo cX4_moveTo 5 (some .boolean), Cond.methodLink RL 117 yX10_pairs, Cond.instanceMethod yX10_pairs, Cond.selects RX10 yX10_pairs yX10_pairs, Cond.code yX10_pairs cX10_pairs 1 (some .int), Cond.methodLink RX10 266 yX10_free, Cond.instanceMethod yX10_free, Cond.selects RX10 yX10_free yX10_free, Cond.code yX10_free cX10_free 2 none, Cond.methodLink RX10 269 yX10_mostFrom, Cond.instanceMethod yX10_mostFrom, Cond.selects RX10 yX10_mostFrom yX10_mostFrom, Cond.code yX10_mostFrom cX10_mostFrom 5 (some .int), Cond.methodLink RX10 263 yX10_finds, Cond.instanceMethod yX10_finds, Cond.selects RX10 yX10_finds yX10_finds, Cond.code yX10_finds cX10_finds 3 (some .boolean), Cond.methodLink RX10 259 yX10_agree, Cond.instanceMethod yX10_agree, Cond.selects RX10 yX10_agree yX10_agree, Cond.code yX10_agree cX10_agree 3 (some .boolean), Cond.methodLink RX10 256 Lib.Math.abs.name, Cond.methodLink RL 118 yX9_pair, Cond.instanceMethod yX9_pair]
def wsL_law0_r29 : List Cond := [Cond.selects RX9 yX9_pair yX9_pair, Cond.code yX9_pair cX9_pair 2 (some .int), Cond.methodLink RL 121 yX10_pair, Cond.instanceMethod yX10_pair, Cond.selects RX10 yX10_pair yX10_pair, Cond.code yX10_pair cX10_pair 6 (some .int), Cond.methodLink RL 122 yX9_near, Cond.instanceMethod yX9_near, Cond.selects RX9 yX9_near yX9_near, Cond.code yX9_near cX9_near 2 (some .boolean), Cond.methodLink RL 125 yX10_near, Cond.instanceMethod yX10_near, Cond.selects RX10 yX10_near yX10_near, Cond.code yX10_near cX10_near 2 (some .boolean), Cond.methodLink RL 126 yX9_judge, Cond.instanceMethod yX9_judge, Cond.selects RX9 yX9_judge yX9_judge, Cond.code yX9_judge cX9_judge 4 (some .int), Cond.methodLink RX9 235 yX9_isScale, Cond.static yX9_isScale, Cond.code yX9_isScale cX9_isScale 1 (some .boolean), Cond.constant RX9 256 (1000000), Cond.methodLink RX9 238 yX0_decide, Cond.instanceMethod yX0_decide]
def wsL_law0_r30 : List Cond := [Cond.selects RX0 yX0_decide yX0_decide, Cond.code yX0_decide cX0_decide 6 (some .int), Cond.methodLink RX0 24 yX0_isNear, Cond.instanceMethod yX0_isNear, Cond.selects RX0 yX0_isNear yX0_isNear, Cond.code yX0_isNear cX0_isNear 3 (some .boolean), Cond.methodLink RX0 28 Lib.Math.abs.name, Cond.methodLink RL 129 yX10_judge, Cond.instanceMethod yX10_judge, Cond.selects RX10 yX10_judge yX10_judge, Cond.code yX10_judge cX10_judge 7 (some .int), Cond.constant RX10 272 (1000000), Cond.fieldLink RX10 276 "ScaleHouseModel" "buyerOff" "I", Cond.fieldLink RX10 279 "ScaleHouseModel" "sellerOff" "I", Cond.methodLink RX10 273 yX10_isNear, Cond.instanceMethod yX10_isNear, Cond.selects RX10 yX10_isNear yX10_isNear, Cond.code yX10_isNear cX10_isNear 3 (some .boolean), Cond.methodLink RL 130 yX9_count, Cond.instanceMethod yX9_count, Cond.selects RX9 yX9_count yX9_count, Cond.code yX9_count cX9_count 2 (some .int), Cond.methodLink RL 133 yX10_count, Cond.instanceMethod yX10_count]
def wsL_law0_r31 : List Cond := [Cond.selects RX10 yX10_count yX10_count, Cond.code yX10_count cX10_count 2 (some .int)]
def wsL_law0 : List Cond := (wsL_law0_r1 ++ (wsL_law0_r2 ++ (wsL_law0_r3 ++ (wsL_law0_r4 ++ (wsL_law0_r5 ++ (wsL_law0_r6 ++ (wsL_law0_r7 ++ (wsL_law0_r8 ++ (wsL_law0_r9 ++ (wsL_law0_r10 ++ (wsL_law0_r11 ++ (wsL_law0_r12 ++ (wsL_law0_r13 ++ (wsL_law0_r14 ++ (wsL_law0_r15 ++ (wsL_law0_r16 ++ (wsL_law0_r17 ++ (wsL_law0_r18 ++ (wsL_law0_r19 ++ (wsL_law0_r20 ++ (wsL_law0_r21 ++ (wsL_law0_r22 ++ (wsL_law0_r23 ++ (wsL_law0_r24 ++ (wsL_law0_r25 ++ (wsL_law0_r26 ++ (wsL_law0_r27 ++ (wsL_law0_r28 ++ (wsL_law0_r29 ++ (wsL_law0_r30 ++ wsL_law0_r31)))))))))))))))))))))))))))))) ++ wsX90 ++ wsX100 ++ wsX80 ++ wsX50 ++ wsX60 ++ wsX20 ++ wsX40 ++ wsX00 ++ wsX70 ++ wsX10 ++ wsX30 ++ ([] : List Cond)
def wsL_law : List Cond := wsL_law0 ++ (vx_at0 RX9 134 "java/util/NoSuchElementException" ["java/lang/RuntimeException", "java/lang/Exception"]).filter goodWord
theorem wsL_law_x0 : ∀ w ∈ (vx_at0 RX9 134 "java/util/NoSuchElementException" ["java/lang/RuntimeException", "java/lang/Exception"]).filter goodWord, w ∈ lw_tbl := by decide +kernel
theorem inJx8e188 : ∀ w ∈ wsJx8e1880, w ∈ lw_tbl := by decide +kernel
theorem inJ9 : ∀ w ∈ wsJ90, w ∈ lw_tbl := by decide +kernel
theorem inJ10 : ∀ w ∈ wsJ100, w ∈ lw_tbl := by decide +kernel
theorem inJ7 : ∀ w ∈ wsJ70, w ∈ lw_tbl := by decide +kernel
end
section
theorem dX0_init_0 : decode cX0_init 0 = .ok (.aload_n 0, 1) := by decide +kernel
theorem dX0_init_1 : decode cX0_init 1 = .ok (.invokespecial 3, 3) := by decide +kernel
theorem dX0_init_4 : decode cX0_init 4 = .ok (.aload_n 0, 1) := by decide +kernel
theorem dX0_init_5 : decode cX0_init 5 = .ok (.iconst 3, 1) := by decide +kernel
theorem dX0_init_6 : decode cX0_init 6 = .ok (.putfield 9, 3) := by decide +kernel
theorem dX0_init_9 : decode cX0_init 9 = .ok (.aload_n 0, 1) := by decide +kernel
theorem dX0_init_10 : decode cX0_init 10 = .ok (.iconst (-1), 1) := by decide +kernel
theorem dX0_init_11 : decode cX0_init 11 = .ok (.putfield 15, 3) := by decide +kernel
theorem dX0_init_14 : decode cX0_init 14 = .ok (.aload_n 0, 1) := by decide +kernel
theorem dX0_init_15 : decode cX0_init 15 = .ok (.iconst 0, 1) := by decide +kernel
theorem dX0_init_16 : decode cX0_init 16 = .ok (.putfield 18, 3) := by decide +kernel
theorem dX0_init_19 : decode cX0_init 19 = .ok (.aload_n 0, 1) := by decide +kernel
theorem dX0_init_20 : decode cX0_init 20 = .ok (.iconst 0, 1) := by decide +kernel
theorem dX0_init_21 : decode cX0_init 21 = .ok (.putfield 21, 3) := by decide +kernel
theorem dX0_init_24 : decode cX0_init 24 = .ok (.return_, 1) := by decide +kernel
set_option maxRecDepth 20000 in
theorem ggX0_decide_X0_isNear : GoodIn wsX0_decide wsX0_isNear := goodIn_r _ [8, 9, 10, 11, 12, 13, 14, 15, 16, 17] (by decide +kernel) (by decide +kernel)
set_option maxRecDepth 20000 in
theorem gX0_decide_X0_isNear : GoodIn wsX0_decide (wsV RX0 24 RX0 yX0_isNear wsX0_isNear) := goodIn_app (goodIn_of _ (by decide +kernel)) ggX0_decide_X0_isNear
theorem dX0_decide_0 : decode cX0_decide 0 = .ok (.aload_n 0, 1) := by decide +kernel
theorem dX0_decide_1 : decode cX0_decide 1 = .ok (.iload_n 1, 1) := by decide +kernel
theorem dX0_decide_2 : decode cX0_decide 2 = .ok (.iload_n 3, 1) := by decide +kernel
theorem dX0_decide_3 : decode cX0_decide 3 = .ok (.invokevirtual 24, 3) := by decide +kernel
theorem dX0_decide_6 : decode cX0_decide 6 = .ok (.istore 4, 2) := by decide +kernel
theorem dX0_decide_8 : decode cX0_decide 8 = .ok (.aload_n 0, 1) := by decide +kernel
theorem dX0_decide_9 : decode cX0_decide 9 = .ok (.iload_n 2, 1) := by decide +kernel
theorem dX0_decide_10 : decode cX0_decide 10 = .ok (.iload_n 3, 1) := by decide +kernel
theorem dX0_decide_11 : decode cX0_decide 11 = .ok (.invokevirtual 24, 3) := by decide +kernel
theorem dX0_decide_14 : decode cX0_decide 14 = .ok (.istore 5, 2) := by decide +kernel
theorem dX0_decide_16 : decode cX0_decide 16 = .ok (.iload 4, 2) := by decide +kernel
theorem dX0_decide_18 : decode cX0_decide 18 = .ok (.ifCond .ne 13, 3) := by decide +kernel
theorem dX0_decide_21 : decode cX0_decide 21 = .ok (.aload_n 0, 1) := by decide +kernel
theorem dX0_decide_22 : decode cX0_decide 22 = .ok (.dup, 1) := by decide +kernel
theorem dX0_decide_23 : decode cX0_decide 23 = .ok (.getfield 18, 3) := by decide +kernel
theorem dX0_decide_26 : decode cX0_decide 26 = .ok (.iconst 1, 1) := by decide +kernel
theorem dX0_decide_27 : decode cX0_decide 27 = .ok (.iadd, 1) := by decide +kernel
theorem dX0_decide_28 : decode cX0_decide 28 = .ok (.putfield 18, 3) := by decide +kernel
theorem dX0_decide_31 : decode cX0_decide 31 = .ok (.iload 5, 2) := by decide +kernel
theorem dX0_decide_33 : decode cX0_decide 33 = .ok (.ifCond .ne 13, 3) := by decide +kernel
theorem dX0_decide_36 : decode cX0_decide 36 = .ok (.aload_n 0, 1) := by decide +kernel
theorem dX0_decide_37 : decode cX0_decide 37 = .ok (.dup, 1) := by decide +kernel
theorem dX0_decide_38 : decode cX0_decide 38 = .ok (.getfield 21, 3) := by decide +kernel
theorem dX0_decide_41 : decode cX0_decide 41 = .ok (.iconst 1, 1) := by decide +kernel
theorem dX0_decide_42 : decode cX0_decide 42 = .ok (.iadd, 1) := by decide +kernel
theorem dX0_decide_43 : decode cX0_decide 43 = .ok (.putfield 21, 3) := by decide +kernel
theorem dX0_decide_46 : decode cX0_decide 46 = .ok (.iload 4, 2) := by decide +kernel
theorem dX0_decide_48 : decode cX0_decide 48 = .ok (.iload 5, 2) := by decide +kernel
theorem dX0_decide_50 : decode cX0_decide 50 = .ok (.if_icmp .ne 19, 3) := by decide +kernel
theorem dX0_decide_53 : decode cX0_decide 53 = .ok (.aload_n 0, 1) := by decide +kernel
theorem dX0_decide_54 : decode cX0_decide 54 = .ok (.iload_n 3, 1) := by decide +kernel
theorem dX0_decide_55 : decode cX0_decide 55 = .ok (.putfield 15, 3) := by decide +kernel
theorem dX0_decide_58 : decode cX0_decide 58 = .ok (.iload 4, 2) := by decide +kernel
theorem dX0_decide_60 : decode cX0_decide 60 = .ok (.ifCond .eq 7, 3) := by decide +kernel
theorem dX0_decide_63 : decode cX0_decide 63 = .ok (.iconst 0, 1) := by decide +kernel
theorem dX0_decide_64 : decode cX0_decide 64 = .ok (.goto 4, 3) := by decide +kernel
theorem dX0_decide_67 : decode cX0_decide 67 = .ok (.iconst 3, 1) := by decide +kernel
theorem dX0_decide_68 : decode cX0_decide 68 = .ok (.ireturn, 1) := by decide +kernel
theorem dX0_decide_69 : decode cX0_decide 69 = .ok (.aload_n 0, 1) := by decide +kernel
theorem dX0_decide_70 : decode cX0_decide 70 = .ok (.iload 5, 2) := by decide +kernel
theorem dX0_decide_72 : decode cX0_decide 72 = .ok (.ifCond .eq 7, 3) := by decide +kernel
theorem dX0_decide_75 : decode cX0_decide 75 = .ok (.iload_n 2, 1) := by decide +kernel
theorem dX0_decide_76 : decode cX0_decide 76 = .ok (.goto 4, 3) := by decide +kernel
theorem dX0_decide_79 : decode cX0_decide 79 = .ok (.iload_n 1, 1) := by decide +kernel
theorem dX0_decide_80 : decode cX0_decide 80 = .ok (.putfield 15, 3) := by decide +kernel
theorem dX0_decide_83 : decode cX0_decide 83 = .ok (.iload 5, 2) := by decide +kernel
theorem dX0_decide_85 : decode cX0_decide 85 = .ok (.ifCond .eq 7, 3) := by decide +kernel
theorem dX0_decide_88 : decode cX0_decide 88 = .ok (.iconst 1, 1) := by decide +kernel
theorem dX0_decide_89 : decode cX0_decide 89 = .ok (.goto 4, 3) := by decide +kernel
theorem dX0_decide_92 : decode cX0_decide 92 = .ok (.iconst 2, 1) := by decide +kernel
theorem dX0_decide_93 : decode cX0_decide 93 = .ok (.ireturn, 1) := by decide +kernel
theorem dX0_isNear_0 : decode cX0_isNear 0 = .ok (.iload_n 1, 1) := by decide +kernel
theorem dX0_isNear_1 : decode cX0_isNear 1 = .ok (.iload_n 2, 1) := by decide +kernel
theorem dX0_isNear_2 : decode cX0_isNear 2 = .ok (.isub, 1) := by decide +kernel
theorem dX0_isNear_3 : decode cX0_isNear 3 = .ok (.invokestatic 28, 3) := by decide +kernel
theorem dX0_isNear_6 : decode cX0_isNear 6 = .ok (.bipush 100, 2) := by decide +kernel
theorem dX0_isNear_8 : decode cX0_isNear 8 = .ok (.imul, 1) := by decide +kernel
theorem dX0_isNear_9 : decode cX0_isNear 9 = .ok (.iload_n 2, 1) := by decide +kernel
theorem dX0_isNear_10 : decode cX0_isNear 10 = .ok (.aload_n 0, 1) := by decide +kernel
theorem dX0_isNear_11 : decode cX0_isNear 11 = .ok (.getfield 9, 3) := by decide +kernel
theorem dX0_isNear_14 : decode cX0_isNear 14 = .ok (.imul, 1) := by decide +kernel
theorem dX0_isNear_15 : decode cX0_isNear 15 = .ok (.if_icmp .gt 7, 3) := by decide +kernel
theorem dX0_isNear_18 : decode cX0_isNear 18 = .ok (.iconst 1, 1) := by decide +kernel
theorem dX0_isNear_19 : decode cX0_isNear 19 = .ok (.goto 4, 3) := by decide +kernel
theorem dX0_isNear_22 : decode cX0_isNear 22 = .ok (.iconst 0, 1) := by decide +kernel
theorem dX0_isNear_23 : decode cX0_isNear 23 = .ok (.ireturn, 1) := by decide +kernel
theorem dX1_init_0 : decode cX1_init 0 = .ok (.aload_n 0, 1) := by decide +kernel
theorem dX1_init_1 : decode cX1_init 1 = .ok (.invokespecial 1, 3) := by decide +kernel
theorem dX1_init_4 : decode cX1_init 4 = .ok (.aload_n 0, 1) := by decide +kernel
theorem dX1_init_5 : decode cX1_init 5 = .ok (.aload_n 1, 1) := by decide +kernel
theorem dX1_init_6 : decode cX1_init 6 = .ok (.putfield 7, 3) := by decide +kernel
theorem dX1_init_9 : decode cX1_init 9 = .ok (.return_, 1) := by decide +kernel
theorem dX2_init_0 : decode cX2_init 0 = .ok (.aload_n 0, 1) := by decide +kernel
theorem dX2_init_1 : decode cX2_init 1 = .ok (.invokespecial 3, 3) := by decide +kernel
theorem dX2_init_4 : decode cX2_init 4 = .ok (.aload_n 0, 1) := by decide +kernel
theorem dX2_init_5 : decode cX2_init 5 = .ok (.bipush 32, 2) := by decide +kernel
theorem dX2_init_7 : decode cX2_init 7 = .ok (.newarray .int, 2) := by decide +kernel
theorem dX2_init_9 : decode cX2_init 9 = .ok (.putfield 9, 3) := by decide +kernel
theorem dX2_init_12 : decode cX2_init 12 = .ok (.aload_n 0, 1) := by decide +kernel
theorem dX2_init_13 : decode cX2_init 13 = .ok (.bipush 32, 2) := by decide +kernel
theorem dX2_init_15 : decode cX2_init 15 = .ok (.newarray .int, 2) := by decide +kernel
theorem dX2_init_17 : decode cX2_init 17 = .ok (.putfield 15, 3) := by decide +kernel
theorem dX2_init_20 : decode cX2_init 20 = .ok (.aload_n 0, 1) := by decide +kernel
theorem dX2_init_21 : decode cX2_init 21 = .ok (.bipush 32, 2) := by decide +kernel
theorem dX2_init_23 : decode cX2_init 23 = .ok (.newarray .int, 2) := by decide +kernel
theorem dX2_init_25 : decode cX2_init 25 = .ok (.putfield 18, 3) := by decide +kernel
theorem dX2_init_28 : decode cX2_init 28 = .ok (.aload_n 0, 1) := by decide +kernel
theorem dX2_init_29 : decode cX2_init 29 = .ok (.iconst 0, 1) := by decide +kernel
theorem dX2_init_30 : decode cX2_init 30 = .ok (.putfield 21, 3) := by decide +kernel
theorem dX2_init_33 : decode cX2_init 33 = .ok (.aload_n 0, 1) := by decide +kernel
theorem dX2_init_34 : decode cX2_init 34 = .ok (.iconst 0, 1) := by decide +kernel
theorem dX2_init_35 : decode cX2_init 35 = .ok (.putfield 25, 3) := by decide +kernel
theorem dX2_init_38 : decode cX2_init 38 = .ok (.return_, 1) := by decide +kernel
set_option maxRecDepth 20000 in
theorem ggX2_write_X2_grow : GoodIn wsX2_write wsX2_grow := goodIn_r _ [10, 2, 11, 12, 13, 14, 3, 4, 15, 16, 17, 18, 19, 20, 21, 22, 23, 24, 25, 26, 27, 28, 29, 30, 31, 32, 33, 34, 35] (by decide +kernel) (by decide +kernel)
set_option maxRecDepth 20000 in
theorem gX2_write_X2_grow : GoodIn wsX2_write (wsV RX2 28 RX2 yX2_grow wsX2_grow) := goodIn_app (goodIn_of _ (by decide +kernel)) ggX2_write_X2_grow
theorem dX2_write_0 : decode cX2_write 0 = .ok (.aload_n 0, 1) := by decide +kernel
theorem dX2_write_1 : decode cX2_write 1 = .ok (.getfield 21, 3) := by decide +kernel
theorem dX2_write_4 : decode cX2_write 4 = .ok (.aload_n 0, 1) := by decide +kernel
theorem dX2_write_5 : decode cX2_write 5 = .ok (.getfield 9, 3) := by decide +kernel
theorem dX2_write_8 : decode cX2_write 8 = .ok (.arraylength, 1) := by decide +kernel
theorem dX2_write_9 : decode cX2_write 9 = .ok (.if_icmp .lt 7, 3) := by decide +kernel
theorem dX2_write_12 : decode cX2_write 12 = .ok (.aload_n 0, 1) := by decide +kernel
theorem dX2_write_13 : decode cX2_write 13 = .ok (.invokevirtual 28, 3) := by decide +kernel
theorem dX2_write_16 : decode cX2_write 16 = .ok (.aload_n 0, 1) := by decide +kernel
theorem dX2_write_17 : decode cX2_write 17 = .ok (.getfield 9, 3) := by decide +kernel
theorem dX2_write_20 : decode cX2_write 20 = .ok (.aload_n 0, 1) := by decide +kernel
theorem dX2_write_21 : decode cX2_write 21 = .ok (.getfield 21, 3) := by decide +kernel
theorem dX2_write_24 : decode cX2_write 24 = .ok (.iload_n 1, 1) := by decide +kernel
theorem dX2_write_25 : decode cX2_write 25 = .ok (.iastore, 1) := by decide +kernel
theorem dX2_write_26 : decode cX2_write 26 = .ok (.aload_n 0, 1) := by decide +kernel
theorem dX2_write_27 : decode cX2_write 27 = .ok (.getfield 15, 3) := by decide +kernel
theorem dX2_write_30 : decode cX2_write 30 = .ok (.aload_n 0, 1) := by decide +kernel
theorem dX2_write_31 : decode cX2_write 31 = .ok (.getfield 21, 3) := by decide +kernel
theorem dX2_write_34 : decode cX2_write 34 = .ok (.iload_n 2, 1) := by decide +kernel
theorem dX2_write_35 : decode cX2_write 35 = .ok (.iastore, 1) := by decide +kernel
theorem dX2_write_36 : decode cX2_write 36 = .ok (.aload_n 0, 1) := by decide +kernel
theorem dX2_write_37 : decode cX2_write 37 = .ok (.getfield 18, 3) := by decide +kernel
theorem dX2_write_40 : decode cX2_write 40 = .ok (.aload_n 0, 1) := by decide +kernel
theorem dX2_write_41 : decode cX2_write 41 = .ok (.getfield 21, 3) := by decide +kernel
theorem dX2_write_44 : decode cX2_write 44 = .ok (.iload_n 3, 1) := by decide +kernel
theorem dX2_write_45 : decode cX2_write 45 = .ok (.iastore, 1) := by decide +kernel
theorem dX2_write_46 : decode cX2_write 46 = .ok (.aload_n 0, 1) := by decide +kernel
theorem dX2_write_47 : decode cX2_write 47 = .ok (.dup, 1) := by decide +kernel
theorem dX2_write_48 : decode cX2_write 48 = .ok (.getfield 21, 3) := by decide +kernel
theorem dX2_write_51 : decode cX2_write 51 = .ok (.iconst 1, 1) := by decide +kernel
theorem dX2_write_52 : decode cX2_write 52 = .ok (.iadd, 1) := by decide +kernel
theorem dX2_write_53 : decode cX2_write 53 = .ok (.putfield 21, 3) := by decide +kernel
theorem dX2_write_56 : decode cX2_write 56 = .ok (.aload_n 0, 1) := by decide +kernel
theorem dX2_write_57 : decode cX2_write 57 = .ok (.dup, 1) := by decide +kernel
theorem dX2_write_58 : decode cX2_write 58 = .ok (.getfield 25, 3) := by decide +kernel
theorem dX2_write_61 : decode cX2_write 61 = .ok (.iload_n 3, 1) := by decide +kernel
theorem dX2_write_62 : decode cX2_write 62 = .ok (.iadd, 1) := by decide +kernel
theorem dX2_write_63 : decode cX2_write 63 = .ok (.putfield 25, 3) := by decide +kernel
theorem dX2_write_66 : decode cX2_write 66 = .ok (.return_, 1) := by decide +kernel
set_option maxRecDepth 20000 in
theorem ggX2_grow_J7_copyOf_59c91 : GoodIn wsX2_grow wsJ7_copyOf_59c91 := goodIn_r _ [11, 12, 13, 14, 15, 16, 17, 18, 19, 3, 4, 5, 20, 21, 22, 23] (by decide +kernel) (by decide +kernel)
set_option maxRecDepth 20000 in
theorem gX2_grow_J7_copyOf_59c91 : GoodIn wsX2_grow (va_wsS RX2 37 yJ7_copyOf_59c91 wsJ7_copyOf_59c91) := goodIn_app (goodIn_of _ (by decide +kernel)) ggX2_grow_J7_copyOf_59c91
theorem dX2_grow_0 : decode cX2_grow 0 = .ok (.sipush 20000, 3) := by decide +kernel
theorem dX2_grow_3 : decode cX2_grow 3 = .ok (.aload_n 0, 1) := by decide +kernel
theorem dX2_grow_4 : decode cX2_grow 4 = .ok (.getfield 9, 3) := by decide +kernel
theorem dX2_grow_7 : decode cX2_grow 7 = .ok (.arraylength, 1) := by decide +kernel
theorem dX2_grow_8 : decode cX2_grow 8 = .ok (.iconst 2, 1) := by decide +kernel
theorem dX2_grow_9 : decode cX2_grow 9 = .ok (.imul, 1) := by decide +kernel
theorem dX2_grow_10 : decode cX2_grow 10 = .ok (.invokestatic 31, 3) := by decide +kernel
theorem dX2_grow_13 : decode cX2_grow 13 = .ok (.istore_n 1, 1) := by decide +kernel
theorem dX2_grow_14 : decode cX2_grow 14 = .ok (.aload_n 0, 1) := by decide +kernel
theorem dX2_grow_15 : decode cX2_grow 15 = .ok (.aload_n 0, 1) := by decide +kernel
theorem dX2_grow_16 : decode cX2_grow 16 = .ok (.getfield 9, 3) := by decide +kernel
theorem dX2_grow_19 : decode cX2_grow 19 = .ok (.iload_n 1, 1) := by decide +kernel
theorem dX2_grow_20 : decode cX2_grow 20 = .ok (.invokestatic 37, 3) := by decide +kernel
theorem dX2_grow_23 : decode cX2_grow 23 = .ok (.putfield 9, 3) := by decide +kernel
theorem dX2_grow_26 : decode cX2_grow 26 = .ok (.aload_n 0, 1) := by decide +kernel
theorem dX2_grow_27 : decode cX2_grow 27 = .ok (.aload_n 0, 1) := by decide +kernel
theorem dX2_grow_28 : decode cX2_grow 28 = .ok (.getfield 15, 3) := by decide +kernel
theorem dX2_grow_31 : decode cX2_grow 31 = .ok (.iload_n 1, 1) := by decide +kernel
theorem dX2_grow_32 : decode cX2_grow 32 = .ok (.invokestatic 37, 3) := by decide +kernel
theorem dX2_grow_35 : decode cX2_grow 35 = .ok (.putfield 15, 3) := by decide +kernel
theorem dX2_grow_38 : decode cX2_grow 38 = .ok (.aload_n 0, 1) := by decide +kernel
theorem dX2_grow_39 : decode cX2_grow 39 = .ok (.aload_n 0, 1) := by decide +kernel
theorem dX2_grow_40 : decode cX2_grow 40 = .ok (.getfield 18, 3) := by decide +kernel
theorem dX2_grow_43 : decode cX2_grow 43 = .ok (.iload_n 1, 1) := by decide +kernel
theorem dX2_grow_44 : decode cX2_grow 44 = .ok (.invokestatic 37, 3) := by decide +kernel
theorem dX2_grow_47 : decode cX2_grow 47 = .ok (.putfield 18, 3) := by decide +kernel
theorem dX2_grow_50 : decode cX2_grow 50 = .ok (.return_, 1) := by decide +kernel
theorem dX3_init_0 : decode cX3_init 0 = .ok (.aload_n 0, 1) := by decide +kernel
theorem dX3_init_1 : decode cX3_init 1 = .ok (.invokespecial 1, 3) := by decide +kernel
theorem dX3_init_4 : decode cX3_init 4 = .ok (.aload_n 0, 1) := by decide +kernel
theorem dX3_init_5 : decode cX3_init 5 = .ok (.iconst 0, 1) := by decide +kernel
theorem dX3_init_6 : decode cX3_init 6 = .ok (.putfield 7, 3) := by decide +kernel
theorem dX3_init_9 : decode cX3_init 9 = .ok (.aload_n 0, 1) := by decide +kernel
theorem dX3_init_10 : decode cX3_init 10 = .ok (.iconst 0, 1) := by decide +kernel
theorem dX3_init_11 : decode cX3_init 11 = .ok (.putfield 13, 3) := by decide +kernel
theorem dX3_init_14 : decode cX3_init 14 = .ok (.aload_n 0, 1) := by decide +kernel
theorem dX3_init_15 : decode cX3_init 15 = .ok (.iconst 0, 1) := by decide +kernel
theorem dX3_init_16 : decode cX3_init 16 = .ok (.putfield 16, 3) := by decide +kernel
theorem dX3_init_19 : decode cX3_init 19 = .ok (.aload_n 0, 1) := by decide +kernel
theorem dX3_init_20 : decode cX3_init 20 = .ok (.iconst 0, 1) := by decide +kernel
theorem dX3_init_21 : decode cX3_init 21 = .ok (.putfield 19, 3) := by decide +kernel
theorem dX3_init_24 : decode cX3_init 24 = .ok (.aload_n 0, 1) := by decide +kernel
theorem dX3_init_25 : decode cX3_init 25 = .ok (.iload_n 1, 1) := by decide +kernel
theorem dX3_init_26 : decode cX3_init 26 = .ok (.putfield 22, 3) := by decide +kernel
theorem dX3_init_29 : decode cX3_init 29 = .ok (.aload_n 0, 1) := by decide +kernel
theorem dX3_init_30 : decode cX3_init 30 = .ok (.iload_n 2, 1) := by decide +kernel
theorem dX3_init_31 : decode cX3_init 31 = .ok (.putfield 25, 3) := by decide +kernel
theorem dX3_init_34 : decode cX3_init 34 = .ok (.aload_n 0, 1) := by decide +kernel
theorem dX3_init_35 : decode cX3_init 35 = .ok (.iload_n 3, 1) := by decide +kernel
theorem dX3_init_36 : decode cX3_init 36 = .ok (.putfield 28, 3) := by decide +kernel
theorem dX3_init_39 : decode cX3_init 39 = .ok (.aload_n 0, 1) := by decide +kernel
theorem dX3_init_40 : decode cX3_init 40 = .ok (.iload 4, 2) := by decide +kernel
theorem dX3_init_42 : decode cX3_init 42 = .ok (.putfield 31, 3) := by decide +kernel
theorem dX3_init_45 : decode cX3_init 45 = .ok (.aload_n 0, 1) := by decide +kernel
theorem dX3_init_46 : decode cX3_init 46 = .ok (.iload 5, 2) := by decide +kernel
theorem dX3_init_48 : decode cX3_init 48 = .ok (.putfield 34, 3) := by decide +kernel
theorem dX3_init_51 : decode cX3_init 51 = .ok (.return_, 1) := by decide +kernel
set_option maxRecDepth 20000 in
theorem ggX4_init_X7_init : GoodIn wsX4_init wsX7_init := goodIn_r _ [20, 21, 2, 3, 9, 22, 23, 24, 25, 26, 27] (by decide +kernel) (by decide +kernel)
set_option maxRecDepth 20000 in
theorem gX4_init_X7_init_n11 : GoodIn wsX4_init (wsX7_init) := ggX4_init_X7_init
theorem dX4_init_0 : decode cX4_init 0 = .ok (.aload_n 0, 1) := by decide +kernel
theorem dX4_init_1 : decode cX4_init 1 = .ok (.invokespecial 3, 3) := by decide +kernel
theorem dX4_init_4 : decode cX4_init 4 = .ok (.aload_n 0, 1) := by decide +kernel
theorem dX4_init_5 : decode cX4_init 5 = .ok (.new 9, 3) := by decide +kernel
theorem dX4_init_8 : decode cX4_init 8 = .ok (.dup, 1) := by decide +kernel
theorem dX4_init_9 : decode cX4_init 9 = .ok (.invokespecial 11, 3) := by decide +kernel
theorem dX4_init_12 : decode cX4_init 12 = .ok (.putfield 12, 3) := by decide +kernel
theorem dX4_init_15 : decode cX4_init 15 = .ok (.aload_n 0, 1) := by decide +kernel
theorem dX4_init_16 : decode cX4_init 16 = .ok (.new 9, 3) := by decide +kernel
theorem dX4_init_19 : decode cX4_init 19 = .ok (.dup, 1) := by decide +kernel
theorem dX4_init_20 : decode cX4_init 20 = .ok (.invokespecial 11, 3) := by decide +kernel
theorem dX4_init_23 : decode cX4_init 23 = .ok (.putfield 18, 3) := by decide +kernel
theorem dX4_init_26 : decode cX4_init 26 = .ok (.aload_n 0, 1) := by decide +kernel
theorem dX4_init_27 : decode cX4_init 27 = .ok (.bipush 20, 2) := by decide +kernel
theorem dX4_init_29 : decode cX4_init 29 = .ok (.newarray .int, 2) := by decide +kernel
theorem dX4_init_31 : decode cX4_init 31 = .ok (.putfield 21, 3) := by decide +kernel
theorem dX4_init_34 : decode cX4_init 34 = .ok (.aload_n 0, 1) := by decide +kernel
theorem dX4_init_35 : decode cX4_init 35 = .ok (.bipush 20, 2) := by decide +kernel
theorem dX4_init_37 : decode cX4_init 37 = .ok (.newarray .int, 2) := by decide +kernel
theorem dX4_init_39 : decode cX4_init 39 = .ok (.putfield 25, 3) := by decide +kernel
theorem dX4_init_42 : decode cX4_init 42 = .ok (.aload_n 0, 1) := by decide +kernel
theorem dX4_init_43 : decode cX4_init 43 = .ok (.bipush 20, 2) := by decide +kernel
theorem dX4_init_45 : decode cX4_init 45 = .ok (.newarray .int, 2) := by decide +kernel
theorem dX4_init_47 : decode cX4_init 47 = .ok (.putfield 28, 3) := by decide +kernel
theorem dX4_init_50 : decode cX4_init 50 = .ok (.aload_n 0, 1) := by decide +kernel
theorem dX4_init_51 : decode cX4_init 51 = .ok (.bipush 20, 2) := by decide +kernel
theorem dX4_init_53 : decode cX4_init 53 = .ok (.newarray .int, 2) := by decide +kernel
theorem dX4_init_55 : decode cX4_init 55 = .ok (.putfield 31, 3) := by decide +kernel
theorem dX4_init_58 : decode cX4_init 58 = .ok (.aload_n 0, 1) := by decide +kernel
theorem dX4_init_59 : decode cX4_init 59 = .ok (.bipush 20, 2) := by decide +kernel
theorem dX4_init_61 : decode cX4_init 61 = .ok (.newarray .int, 2) := by decide +kernel
theorem dX4_init_63 : decode cX4_init 63 = .ok (.putfield 34, 3) := by decide +kernel
theorem dX4_init_66 : decode cX4_init 66 = .ok (.aload_n 0, 1) := by decide +kernel
theorem dX4_init_67 : decode cX4_init 67 = .ok (.iconst 0, 1) := by decide +kernel
theorem dX4_init_68 : decode cX4_init 68 = .ok (.putfield 37, 3) := by decide +kernel
theorem dX4_init_71 : decode cX4_init 71 = .ok (.aload_n 0, 1) := by decide +kernel
theorem dX4_init_72 : decode cX4_init 72 = .ok (.iconst 0, 1) := by decide +kernel
theorem dX4_init_73 : decode cX4_init 73 = .ok (.putfield 41, 3) := by decide +kernel
theorem dX4_init_76 : decode cX4_init 76 = .ok (.aload_n 0, 1) := by decide +kernel
theorem dX4_init_77 : decode cX4_init 77 = .ok (.iconst 0, 1) := by decide +kernel
theorem dX4_init_78 : decode cX4_init 78 = .ok (.putfield 44, 3) := by decide +kernel
theorem dX4_init_81 : decode cX4_init 81 = .ok (.aload_n 0, 1) := by decide +kernel
theorem dX4_init_82 : decode cX4_init 82 = .ok (.iconst 0, 1) := by decide +kernel
theorem dX4_init_83 : decode cX4_init 83 = .ok (.putfield 47, 3) := by decide +kernel
theorem dX4_init_86 : decode cX4_init 86 = .ok (.return_, 1) := by decide +kernel
set_option maxRecDepth 20000 in
theorem ggX4_addRow_X7_add : GoodIn wsX4_addRow wsX7_add := goodIn_r _ [8, 9, 10, 11, 23, 24, 25] (by decide +kernel) (by decide +kernel)
set_option maxRecDepth 20000 in
theorem gX4_addRow_X7_add : GoodIn wsX4_addRow (wsV RX4 51 RX7 yX7_add wsX7_add) := goodIn_app (goodIn_of _ (by decide +kernel)) ggX4_addRow_X7_add
theorem dX4_addRow_0 : decode cX4_addRow 0 = .ok (.aload_n 0, 1) := by decide +kernel
theorem dX4_addRow_1 : decode cX4_addRow 1 = .ok (.iconst 0, 1) := by decide +kernel
theorem dX4_addRow_2 : decode cX4_addRow 2 = .ok (.putfield 47, 3) := by decide +kernel
theorem dX4_addRow_5 : decode cX4_addRow 5 = .ok (.iload_n 1, 1) := by decide +kernel
theorem dX4_addRow_6 : decode cX4_addRow 6 = .ok (.ifCond .ne 15, 3) := by decide +kernel
theorem dX4_addRow_9 : decode cX4_addRow 9 = .ok (.aload_n 0, 1) := by decide +kernel
theorem dX4_addRow_10 : decode cX4_addRow 10 = .ok (.getfield 12, 3) := by decide +kernel
theorem dX4_addRow_13 : decode cX4_addRow 13 = .ok (.iload_n 2, 1) := by decide +kernel
theorem dX4_addRow_14 : decode cX4_addRow 14 = .ok (.iload_n 3, 1) := by decide +kernel
theorem dX4_addRow_15 : decode cX4_addRow 15 = .ok (.invokevirtual 51, 3) := by decide +kernel
theorem dX4_addRow_18 : decode cX4_addRow 18 = .ok (.goto 12, 3) := by decide +kernel
theorem dX4_addRow_21 : decode cX4_addRow 21 = .ok (.aload_n 0, 1) := by decide +kernel
theorem dX4_addRow_22 : decode cX4_addRow 22 = .ok (.getfield 18, 3) := by decide +kernel
theorem dX4_addRow_25 : decode cX4_addRow 25 = .ok (.iload_n 2, 1) := by decide +kernel
theorem dX4_addRow_26 : decode cX4_addRow 26 = .ok (.iload_n 3, 1) := by decide +kernel
theorem dX4_addRow_27 : decode cX4_addRow 27 = .ok (.invokevirtual 51, 3) := by decide +kernel
theorem dX4_addRow_30 : decode cX4_addRow 30 = .ok (.ireturn, 1) := by decide +kernel
theorem dX4_removeRows_0 : decode cX4_removeRows 0 = .ok (.aload_n 0, 1) := by decide +kernel
theorem dX4_removeRows_1 : decode cX4_removeRows 1 = .ok (.iconst 0, 1) := by decide +kernel
theorem dX4_removeRows_2 : decode cX4_removeRows 2 = .ok (.putfield 47, 3) := by decide +kernel
theorem dX4_removeRows_5 : decode cX4_removeRows 5 = .ok (.aload_n 0, 1) := by decide +kernel
theorem dX4_removeRows_6 : decode cX4_removeRows 6 = .ok (.getfield 12, 3) := by decide +kernel
theorem dX4_removeRows_9 : decode cX4_removeRows 9 = .ok (.iconst 0, 1) := by decide +kernel
theorem dX4_removeRows_10 : decode cX4_removeRows 10 = .ok (.putfield 55, 3) := by decide +kernel
theorem dX4_removeRows_13 : decode cX4_removeRows 13 = .ok (.aload_n 0, 1) := by decide +kernel
theorem dX4_removeRows_14 : decode cX4_removeRows 14 = .ok (.getfield 18, 3) := by decide +kernel
theorem dX4_removeRows_17 : decode cX4_removeRows 17 = .ok (.iconst 0, 1) := by decide +kernel
theorem dX4_removeRows_18 : decode cX4_removeRows 18 = .ok (.putfield 55, 3) := by decide +kernel
theorem dX4_removeRows_21 : decode cX4_removeRows 21 = .ok (.return_, 1) := by decide +kernel
theorem dX4_setApart_0 : decode cX4_setApart 0 = .ok (.aload_n 0, 1) := by decide +kernel
theorem dX4_setApart_1 : decode cX4_setApart 1 = .ok (.iconst 0, 1) := by decide +kernel
theorem dX4_setApart_2 : decode cX4_setApart 2 = .ok (.putfield 47, 3) := by decide +kernel
theorem dX4_setApart_5 : decode cX4_setApart 5 = .ok (.aload_n 0, 1) := by decide +kernel
theorem dX4_setApart_6 : decode cX4_setApart 6 = .ok (.iload_n 1, 1) := by decide +kernel
theorem dX4_setApart_7 : decode cX4_setApart 7 = .ok (.putfield 37, 3) := by decide +kernel
theorem dX4_setApart_10 : decode cX4_setApart 10 = .ok (.aload_n 0, 1) := by decide +kernel
theorem dX4_setApart_11 : decode cX4_setApart 11 = .ok (.iload_n 2, 1) := by decide +kernel
theorem dX4_setApart_12 : decode cX4_setApart 12 = .ok (.putfield 41, 3) := by decide +kernel
theorem dX4_setApart_15 : decode cX4_setApart 15 = .ok (.return_, 1) := by decide +kernel
set_option maxRecDepth 20000 in
theorem ggX4_settle_X4_compareRows : GoodIn wsX4_settle wsX4_compareRows := goodIn_r _ [7, 2, 8, 9, 10, 11, 12, 13, 14, 15, 53, 54, 55, 56, 57, 58, 59, 60, 61, 62, 63, 64, 65, 66] (by decide +kernel) (by decide +kernel)
set_option maxRecDepth 20000 in
theorem gX4_settle_X4_compareRows : GoodIn wsX4_settle (wsV RX4 58 RX4 yX4_compareRows wsX4_compareRows) := goodIn_app (goodIn_of _ (by decide +kernel)) ggX4_settle_X4_compareRows
set_option maxRecDepth 20000 in
theorem ggX4_settle_X4_findAsManyAsCanBe : GoodIn wsX4_settle wsX4_findAsManyAsCanBe := goodIn_r _ [19, 20, 21, 22, 23, 24, 25, 26, 27, 28, 29, 6, 30, 31, 2, 32, 9, 8, 33, 34, 35, 36, 37, 38, 39, 40, 41, 42, 43, 44, 53, 54, 55, 56, 57, 58, 59, 60, 61, 62, 63, 64, 65, 66] (by decide +kernel) (by decide +kernel)
set_option maxRecDepth 20000 in
theorem gX4_settle_X4_findAsManyAsCanBe : GoodIn wsX4_settle (wsV RX4 61 RX4 yX4_findAsManyAsCanBe wsX4_findAsManyAsCanBe) := goodIn_app (goodIn_of _ (by decide +kernel)) ggX4_settle_X4_findAsManyAsCanBe
set_option maxRecDepth 20000 in
theorem ggX4_settle_X4_takeLowest : GoodIn wsX4_settle wsX4_takeLowest := goodIn_r _ [48, 9, 8, 33, 34, 35, 6, 36, 21, 49, 50, 51, 52, 20, 41, 42, 43, 44, 27, 28, 29, 30, 31, 2, 32, 23, 24, 25, 26, 37, 38, 39, 40, 53, 54, 55, 56, 57, 58, 59, 60, 61, 62, 63, 64, 65, 66] (by decide +kernel) (by decide +kernel)
set_option maxRecDepth 20000 in
theorem gX4_settle_X4_takeLowest : GoodIn wsX4_settle (wsV RX4 64 RX4 yX4_takeLowest wsX4_takeLowest) := goodIn_app (goodIn_of _ (by decide +kernel)) ggX4_settle_X4_takeLowest
theorem dX4_settle_0 : decode cX4_settle 0 = .ok (.aload_n 0, 1) := by decide +kernel
theorem dX4_settle_1 : decode cX4_settle 1 = .ok (.getfield 47, 3) := by decide +kernel
theorem dX4_settle_4 : decode cX4_settle 4 = .ok (.ifCond .eq 4, 3) := by decide +kernel
theorem dX4_settle_7 : decode cX4_settle 7 = .ok (.return_, 1) := by decide +kernel
theorem dX4_settle_8 : decode cX4_settle 8 = .ok (.aload_n 0, 1) := by decide +kernel
theorem dX4_settle_9 : decode cX4_settle 9 = .ok (.invokevirtual 58, 3) := by decide +kernel
theorem dX4_settle_12 : decode cX4_settle 12 = .ok (.aload_n 0, 1) := by decide +kernel
theorem dX4_settle_13 : decode cX4_settle 13 = .ok (.invokevirtual 61, 3) := by decide +kernel
theorem dX4_settle_16 : decode cX4_settle 16 = .ok (.iconst 0, 1) := by decide +kernel
theorem dX4_settle_17 : decode cX4_settle 17 = .ok (.istore_n 1, 1) := by decide +kernel
theorem dX4_settle_18 : decode cX4_settle 18 = .ok (.iload_n 1, 1) := by decide +kernel
theorem dX4_settle_19 : decode cX4_settle 19 = .ok (.aload_n 0, 1) := by decide +kernel
theorem dX4_settle_20 : decode cX4_settle 20 = .ok (.getfield 12, 3) := by decide +kernel
theorem dX4_settle_23 : decode cX4_settle 23 = .ok (.getfield 55, 3) := by decide +kernel
theorem dX4_settle_26 : decode cX4_settle 26 = .ok (.if_icmp .ge 14, 3) := by decide +kernel
theorem dX4_settle_29 : decode cX4_settle 29 = .ok (.aload_n 0, 1) := by decide +kernel
theorem dX4_settle_30 : decode cX4_settle 30 = .ok (.iload_n 1, 1) := by decide +kernel
theorem dX4_settle_31 : decode cX4_settle 31 = .ok (.invokevirtual 64, 3) := by decide +kernel
theorem dX4_settle_34 : decode cX4_settle 34 = .ok (.iinc 1 1, 3) := by decide +kernel
theorem dX4_settle_37 : decode cX4_settle 37 = .ok (.goto (-19), 3) := by decide +kernel
theorem dX4_settle_40 : decode cX4_settle 40 = .ok (.aload_n 0, 1) := by decide +kernel
theorem dX4_settle_41 : decode cX4_settle 41 = .ok (.iconst 1, 1) := by decide +kernel
theorem dX4_settle_42 : decode cX4_settle 42 = .ok (.putfield 47, 3) := by decide +kernel
theorem dX4_settle_45 : decode cX4_settle 45 = .ok (.return_, 1) := by decide +kernel
theorem dX4_compareRows_0 : decode cX4_compareRows 0 = .ok (.iconst 0, 1) := by decide +kernel
theorem dX4_compareRows_1 : decode cX4_compareRows 1 = .ok (.istore_n 1, 1) := by decide +kernel
theorem dX4_compareRows_2 : decode cX4_compareRows 2 = .ok (.iload_n 1, 1) := by decide +kernel
theorem dX4_compareRows_3 : decode cX4_compareRows 3 = .ok (.aload_n 0, 1) := by decide +kernel
theorem dX4_compareRows_4 : decode cX4_compareRows 4 = .ok (.getfield 12, 3) := by decide +kernel
theorem dX4_compareRows_7 : decode cX4_compareRows 7 = .ok (.getfield 55, 3) := by decide +kernel
theorem dX4_compareRows_10 : decode cX4_compareRows 10 = .ok (.if_icmp .ge 105, 3) := by decide +kernel
theorem dX4_compareRows_13 : decode cX4_compareRows 13 = .ok (.aload_n 0, 1) := by decide +kernel
theorem dX4_compareRows_14 : decode cX4_compareRows 14 = .ok (.getfield 28, 3) := by decide +kernel
theorem dX4_compareRows_17 : decode cX4_compareRows 17 = .ok (.iload_n 1, 1) := by decide +kernel
theorem dX4_compareRows_18 : decode cX4_compareRows 18 = .ok (.iconst 0, 1) := by decide +kernel
theorem dX4_compareRows_19 : decode cX4_compareRows 19 = .ok (.iastore, 1) := by decide +kernel
theorem dX4_compareRows_20 : decode cX4_compareRows 20 = .ok (.iconst 0, 1) := by decide +kernel
theorem dX4_compareRows_21 : decode cX4_compareRows 21 = .ok (.istore_n 2, 1) := by decide +kernel
theorem dX4_compareRows_22 : decode cX4_compareRows 22 = .ok (.iload_n 2, 1) := by decide +kernel
theorem dX4_compareRows_23 : decode cX4_compareRows 23 = .ok (.aload_n 0, 1) := by decide +kernel
theorem dX4_compareRows_24 : decode cX4_compareRows 24 = .ok (.getfield 18, 3) := by decide +kernel
theorem dX4_compareRows_27 : decode cX4_compareRows 27 = .ok (.getfield 55, 3) := by decide +kernel
theorem dX4_compareRows_30 : decode cX4_compareRows 30 = .ok (.if_icmp .ge 79, 3) := by decide +kernel
theorem dX4_compareRows_33 : decode cX4_compareRows 33 = .ok (.aload_n 0, 1) := by decide +kernel
theorem dX4_compareRows_34 : decode cX4_compareRows 34 = .ok (.getfield 12, 3) := by decide +kernel
theorem dX4_compareRows_37 : decode cX4_compareRows 37 = .ok (.getfield 68, 3) := by decide +kernel
theorem dX4_compareRows_40 : decode cX4_compareRows 40 = .ok (.iload_n 1, 1) := by decide +kernel
theorem dX4_compareRows_41 : decode cX4_compareRows 41 = .ok (.iaload, 1) := by decide +kernel
theorem dX4_compareRows_42 : decode cX4_compareRows 42 = .ok (.aload_n 0, 1) := by decide +kernel
theorem dX4_compareRows_43 : decode cX4_compareRows 43 = .ok (.getfield 18, 3) := by decide +kernel
theorem dX4_compareRows_46 : decode cX4_compareRows 46 = .ok (.getfield 68, 3) := by decide +kernel
theorem dX4_compareRows_49 : decode cX4_compareRows 49 = .ok (.iload_n 2, 1) := by decide +kernel
theorem dX4_compareRows_50 : decode cX4_compareRows 50 = .ok (.iaload, 1) := by decide +kernel
theorem dX4_compareRows_51 : decode cX4_compareRows 51 = .ok (.isub, 1) := by decide +kernel
theorem dX4_compareRows_52 : decode cX4_compareRows 52 = .ok (.invokestatic 71, 3) := by decide +kernel
theorem dX4_compareRows_55 : decode cX4_compareRows 55 = .ok (.aload_n 0, 1) := by decide +kernel
theorem dX4_compareRows_56 : decode cX4_compareRows 56 = .ok (.getfield 37, 3) := by decide +kernel
theorem dX4_compareRows_59 : decode cX4_compareRows 59 = .ok (.if_icmp .gt 44, 3) := by decide +kernel
theorem dX4_compareRows_62 : decode cX4_compareRows 62 = .ok (.aload_n 0, 1) := by decide +kernel
theorem dX4_compareRows_63 : decode cX4_compareRows 63 = .ok (.getfield 12, 3) := by decide +kernel
theorem dX4_compareRows_66 : decode cX4_compareRows 66 = .ok (.getfield 77, 3) := by decide +kernel
theorem dX4_compareRows_69 : decode cX4_compareRows 69 = .ok (.iload_n 1, 1) := by decide +kernel
theorem dX4_compareRows_70 : decode cX4_compareRows 70 = .ok (.iaload, 1) := by decide +kernel
theorem dX4_compareRows_71 : decode cX4_compareRows 71 = .ok (.aload_n 0, 1) := by decide +kernel
theorem dX4_compareRows_72 : decode cX4_compareRows 72 = .ok (.getfield 18, 3) := by decide +kernel
theorem dX4_compareRows_75 : decode cX4_compareRows 75 = .ok (.getfield 77, 3) := by decide +kernel
theorem dX4_compareRows_78 : decode cX4_compareRows 78 = .ok (.iload_n 2, 1) := by decide +kernel
theorem dX4_compareRows_79 : decode cX4_compareRows 79 = .ok (.iaload, 1) := by decide +kernel
theorem dX4_compareRows_80 : decode cX4_compareRows 80 = .ok (.isub, 1) := by decide +kernel
theorem dX4_compareRows_81 : decode cX4_compareRows 81 = .ok (.invokestatic 71, 3) := by decide +kernel
theorem dX4_compareRows_84 : decode cX4_compareRows 84 = .ok (.aload_n 0, 1) := by decide +kernel
theorem dX4_compareRows_85 : decode cX4_compareRows 85 = .ok (.getfield 41, 3) := by decide +kernel
theorem dX4_compareRows_88 : decode cX4_compareRows 88 = .ok (.if_icmp .gt 15, 3) := by decide +kernel
theorem dX4_compareRows_91 : decode cX4_compareRows 91 = .ok (.aload_n 0, 1) := by decide +kernel
theorem dX4_compareRows_92 : decode cX4_compareRows 92 = .ok (.getfield 28, 3) := by decide +kernel
theorem dX4_compareRows_95 : decode cX4_compareRows 95 = .ok (.iload_n 1, 1) := by decide +kernel
theorem dX4_compareRows_96 : decode cX4_compareRows 96 = .ok (.dup2, 1) := by decide +kernel
theorem dX4_compareRows_97 : decode cX4_compareRows 97 = .ok (.iaload, 1) := by decide +kernel
theorem dX4_compareRows_98 : decode cX4_compareRows 98 = .ok (.iconst 1, 1) := by decide +kernel
theorem dX4_compareRows_99 : decode cX4_compareRows 99 = .ok (.iload_n 2, 1) := by decide +kernel
theorem dX4_compareRows_100 : decode cX4_compareRows 100 = .ok (.ishl, 1) := by decide +kernel
theorem dX4_compareRows_101 : decode cX4_compareRows 101 = .ok (.ior, 1) := by decide +kernel
theorem dX4_compareRows_102 : decode cX4_compareRows 102 = .ok (.iastore, 1) := by decide +kernel
theorem dX4_compareRows_103 : decode cX4_compareRows 103 = .ok (.iinc 2 1, 3) := by decide +kernel
theorem dX4_compareRows_106 : decode cX4_compareRows 106 = .ok (.goto (-84), 3) := by decide +kernel
theorem dX4_compareRows_109 : decode cX4_compareRows 109 = .ok (.iinc 1 1, 3) := by decide +kernel
theorem dX4_compareRows_112 : decode cX4_compareRows 112 = .ok (.goto (-110), 3) := by decide +kernel
theorem dX4_compareRows_115 : decode cX4_compareRows 115 = .ok (.return_, 1) := by decide +kernel
set_option maxRecDepth 20000 in
theorem ggX4_findAsManyAsCanBe_J7_fill_53178 : GoodIn wsX4_findAsManyAsCanBe wsJ7_fill_53178 := goodIn_r _ [7] (by decide +kernel) (by decide +kernel)
set_option maxRecDepth 20000 in
theorem gX4_findAsManyAsCanBe_J7_fill_53178 : GoodIn wsX4_findAsManyAsCanBe (va_wsS RX4 80 yJ7_fill_53178 wsJ7_fill_53178) := goodIn_app (goodIn_of _ (by decide +kernel)) ggX4_findAsManyAsCanBe_J7_fill_53178
set_option maxRecDepth 20000 in
theorem ggX4_findAsManyAsCanBe_X4_pairOneMore : GoodIn wsX4_findAsManyAsCanBe wsX4_pairOneMore := goodIn_r _ [12, 13, 14, 1, 15, 16, 17, 2, 4, 5, 6, 7, 18, 19, 20, 11, 21, 22, 23, 24, 25, 26, 27, 28, 29, 30, 31, 32, 33, 34, 35, 36, 37, 38, 39, 40, 41, 42, 43] (by decide +kernel) (by decide +kernel)
set_option maxRecDepth 20000 in
theorem gX4_findAsManyAsCanBe_X4_pairOneMore : GoodIn wsX4_findAsManyAsCanBe (wsV RX4 86 RX4 yX4_pairOneMore wsX4_pairOneMore) := goodIn_app (goodIn_of _ (by decide +kernel)) ggX4_findAsManyAsCanBe_X4_pairOneMore
theorem dX4_findAsManyAsCanBe_0 : decode cX4_findAsManyAsCanBe 0 = .ok (.aload_n 0, 1) := by decide +kernel
theorem dX4_findAsManyAsCanBe_1 : decode cX4_findAsManyAsCanBe 1 = .ok (.getfield 21, 3) := by decide +kernel
theorem dX4_findAsManyAsCanBe_4 : decode cX4_findAsManyAsCanBe 4 = .ok (.iconst (-1), 1) := by decide +kernel
theorem dX4_findAsManyAsCanBe_5 : decode cX4_findAsManyAsCanBe 5 = .ok (.invokestatic 80, 3) := by decide +kernel
theorem dX4_findAsManyAsCanBe_8 : decode cX4_findAsManyAsCanBe 8 = .ok (.aload_n 0, 1) := by decide +kernel
theorem dX4_findAsManyAsCanBe_9 : decode cX4_findAsManyAsCanBe 9 = .ok (.getfield 25, 3) := by decide +kernel
theorem dX4_findAsManyAsCanBe_12 : decode cX4_findAsManyAsCanBe 12 = .ok (.iconst (-1), 1) := by decide +kernel
theorem dX4_findAsManyAsCanBe_13 : decode cX4_findAsManyAsCanBe 13 = .ok (.invokestatic 80, 3) := by decide +kernel
theorem dX4_findAsManyAsCanBe_16 : decode cX4_findAsManyAsCanBe 16 = .ok (.aload_n 0, 1) := by decide +kernel
theorem dX4_findAsManyAsCanBe_17 : decode cX4_findAsManyAsCanBe 17 = .ok (.iconst 0, 1) := by decide +kernel
theorem dX4_findAsManyAsCanBe_18 : decode cX4_findAsManyAsCanBe 18 = .ok (.putfield 44, 3) := by decide +kernel
theorem dX4_findAsManyAsCanBe_21 : decode cX4_findAsManyAsCanBe 21 = .ok (.aload_n 0, 1) := by decide +kernel
theorem dX4_findAsManyAsCanBe_22 : decode cX4_findAsManyAsCanBe 22 = .ok (.getfield 44, 3) := by decide +kernel
theorem dX4_findAsManyAsCanBe_25 : decode cX4_findAsManyAsCanBe 25 = .ok (.bipush 20, 2) := by decide +kernel
theorem dX4_findAsManyAsCanBe_27 : decode cX4_findAsManyAsCanBe 27 = .ok (.if_icmp .ge 24, 3) := by decide +kernel
theorem dX4_findAsManyAsCanBe_30 : decode cX4_findAsManyAsCanBe 30 = .ok (.aload_n 0, 1) := by decide +kernel
theorem dX4_findAsManyAsCanBe_31 : decode cX4_findAsManyAsCanBe 31 = .ok (.iconst 0, 1) := by decide +kernel
theorem dX4_findAsManyAsCanBe_32 : decode cX4_findAsManyAsCanBe 32 = .ok (.invokevirtual 86, 3) := by decide +kernel
theorem dX4_findAsManyAsCanBe_35 : decode cX4_findAsManyAsCanBe 35 = .ok (.ifCond .eq 16, 3) := by decide +kernel
theorem dX4_findAsManyAsCanBe_38 : decode cX4_findAsManyAsCanBe 38 = .ok (.aload_n 0, 1) := by decide +kernel
theorem dX4_findAsManyAsCanBe_39 : decode cX4_findAsManyAsCanBe 39 = .ok (.dup, 1) := by decide +kernel
theorem dX4_findAsManyAsCanBe_40 : decode cX4_findAsManyAsCanBe 40 = .ok (.getfield 44, 3) := by decide +kernel
theorem dX4_findAsManyAsCanBe_43 : decode cX4_findAsManyAsCanBe 43 = .ok (.iconst 1, 1) := by decide +kernel
theorem dX4_findAsManyAsCanBe_44 : decode cX4_findAsManyAsCanBe 44 = .ok (.iadd, 1) := by decide +kernel
theorem dX4_findAsManyAsCanBe_45 : decode cX4_findAsManyAsCanBe 45 = .ok (.putfield 44, 3) := by decide +kernel
theorem dX4_findAsManyAsCanBe_48 : decode cX4_findAsManyAsCanBe 48 = .ok (.goto (-27), 3) := by decide +kernel
theorem dX4_findAsManyAsCanBe_51 : decode cX4_findAsManyAsCanBe 51 = .ok (.return_, 1) := by decide +kernel
set_option maxRecDepth 20000 in
theorem ggX4_takeLowest_X4_isKept : GoodIn wsX4_takeLowest wsX4_isKept := goodIn_r _ [7, 8, 33, 34, 35, 36, 37, 38, 39, 40, 41, 42, 43] (by decide +kernel) (by decide +kernel)
set_option maxRecDepth 20000 in
theorem gX4_takeLowest_X4_isKept : GoodIn wsX4_takeLowest (wsV RX4 90 RX4 yX4_isKept wsX4_isKept) := goodIn_app (goodIn_of _ (by decide +kernel)) ggX4_takeLowest_X4_isKept
set_option maxRecDepth 20000 in
theorem ggX4_takeLowest_X4_moveTo : GoodIn wsX4_takeLowest wsX4_moveTo := goodIn_r _ [12, 13, 8, 14, 15, 16, 6, 17, 18, 19, 20, 21, 22, 23, 24, 1, 2, 25, 26, 27, 28, 3, 4, 5, 7, 29, 30, 31, 32, 33, 34, 35, 36, 37, 38, 39, 40, 41, 42, 43, 44, 45, 46] (by decide +kernel) (by decide +kernel)
set_option maxRecDepth 20000 in
theorem gX4_takeLowest_X4_moveTo : GoodIn wsX4_takeLowest (wsV RX4 94 RX4 yX4_moveTo wsX4_moveTo) := goodIn_app (goodIn_of _ (by decide +kernel)) ggX4_takeLowest_X4_moveTo
theorem dX4_takeLowest_0 : decode cX4_takeLowest 0 = .ok (.iconst 0, 1) := by decide +kernel
theorem dX4_takeLowest_1 : decode cX4_takeLowest 1 = .ok (.istore_n 2, 1) := by decide +kernel
theorem dX4_takeLowest_2 : decode cX4_takeLowest 2 = .ok (.iload_n 2, 1) := by decide +kernel
theorem dX4_takeLowest_3 : decode cX4_takeLowest 3 = .ok (.aload_n 0, 1) := by decide +kernel
theorem dX4_takeLowest_4 : decode cX4_takeLowest 4 = .ok (.getfield 18, 3) := by decide +kernel
theorem dX4_takeLowest_7 : decode cX4_takeLowest 7 = .ok (.getfield 55, 3) := by decide +kernel
theorem dX4_takeLowest_10 : decode cX4_takeLowest 10 = .ok (.if_icmp .ge 51, 3) := by decide +kernel
theorem dX4_takeLowest_13 : decode cX4_takeLowest 13 = .ok (.aload_n 0, 1) := by decide +kernel
theorem dX4_takeLowest_14 : decode cX4_takeLowest 14 = .ok (.getfield 28, 3) := by decide +kernel
theorem dX4_takeLowest_17 : decode cX4_takeLowest 17 = .ok (.iload_n 1, 1) := by decide +kernel
theorem dX4_takeLowest_18 : decode cX4_takeLowest 18 = .ok (.iaload, 1) := by decide +kernel
theorem dX4_takeLowest_19 : decode cX4_takeLowest 19 = .ok (.iload_n 2, 1) := by decide +kernel
theorem dX4_takeLowest_20 : decode cX4_takeLowest 20 = .ok (.ishr, 1) := by decide +kernel
theorem dX4_takeLowest_21 : decode cX4_takeLowest 21 = .ok (.iconst 1, 1) := by decide +kernel
theorem dX4_takeLowest_22 : decode cX4_takeLowest 22 = .ok (.iand, 1) := by decide +kernel
theorem dX4_takeLowest_23 : decode cX4_takeLowest 23 = .ok (.ifCond .eq 7, 3) := by decide +kernel
theorem dX4_takeLowest_26 : decode cX4_takeLowest 26 = .ok (.iconst 1, 1) := by decide +kernel
theorem dX4_takeLowest_27 : decode cX4_takeLowest 27 = .ok (.goto 4, 3) := by decide +kernel
theorem dX4_takeLowest_30 : decode cX4_takeLowest 30 = .ok (.iconst 0, 1) := by decide +kernel
theorem dX4_takeLowest_31 : decode cX4_takeLowest 31 = .ok (.istore_n 3, 1) := by decide +kernel
theorem dX4_takeLowest_32 : decode cX4_takeLowest 32 = .ok (.iload_n 3, 1) := by decide +kernel
theorem dX4_takeLowest_33 : decode cX4_takeLowest 33 = .ok (.ifCond .eq 22, 3) := by decide +kernel
theorem dX4_takeLowest_36 : decode cX4_takeLowest 36 = .ok (.aload_n 0, 1) := by decide +kernel
theorem dX4_takeLowest_37 : decode cX4_takeLowest 37 = .ok (.iload_n 2, 1) := by decide +kernel
theorem dX4_takeLowest_38 : decode cX4_takeLowest 38 = .ok (.iload_n 1, 1) := by decide +kernel
theorem dX4_takeLowest_39 : decode cX4_takeLowest 39 = .ok (.invokevirtual 90, 3) := by decide +kernel
theorem dX4_takeLowest_42 : decode cX4_takeLowest 42 = .ok (.ifCond .ne 13, 3) := by decide +kernel
theorem dX4_takeLowest_45 : decode cX4_takeLowest 45 = .ok (.aload_n 0, 1) := by decide +kernel
theorem dX4_takeLowest_46 : decode cX4_takeLowest 46 = .ok (.iload_n 1, 1) := by decide +kernel
theorem dX4_takeLowest_47 : decode cX4_takeLowest 47 = .ok (.iload_n 2, 1) := by decide +kernel
theorem dX4_takeLowest_48 : decode cX4_takeLowest 48 = .ok (.invokevirtual 94, 3) := by decide +kernel
theorem dX4_takeLowest_51 : decode cX4_takeLowest 51 = .ok (.ifCond .eq 4, 3) := by decide +kernel
theorem dX4_takeLowest_54 : decode cX4_takeLowest 54 = .ok (.return_, 1) := by decide +kernel
theorem dX4_takeLowest_55 : decode cX4_takeLowest 55 = .ok (.iinc 2 1, 3) := by decide +kernel
theorem dX4_takeLowest_58 : decode cX4_takeLowest 58 = .ok (.goto (-56), 3) := by decide +kernel
theorem dX4_takeLowest_61 : decode cX4_takeLowest 61 = .ok (.return_, 1) := by decide +kernel
theorem dX4_isKept_0 : decode cX4_isKept 0 = .ok (.aload_n 0, 1) := by decide +kernel
theorem dX4_isKept_1 : decode cX4_isKept 1 = .ok (.getfield 25, 3) := by decide +kernel
theorem dX4_isKept_4 : decode cX4_isKept 4 = .ok (.iload_n 1, 1) := by decide +kernel
theorem dX4_isKept_5 : decode cX4_isKept 5 = .ok (.iaload, 1) := by decide +kernel
theorem dX4_isKept_6 : decode cX4_isKept 6 = .ok (.iconst (-1), 1) := by decide +kernel
theorem dX4_isKept_7 : decode cX4_isKept 7 = .ok (.if_icmp .eq 17, 3) := by decide +kernel
theorem dX4_isKept_10 : decode cX4_isKept 10 = .ok (.aload_n 0, 1) := by decide +kernel
theorem dX4_isKept_11 : decode cX4_isKept 11 = .ok (.getfield 25, 3) := by decide +kernel
theorem dX4_isKept_14 : decode cX4_isKept 14 = .ok (.iload_n 1, 1) := by decide +kernel
theorem dX4_isKept_15 : decode cX4_isKept 15 = .ok (.iaload, 1) := by decide +kernel
theorem dX4_isKept_16 : decode cX4_isKept 16 = .ok (.iload_n 2, 1) := by decide +kernel
theorem dX4_isKept_17 : decode cX4_isKept 17 = .ok (.if_icmp .ge 7, 3) := by decide +kernel
theorem dX4_isKept_20 : decode cX4_isKept 20 = .ok (.iconst 1, 1) := by decide +kernel
theorem dX4_isKept_21 : decode cX4_isKept 21 = .ok (.goto 4, 3) := by decide +kernel
theorem dX4_isKept_24 : decode cX4_isKept 24 = .ok (.iconst 0, 1) := by decide +kernel
theorem dX4_isKept_25 : decode cX4_isKept 25 = .ok (.ireturn, 1) := by decide +kernel
set_option maxRecDepth 20000 in
theorem ggX4_moveTo_X4_join : GoodIn wsX4_moveTo wsX4_join := goodIn_r _ [7, 1, 2, 29, 30, 31, 32, 33, 34, 35, 36, 37, 38, 39] (by decide +kernel) (by decide +kernel)
set_option maxRecDepth 20000 in
theorem gX4_moveTo_X4_join : GoodIn wsX4_moveTo (wsV RX4 97 RX4 yX4_join wsX4_join) := goodIn_app (goodIn_of _ (by decide +kernel)) ggX4_moveTo_X4_join
set_option maxRecDepth 20000 in
theorem ggX4_moveTo_X4_pairOneMore : GoodIn wsX4_moveTo wsX4_pairOneMore := goodIn_r _ [11, 12, 13, 1, 14, 15, 16, 2, 17, 18, 19, 20, 21, 22, 23, 6, 24, 25, 26, 27, 28, 3, 4, 5, 7, 29, 30, 31, 32, 33, 34, 35, 36, 37, 38, 39, 40, 41, 42] (by decide +kernel) (by decide +kernel)
set_option maxRecDepth 20000 in
theorem gX4_moveTo_X4_pairOneMore : GoodIn wsX4_moveTo (wsV RX4 86 RX4 yX4_pairOneMore wsX4_pairOneMore) := goodIn_app (goodIn_of _ (by decide +kernel)) ggX4_moveTo_X4_pairOneMore
theorem dX4_moveTo_0 : decode cX4_moveTo 0 = .ok (.aload_n 0, 1) := by decide +kernel
theorem dX4_moveTo_1 : decode cX4_moveTo 1 = .ok (.getfield 21, 3) := by decide +kernel
theorem dX4_moveTo_4 : decode cX4_moveTo 4 = .ok (.iload_n 1, 1) := by decide +kernel
theorem dX4_moveTo_5 : decode cX4_moveTo 5 = .ok (.iaload, 1) := by decide +kernel
theorem dX4_moveTo_6 : decode cX4_moveTo 6 = .ok (.istore_n 3, 1) := by decide +kernel
theorem dX4_moveTo_7 : decode cX4_moveTo 7 = .ok (.aload_n 0, 1) := by decide +kernel
theorem dX4_moveTo_8 : decode cX4_moveTo 8 = .ok (.getfield 25, 3) := by decide +kernel
theorem dX4_moveTo_11 : decode cX4_moveTo 11 = .ok (.iload_n 2, 1) := by decide +kernel
theorem dX4_moveTo_12 : decode cX4_moveTo 12 = .ok (.iaload, 1) := by decide +kernel
theorem dX4_moveTo_13 : decode cX4_moveTo 13 = .ok (.istore 4, 2) := by decide +kernel
theorem dX4_moveTo_15 : decode cX4_moveTo 15 = .ok (.iload_n 3, 1) := by decide +kernel
theorem dX4_moveTo_16 : decode cX4_moveTo 16 = .ok (.iload_n 2, 1) := by decide +kernel
theorem dX4_moveTo_17 : decode cX4_moveTo 17 = .ok (.if_icmp .ne 5, 3) := by decide +kernel
theorem dX4_moveTo_20 : decode cX4_moveTo 20 = .ok (.iconst 1, 1) := by decide +kernel
theorem dX4_moveTo_21 : decode cX4_moveTo 21 = .ok (.ireturn, 1) := by decide +kernel
theorem dX4_moveTo_22 : decode cX4_moveTo 22 = .ok (.iload_n 3, 1) := by decide +kernel
theorem dX4_moveTo_23 : decode cX4_moveTo 23 = .ok (.iconst (-1), 1) := by decide +kernel
theorem dX4_moveTo_24 : decode cX4_moveTo 24 = .ok (.if_icmp .eq 10, 3) := by decide +kernel
theorem dX4_moveTo_27 : decode cX4_moveTo 27 = .ok (.aload_n 0, 1) := by decide +kernel
theorem dX4_moveTo_28 : decode cX4_moveTo 28 = .ok (.getfield 25, 3) := by decide +kernel
theorem dX4_moveTo_31 : decode cX4_moveTo 31 = .ok (.iload_n 3, 1) := by decide +kernel
theorem dX4_moveTo_32 : decode cX4_moveTo 32 = .ok (.iconst (-1), 1) := by decide +kernel
theorem dX4_moveTo_33 : decode cX4_moveTo 33 = .ok (.iastore, 1) := by decide +kernel
theorem dX4_moveTo_34 : decode cX4_moveTo 34 = .ok (.iload 4, 2) := by decide +kernel
theorem dX4_moveTo_36 : decode cX4_moveTo 36 = .ok (.iconst (-1), 1) := by decide +kernel
theorem dX4_moveTo_37 : decode cX4_moveTo 37 = .ok (.if_icmp .eq 11, 3) := by decide +kernel
theorem dX4_moveTo_40 : decode cX4_moveTo 40 = .ok (.aload_n 0, 1) := by decide +kernel
theorem dX4_moveTo_41 : decode cX4_moveTo 41 = .ok (.getfield 21, 3) := by decide +kernel
theorem dX4_moveTo_44 : decode cX4_moveTo 44 = .ok (.iload 4, 2) := by decide +kernel
theorem dX4_moveTo_46 : decode cX4_moveTo 46 = .ok (.iconst (-1), 1) := by decide +kernel
theorem dX4_moveTo_47 : decode cX4_moveTo 47 = .ok (.iastore, 1) := by decide +kernel
theorem dX4_moveTo_48 : decode cX4_moveTo 48 = .ok (.aload_n 0, 1) := by decide +kernel
theorem dX4_moveTo_49 : decode cX4_moveTo 49 = .ok (.iload_n 1, 1) := by decide +kernel
theorem dX4_moveTo_50 : decode cX4_moveTo 50 = .ok (.iload_n 2, 1) := by decide +kernel
theorem dX4_moveTo_51 : decode cX4_moveTo 51 = .ok (.invokevirtual 97, 3) := by decide +kernel
theorem dX4_moveTo_54 : decode cX4_moveTo 54 = .ok (.iload_n 3, 1) := by decide +kernel
theorem dX4_moveTo_55 : decode cX4_moveTo 55 = .ok (.iconst (-1), 1) := by decide +kernel
theorem dX4_moveTo_56 : decode cX4_moveTo 56 = .ok (.if_icmp .eq 19, 3) := by decide +kernel
theorem dX4_moveTo_59 : decode cX4_moveTo 59 = .ok (.iload 4, 2) := by decide +kernel
theorem dX4_moveTo_61 : decode cX4_moveTo 61 = .ok (.iconst (-1), 1) := by decide +kernel
theorem dX4_moveTo_62 : decode cX4_moveTo 62 = .ok (.if_icmp .eq 13, 3) := by decide +kernel
theorem dX4_moveTo_65 : decode cX4_moveTo 65 = .ok (.aload_n 0, 1) := by decide +kernel
theorem dX4_moveTo_66 : decode cX4_moveTo 66 = .ok (.iload_n 1, 1) := by decide +kernel
theorem dX4_moveTo_67 : decode cX4_moveTo 67 = .ok (.iconst 1, 1) := by decide +kernel
theorem dX4_moveTo_68 : decode cX4_moveTo 68 = .ok (.iadd, 1) := by decide +kernel
theorem dX4_moveTo_69 : decode cX4_moveTo 69 = .ok (.invokevirtual 86, 3) := by decide +kernel
theorem dX4_moveTo_72 : decode cX4_moveTo 72 = .ok (.ifCond .eq 5, 3) := by decide +kernel
theorem dX4_moveTo_75 : decode cX4_moveTo 75 = .ok (.iconst 1, 1) := by decide +kernel
theorem dX4_moveTo_76 : decode cX4_moveTo 76 = .ok (.ireturn, 1) := by decide +kernel
theorem dX4_moveTo_77 : decode cX4_moveTo 77 = .ok (.aload_n 0, 1) := by decide +kernel
theorem dX4_moveTo_78 : decode cX4_moveTo 78 = .ok (.iload_n 1, 1) := by decide +kernel
theorem dX4_moveTo_79 : decode cX4_moveTo 79 = .ok (.iload_n 3, 1) := by decide +kernel
theorem dX4_moveTo_80 : decode cX4_moveTo 80 = .ok (.invokevirtual 97, 3) := by decide +kernel
theorem dX4_moveTo_83 : decode cX4_moveTo 83 = .ok (.aload_n 0, 1) := by decide +kernel
theorem dX4_moveTo_84 : decode cX4_moveTo 84 = .ok (.iload 4, 2) := by decide +kernel
theorem dX4_moveTo_86 : decode cX4_moveTo 86 = .ok (.iload_n 2, 1) := by decide +kernel
theorem dX4_moveTo_87 : decode cX4_moveTo 87 = .ok (.invokevirtual 97, 3) := by decide +kernel
theorem dX4_moveTo_90 : decode cX4_moveTo 90 = .ok (.iconst 0, 1) := by decide +kernel
theorem dX4_moveTo_91 : decode cX4_moveTo 91 = .ok (.ireturn, 1) := by decide +kernel
theorem dX4_join_0 : decode cX4_join 0 = .ok (.aload_n 0, 1) := by decide +kernel
theorem dX4_join_1 : decode cX4_join 1 = .ok (.getfield 21, 3) := by decide +kernel
theorem dX4_join_4 : decode cX4_join 4 = .ok (.iload_n 1, 1) := by decide +kernel
theorem dX4_join_5 : decode cX4_join 5 = .ok (.iload_n 2, 1) := by decide +kernel
theorem dX4_join_6 : decode cX4_join 6 = .ok (.iastore, 1) := by decide +kernel
theorem dX4_join_7 : decode cX4_join 7 = .ok (.aload_n 0, 1) := by decide +kernel
theorem dX4_join_8 : decode cX4_join 8 = .ok (.getfield 25, 3) := by decide +kernel
theorem dX4_join_11 : decode cX4_join 11 = .ok (.iload_n 2, 1) := by decide +kernel
theorem dX4_join_12 : decode cX4_join 12 = .ok (.iload_n 1, 1) := by decide +kernel
theorem dX4_join_13 : decode cX4_join 13 = .ok (.iastore, 1) := by decide +kernel
theorem dX4_join_14 : decode cX4_join 14 = .ok (.return_, 1) := by decide +kernel
set_option maxRecDepth 20000 in
theorem ggX4_pairOneMore_J7_fill_53178 : GoodIn wsX4_pairOneMore wsJ7_fill_53178 := goodIn_r _ [11] (by decide +kernel) (by decide +kernel)
set_option maxRecDepth 20000 in
theorem gX4_pairOneMore_J7_fill_53178 : GoodIn wsX4_pairOneMore (va_wsS RX4 80 yJ7_fill_53178 wsJ7_fill_53178) := goodIn_app (goodIn_of _ (by decide +kernel)) ggX4_pairOneMore_J7_fill_53178
set_option maxRecDepth 20000 in
theorem ggX4_pairOneMore_X4_isKept : GoodIn wsX4_pairOneMore wsX4_isKept := goodIn_r _ [16, 7, 25, 26, 27, 28, 29, 30, 31, 32, 33, 34, 35] (by decide +kernel) (by decide +kernel)
set_option maxRecDepth 20000 in
theorem gX4_pairOneMore_X4_isKept : GoodIn wsX4_pairOneMore (wsV RX4 90 RX4 yX4_isKept wsX4_isKept) := goodIn_app (goodIn_of _ (by decide +kernel)) ggX4_pairOneMore_X4_isKept
set_option maxRecDepth 20000 in
theorem ggX4_pairOneMore_X4_joinBackFrom : GoodIn wsX4_pairOneMore wsX4_joinBackFrom := goodIn_r _ [20, 1, 3, 21, 22, 23, 15, 24, 7, 25, 26, 27, 28, 29, 30, 31, 32, 33, 34, 35] (by decide +kernel) (by decide +kernel)
set_option maxRecDepth 20000 in
theorem gX4_pairOneMore_X4_joinBackFrom : GoodIn wsX4_pairOneMore (wsV RX4 101 RX4 yX4_joinBackFrom wsX4_joinBackFrom) := goodIn_app (goodIn_of _ (by decide +kernel)) ggX4_pairOneMore_X4_joinBackFrom
theorem dX4_pairOneMore_0 : decode cX4_pairOneMore 0 = .ok (.aload_n 0, 1) := by decide +kernel
theorem dX4_pairOneMore_1 : decode cX4_pairOneMore 1 = .ok (.getfield 31, 3) := by decide +kernel
theorem dX4_pairOneMore_4 : decode cX4_pairOneMore 4 = .ok (.iconst (-1), 1) := by decide +kernel
theorem dX4_pairOneMore_5 : decode cX4_pairOneMore 5 = .ok (.invokestatic 80, 3) := by decide +kernel
theorem dX4_pairOneMore_8 : decode cX4_pairOneMore 8 = .ok (.iconst 0, 1) := by decide +kernel
theorem dX4_pairOneMore_9 : decode cX4_pairOneMore 9 = .ok (.istore_n 2, 1) := by decide +kernel
theorem dX4_pairOneMore_10 : decode cX4_pairOneMore 10 = .ok (.iload_n 1, 1) := by decide +kernel
theorem dX4_pairOneMore_11 : decode cX4_pairOneMore 11 = .ok (.istore_n 3, 1) := by decide +kernel
theorem dX4_pairOneMore_12 : decode cX4_pairOneMore 12 = .ok (.iload_n 3, 1) := by decide +kernel
theorem dX4_pairOneMore_13 : decode cX4_pairOneMore 13 = .ok (.aload_n 0, 1) := by decide +kernel
theorem dX4_pairOneMore_14 : decode cX4_pairOneMore 14 = .ok (.getfield 12, 3) := by decide +kernel
theorem dX4_pairOneMore_17 : decode cX4_pairOneMore 17 = .ok (.getfield 55, 3) := by decide +kernel
theorem dX4_pairOneMore_20 : decode cX4_pairOneMore 20 = .ok (.if_icmp .ge 29, 3) := by decide +kernel
theorem dX4_pairOneMore_23 : decode cX4_pairOneMore 23 = .ok (.aload_n 0, 1) := by decide +kernel
theorem dX4_pairOneMore_24 : decode cX4_pairOneMore 24 = .ok (.getfield 21, 3) := by decide +kernel
theorem dX4_pairOneMore_27 : decode cX4_pairOneMore 27 = .ok (.iload_n 3, 1) := by decide +kernel
theorem dX4_pairOneMore_28 : decode cX4_pairOneMore 28 = .ok (.iaload, 1) := by decide +kernel
theorem dX4_pairOneMore_29 : decode cX4_pairOneMore 29 = .ok (.iconst (-1), 1) := by decide +kernel
theorem dX4_pairOneMore_30 : decode cX4_pairOneMore 30 = .ok (.if_icmp .ne 13, 3) := by decide +kernel
theorem dX4_pairOneMore_33 : decode cX4_pairOneMore 33 = .ok (.aload_n 0, 1) := by decide +kernel
theorem dX4_pairOneMore_34 : decode cX4_pairOneMore 34 = .ok (.getfield 34, 3) := by decide +kernel
theorem dX4_pairOneMore_37 : decode cX4_pairOneMore 37 = .ok (.iload_n 2, 1) := by decide +kernel
theorem dX4_pairOneMore_38 : decode cX4_pairOneMore 38 = .ok (.iload_n 3, 1) := by decide +kernel
theorem dX4_pairOneMore_39 : decode cX4_pairOneMore 39 = .ok (.iastore, 1) := by decide +kernel
theorem dX4_pairOneMore_40 : decode cX4_pairOneMore 40 = .ok (.iinc 2 1, 3) := by decide +kernel
theorem dX4_pairOneMore_43 : decode cX4_pairOneMore 43 = .ok (.iinc 3 1, 3) := by decide +kernel
theorem dX4_pairOneMore_46 : decode cX4_pairOneMore 46 = .ok (.goto (-34), 3) := by decide +kernel
theorem dX4_pairOneMore_49 : decode cX4_pairOneMore 49 = .ok (.iconst 0, 1) := by decide +kernel
theorem dX4_pairOneMore_50 : decode cX4_pairOneMore 50 = .ok (.istore_n 3, 1) := by decide +kernel
theorem dX4_pairOneMore_51 : decode cX4_pairOneMore 51 = .ok (.iload_n 3, 1) := by decide +kernel
theorem dX4_pairOneMore_52 : decode cX4_pairOneMore 52 = .ok (.iload_n 2, 1) := by decide +kernel
theorem dX4_pairOneMore_53 : decode cX4_pairOneMore 53 = .ok (.if_icmp .ge 145, 3) := by decide +kernel
theorem dX4_pairOneMore_56 : decode cX4_pairOneMore 56 = .ok (.iload_n 3, 1) := by decide +kernel
theorem dX4_pairOneMore_57 : decode cX4_pairOneMore 57 = .ok (.bipush 20, 2) := by decide +kernel
theorem dX4_pairOneMore_59 : decode cX4_pairOneMore 59 = .ok (.if_icmp .ge 139, 3) := by decide +kernel
theorem dX4_pairOneMore_62 : decode cX4_pairOneMore 62 = .ok (.aload_n 0, 1) := by decide +kernel
theorem dX4_pairOneMore_63 : decode cX4_pairOneMore 63 = .ok (.getfield 34, 3) := by decide +kernel
theorem dX4_pairOneMore_66 : decode cX4_pairOneMore 66 = .ok (.iload_n 3, 1) := by decide +kernel
theorem dX4_pairOneMore_67 : decode cX4_pairOneMore 67 = .ok (.iaload, 1) := by decide +kernel
theorem dX4_pairOneMore_68 : decode cX4_pairOneMore 68 = .ok (.istore 4, 2) := by decide +kernel
theorem dX4_pairOneMore_70 : decode cX4_pairOneMore 70 = .ok (.iconst 0, 1) := by decide +kernel
theorem dX4_pairOneMore_71 : decode cX4_pairOneMore 71 = .ok (.istore 5, 2) := by decide +kernel
theorem dX4_pairOneMore_73 : decode cX4_pairOneMore 73 = .ok (.iload 5, 2) := by decide +kernel
theorem dX4_pairOneMore_75 : decode cX4_pairOneMore 75 = .ok (.aload_n 0, 1) := by decide +kernel
theorem dX4_pairOneMore_76 : decode cX4_pairOneMore 76 = .ok (.getfield 18, 3) := by decide +kernel
theorem dX4_pairOneMore_79 : decode cX4_pairOneMore 79 = .ok (.getfield 55, 3) := by decide +kernel
theorem dX4_pairOneMore_82 : decode cX4_pairOneMore 82 = .ok (.if_icmp .ge 110, 3) := by decide +kernel
theorem dX4_pairOneMore_85 : decode cX4_pairOneMore 85 = .ok (.aload_n 0, 1) := by decide +kernel
theorem dX4_pairOneMore_86 : decode cX4_pairOneMore 86 = .ok (.getfield 28, 3) := by decide +kernel
theorem dX4_pairOneMore_89 : decode cX4_pairOneMore 89 = .ok (.iload 4, 2) := by decide +kernel
theorem dX4_pairOneMore_91 : decode cX4_pairOneMore 91 = .ok (.iaload, 1) := by decide +kernel
theorem dX4_pairOneMore_92 : decode cX4_pairOneMore 92 = .ok (.iload 5, 2) := by decide +kernel
theorem dX4_pairOneMore_94 : decode cX4_pairOneMore 94 = .ok (.ishr, 1) := by decide +kernel
theorem dX4_pairOneMore_95 : decode cX4_pairOneMore 95 = .ok (.iconst 1, 1) := by decide +kernel
theorem dX4_pairOneMore_96 : decode cX4_pairOneMore 96 = .ok (.iand, 1) := by decide +kernel
theorem dX4_pairOneMore_97 : decode cX4_pairOneMore 97 = .ok (.ifCond .eq 7, 3) := by decide +kernel
theorem dX4_pairOneMore_100 : decode cX4_pairOneMore 100 = .ok (.iconst 1, 1) := by decide +kernel
theorem dX4_pairOneMore_101 : decode cX4_pairOneMore 101 = .ok (.goto 4, 3) := by decide +kernel
theorem dX4_pairOneMore_104 : decode cX4_pairOneMore 104 = .ok (.iconst 0, 1) := by decide +kernel
theorem dX4_pairOneMore_105 : decode cX4_pairOneMore 105 = .ok (.istore 6, 2) := by decide +kernel
theorem dX4_pairOneMore_107 : decode cX4_pairOneMore 107 = .ok (.iload 6, 2) := by decide +kernel
theorem dX4_pairOneMore_109 : decode cX4_pairOneMore 109 = .ok (.ifCond .eq 77, 3) := by decide +kernel
theorem dX4_pairOneMore_112 : decode cX4_pairOneMore 112 = .ok (.aload_n 0, 1) := by decide +kernel
theorem dX4_pairOneMore_113 : decode cX4_pairOneMore 113 = .ok (.getfield 31, 3) := by decide +kernel
theorem dX4_pairOneMore_116 : decode cX4_pairOneMore 116 = .ok (.iload 5, 2) := by decide +kernel
theorem dX4_pairOneMore_118 : decode cX4_pairOneMore 118 = .ok (.iaload, 1) := by decide +kernel
theorem dX4_pairOneMore_119 : decode cX4_pairOneMore 119 = .ok (.iconst (-1), 1) := by decide +kernel
theorem dX4_pairOneMore_120 : decode cX4_pairOneMore 120 = .ok (.if_icmp .ne 66, 3) := by decide +kernel
theorem dX4_pairOneMore_123 : decode cX4_pairOneMore 123 = .ok (.aload_n 0, 1) := by decide +kernel
theorem dX4_pairOneMore_124 : decode cX4_pairOneMore 124 = .ok (.iload 5, 2) := by decide +kernel
theorem dX4_pairOneMore_126 : decode cX4_pairOneMore 126 = .ok (.iload_n 1, 1) := by decide +kernel
theorem dX4_pairOneMore_127 : decode cX4_pairOneMore 127 = .ok (.invokevirtual 90, 3) := by decide +kernel
theorem dX4_pairOneMore_130 : decode cX4_pairOneMore 130 = .ok (.ifCond .eq 6, 3) := by decide +kernel
theorem dX4_pairOneMore_133 : decode cX4_pairOneMore 133 = .ok (.goto 53, 3) := by decide +kernel
theorem dX4_pairOneMore_136 : decode cX4_pairOneMore 136 = .ok (.aload_n 0, 1) := by decide +kernel
theorem dX4_pairOneMore_137 : decode cX4_pairOneMore 137 = .ok (.getfield 31, 3) := by decide +kernel
theorem dX4_pairOneMore_140 : decode cX4_pairOneMore 140 = .ok (.iload 5, 2) := by decide +kernel
theorem dX4_pairOneMore_142 : decode cX4_pairOneMore 142 = .ok (.iload 4, 2) := by decide +kernel
theorem dX4_pairOneMore_144 : decode cX4_pairOneMore 144 = .ok (.iastore, 1) := by decide +kernel
theorem dX4_pairOneMore_145 : decode cX4_pairOneMore 145 = .ok (.aload_n 0, 1) := by decide +kernel
theorem dX4_pairOneMore_146 : decode cX4_pairOneMore 146 = .ok (.getfield 25, 3) := by decide +kernel
theorem dX4_pairOneMore_149 : decode cX4_pairOneMore 149 = .ok (.iload 5, 2) := by decide +kernel
theorem dX4_pairOneMore_151 : decode cX4_pairOneMore 151 = .ok (.iaload, 1) := by decide +kernel
theorem dX4_pairOneMore_152 : decode cX4_pairOneMore 152 = .ok (.iconst (-1), 1) := by decide +kernel
theorem dX4_pairOneMore_153 : decode cX4_pairOneMore 153 = .ok (.if_icmp .ne 11, 3) := by decide +kernel
theorem dX4_pairOneMore_156 : decode cX4_pairOneMore 156 = .ok (.aload_n 0, 1) := by decide +kernel
theorem dX4_pairOneMore_157 : decode cX4_pairOneMore 157 = .ok (.iload 5, 2) := by decide +kernel
theorem dX4_pairOneMore_159 : decode cX4_pairOneMore 159 = .ok (.invokevirtual 101, 3) := by decide +kernel
theorem dX4_pairOneMore_162 : decode cX4_pairOneMore 162 = .ok (.iconst 1, 1) := by decide +kernel
theorem dX4_pairOneMore_163 : decode cX4_pairOneMore 163 = .ok (.ireturn, 1) := by decide +kernel
theorem dX4_pairOneMore_164 : decode cX4_pairOneMore 164 = .ok (.iload_n 2, 1) := by decide +kernel
theorem dX4_pairOneMore_165 : decode cX4_pairOneMore 165 = .ok (.bipush 20, 2) := by decide +kernel
theorem dX4_pairOneMore_167 : decode cX4_pairOneMore 167 = .ok (.if_icmp .ge 19, 3) := by decide +kernel
theorem dX4_pairOneMore_170 : decode cX4_pairOneMore 170 = .ok (.aload_n 0, 1) := by decide +kernel
theorem dX4_pairOneMore_171 : decode cX4_pairOneMore 171 = .ok (.getfield 34, 3) := by decide +kernel
theorem dX4_pairOneMore_174 : decode cX4_pairOneMore 174 = .ok (.iload_n 2, 1) := by decide +kernel
theorem dX4_pairOneMore_175 : decode cX4_pairOneMore 175 = .ok (.aload_n 0, 1) := by decide +kernel
theorem dX4_pairOneMore_176 : decode cX4_pairOneMore 176 = .ok (.getfield 25, 3) := by decide +kernel
theorem dX4_pairOneMore_179 : decode cX4_pairOneMore 179 = .ok (.iload 5, 2) := by decide +kernel
theorem dX4_pairOneMore_181 : decode cX4_pairOneMore 181 = .ok (.iaload, 1) := by decide +kernel
theorem dX4_pairOneMore_182 : decode cX4_pairOneMore 182 = .ok (.iastore, 1) := by decide +kernel
theorem dX4_pairOneMore_183 : decode cX4_pairOneMore 183 = .ok (.iinc 2 1, 3) := by decide +kernel
theorem dX4_pairOneMore_186 : decode cX4_pairOneMore 186 = .ok (.iinc 5 1, 3) := by decide +kernel
theorem dX4_pairOneMore_189 : decode cX4_pairOneMore 189 = .ok (.goto (-116), 3) := by decide +kernel
theorem dX4_pairOneMore_192 : decode cX4_pairOneMore 192 = .ok (.iinc 3 1, 3) := by decide +kernel
theorem dX4_pairOneMore_195 : decode cX4_pairOneMore 195 = .ok (.goto (-144), 3) := by decide +kernel
theorem dX4_pairOneMore_198 : decode cX4_pairOneMore 198 = .ok (.iconst 0, 1) := by decide +kernel
theorem dX4_pairOneMore_199 : decode cX4_pairOneMore 199 = .ok (.ireturn, 1) := by decide +kernel
set_option maxRecDepth 20000 in
theorem ggX4_joinBackFrom_X4_join : GoodIn wsX4_joinBackFrom wsX4_join := goodIn_r _ [7, 2, 8, 9, 10, 11, 12, 13, 14, 15, 16, 17, 18, 19] (by decide +kernel) (by decide +kernel)
set_option maxRecDepth 20000 in
theorem gX4_joinBackFrom_X4_join : GoodIn wsX4_joinBackFrom (wsV RX4 97 RX4 yX4_join wsX4_join) := goodIn_app (goodIn_of _ (by decide +kernel)) ggX4_joinBackFrom_X4_join
theorem dX4_joinBackFrom_0 : decode cX4_joinBackFrom 0 = .ok (.iload_n 1, 1) := by decide +kernel
theorem dX4_joinBackFrom_1 : decode cX4_joinBackFrom 1 = .ok (.istore_n 2, 1) := by decide +kernel
theorem dX4_joinBackFrom_2 : decode cX4_joinBackFrom 2 = .ok (.iconst 0, 1) := by decide +kernel
theorem dX4_joinBackFrom_3 : decode cX4_joinBackFrom 3 = .ok (.istore_n 3, 1) := by decide +kernel
theorem dX4_joinBackFrom_4 : decode cX4_joinBackFrom 4 = .ok (.iload_n 3, 1) := by decide +kernel
theorem dX4_joinBackFrom_5 : decode cX4_joinBackFrom 5 = .ok (.bipush 20, 2) := by decide +kernel
theorem dX4_joinBackFrom_7 : decode cX4_joinBackFrom 7 = .ok (.if_icmp .ge 41, 3) := by decide +kernel
theorem dX4_joinBackFrom_10 : decode cX4_joinBackFrom 10 = .ok (.iload_n 2, 1) := by decide +kernel
theorem dX4_joinBackFrom_11 : decode cX4_joinBackFrom 11 = .ok (.iconst (-1), 1) := by decide +kernel
theorem dX4_joinBackFrom_12 : decode cX4_joinBackFrom 12 = .ok (.if_icmp .eq 36, 3) := by decide +kernel
theorem dX4_joinBackFrom_15 : decode cX4_joinBackFrom 15 = .ok (.aload_n 0, 1) := by decide +kernel
theorem dX4_joinBackFrom_16 : decode cX4_joinBackFrom 16 = .ok (.getfield 31, 3) := by decide +kernel
theorem dX4_joinBackFrom_19 : decode cX4_joinBackFrom 19 = .ok (.iload_n 2, 1) := by decide +kernel
theorem dX4_joinBackFrom_20 : decode cX4_joinBackFrom 20 = .ok (.iaload, 1) := by decide +kernel
theorem dX4_joinBackFrom_21 : decode cX4_joinBackFrom 21 = .ok (.istore 4, 2) := by decide +kernel
theorem dX4_joinBackFrom_23 : decode cX4_joinBackFrom 23 = .ok (.aload_n 0, 1) := by decide +kernel
theorem dX4_joinBackFrom_24 : decode cX4_joinBackFrom 24 = .ok (.getfield 21, 3) := by decide +kernel
theorem dX4_joinBackFrom_27 : decode cX4_joinBackFrom 27 = .ok (.iload 4, 2) := by decide +kernel
theorem dX4_joinBackFrom_29 : decode cX4_joinBackFrom 29 = .ok (.iaload, 1) := by decide +kernel
theorem dX4_joinBackFrom_30 : decode cX4_joinBackFrom 30 = .ok (.istore 5, 2) := by decide +kernel
theorem dX4_joinBackFrom_32 : decode cX4_joinBackFrom 32 = .ok (.aload_n 0, 1) := by decide +kernel
theorem dX4_joinBackFrom_33 : decode cX4_joinBackFrom 33 = .ok (.iload 4, 2) := by decide +kernel
theorem dX4_joinBackFrom_35 : decode cX4_joinBackFrom 35 = .ok (.iload_n 2, 1) := by decide +kernel
theorem dX4_joinBackFrom_36 : decode cX4_joinBackFrom 36 = .ok (.invokevirtual 97, 3) := by decide +kernel
theorem dX4_joinBackFrom_39 : decode cX4_joinBackFrom 39 = .ok (.iload 5, 2) := by decide +kernel
theorem dX4_joinBackFrom_41 : decode cX4_joinBackFrom 41 = .ok (.istore_n 2, 1) := by decide +kernel
theorem dX4_joinBackFrom_42 : decode cX4_joinBackFrom 42 = .ok (.iinc 3 1, 3) := by decide +kernel
theorem dX4_joinBackFrom_45 : decode cX4_joinBackFrom 45 = .ok (.goto (-41), 3) := by decide +kernel
theorem dX4_joinBackFrom_48 : decode cX4_joinBackFrom 48 = .ok (.return_, 1) := by decide +kernel
theorem dX5_init_0 : decode cX5_init 0 = .ok (.aload_n 0, 1) := by decide +kernel
theorem dX5_init_1 : decode cX5_init 1 = .ok (.invokespecial 3, 3) := by decide +kernel
theorem dX5_init_4 : decode cX5_init 4 = .ok (.aload_n 0, 1) := by decide +kernel
theorem dX5_init_5 : decode cX5_init 5 = .ok (.bipush 9, 2) := by decide +kernel
theorem dX5_init_7 : decode cX5_init 7 = .ok (.newarray .long, 2) := by decide +kernel
theorem dX5_init_9 : decode cX5_init 9 = .ok (.putfield 9, 3) := by decide +kernel
theorem dX5_init_12 : decode cX5_init 12 = .ok (.aload_n 0, 1) := by decide +kernel
theorem dX5_init_13 : decode cX5_init 13 = .ok (.bipush 9, 2) := by decide +kernel
theorem dX5_init_15 : decode cX5_init 15 = .ok (.newarray .long, 2) := by decide +kernel
theorem dX5_init_17 : decode cX5_init 17 = .ok (.putfield 15, 3) := by decide +kernel
theorem dX5_init_20 : decode cX5_init 20 = .ok (.aload_n 0, 1) := by decide +kernel
theorem dX5_init_21 : decode cX5_init 21 = .ok (.bipush 9, 2) := by decide +kernel
theorem dX5_init_23 : decode cX5_init 23 = .ok (.newarray .int, 2) := by decide +kernel
theorem dX5_init_25 : decode cX5_init 25 = .ok (.putfield 18, 3) := by decide +kernel
theorem dX5_init_28 : decode cX5_init 28 = .ok (.aload_n 0, 1) := by decide +kernel
theorem dX5_init_29 : decode cX5_init 29 = .ok (.bipush 9, 2) := by decide +kernel
theorem dX5_init_31 : decode cX5_init 31 = .ok (.newarray .int, 2) := by decide +kernel
theorem dX5_init_33 : decode cX5_init 33 = .ok (.putfield 22, 3) := by decide +kernel
theorem dX5_init_36 : decode cX5_init 36 = .ok (.aload_n 0, 1) := by decide +kernel
theorem dX5_init_37 : decode cX5_init 37 = .ok (.iconst 0, 1) := by decide +kernel
theorem dX5_init_38 : decode cX5_init 38 = .ok (.putfield 25, 3) := by decide +kernel
theorem dX5_init_41 : decode cX5_init 41 = .ok (.return_, 1) := by decide +kernel
set_option maxRecDepth 20000 in
theorem ggX5_reckon_X5_begin : GoodIn wsX5_reckon wsX5_begin := goodIn_r _ [9, 2, 1, 3, 10, 11, 12, 8, 13, 14, 4, 32, 33, 34, 35, 36] (by decide +kernel) (by decide +kernel)
set_option maxRecDepth 20000 in
theorem gX5_reckon_X5_begin : GoodIn wsX5_reckon (wsV RX5 29 RX5 yX5_begin wsX5_begin) := goodIn_app (goodIn_of _ (by decide +kernel)) ggX5_reckon_X5_begin
set_option maxRecDepth 20000 in
theorem ggX5_reckon_X5_takeFactor : GoodIn wsX5_reckon wsX5_takeFactor := goodIn_r _ [18, 14, 1, 4, 19, 20, 8, 21, 22, 23, 24, 25, 26, 27, 32, 33, 34, 35, 36] (by decide +kernel) (by decide +kernel)
set_option maxRecDepth 20000 in
theorem gX5_reckon_X5_takeFactor : GoodIn wsX5_reckon (wsV RX5 32 RX5 yX5_takeFactor wsX5_takeFactor) := goodIn_app (goodIn_of _ (by decide +kernel)) ggX5_reckon_X5_takeFactor
set_option maxRecDepth 20000 in
theorem ggX5_reckon_X5_wholeSum : GoodIn wsX5_reckon wsX5_wholeSum := goodIn_r _ [31, 14, 1, 3, 2, 19, 20, 8, 21, 22, 23, 32, 33, 34, 35, 36] (by decide +kernel) (by decide +kernel)
set_option maxRecDepth 20000 in
theorem gX5_reckon_X5_wholeSum : GoodIn wsX5_reckon (wsV RX5 36 RX5 yX5_wholeSum wsX5_wholeSum) := goodIn_app (goodIn_of _ (by decide +kernel)) ggX5_reckon_X5_wholeSum
set_option maxRecDepth 20000 in
theorem ggX5_reckon_X5_beginProduct : GoodIn wsX5_reckon wsX5_beginProduct := goodIn_r _ [13, 14, 1, 4, 32, 33, 34, 35, 36] (by decide +kernel) (by decide +kernel)
set_option maxRecDepth 20000 in
theorem gX5_reckon_X5_beginProduct : GoodIn wsX5_reckon (wsV RX5 40 RX5 yX5_beginProduct wsX5_beginProduct) := goodIn_app (goodIn_of _ (by decide +kernel)) ggX5_reckon_X5_beginProduct
theorem dX5_reckon_0 : decode cX5_reckon 0 = .ok (.aload_n 0, 1) := by decide +kernel
theorem dX5_reckon_1 : decode cX5_reckon 1 = .ok (.iconst 0, 1) := by decide +kernel
theorem dX5_reckon_2 : decode cX5_reckon 2 = .ok (.putfield 25, 3) := by decide +kernel
theorem dX5_reckon_5 : decode cX5_reckon 5 = .ok (.aload_n 0, 1) := by decide +kernel
theorem dX5_reckon_6 : decode cX5_reckon 6 = .ok (.invokevirtual 29, 3) := by decide +kernel
theorem dX5_reckon_9 : decode cX5_reckon 9 = .ok (.iconst 0, 1) := by decide +kernel
theorem dX5_reckon_10 : decode cX5_reckon 10 = .ok (.istore 4, 2) := by decide +kernel
theorem dX5_reckon_12 : decode cX5_reckon 12 = .ok (.iload 4, 2) := by decide +kernel
theorem dX5_reckon_14 : decode cX5_reckon 14 = .ok (.aload_n 1, 1) := by decide +kernel
theorem dX5_reckon_15 : decode cX5_reckon 15 = .ok (.arraylength, 1) := by decide +kernel
theorem dX5_reckon_16 : decode cX5_reckon 16 = .ok (.if_icmp .ge 224, 3) := by decide +kernel
theorem dX5_reckon_19 : decode cX5_reckon 19 = .ok (.aload_n 1, 1) := by decide +kernel
theorem dX5_reckon_20 : decode cX5_reckon 20 = .ok (.iload 4, 2) := by decide +kernel
theorem dX5_reckon_22 : decode cX5_reckon 22 = .ok (.iaload, 1) := by decide +kernel
theorem dX5_reckon_23 : decode cX5_reckon 23 = .ok (.istore 5, 2) := by decide +kernel
theorem dX5_reckon_25 : decode cX5_reckon 25 = .ok (.iload 5, 2) := by decide +kernel
theorem dX5_reckon_27 : decode cX5_reckon 27 = .ok (.ineg, 1) := by decide +kernel
theorem dX5_reckon_28 : decode cX5_reckon 28 = .ok (.lookupswitch 199 #[(40, 94), (41, 120), (42, 184), (43, 152), (45, 152), (47, 184), (100, 76), (108, 85)], 76) := by decide +kernel
theorem dX5_reckon_104 : decode cX5_reckon 104 = .ok (.aload_n 0, 1) := by decide +kernel
theorem dX5_reckon_105 : decode cX5_reckon 105 = .ok (.iload_n 2, 1) := by decide +kernel
theorem dX5_reckon_106 : decode cX5_reckon 106 = .ok (.i2l, 1) := by decide +kernel
theorem dX5_reckon_107 : decode cX5_reckon 107 = .ok (.invokevirtual 32, 3) := by decide +kernel
theorem dX5_reckon_110 : decode cX5_reckon 110 = .ok (.goto 124, 3) := by decide +kernel
theorem dX5_reckon_113 : decode cX5_reckon 113 = .ok (.aload_n 0, 1) := by decide +kernel
theorem dX5_reckon_114 : decode cX5_reckon 114 = .ok (.iload_n 3, 1) := by decide +kernel
theorem dX5_reckon_115 : decode cX5_reckon 115 = .ok (.i2l, 1) := by decide +kernel
theorem dX5_reckon_116 : decode cX5_reckon 116 = .ok (.invokevirtual 32, 3) := by decide +kernel
theorem dX5_reckon_119 : decode cX5_reckon 119 = .ok (.goto 115, 3) := by decide +kernel
theorem dX5_reckon_122 : decode cX5_reckon 122 = .ok (.aload_n 0, 1) := by decide +kernel
theorem dX5_reckon_123 : decode cX5_reckon 123 = .ok (.getfield 25, 3) := by decide +kernel
theorem dX5_reckon_126 : decode cX5_reckon 126 = .ok (.bipush 8, 2) := by decide +kernel
theorem dX5_reckon_128 : decode cX5_reckon 128 = .ok (.if_icmp .ge 106, 3) := by decide +kernel
theorem dX5_reckon_131 : decode cX5_reckon 131 = .ok (.aload_n 0, 1) := by decide +kernel
theorem dX5_reckon_132 : decode cX5_reckon 132 = .ok (.dup, 1) := by decide +kernel
theorem dX5_reckon_133 : decode cX5_reckon 133 = .ok (.getfield 25, 3) := by decide +kernel
theorem dX5_reckon_136 : decode cX5_reckon 136 = .ok (.iconst 1, 1) := by decide +kernel
theorem dX5_reckon_137 : decode cX5_reckon 137 = .ok (.iadd, 1) := by decide +kernel
theorem dX5_reckon_138 : decode cX5_reckon 138 = .ok (.putfield 25, 3) := by decide +kernel
theorem dX5_reckon_141 : decode cX5_reckon 141 = .ok (.aload_n 0, 1) := by decide +kernel
theorem dX5_reckon_142 : decode cX5_reckon 142 = .ok (.invokevirtual 29, 3) := by decide +kernel
theorem dX5_reckon_145 : decode cX5_reckon 145 = .ok (.goto 89, 3) := by decide +kernel
theorem dX5_reckon_148 : decode cX5_reckon 148 = .ok (.aload_n 0, 1) := by decide +kernel
theorem dX5_reckon_149 : decode cX5_reckon 149 = .ok (.getfield 25, 3) := by decide +kernel
theorem dX5_reckon_152 : decode cX5_reckon 152 = .ok (.ifCond .le 82, 3) := by decide +kernel
theorem dX5_reckon_155 : decode cX5_reckon 155 = .ok (.aload_n 0, 1) := by decide +kernel
theorem dX5_reckon_156 : decode cX5_reckon 156 = .ok (.invokevirtual 36, 3) := by decide +kernel
theorem dX5_reckon_159 : decode cX5_reckon 159 = .ok (.lstore 6, 2) := by decide +kernel
theorem dX5_reckon_161 : decode cX5_reckon 161 = .ok (.aload_n 0, 1) := by decide +kernel
theorem dX5_reckon_162 : decode cX5_reckon 162 = .ok (.dup, 1) := by decide +kernel
theorem dX5_reckon_163 : decode cX5_reckon 163 = .ok (.getfield 25, 3) := by decide +kernel
theorem dX5_reckon_166 : decode cX5_reckon 166 = .ok (.iconst 1, 1) := by decide +kernel
theorem dX5_reckon_167 : decode cX5_reckon 167 = .ok (.isub, 1) := by decide +kernel
theorem dX5_reckon_168 : decode cX5_reckon 168 = .ok (.putfield 25, 3) := by decide +kernel
theorem dX5_reckon_171 : decode cX5_reckon 171 = .ok (.aload_n 0, 1) := by decide +kernel
theorem dX5_reckon_172 : decode cX5_reckon 172 = .ok (.lload 6, 2) := by decide +kernel
theorem dX5_reckon_174 : decode cX5_reckon 174 = .ok (.invokevirtual 32, 3) := by decide +kernel
theorem dX5_reckon_177 : decode cX5_reckon 177 = .ok (.goto 57, 3) := by decide +kernel
theorem dX5_reckon_180 : decode cX5_reckon 180 = .ok (.aload_n 0, 1) := by decide +kernel
theorem dX5_reckon_181 : decode cX5_reckon 181 = .ok (.getfield 9, 3) := by decide +kernel
theorem dX5_reckon_184 : decode cX5_reckon 184 = .ok (.aload_n 0, 1) := by decide +kernel
theorem dX5_reckon_185 : decode cX5_reckon 185 = .ok (.getfield 25, 3) := by decide +kernel
theorem dX5_reckon_188 : decode cX5_reckon 188 = .ok (.aload_n 0, 1) := by decide +kernel
theorem dX5_reckon_189 : decode cX5_reckon 189 = .ok (.invokevirtual 36, 3) := by decide +kernel
theorem dX5_reckon_192 : decode cX5_reckon 192 = .ok (.lastore, 1) := by decide +kernel
theorem dX5_reckon_193 : decode cX5_reckon 193 = .ok (.aload_n 0, 1) := by decide +kernel
theorem dX5_reckon_194 : decode cX5_reckon 194 = .ok (.getfield 18, 3) := by decide +kernel
theorem dX5_reckon_197 : decode cX5_reckon 197 = .ok (.aload_n 0, 1) := by decide +kernel
theorem dX5_reckon_198 : decode cX5_reckon 198 = .ok (.getfield 25, 3) := by decide +kernel
theorem dX5_reckon_201 : decode cX5_reckon 201 = .ok (.iload 5, 2) := by decide +kernel
theorem dX5_reckon_203 : decode cX5_reckon 203 = .ok (.ineg, 1) := by decide +kernel
theorem dX5_reckon_204 : decode cX5_reckon 204 = .ok (.iastore, 1) := by decide +kernel
theorem dX5_reckon_205 : decode cX5_reckon 205 = .ok (.aload_n 0, 1) := by decide +kernel
theorem dX5_reckon_206 : decode cX5_reckon 206 = .ok (.invokevirtual 40, 3) := by decide +kernel
theorem dX5_reckon_209 : decode cX5_reckon 209 = .ok (.goto 25, 3) := by decide +kernel
theorem dX5_reckon_212 : decode cX5_reckon 212 = .ok (.aload_n 0, 1) := by decide +kernel
theorem dX5_reckon_213 : decode cX5_reckon 213 = .ok (.getfield 22, 3) := by decide +kernel
theorem dX5_reckon_216 : decode cX5_reckon 216 = .ok (.aload_n 0, 1) := by decide +kernel
theorem dX5_reckon_217 : decode cX5_reckon 217 = .ok (.getfield 25, 3) := by decide +kernel
theorem dX5_reckon_220 : decode cX5_reckon 220 = .ok (.iload 5, 2) := by decide +kernel
theorem dX5_reckon_222 : decode cX5_reckon 222 = .ok (.ineg, 1) := by decide +kernel
theorem dX5_reckon_223 : decode cX5_reckon 223 = .ok (.iastore, 1) := by decide +kernel
theorem dX5_reckon_224 : decode cX5_reckon 224 = .ok (.goto 10, 3) := by decide +kernel
theorem dX5_reckon_227 : decode cX5_reckon 227 = .ok (.aload_n 0, 1) := by decide +kernel
theorem dX5_reckon_228 : decode cX5_reckon 228 = .ok (.iload 5, 2) := by decide +kernel
theorem dX5_reckon_230 : decode cX5_reckon 230 = .ok (.i2l, 1) := by decide +kernel
theorem dX5_reckon_231 : decode cX5_reckon 231 = .ok (.invokevirtual 32, 3) := by decide +kernel
theorem dX5_reckon_234 : decode cX5_reckon 234 = .ok (.iinc 4 1, 3) := by decide +kernel
theorem dX5_reckon_237 : decode cX5_reckon 237 = .ok (.goto (-225), 3) := by decide +kernel
theorem dX5_reckon_240 : decode cX5_reckon 240 = .ok (.aload_n 0, 1) := by decide +kernel
theorem dX5_reckon_241 : decode cX5_reckon 241 = .ok (.invokevirtual 36, 3) := by decide +kernel
theorem dX5_reckon_244 : decode cX5_reckon 244 = .ok (.lreturn, 1) := by decide +kernel
set_option maxRecDepth 20000 in
theorem ggX5_begin_X5_beginProduct : GoodIn wsX5_begin wsX5_beginProduct := goodIn_r _ [8, 9, 2, 10, 11, 12, 13, 14, 15] (by decide +kernel) (by decide +kernel)
set_option maxRecDepth 20000 in
theorem gX5_begin_X5_beginProduct : GoodIn wsX5_begin (wsV RX5 40 RX5 yX5_beginProduct wsX5_beginProduct) := goodIn_app (goodIn_of _ (by decide +kernel)) ggX5_begin_X5_beginProduct
theorem dX5_begin_0 : decode cX5_begin 0 = .ok (.aload_n 0, 1) := by decide +kernel
theorem dX5_begin_1 : decode cX5_begin 1 = .ok (.getfield 9, 3) := by decide +kernel
theorem dX5_begin_4 : decode cX5_begin 4 = .ok (.aload_n 0, 1) := by decide +kernel
theorem dX5_begin_5 : decode cX5_begin 5 = .ok (.getfield 25, 3) := by decide +kernel
theorem dX5_begin_8 : decode cX5_begin 8 = .ok (.lconst 0, 1) := by decide +kernel
theorem dX5_begin_9 : decode cX5_begin 9 = .ok (.lastore, 1) := by decide +kernel
theorem dX5_begin_10 : decode cX5_begin 10 = .ok (.aload_n 0, 1) := by decide +kernel
theorem dX5_begin_11 : decode cX5_begin 11 = .ok (.getfield 18, 3) := by decide +kernel
theorem dX5_begin_14 : decode cX5_begin 14 = .ok (.aload_n 0, 1) := by decide +kernel
theorem dX5_begin_15 : decode cX5_begin 15 = .ok (.getfield 25, 3) := by decide +kernel
theorem dX5_begin_18 : decode cX5_begin 18 = .ok (.bipush 43, 2) := by decide +kernel
theorem dX5_begin_20 : decode cX5_begin 20 = .ok (.iastore, 1) := by decide +kernel
theorem dX5_begin_21 : decode cX5_begin 21 = .ok (.aload_n 0, 1) := by decide +kernel
theorem dX5_begin_22 : decode cX5_begin 22 = .ok (.invokevirtual 40, 3) := by decide +kernel
theorem dX5_begin_25 : decode cX5_begin 25 = .ok (.return_, 1) := by decide +kernel
theorem dX5_beginProduct_0 : decode cX5_beginProduct 0 = .ok (.aload_n 0, 1) := by decide +kernel
theorem dX5_beginProduct_1 : decode cX5_beginProduct 1 = .ok (.getfield 15, 3) := by decide +kernel
theorem dX5_beginProduct_4 : decode cX5_beginProduct 4 = .ok (.aload_n 0, 1) := by decide +kernel
theorem dX5_beginProduct_5 : decode cX5_beginProduct 5 = .ok (.getfield 25, 3) := by decide +kernel
theorem dX5_beginProduct_8 : decode cX5_beginProduct 8 = .ok (.lconst 1, 1) := by decide +kernel
theorem dX5_beginProduct_9 : decode cX5_beginProduct 9 = .ok (.lastore, 1) := by decide +kernel
theorem dX5_beginProduct_10 : decode cX5_beginProduct 10 = .ok (.aload_n 0, 1) := by decide +kernel
theorem dX5_beginProduct_11 : decode cX5_beginProduct 11 = .ok (.getfield 22, 3) := by decide +kernel
theorem dX5_beginProduct_14 : decode cX5_beginProduct 14 = .ok (.aload_n 0, 1) := by decide +kernel
theorem dX5_beginProduct_15 : decode cX5_beginProduct 15 = .ok (.getfield 25, 3) := by decide +kernel
theorem dX5_beginProduct_18 : decode cX5_beginProduct 18 = .ok (.bipush 42, 2) := by decide +kernel
theorem dX5_beginProduct_20 : decode cX5_beginProduct 20 = .ok (.iastore, 1) := by decide +kernel
theorem dX5_beginProduct_21 : decode cX5_beginProduct 21 = .ok (.return_, 1) := by decide +kernel
set_option maxRecDepth 20000 in
theorem ggX5_takeFactor_X5_bounded : GoodIn wsX5_takeFactor wsX5_bounded := goodIn_r _ [7, 8, 9] (by decide +kernel) (by decide +kernel)
set_option maxRecDepth 20000 in
theorem gX5_takeFactor_X5_bounded : GoodIn wsX5_takeFactor (va_wsS RX5 43 yX5_bounded wsX5_bounded) := goodIn_app (goodIn_of _ (by decide +kernel)) ggX5_takeFactor_X5_bounded
set_option maxRecDepth 20000 in
theorem ggX5_takeFactor_J9_floorDiv_f86c9 : GoodIn wsX5_takeFactor wsJ9_floorDiv_f86c9 := goodIn_r _ [13] (by decide +kernel) (by decide +kernel)
set_option maxRecDepth 20000 in
theorem gX5_takeFactor_J9_floorDiv_f86c9 : GoodIn wsX5_takeFactor (va_wsS RX5 47 yJ9_floorDiv_f86c9 wsJ9_floorDiv_f86c9) := goodIn_app (goodIn_of _ (by decide +kernel)) ggX5_takeFactor_J9_floorDiv_f86c9
theorem dX5_takeFactor_0 : decode cX5_takeFactor 0 = .ok (.aload_n 0, 1) := by decide +kernel
theorem dX5_takeFactor_1 : decode cX5_takeFactor 1 = .ok (.getfield 15, 3) := by decide +kernel
theorem dX5_takeFactor_4 : decode cX5_takeFactor 4 = .ok (.aload_n 0, 1) := by decide +kernel
theorem dX5_takeFactor_5 : decode cX5_takeFactor 5 = .ok (.getfield 25, 3) := by decide +kernel
theorem dX5_takeFactor_8 : decode cX5_takeFactor 8 = .ok (.laload, 1) := by decide +kernel
theorem dX5_takeFactor_9 : decode cX5_takeFactor 9 = .ok (.lstore_n 3, 1) := by decide +kernel
theorem dX5_takeFactor_10 : decode cX5_takeFactor 10 = .ok (.aload_n 0, 1) := by decide +kernel
theorem dX5_takeFactor_11 : decode cX5_takeFactor 11 = .ok (.getfield 22, 3) := by decide +kernel
theorem dX5_takeFactor_14 : decode cX5_takeFactor 14 = .ok (.aload_n 0, 1) := by decide +kernel
theorem dX5_takeFactor_15 : decode cX5_takeFactor 15 = .ok (.getfield 25, 3) := by decide +kernel
theorem dX5_takeFactor_18 : decode cX5_takeFactor 18 = .ok (.iaload, 1) := by decide +kernel
theorem dX5_takeFactor_19 : decode cX5_takeFactor 19 = .ok (.bipush 42, 2) := by decide +kernel
theorem dX5_takeFactor_21 : decode cX5_takeFactor 21 = .ok (.if_icmp .ne 21, 3) := by decide +kernel
theorem dX5_takeFactor_24 : decode cX5_takeFactor 24 = .ok (.aload_n 0, 1) := by decide +kernel
theorem dX5_takeFactor_25 : decode cX5_takeFactor 25 = .ok (.getfield 15, 3) := by decide +kernel
theorem dX5_takeFactor_28 : decode cX5_takeFactor 28 = .ok (.aload_n 0, 1) := by decide +kernel
theorem dX5_takeFactor_29 : decode cX5_takeFactor 29 = .ok (.getfield 25, 3) := by decide +kernel
theorem dX5_takeFactor_32 : decode cX5_takeFactor 32 = .ok (.lload_n 3, 1) := by decide +kernel
theorem dX5_takeFactor_33 : decode cX5_takeFactor 33 = .ok (.lload_n 1, 1) := by decide +kernel
theorem dX5_takeFactor_34 : decode cX5_takeFactor 34 = .ok (.lmul, 1) := by decide +kernel
theorem dX5_takeFactor_35 : decode cX5_takeFactor 35 = .ok (.invokestatic 43, 3) := by decide +kernel
theorem dX5_takeFactor_38 : decode cX5_takeFactor 38 = .ok (.lastore, 1) := by decide +kernel
theorem dX5_takeFactor_39 : decode cX5_takeFactor 39 = .ok (.goto 39, 3) := by decide +kernel
theorem dX5_takeFactor_42 : decode cX5_takeFactor 42 = .ok (.lload_n 1, 1) := by decide +kernel
theorem dX5_takeFactor_43 : decode cX5_takeFactor 43 = .ok (.lconst 0, 1) := by decide +kernel
theorem dX5_takeFactor_44 : decode cX5_takeFactor 44 = .ok (.lcmp, 1) := by decide +kernel
theorem dX5_takeFactor_45 : decode cX5_takeFactor 45 = .ok (.ifCond .ne 16, 3) := by decide +kernel
theorem dX5_takeFactor_48 : decode cX5_takeFactor 48 = .ok (.aload_n 0, 1) := by decide +kernel
theorem dX5_takeFactor_49 : decode cX5_takeFactor 49 = .ok (.getfield 15, 3) := by decide +kernel
theorem dX5_takeFactor_52 : decode cX5_takeFactor 52 = .ok (.aload_n 0, 1) := by decide +kernel
theorem dX5_takeFactor_53 : decode cX5_takeFactor 53 = .ok (.getfield 25, 3) := by decide +kernel
theorem dX5_takeFactor_56 : decode cX5_takeFactor 56 = .ok (.lconst 0, 1) := by decide +kernel
theorem dX5_takeFactor_57 : decode cX5_takeFactor 57 = .ok (.lastore, 1) := by decide +kernel
theorem dX5_takeFactor_58 : decode cX5_takeFactor 58 = .ok (.goto 20, 3) := by decide +kernel
theorem dX5_takeFactor_61 : decode cX5_takeFactor 61 = .ok (.aload_n 0, 1) := by decide +kernel
theorem dX5_takeFactor_62 : decode cX5_takeFactor 62 = .ok (.getfield 15, 3) := by decide +kernel
theorem dX5_takeFactor_65 : decode cX5_takeFactor 65 = .ok (.aload_n 0, 1) := by decide +kernel
theorem dX5_takeFactor_66 : decode cX5_takeFactor 66 = .ok (.getfield 25, 3) := by decide +kernel
theorem dX5_takeFactor_69 : decode cX5_takeFactor 69 = .ok (.lload_n 3, 1) := by decide +kernel
theorem dX5_takeFactor_70 : decode cX5_takeFactor 70 = .ok (.lload_n 1, 1) := by decide +kernel
theorem dX5_takeFactor_71 : decode cX5_takeFactor 71 = .ok (.invokestatic 47, 3) := by decide +kernel
theorem dX5_takeFactor_74 : decode cX5_takeFactor 74 = .ok (.invokestatic 43, 3) := by decide +kernel
theorem dX5_takeFactor_77 : decode cX5_takeFactor 77 = .ok (.lastore, 1) := by decide +kernel
theorem dX5_takeFactor_78 : decode cX5_takeFactor 78 = .ok (.return_, 1) := by decide +kernel
set_option maxRecDepth 20000 in
theorem ggX5_wholeSum_X5_bounded : GoodIn wsX5_wholeSum wsX5_bounded := goodIn_r _ [8, 9, 10] (by decide +kernel) (by decide +kernel)
set_option maxRecDepth 20000 in
theorem gX5_wholeSum_X5_bounded : GoodIn wsX5_wholeSum (va_wsS RX5 43 yX5_bounded wsX5_bounded) := goodIn_app (goodIn_of _ (by decide +kernel)) ggX5_wholeSum_X5_bounded
theorem dX5_wholeSum_0 : decode cX5_wholeSum 0 = .ok (.aload_n 0, 1) := by decide +kernel
theorem dX5_wholeSum_1 : decode cX5_wholeSum 1 = .ok (.getfield 15, 3) := by decide +kernel
theorem dX5_wholeSum_4 : decode cX5_wholeSum 4 = .ok (.aload_n 0, 1) := by decide +kernel
theorem dX5_wholeSum_5 : decode cX5_wholeSum 5 = .ok (.getfield 25, 3) := by decide +kernel
theorem dX5_wholeSum_8 : decode cX5_wholeSum 8 = .ok (.laload, 1) := by decide +kernel
theorem dX5_wholeSum_9 : decode cX5_wholeSum 9 = .ok (.lstore_n 1, 1) := by decide +kernel
theorem dX5_wholeSum_10 : decode cX5_wholeSum 10 = .ok (.aload_n 0, 1) := by decide +kernel
theorem dX5_wholeSum_11 : decode cX5_wholeSum 11 = .ok (.getfield 18, 3) := by decide +kernel
theorem dX5_wholeSum_14 : decode cX5_wholeSum 14 = .ok (.aload_n 0, 1) := by decide +kernel
theorem dX5_wholeSum_15 : decode cX5_wholeSum 15 = .ok (.getfield 25, 3) := by decide +kernel
theorem dX5_wholeSum_18 : decode cX5_wholeSum 18 = .ok (.iaload, 1) := by decide +kernel
theorem dX5_wholeSum_19 : decode cX5_wholeSum 19 = .ok (.bipush 43, 2) := by decide +kernel
theorem dX5_wholeSum_21 : decode cX5_wholeSum 21 = .ok (.if_icmp .ne 17, 3) := by decide +kernel
theorem dX5_wholeSum_24 : decode cX5_wholeSum 24 = .ok (.aload_n 0, 1) := by decide +kernel
theorem dX5_wholeSum_25 : decode cX5_wholeSum 25 = .ok (.getfield 9, 3) := by decide +kernel
theorem dX5_wholeSum_28 : decode cX5_wholeSum 28 = .ok (.aload_n 0, 1) := by decide +kernel
theorem dX5_wholeSum_29 : decode cX5_wholeSum 29 = .ok (.getfield 25, 3) := by decide +kernel
theorem dX5_wholeSum_32 : decode cX5_wholeSum 32 = .ok (.laload, 1) := by decide +kernel
theorem dX5_wholeSum_33 : decode cX5_wholeSum 33 = .ok (.lload_n 1, 1) := by decide +kernel
theorem dX5_wholeSum_34 : decode cX5_wholeSum 34 = .ok (.ladd, 1) := by decide +kernel
theorem dX5_wholeSum_35 : decode cX5_wholeSum 35 = .ok (.goto 14, 3) := by decide +kernel
theorem dX5_wholeSum_38 : decode cX5_wholeSum 38 = .ok (.aload_n 0, 1) := by decide +kernel
theorem dX5_wholeSum_39 : decode cX5_wholeSum 39 = .ok (.getfield 9, 3) := by decide +kernel
theorem dX5_wholeSum_42 : decode cX5_wholeSum 42 = .ok (.aload_n 0, 1) := by decide +kernel
theorem dX5_wholeSum_43 : decode cX5_wholeSum 43 = .ok (.getfield 25, 3) := by decide +kernel
theorem dX5_wholeSum_46 : decode cX5_wholeSum 46 = .ok (.laload, 1) := by decide +kernel
theorem dX5_wholeSum_47 : decode cX5_wholeSum 47 = .ok (.lload_n 1, 1) := by decide +kernel
theorem dX5_wholeSum_48 : decode cX5_wholeSum 48 = .ok (.lsub, 1) := by decide +kernel
theorem dX5_wholeSum_49 : decode cX5_wholeSum 49 = .ok (.invokestatic 43, 3) := by decide +kernel
theorem dX5_wholeSum_52 : decode cX5_wholeSum 52 = .ok (.lreturn, 1) := by decide +kernel
theorem dX5_bounded_0 : decode cX5_bounded 0 = .ok (.lload_n 0, 1) := by decide +kernel
theorem dX5_bounded_1 : decode cX5_bounded 1 = .ok (.ldc2_w 53, 3) := by decide +kernel
theorem dX5_bounded_4 : decode cX5_bounded 4 = .ok (.lcmp, 1) := by decide +kernel
theorem dX5_bounded_5 : decode cX5_bounded 5 = .ok (.ifCond .le 7, 3) := by decide +kernel
theorem dX5_bounded_8 : decode cX5_bounded 8 = .ok (.ldc2_w 53, 3) := by decide +kernel
theorem dX5_bounded_11 : decode cX5_bounded 11 = .ok (.lreturn, 1) := by decide +kernel
theorem dX5_bounded_12 : decode cX5_bounded 12 = .ok (.lload_n 0, 1) := by decide +kernel
theorem dX5_bounded_13 : decode cX5_bounded 13 = .ok (.ldc2_w 55, 3) := by decide +kernel
theorem dX5_bounded_16 : decode cX5_bounded 16 = .ok (.lcmp, 1) := by decide +kernel
theorem dX5_bounded_17 : decode cX5_bounded 17 = .ok (.ifCond .ge 9, 3) := by decide +kernel
theorem dX5_bounded_20 : decode cX5_bounded 20 = .ok (.ldc2_w 55, 3) := by decide +kernel
theorem dX5_bounded_23 : decode cX5_bounded 23 = .ok (.goto 4, 3) := by decide +kernel
theorem dX5_bounded_26 : decode cX5_bounded 26 = .ok (.lload_n 0, 1) := by decide +kernel
theorem dX5_bounded_27 : decode cX5_bounded 27 = .ok (.lreturn, 1) := by decide +kernel
theorem dX6_init_0 : decode cX6_init 0 = .ok (.aload_n 0, 1) := by decide +kernel
theorem dX6_init_1 : decode cX6_init 1 = .ok (.invokespecial 3, 3) := by decide +kernel
theorem dX6_init_4 : decode cX6_init 4 = .ok (.aload_n 0, 1) := by decide +kernel
theorem dX6_init_5 : decode cX6_init 5 = .ok (.iconst 0, 1) := by decide +kernel
theorem dX6_init_6 : decode cX6_init 6 = .ok (.putfield 9, 3) := by decide +kernel
theorem dX6_init_9 : decode cX6_init 9 = .ok (.aload_n 0, 1) := by decide +kernel
theorem dX6_init_10 : decode cX6_init 10 = .ok (.iload_n 1, 1) := by decide +kernel
theorem dX6_init_11 : decode cX6_init 11 = .ok (.newarray .int, 2) := by decide +kernel
theorem dX6_init_13 : decode cX6_init 13 = .ok (.putfield 15, 3) := by decide +kernel
theorem dX6_init_16 : decode cX6_init 16 = .ok (.aload_n 0, 1) := by decide +kernel
theorem dX6_init_17 : decode cX6_init 17 = .ok (.iload_n 1, 1) := by decide +kernel
theorem dX6_init_18 : decode cX6_init 18 = .ok (.newarray .int, 2) := by decide +kernel
theorem dX6_init_20 : decode cX6_init 20 = .ok (.putfield 19, 3) := by decide +kernel
theorem dX6_init_23 : decode cX6_init 23 = .ok (.aload_n 0, 1) := by decide +kernel
theorem dX6_init_24 : decode cX6_init 24 = .ok (.iload_n 1, 1) := by decide +kernel
theorem dX6_init_25 : decode cX6_init 25 = .ok (.newarray .int, 2) := by decide +kernel
theorem dX6_init_27 : decode cX6_init 27 = .ok (.putfield 22, 3) := by decide +kernel
theorem dX6_init_30 : decode cX6_init 30 = .ok (.return_, 1) := by decide +kernel
theorem dX6_isFull_0 : decode cX6_isFull 0 = .ok (.aload_n 0, 1) := by decide +kernel
theorem dX6_isFull_1 : decode cX6_isFull 1 = .ok (.getfield 9, 3) := by decide +kernel
theorem dX6_isFull_4 : decode cX6_isFull 4 = .ok (.aload_n 0, 1) := by decide +kernel
theorem dX6_isFull_5 : decode cX6_isFull 5 = .ok (.getfield 15, 3) := by decide +kernel
theorem dX6_isFull_8 : decode cX6_isFull 8 = .ok (.arraylength, 1) := by decide +kernel
theorem dX6_isFull_9 : decode cX6_isFull 9 = .ok (.if_icmp .lt 7, 3) := by decide +kernel
theorem dX6_isFull_12 : decode cX6_isFull 12 = .ok (.iconst 1, 1) := by decide +kernel
theorem dX6_isFull_13 : decode cX6_isFull 13 = .ok (.goto 4, 3) := by decide +kernel
theorem dX6_isFull_16 : decode cX6_isFull 16 = .ok (.iconst 0, 1) := by decide +kernel
theorem dX6_isFull_17 : decode cX6_isFull 17 = .ok (.ireturn, 1) := by decide +kernel
theorem dX6_enter_0 : decode cX6_enter 0 = .ok (.aload_n 0, 1) := by decide +kernel
theorem dX6_enter_1 : decode cX6_enter 1 = .ok (.getfield 15, 3) := by decide +kernel
theorem dX6_enter_4 : decode cX6_enter 4 = .ok (.aload_n 0, 1) := by decide +kernel
theorem dX6_enter_5 : decode cX6_enter 5 = .ok (.getfield 9, 3) := by decide +kernel
theorem dX6_enter_8 : decode cX6_enter 8 = .ok (.iload_n 1, 1) := by decide +kernel
theorem dX6_enter_9 : decode cX6_enter 9 = .ok (.iastore, 1) := by decide +kernel
theorem dX6_enter_10 : decode cX6_enter 10 = .ok (.aload_n 0, 1) := by decide +kernel
theorem dX6_enter_11 : decode cX6_enter 11 = .ok (.getfield 19, 3) := by decide +kernel
theorem dX6_enter_14 : decode cX6_enter 14 = .ok (.aload_n 0, 1) := by decide +kernel
theorem dX6_enter_15 : decode cX6_enter 15 = .ok (.getfield 9, 3) := by decide +kernel
theorem dX6_enter_18 : decode cX6_enter 18 = .ok (.iload_n 2, 1) := by decide +kernel
theorem dX6_enter_19 : decode cX6_enter 19 = .ok (.iastore, 1) := by decide +kernel
theorem dX6_enter_20 : decode cX6_enter 20 = .ok (.aload_n 0, 1) := by decide +kernel
theorem dX6_enter_21 : decode cX6_enter 21 = .ok (.getfield 22, 3) := by decide +kernel
theorem dX6_enter_24 : decode cX6_enter 24 = .ok (.aload_n 0, 1) := by decide +kernel
theorem dX6_enter_25 : decode cX6_enter 25 = .ok (.getfield 9, 3) := by decide +kernel
theorem dX6_enter_28 : decode cX6_enter 28 = .ok (.iload_n 3, 1) := by decide +kernel
theorem dX6_enter_29 : decode cX6_enter 29 = .ok (.iastore, 1) := by decide +kernel
theorem dX6_enter_30 : decode cX6_enter 30 = .ok (.aload_n 0, 1) := by decide +kernel
theorem dX6_enter_31 : decode cX6_enter 31 = .ok (.dup, 1) := by decide +kernel
theorem dX6_enter_32 : decode cX6_enter 32 = .ok (.getfield 9, 3) := by decide +kernel
theorem dX6_enter_35 : decode cX6_enter 35 = .ok (.dup_x1, 1) := by decide +kernel
theorem dX6_enter_36 : decode cX6_enter 36 = .ok (.iconst 1, 1) := by decide +kernel
theorem dX6_enter_37 : decode cX6_enter 37 = .ok (.iadd, 1) := by decide +kernel
theorem dX6_enter_38 : decode cX6_enter 38 = .ok (.putfield 9, 3) := by decide +kernel
theorem dX6_enter_41 : decode cX6_enter 41 = .ok (.ireturn, 1) := by decide +kernel
theorem dX6_inForce_0 : decode cX6_inForce 0 = .ok (.iconst (-1), 1) := by decide +kernel
theorem dX6_inForce_1 : decode cX6_inForce 1 = .ok (.istore 4, 2) := by decide +kernel
theorem dX6_inForce_3 : decode cX6_inForce 3 = .ok (.iconst 0, 1) := by decide +kernel
theorem dX6_inForce_4 : decode cX6_inForce 4 = .ok (.istore 5, 2) := by decide +kernel
theorem dX6_inForce_6 : decode cX6_inForce 6 = .ok (.iload 5, 2) := by decide +kernel
theorem dX6_inForce_8 : decode cX6_inForce 8 = .ok (.aload_n 0, 1) := by decide +kernel
theorem dX6_inForce_9 : decode cX6_inForce 9 = .ok (.getfield 9, 3) := by decide +kernel
theorem dX6_inForce_12 : decode cX6_inForce 12 = .ok (.if_icmp .ge 81, 3) := by decide +kernel
theorem dX6_inForce_15 : decode cX6_inForce 15 = .ok (.aload_n 0, 1) := by decide +kernel
theorem dX6_inForce_16 : decode cX6_inForce 16 = .ok (.getfield 15, 3) := by decide +kernel
theorem dX6_inForce_19 : decode cX6_inForce 19 = .ok (.iload 5, 2) := by decide +kernel
theorem dX6_inForce_21 : decode cX6_inForce 21 = .ok (.iaload, 1) := by decide +kernel
theorem dX6_inForce_22 : decode cX6_inForce 22 = .ok (.iload_n 1, 1) := by decide +kernel
theorem dX6_inForce_23 : decode cX6_inForce 23 = .ok (.if_icmp .ne 29, 3) := by decide +kernel
theorem dX6_inForce_26 : decode cX6_inForce 26 = .ok (.aload_n 0, 1) := by decide +kernel
theorem dX6_inForce_27 : decode cX6_inForce 27 = .ok (.getfield 22, 3) := by decide +kernel
theorem dX6_inForce_30 : decode cX6_inForce 30 = .ok (.iload 5, 2) := by decide +kernel
theorem dX6_inForce_32 : decode cX6_inForce 32 = .ok (.iaload, 1) := by decide +kernel
theorem dX6_inForce_33 : decode cX6_inForce 33 = .ok (.iload_n 3, 1) := by decide +kernel
theorem dX6_inForce_34 : decode cX6_inForce 34 = .ok (.if_icmp .gt 18, 3) := by decide +kernel
theorem dX6_inForce_37 : decode cX6_inForce 37 = .ok (.aload_n 0, 1) := by decide +kernel
theorem dX6_inForce_38 : decode cX6_inForce 38 = .ok (.getfield 19, 3) := by decide +kernel
theorem dX6_inForce_41 : decode cX6_inForce 41 = .ok (.iload 5, 2) := by decide +kernel
theorem dX6_inForce_43 : decode cX6_inForce 43 = .ok (.iaload, 1) := by decide +kernel
theorem dX6_inForce_44 : decode cX6_inForce 44 = .ok (.iload_n 2, 1) := by decide +kernel
theorem dX6_inForce_45 : decode cX6_inForce 45 = .ok (.if_icmp .gt 7, 3) := by decide +kernel
theorem dX6_inForce_48 : decode cX6_inForce 48 = .ok (.iconst 1, 1) := by decide +kernel
theorem dX6_inForce_49 : decode cX6_inForce 49 = .ok (.goto 4, 3) := by decide +kernel
theorem dX6_inForce_52 : decode cX6_inForce 52 = .ok (.iconst 0, 1) := by decide +kernel
theorem dX6_inForce_53 : decode cX6_inForce 53 = .ok (.istore 6, 2) := by decide +kernel
theorem dX6_inForce_55 : decode cX6_inForce 55 = .ok (.iload 6, 2) := by decide +kernel
theorem dX6_inForce_57 : decode cX6_inForce 57 = .ok (.ifCond .eq 30, 3) := by decide +kernel
theorem dX6_inForce_60 : decode cX6_inForce 60 = .ok (.iload 4, 2) := by decide +kernel
theorem dX6_inForce_62 : decode cX6_inForce 62 = .ok (.iconst (-1), 1) := by decide +kernel
theorem dX6_inForce_63 : decode cX6_inForce 63 = .ok (.if_icmp .eq 20, 3) := by decide +kernel
theorem dX6_inForce_66 : decode cX6_inForce 66 = .ok (.aload_n 0, 1) := by decide +kernel
theorem dX6_inForce_67 : decode cX6_inForce 67 = .ok (.getfield 19, 3) := by decide +kernel
theorem dX6_inForce_70 : decode cX6_inForce 70 = .ok (.iload 5, 2) := by decide +kernel
theorem dX6_inForce_72 : decode cX6_inForce 72 = .ok (.iaload, 1) := by decide +kernel
theorem dX6_inForce_73 : decode cX6_inForce 73 = .ok (.aload_n 0, 1) := by decide +kernel
theorem dX6_inForce_74 : decode cX6_inForce 74 = .ok (.getfield 19, 3) := by decide +kernel
theorem dX6_inForce_77 : decode cX6_inForce 77 = .ok (.iload 4, 2) := by decide +kernel
theorem dX6_inForce_79 : decode cX6_inForce 79 = .ok (.iaload, 1) := by decide +kernel
theorem dX6_inForce_80 : decode cX6_inForce 80 = .ok (.if_icmp .lt 7, 3) := by decide +kernel
theorem dX6_inForce_83 : decode cX6_inForce 83 = .ok (.iload 5, 2) := by decide +kernel
theorem dX6_inForce_85 : decode cX6_inForce 85 = .ok (.istore 4, 2) := by decide +kernel
theorem dX6_inForce_87 : decode cX6_inForce 87 = .ok (.iinc 5 1, 3) := by decide +kernel
theorem dX6_inForce_90 : decode cX6_inForce 90 = .ok (.goto (-84), 3) := by decide +kernel
theorem dX6_inForce_93 : decode cX6_inForce 93 = .ok (.iload 4, 2) := by decide +kernel
theorem dX6_inForce_95 : decode cX6_inForce 95 = .ok (.ireturn, 1) := by decide +kernel
theorem dX7_init_0 : decode cX7_init 0 = .ok (.aload_n 0, 1) := by decide +kernel
theorem dX7_init_1 : decode cX7_init 1 = .ok (.invokespecial 3, 3) := by decide +kernel
theorem dX7_init_4 : decode cX7_init 4 = .ok (.aload_n 0, 1) := by decide +kernel
theorem dX7_init_5 : decode cX7_init 5 = .ok (.bipush 20, 2) := by decide +kernel
theorem dX7_init_7 : decode cX7_init 7 = .ok (.newarray .int, 2) := by decide +kernel
theorem dX7_init_9 : decode cX7_init 9 = .ok (.putfield 9, 3) := by decide +kernel
theorem dX7_init_12 : decode cX7_init 12 = .ok (.aload_n 0, 1) := by decide +kernel
theorem dX7_init_13 : decode cX7_init 13 = .ok (.bipush 20, 2) := by decide +kernel
theorem dX7_init_15 : decode cX7_init 15 = .ok (.newarray .int, 2) := by decide +kernel
theorem dX7_init_17 : decode cX7_init 17 = .ok (.putfield 15, 3) := by decide +kernel
theorem dX7_init_20 : decode cX7_init 20 = .ok (.aload_n 0, 1) := by decide +kernel
theorem dX7_init_21 : decode cX7_init 21 = .ok (.iconst 0, 1) := by decide +kernel
theorem dX7_init_22 : decode cX7_init 22 = .ok (.putfield 18, 3) := by decide +kernel
theorem dX7_init_25 : decode cX7_init 25 = .ok (.return_, 1) := by decide +kernel
theorem dX7_add_0 : decode cX7_add 0 = .ok (.aload_n 0, 1) := by decide +kernel
theorem dX7_add_1 : decode cX7_add 1 = .ok (.getfield 18, 3) := by decide +kernel
theorem dX7_add_4 : decode cX7_add 4 = .ok (.bipush 20, 2) := by decide +kernel
theorem dX7_add_6 : decode cX7_add 6 = .ok (.if_icmp .lt 5, 3) := by decide +kernel
theorem dX7_add_9 : decode cX7_add 9 = .ok (.iconst (-1), 1) := by decide +kernel
theorem dX7_add_10 : decode cX7_add 10 = .ok (.ireturn, 1) := by decide +kernel
theorem dX7_add_11 : decode cX7_add 11 = .ok (.aload_n 0, 1) := by decide +kernel
theorem dX7_add_12 : decode cX7_add 12 = .ok (.getfield 9, 3) := by decide +kernel
theorem dX7_add_15 : decode cX7_add 15 = .ok (.aload_n 0, 1) := by decide +kernel
theorem dX7_add_16 : decode cX7_add 16 = .ok (.getfield 18, 3) := by decide +kernel
theorem dX7_add_19 : decode cX7_add 19 = .ok (.iload_n 1, 1) := by decide +kernel
theorem dX7_add_20 : decode cX7_add 20 = .ok (.iastore, 1) := by decide +kernel
theorem dX7_add_21 : decode cX7_add 21 = .ok (.aload_n 0, 1) := by decide +kernel
theorem dX7_add_22 : decode cX7_add 22 = .ok (.getfield 15, 3) := by decide +kernel
theorem dX7_add_25 : decode cX7_add 25 = .ok (.aload_n 0, 1) := by decide +kernel
theorem dX7_add_26 : decode cX7_add 26 = .ok (.getfield 18, 3) := by decide +kernel
theorem dX7_add_29 : decode cX7_add 29 = .ok (.iload_n 2, 1) := by decide +kernel
theorem dX7_add_30 : decode cX7_add 30 = .ok (.iastore, 1) := by decide +kernel
theorem dX7_add_31 : decode cX7_add 31 = .ok (.aload_n 0, 1) := by decide +kernel
theorem dX7_add_32 : decode cX7_add 32 = .ok (.dup, 1) := by decide +kernel
theorem dX7_add_33 : decode cX7_add 33 = .ok (.getfield 18, 3) := by decide +kernel
theorem dX7_add_36 : decode cX7_add 36 = .ok (.dup_x1, 1) := by decide +kernel
theorem dX7_add_37 : decode cX7_add 37 = .ok (.iconst 1, 1) := by decide +kernel
theorem dX7_add_38 : decode cX7_add 38 = .ok (.iadd, 1) := by decide +kernel
theorem dX7_add_39 : decode cX7_add 39 = .ok (.putfield 18, 3) := by decide +kernel
theorem dX7_add_42 : decode cX7_add 42 = .ok (.ireturn, 1) := by decide +kernel
theorem dX8_init_0 : decode cX8_init 0 = .ok (.aload_n 0, 1) := by decide +kernel
theorem dX8_init_1 : decode cX8_init 1 = .ok (.invokespecial 3, 3) := by decide +kernel
theorem dX8_init_4 : decode cX8_init 4 = .ok (.aload_n 0, 1) := by decide +kernel
theorem dX8_init_5 : decode cX8_init 5 = .ok (.bipush 120, 2) := by decide +kernel
theorem dX8_init_7 : decode cX8_init 7 = .ok (.newarray .int, 2) := by decide +kernel
theorem dX8_init_9 : decode cX8_init 9 = .ok (.putfield 9, 3) := by decide +kernel
theorem dX8_init_12 : decode cX8_init 12 = .ok (.aload_n 0, 1) := by decide +kernel
theorem dX8_init_13 : decode cX8_init 13 = .ok (.iconst 0, 1) := by decide +kernel
theorem dX8_init_14 : decode cX8_init 14 = .ok (.putfield 15, 3) := by decide +kernel
theorem dX8_init_17 : decode cX8_init 17 = .ok (.return_, 1) := by decide +kernel
theorem dX8_bytesIn_0 : decode cX8_bytesIn 0 = .ok (.iconst 0, 1) := by decide +kernel
theorem dX8_bytesIn_1 : decode cX8_bytesIn 1 = .ok (.istore_n 1, 1) := by decide +kernel
theorem dX8_bytesIn_2 : decode cX8_bytesIn 2 = .ok (.bipush 24, 2) := by decide +kernel
theorem dX8_bytesIn_4 : decode cX8_bytesIn 4 = .ok (.istore_n 2, 1) := by decide +kernel
theorem dX8_bytesIn_5 : decode cX8_bytesIn 5 = .ok (.iload_n 2, 1) := by decide +kernel
theorem dX8_bytesIn_6 : decode cX8_bytesIn 6 = .ok (.ifCond .lt 22, 3) := by decide +kernel
theorem dX8_bytesIn_9 : decode cX8_bytesIn 9 = .ok (.iload_n 0, 1) := by decide +kernel
theorem dX8_bytesIn_10 : decode cX8_bytesIn 10 = .ok (.iload_n 2, 1) := by decide +kernel
theorem dX8_bytesIn_11 : decode cX8_bytesIn 11 = .ok (.iushr, 1) := by decide +kernel
theorem dX8_bytesIn_12 : decode cX8_bytesIn 12 = .ok (.sipush 255, 3) := by decide +kernel
theorem dX8_bytesIn_15 : decode cX8_bytesIn 15 = .ok (.iand, 1) := by decide +kernel
theorem dX8_bytesIn_16 : decode cX8_bytesIn 16 = .ok (.ifCond .eq 6, 3) := by decide +kernel
theorem dX8_bytesIn_19 : decode cX8_bytesIn 19 = .ok (.iinc 1 1, 3) := by decide +kernel
theorem dX8_bytesIn_22 : decode cX8_bytesIn 22 = .ok (.iinc 2 (-8), 3) := by decide +kernel
theorem dX8_bytesIn_25 : decode cX8_bytesIn 25 = .ok (.goto (-20), 3) := by decide +kernel
theorem dX8_bytesIn_28 : decode cX8_bytesIn 28 = .ok (.iload_n 1, 1) := by decide +kernel
theorem dX8_bytesIn_29 : decode cX8_bytesIn 29 = .ok (.ireturn, 1) := by decide +kernel
theorem dX8_append_0 : decode cX8_append 0 = .ok (.bipush 24, 2) := by decide +kernel
theorem dX8_append_2 : decode cX8_append 2 = .ok (.istore_n 2, 1) := by decide +kernel
theorem dX8_append_3 : decode cX8_append 3 = .ok (.iload_n 2, 1) := by decide +kernel
theorem dX8_append_4 : decode cX8_append 4 = .ok (.ifCond .lt 50, 3) := by decide +kernel
theorem dX8_append_7 : decode cX8_append 7 = .ok (.iload_n 1, 1) := by decide +kernel
theorem dX8_append_8 : decode cX8_append 8 = .ok (.iload_n 2, 1) := by decide +kernel
theorem dX8_append_9 : decode cX8_append 9 = .ok (.iushr, 1) := by decide +kernel
theorem dX8_append_10 : decode cX8_append 10 = .ok (.sipush 255, 3) := by decide +kernel
theorem dX8_append_13 : decode cX8_append 13 = .ok (.iand, 1) := by decide +kernel
theorem dX8_append_14 : decode cX8_append 14 = .ok (.istore_n 3, 1) := by decide +kernel
theorem dX8_append_15 : decode cX8_append 15 = .ok (.iload_n 3, 1) := by decide +kernel
theorem dX8_append_16 : decode cX8_append 16 = .ok (.ifCond .eq 32, 3) := by decide +kernel
theorem dX8_append_19 : decode cX8_append 19 = .ok (.aload_n 0, 1) := by decide +kernel
theorem dX8_append_20 : decode cX8_append 20 = .ok (.getfield 15, 3) := by decide +kernel
theorem dX8_append_23 : decode cX8_append 23 = .ok (.bipush 120, 2) := by decide +kernel
theorem dX8_append_25 : decode cX8_append 25 = .ok (.if_icmp .ge 23, 3) := by decide +kernel
theorem dX8_append_28 : decode cX8_append 28 = .ok (.aload_n 0, 1) := by decide +kernel
theorem dX8_append_29 : decode cX8_append 29 = .ok (.getfield 9, 3) := by decide +kernel
theorem dX8_append_32 : decode cX8_append 32 = .ok (.aload_n 0, 1) := by decide +kernel
theorem dX8_append_33 : decode cX8_append 33 = .ok (.getfield 15, 3) := by decide +kernel
theorem dX8_append_36 : decode cX8_append 36 = .ok (.iload_n 3, 1) := by decide +kernel
theorem dX8_append_37 : decode cX8_append 37 = .ok (.iastore, 1) := by decide +kernel
theorem dX8_append_38 : decode cX8_append 38 = .ok (.aload_n 0, 1) := by decide +kernel
theorem dX8_append_39 : decode cX8_append 39 = .ok (.dup, 1) := by decide +kernel
theorem dX8_append_40 : decode cX8_append 40 = .ok (.getfield 15, 3) := by decide +kernel
theorem dX8_append_43 : decode cX8_append 43 = .ok (.iconst 1, 1) := by decide +kernel
theorem dX8_append_44 : decode cX8_append 44 = .ok (.iadd, 1) := by decide +kernel
theorem dX8_append_45 : decode cX8_append 45 = .ok (.putfield 15, 3) := by decide +kernel
theorem dX8_append_48 : decode cX8_append 48 = .ok (.iinc 2 (-8), 3) := by decide +kernel
theorem dX8_append_51 : decode cX8_append 51 = .ok (.goto (-48), 3) := by decide +kernel
theorem dX8_append_54 : decode cX8_append 54 = .ok (.return_, 1) := by decide +kernel
set_option maxRecDepth 20000 in
theorem ggX8_firstFault_X8_isDigit : GoodIn wsX8_firstFault wsX8_isDigit := goodIn_r _ [6] (by decide +kernel) (by decide +kernel)
set_option maxRecDepth 20000 in
theorem gX8_firstFault_X8_isDigit : GoodIn wsX8_firstFault (va_wsS RX8 19 yX8_isDigit wsX8_isDigit) := goodIn_app (goodIn_of _ (by decide +kernel)) ggX8_firstFault_X8_isDigit
set_option maxRecDepth 20000 in
theorem ggX8_firstFault_X8_fits : GoodIn wsX8_firstFault wsX8_fits := goodIn_r _ [9] (by decide +kernel) (by decide +kernel)
set_option maxRecDepth 20000 in
theorem gX8_firstFault_X8_fits : GoodIn wsX8_firstFault (va_wsS RX8 23 yX8_fits wsX8_fits) := goodIn_app (goodIn_of _ (by decide +kernel)) ggX8_firstFault_X8_fits
end
section
theorem dX8_firstFault_0 : decode cX8_firstFault 0 = .ok (.iconst 1, 1) := by decide +kernel
theorem dX8_firstFault_1 : decode cX8_firstFault 1 = .ok (.istore_n 1, 1) := by decide +kernel
theorem dX8_firstFault_2 : decode cX8_firstFault 2 = .ok (.iconst 0, 1) := by decide +kernel
theorem dX8_firstFault_3 : decode cX8_firstFault 3 = .ok (.istore_n 2, 1) := by decide +kernel
theorem dX8_firstFault_4 : decode cX8_firstFault 4 = .ok (.iconst 0, 1) := by decide +kernel
theorem dX8_firstFault_5 : decode cX8_firstFault 5 = .ok (.istore_n 3, 1) := by decide +kernel
theorem dX8_firstFault_6 : decode cX8_firstFault 6 = .ok (.iconst 0, 1) := by decide +kernel
theorem dX8_firstFault_7 : decode cX8_firstFault 7 = .ok (.istore 4, 2) := by decide +kernel
theorem dX8_firstFault_9 : decode cX8_firstFault 9 = .ok (.iload 4, 2) := by decide +kernel
theorem dX8_firstFault_11 : decode cX8_firstFault 11 = .ok (.aload_n 0, 1) := by decide +kernel
theorem dX8_firstFault_12 : decode cX8_firstFault 12 = .ok (.getfield 15, 3) := by decide +kernel
theorem dX8_firstFault_15 : decode cX8_firstFault 15 = .ok (.if_icmp .ge 111, 3) := by decide +kernel
theorem dX8_firstFault_18 : decode cX8_firstFault 18 = .ok (.aload_n 0, 1) := by decide +kernel
theorem dX8_firstFault_19 : decode cX8_firstFault 19 = .ok (.getfield 9, 3) := by decide +kernel
theorem dX8_firstFault_22 : decode cX8_firstFault 22 = .ok (.iload 4, 2) := by decide +kernel
theorem dX8_firstFault_24 : decode cX8_firstFault 24 = .ok (.iaload, 1) := by decide +kernel
theorem dX8_firstFault_25 : decode cX8_firstFault 25 = .ok (.istore 5, 2) := by decide +kernel
theorem dX8_firstFault_27 : decode cX8_firstFault 27 = .ok (.iload 5, 2) := by decide +kernel
theorem dX8_firstFault_29 : decode cX8_firstFault 29 = .ok (.invokestatic 19, 3) := by decide +kernel
theorem dX8_firstFault_32 : decode cX8_firstFault 32 = .ok (.ifCond .eq 27, 3) := by decide +kernel
theorem dX8_firstFault_35 : decode cX8_firstFault 35 = .ok (.iload_n 1, 1) := by decide +kernel
theorem dX8_firstFault_36 : decode cX8_firstFault 36 = .ok (.ifCond .ne 15, 3) := by decide +kernel
theorem dX8_firstFault_39 : decode cX8_firstFault 39 = .ok (.iload_n 3, 1) := by decide +kernel
theorem dX8_firstFault_40 : decode cX8_firstFault 40 = .ok (.ifCond .eq 8, 3) := by decide +kernel
theorem dX8_firstFault_43 : decode cX8_firstFault 43 = .ok (.iload_n 3, 1) := by decide +kernel
theorem dX8_firstFault_44 : decode cX8_firstFault 44 = .ok (.iconst 5, 1) := by decide +kernel
theorem dX8_firstFault_45 : decode cX8_firstFault 45 = .ok (.if_icmp .ne 6, 3) := by decide +kernel
theorem dX8_firstFault_48 : decode cX8_firstFault 48 = .ok (.iload 4, 2) := by decide +kernel
theorem dX8_firstFault_50 : decode cX8_firstFault 50 = .ok (.ireturn, 1) := by decide +kernel
theorem dX8_firstFault_51 : decode cX8_firstFault 51 = .ok (.iinc 3 1, 3) := by decide +kernel
theorem dX8_firstFault_54 : decode cX8_firstFault 54 = .ok (.iconst 0, 1) := by decide +kernel
theorem dX8_firstFault_55 : decode cX8_firstFault 55 = .ok (.istore_n 1, 1) := by decide +kernel
theorem dX8_firstFault_56 : decode cX8_firstFault 56 = .ok (.goto 64, 3) := by decide +kernel
theorem dX8_firstFault_59 : decode cX8_firstFault 59 = .ok (.iconst 0, 1) := by decide +kernel
theorem dX8_firstFault_60 : decode cX8_firstFault 60 = .ok (.istore_n 3, 1) := by decide +kernel
theorem dX8_firstFault_61 : decode cX8_firstFault 61 = .ok (.iload 5, 2) := by decide +kernel
theorem dX8_firstFault_63 : decode cX8_firstFault 63 = .ok (.bipush 32, 2) := by decide +kernel
theorem dX8_firstFault_65 : decode cX8_firstFault 65 = .ok (.if_icmp .ne 6, 3) := by decide +kernel
theorem dX8_firstFault_68 : decode cX8_firstFault 68 = .ok (.goto 52, 3) := by decide +kernel
theorem dX8_firstFault_71 : decode cX8_firstFault 71 = .ok (.iload 5, 2) := by decide +kernel
theorem dX8_firstFault_73 : decode cX8_firstFault 73 = .ok (.iload_n 1, 1) := by decide +kernel
theorem dX8_firstFault_74 : decode cX8_firstFault 74 = .ok (.iload_n 2, 1) := by decide +kernel
theorem dX8_firstFault_75 : decode cX8_firstFault 75 = .ok (.invokestatic 23, 3) := by decide +kernel
theorem dX8_firstFault_78 : decode cX8_firstFault 78 = .ok (.ifCond .ne 6, 3) := by decide +kernel
theorem dX8_firstFault_81 : decode cX8_firstFault 81 = .ok (.iload 4, 2) := by decide +kernel
theorem dX8_firstFault_83 : decode cX8_firstFault 83 = .ok (.ireturn, 1) := by decide +kernel
theorem dX8_firstFault_84 : decode cX8_firstFault 84 = .ok (.iload 5, 2) := by decide +kernel
theorem dX8_firstFault_86 : decode cX8_firstFault 86 = .ok (.bipush 40, 2) := by decide +kernel
theorem dX8_firstFault_88 : decode cX8_firstFault 88 = .ok (.if_icmp .ne 9, 3) := by decide +kernel
theorem dX8_firstFault_91 : decode cX8_firstFault 91 = .ok (.iinc 2 1, 3) := by decide +kernel
theorem dX8_firstFault_94 : decode cX8_firstFault 94 = .ok (.goto 26, 3) := by decide +kernel
theorem dX8_firstFault_97 : decode cX8_firstFault 97 = .ok (.iload 5, 2) := by decide +kernel
theorem dX8_firstFault_99 : decode cX8_firstFault 99 = .ok (.bipush 41, 2) := by decide +kernel
theorem dX8_firstFault_101 : decode cX8_firstFault 101 = .ok (.if_icmp .ne 9, 3) := by decide +kernel
theorem dX8_firstFault_104 : decode cX8_firstFault 104 = .ok (.iinc 2 (-1), 3) := by decide +kernel
theorem dX8_firstFault_107 : decode cX8_firstFault 107 = .ok (.goto 13, 3) := by decide +kernel
theorem dX8_firstFault_110 : decode cX8_firstFault 110 = .ok (.iload_n 1, 1) := by decide +kernel
theorem dX8_firstFault_111 : decode cX8_firstFault 111 = .ok (.ifCond .ne 7, 3) := by decide +kernel
theorem dX8_firstFault_114 : decode cX8_firstFault 114 = .ok (.iconst 1, 1) := by decide +kernel
theorem dX8_firstFault_115 : decode cX8_firstFault 115 = .ok (.goto 4, 3) := by decide +kernel
theorem dX8_firstFault_118 : decode cX8_firstFault 118 = .ok (.iconst 0, 1) := by decide +kernel
theorem dX8_firstFault_119 : decode cX8_firstFault 119 = .ok (.istore_n 1, 1) := by decide +kernel
theorem dX8_firstFault_120 : decode cX8_firstFault 120 = .ok (.iinc 4 1, 3) := by decide +kernel
theorem dX8_firstFault_123 : decode cX8_firstFault 123 = .ok (.goto (-114), 3) := by decide +kernel
theorem dX8_firstFault_126 : decode cX8_firstFault 126 = .ok (.iload_n 1, 1) := by decide +kernel
theorem dX8_firstFault_127 : decode cX8_firstFault 127 = .ok (.ifCond .ne 7, 3) := by decide +kernel
theorem dX8_firstFault_130 : decode cX8_firstFault 130 = .ok (.iload_n 2, 1) := by decide +kernel
theorem dX8_firstFault_131 : decode cX8_firstFault 131 = .ok (.ifCond .le 10, 3) := by decide +kernel
theorem dX8_firstFault_134 : decode cX8_firstFault 134 = .ok (.aload_n 0, 1) := by decide +kernel
theorem dX8_firstFault_135 : decode cX8_firstFault 135 = .ok (.getfield 15, 3) := by decide +kernel
theorem dX8_firstFault_138 : decode cX8_firstFault 138 = .ok (.goto 4, 3) := by decide +kernel
theorem dX8_firstFault_141 : decode cX8_firstFault 141 = .ok (.iconst (-1), 1) := by decide +kernel
theorem dX8_firstFault_142 : decode cX8_firstFault 142 = .ok (.ireturn, 1) := by decide +kernel
theorem dX8_fits_0 : decode cX8_fits 0 = .ok (.iload_n 0, 1) := by decide +kernel
theorem dX8_fits_1 : decode cX8_fits 1 = .ok (.lookupswitch 117 #[(40, 77), (41, 93), (42, 107), (43, 107), (45, 107), (47, 107), (100, 75), (108, 75)], 75) := by decide +kernel
theorem dX8_fits_76 : decode cX8_fits 76 = .ok (.iload_n 1, 1) := by decide +kernel
theorem dX8_fits_77 : decode cX8_fits 77 = .ok (.ireturn, 1) := by decide +kernel
theorem dX8_fits_78 : decode cX8_fits 78 = .ok (.iload_n 1, 1) := by decide +kernel
theorem dX8_fits_79 : decode cX8_fits 79 = .ok (.ifCond .eq 13, 3) := by decide +kernel
theorem dX8_fits_82 : decode cX8_fits 82 = .ok (.iload_n 2, 1) := by decide +kernel
theorem dX8_fits_83 : decode cX8_fits 83 = .ok (.bipush 8, 2) := by decide +kernel
theorem dX8_fits_85 : decode cX8_fits 85 = .ok (.if_icmp .ge 7, 3) := by decide +kernel
theorem dX8_fits_88 : decode cX8_fits 88 = .ok (.iconst 1, 1) := by decide +kernel
theorem dX8_fits_89 : decode cX8_fits 89 = .ok (.goto 4, 3) := by decide +kernel
theorem dX8_fits_92 : decode cX8_fits 92 = .ok (.iconst 0, 1) := by decide +kernel
theorem dX8_fits_93 : decode cX8_fits 93 = .ok (.ireturn, 1) := by decide +kernel
theorem dX8_fits_94 : decode cX8_fits 94 = .ok (.iload_n 1, 1) := by decide +kernel
theorem dX8_fits_95 : decode cX8_fits 95 = .ok (.ifCond .ne 11, 3) := by decide +kernel
theorem dX8_fits_98 : decode cX8_fits 98 = .ok (.iload_n 2, 1) := by decide +kernel
theorem dX8_fits_99 : decode cX8_fits 99 = .ok (.ifCond .le 7, 3) := by decide +kernel
theorem dX8_fits_102 : decode cX8_fits 102 = .ok (.iconst 1, 1) := by decide +kernel
theorem dX8_fits_103 : decode cX8_fits 103 = .ok (.goto 4, 3) := by decide +kernel
theorem dX8_fits_106 : decode cX8_fits 106 = .ok (.iconst 0, 1) := by decide +kernel
theorem dX8_fits_107 : decode cX8_fits 107 = .ok (.ireturn, 1) := by decide +kernel
theorem dX8_fits_108 : decode cX8_fits 108 = .ok (.iload_n 1, 1) := by decide +kernel
theorem dX8_fits_109 : decode cX8_fits 109 = .ok (.ifCond .ne 7, 3) := by decide +kernel
theorem dX8_fits_112 : decode cX8_fits 112 = .ok (.iconst 1, 1) := by decide +kernel
theorem dX8_fits_113 : decode cX8_fits 113 = .ok (.goto 4, 3) := by decide +kernel
theorem dX8_fits_116 : decode cX8_fits 116 = .ok (.iconst 0, 1) := by decide +kernel
theorem dX8_fits_117 : decode cX8_fits 117 = .ok (.ireturn, 1) := by decide +kernel
theorem dX8_fits_118 : decode cX8_fits 118 = .ok (.iconst 0, 1) := by decide +kernel
theorem dX8_fits_119 : decode cX8_fits 119 = .ok (.ireturn, 1) := by decide +kernel
set_option maxRecDepth 20000 in
theorem ggX8_tokens_X8_isDigit : GoodIn wsX8_tokens wsX8_isDigit := goodIn_r _ [7] (by decide +kernel) (by decide +kernel)
set_option maxRecDepth 20000 in
theorem gX8_tokens_X8_isDigit : GoodIn wsX8_tokens (va_wsS RX8 19 yX8_isDigit wsX8_isDigit) := goodIn_app (goodIn_of _ (by decide +kernel)) ggX8_tokens_X8_isDigit
set_option maxRecDepth 20000 in
theorem ggX8_tokens_J7_copyOf_59c91 : GoodIn wsX8_tokens wsJ7_copyOf_59c91 := goodIn_r _ [11, 12, 13, 14, 15, 16, 17, 2, 18, 19, 20, 21, 22, 23, 24, 25] (by decide +kernel) (by decide +kernel)
set_option maxRecDepth 20000 in
theorem gX8_tokens_J7_copyOf_59c91 : GoodIn wsX8_tokens (va_wsS RX8 27 yJ7_copyOf_59c91 wsJ7_copyOf_59c91) := goodIn_app (goodIn_of _ (by decide +kernel)) ggX8_tokens_J7_copyOf_59c91
theorem dX8_tokens_0 : decode cX8_tokens 0 = .ok (.aload_n 0, 1) := by decide +kernel
theorem dX8_tokens_1 : decode cX8_tokens 1 = .ok (.getfield 15, 3) := by decide +kernel
theorem dX8_tokens_4 : decode cX8_tokens 4 = .ok (.newarray .int, 2) := by decide +kernel
theorem dX8_tokens_6 : decode cX8_tokens 6 = .ok (.astore_n 1, 1) := by decide +kernel
theorem dX8_tokens_7 : decode cX8_tokens 7 = .ok (.iconst 0, 1) := by decide +kernel
theorem dX8_tokens_8 : decode cX8_tokens 8 = .ok (.istore_n 2, 1) := by decide +kernel
theorem dX8_tokens_9 : decode cX8_tokens 9 = .ok (.iconst 0, 1) := by decide +kernel
theorem dX8_tokens_10 : decode cX8_tokens 10 = .ok (.istore_n 3, 1) := by decide +kernel
theorem dX8_tokens_11 : decode cX8_tokens 11 = .ok (.iconst 0, 1) := by decide +kernel
theorem dX8_tokens_12 : decode cX8_tokens 12 = .ok (.istore 4, 2) := by decide +kernel
theorem dX8_tokens_14 : decode cX8_tokens 14 = .ok (.iload 4, 2) := by decide +kernel
theorem dX8_tokens_16 : decode cX8_tokens 16 = .ok (.aload_n 0, 1) := by decide +kernel
theorem dX8_tokens_17 : decode cX8_tokens 17 = .ok (.getfield 15, 3) := by decide +kernel
theorem dX8_tokens_20 : decode cX8_tokens 20 = .ok (.if_icmp .ge 90, 3) := by decide +kernel
theorem dX8_tokens_23 : decode cX8_tokens 23 = .ok (.aload_n 0, 1) := by decide +kernel
theorem dX8_tokens_24 : decode cX8_tokens 24 = .ok (.getfield 9, 3) := by decide +kernel
theorem dX8_tokens_27 : decode cX8_tokens 27 = .ok (.iload 4, 2) := by decide +kernel
theorem dX8_tokens_29 : decode cX8_tokens 29 = .ok (.iaload, 1) := by decide +kernel
theorem dX8_tokens_30 : decode cX8_tokens 30 = .ok (.istore 5, 2) := by decide +kernel
theorem dX8_tokens_32 : decode cX8_tokens 32 = .ok (.iload 5, 2) := by decide +kernel
theorem dX8_tokens_34 : decode cX8_tokens 34 = .ok (.invokestatic 19, 3) := by decide +kernel
theorem dX8_tokens_37 : decode cX8_tokens 37 = .ok (.ifCond .ne 24, 3) := by decide +kernel
theorem dX8_tokens_40 : decode cX8_tokens 40 = .ok (.iconst 0, 1) := by decide +kernel
theorem dX8_tokens_41 : decode cX8_tokens 41 = .ok (.istore_n 3, 1) := by decide +kernel
theorem dX8_tokens_42 : decode cX8_tokens 42 = .ok (.iload 5, 2) := by decide +kernel
theorem dX8_tokens_44 : decode cX8_tokens 44 = .ok (.bipush 32, 2) := by decide +kernel
theorem dX8_tokens_46 : decode cX8_tokens 46 = .ok (.if_icmp .eq 58, 3) := by decide +kernel
theorem dX8_tokens_49 : decode cX8_tokens 49 = .ok (.aload_n 1, 1) := by decide +kernel
theorem dX8_tokens_50 : decode cX8_tokens 50 = .ok (.iload_n 2, 1) := by decide +kernel
theorem dX8_tokens_51 : decode cX8_tokens 51 = .ok (.iload 5, 2) := by decide +kernel
theorem dX8_tokens_53 : decode cX8_tokens 53 = .ok (.ineg, 1) := by decide +kernel
theorem dX8_tokens_54 : decode cX8_tokens 54 = .ok (.iastore, 1) := by decide +kernel
theorem dX8_tokens_55 : decode cX8_tokens 55 = .ok (.iinc 2 1, 3) := by decide +kernel
theorem dX8_tokens_58 : decode cX8_tokens 58 = .ok (.goto 46, 3) := by decide +kernel
theorem dX8_tokens_61 : decode cX8_tokens 61 = .ok (.iload_n 3, 1) := by decide +kernel
theorem dX8_tokens_62 : decode cX8_tokens 62 = .ok (.ifCond .eq 29, 3) := by decide +kernel
theorem dX8_tokens_65 : decode cX8_tokens 65 = .ok (.iload_n 2, 1) := by decide +kernel
theorem dX8_tokens_66 : decode cX8_tokens 66 = .ok (.ifCond .le 25, 3) := by decide +kernel
theorem dX8_tokens_69 : decode cX8_tokens 69 = .ok (.aload_n 1, 1) := by decide +kernel
theorem dX8_tokens_70 : decode cX8_tokens 70 = .ok (.iload_n 2, 1) := by decide +kernel
theorem dX8_tokens_71 : decode cX8_tokens 71 = .ok (.iconst 1, 1) := by decide +kernel
theorem dX8_tokens_72 : decode cX8_tokens 72 = .ok (.isub, 1) := by decide +kernel
theorem dX8_tokens_73 : decode cX8_tokens 73 = .ok (.aload_n 1, 1) := by decide +kernel
theorem dX8_tokens_74 : decode cX8_tokens 74 = .ok (.iload_n 2, 1) := by decide +kernel
theorem dX8_tokens_75 : decode cX8_tokens 75 = .ok (.iconst 1, 1) := by decide +kernel
theorem dX8_tokens_76 : decode cX8_tokens 76 = .ok (.isub, 1) := by decide +kernel
theorem dX8_tokens_77 : decode cX8_tokens 77 = .ok (.iaload, 1) := by decide +kernel
theorem dX8_tokens_78 : decode cX8_tokens 78 = .ok (.bipush 10, 2) := by decide +kernel
theorem dX8_tokens_80 : decode cX8_tokens 80 = .ok (.imul, 1) := by decide +kernel
theorem dX8_tokens_81 : decode cX8_tokens 81 = .ok (.iload 5, 2) := by decide +kernel
theorem dX8_tokens_83 : decode cX8_tokens 83 = .ok (.iadd, 1) := by decide +kernel
theorem dX8_tokens_84 : decode cX8_tokens 84 = .ok (.bipush 48, 2) := by decide +kernel
theorem dX8_tokens_86 : decode cX8_tokens 86 = .ok (.isub, 1) := by decide +kernel
theorem dX8_tokens_87 : decode cX8_tokens 87 = .ok (.iastore, 1) := by decide +kernel
theorem dX8_tokens_88 : decode cX8_tokens 88 = .ok (.goto 16, 3) := by decide +kernel
theorem dX8_tokens_91 : decode cX8_tokens 91 = .ok (.aload_n 1, 1) := by decide +kernel
theorem dX8_tokens_92 : decode cX8_tokens 92 = .ok (.iload_n 2, 1) := by decide +kernel
theorem dX8_tokens_93 : decode cX8_tokens 93 = .ok (.iload 5, 2) := by decide +kernel
theorem dX8_tokens_95 : decode cX8_tokens 95 = .ok (.bipush 48, 2) := by decide +kernel
theorem dX8_tokens_97 : decode cX8_tokens 97 = .ok (.isub, 1) := by decide +kernel
theorem dX8_tokens_98 : decode cX8_tokens 98 = .ok (.iastore, 1) := by decide +kernel
theorem dX8_tokens_99 : decode cX8_tokens 99 = .ok (.iinc 2 1, 3) := by decide +kernel
theorem dX8_tokens_102 : decode cX8_tokens 102 = .ok (.iconst 1, 1) := by decide +kernel
theorem dX8_tokens_103 : decode cX8_tokens 103 = .ok (.istore_n 3, 1) := by decide +kernel
theorem dX8_tokens_104 : decode cX8_tokens 104 = .ok (.iinc 4 1, 3) := by decide +kernel
theorem dX8_tokens_107 : decode cX8_tokens 107 = .ok (.goto (-93), 3) := by decide +kernel
theorem dX8_tokens_110 : decode cX8_tokens 110 = .ok (.aload_n 1, 1) := by decide +kernel
theorem dX8_tokens_111 : decode cX8_tokens 111 = .ok (.iload_n 2, 1) := by decide +kernel
theorem dX8_tokens_112 : decode cX8_tokens 112 = .ok (.invokestatic 27, 3) := by decide +kernel
theorem dX8_tokens_115 : decode cX8_tokens 115 = .ok (.areturn, 1) := by decide +kernel
theorem dX8_isDigit_0 : decode cX8_isDigit 0 = .ok (.iload_n 0, 1) := by decide +kernel
theorem dX8_isDigit_1 : decode cX8_isDigit 1 = .ok (.bipush 48, 2) := by decide +kernel
theorem dX8_isDigit_3 : decode cX8_isDigit 3 = .ok (.if_icmp .lt 13, 3) := by decide +kernel
theorem dX8_isDigit_6 : decode cX8_isDigit 6 = .ok (.iload_n 0, 1) := by decide +kernel
theorem dX8_isDigit_7 : decode cX8_isDigit 7 = .ok (.bipush 57, 2) := by decide +kernel
theorem dX8_isDigit_9 : decode cX8_isDigit 9 = .ok (.if_icmp .gt 7, 3) := by decide +kernel
theorem dX8_isDigit_12 : decode cX8_isDigit 12 = .ok (.iconst 1, 1) := by decide +kernel
theorem dX8_isDigit_13 : decode cX8_isDigit 13 = .ok (.goto 4, 3) := by decide +kernel
theorem dX8_isDigit_16 : decode cX8_isDigit 16 = .ok (.iconst 0, 1) := by decide +kernel
theorem dX8_isDigit_17 : decode cX8_isDigit 17 = .ok (.ireturn, 1) := by decide +kernel
set_option maxRecDepth 20000 in
theorem ggX9_init_X8_init : GoodIn wsX9_init wsX8_init := goodIn_r _ [40, 41, 2, 3, 19, 42, 43, 103, 104] (by decide +kernel) (by decide +kernel)
set_option maxRecDepth 20000 in
theorem gX9_init_X8_init_n9 : GoodIn wsX9_init (wsX8_init) := ggX9_init_X8_init
set_option maxRecDepth 20000 in
theorem ggX9_init_X5_init : GoodIn wsX9_init wsX5_init := goodIn_r _ [45, 46, 2, 3, 47, 48, 49, 19, 50, 51, 52, 119, 120, 121, 122, 123] (by decide +kernel) (by decide +kernel)
set_option maxRecDepth 20000 in
theorem gX9_init_X5_init_n18 : GoodIn wsX9_init (wsX5_init) := ggX9_init_X5_init
set_option maxRecDepth 20000 in
theorem ggX9_init_X6_init : GoodIn wsX9_init wsX6_init := goodIn_r _ [55, 56, 2, 3, 57, 19, 58, 59, 60, 124, 125, 126, 127] (by decide +kernel) (by decide +kernel)
set_option maxRecDepth 20000 in
theorem gX9_init_X6_init : GoodIn wsX9_init (wsX6_init) := ggX9_init_X6_init
set_option maxRecDepth 20000 in
theorem ggX9_init_X2_init : GoodIn wsX9_init wsX2_init := goodIn_r _ [62, 63, 2, 3, 19, 64, 65, 66, 67, 68, 128, 129, 130, 131, 132] (by decide +kernel) (by decide +kernel)
set_option maxRecDepth 20000 in
theorem gX9_init_X2_init_n59 : GoodIn wsX9_init (wsX2_init) := ggX9_init_X2_init
set_option maxRecDepth 20000 in
theorem ggX9_init_X4_init : GoodIn wsX9_init wsX4_init := goodIn_r _ [70, 71, 2, 3, 72, 73, 74, 75, 76, 19, 77, 78, 79, 80, 81, 82, 83, 84, 85, 86, 87, 88, 89, 90, 91, 148, 149, 150, 133, 134, 135, 136, 137, 138, 139, 140, 141, 142, 143] (by decide +kernel) (by decide +kernel)
set_option maxRecDepth 20000 in
theorem gX9_init_X4_init_n66 : GoodIn wsX9_init (wsX4_init) := ggX9_init_X4_init
set_option maxRecDepth 20000 in
theorem ggX9_init_X0_init : GoodIn wsX9_init wsX0_init := goodIn_r _ [93, 94, 2, 3, 95, 96, 97, 98, 144, 145, 146, 147] (by decide +kernel) (by decide +kernel)
set_option maxRecDepth 20000 in
theorem gX9_init_X0_init_n73 : GoodIn wsX9_init (wsX0_init) := ggX9_init_X0_init
set_option maxRecDepth 20000 in
theorem ggX9_init_J7_fill_53178 : GoodIn wsX9_init wsJ7_fill_53178 := goodIn_r _ [102] (by decide +kernel) (by decide +kernel)
set_option maxRecDepth 20000 in
theorem gX9_init_J7_fill_53178 : GoodIn wsX9_init (va_wsS RX9 85 yJ7_fill_53178 wsJ7_fill_53178) := goodIn_app (goodIn_of _ (by decide +kernel)) ggX9_init_J7_fill_53178
theorem dX9_init_0 : decode cX9_init 0 = .ok (.aload_n 0, 1) := by decide +kernel
theorem dX9_init_1 : decode cX9_init 1 = .ok (.invokespecial 1, 3) := by decide +kernel
theorem dX9_init_4 : decode cX9_init 4 = .ok (.aload_n 0, 1) := by decide +kernel
theorem dX9_init_5 : decode cX9_init 5 = .ok (.new 7, 3) := by decide +kernel
theorem dX9_init_8 : decode cX9_init 8 = .ok (.dup, 1) := by decide +kernel
theorem dX9_init_9 : decode cX9_init 9 = .ok (.invokespecial 9, 3) := by decide +kernel
theorem dX9_init_12 : decode cX9_init 12 = .ok (.putfield 10, 3) := by decide +kernel
theorem dX9_init_15 : decode cX9_init 15 = .ok (.aload_n 0, 1) := by decide +kernel
theorem dX9_init_16 : decode cX9_init 16 = .ok (.new 16, 3) := by decide +kernel
theorem dX9_init_19 : decode cX9_init 19 = .ok (.dup, 1) := by decide +kernel
theorem dX9_init_20 : decode cX9_init 20 = .ok (.invokespecial 18, 3) := by decide +kernel
theorem dX9_init_23 : decode cX9_init 23 = .ok (.putfield 19, 3) := by decide +kernel
theorem dX9_init_26 : decode cX9_init 26 = .ok (.aload_n 0, 1) := by decide +kernel
theorem dX9_init_27 : decode cX9_init 27 = .ok (.new 23, 3) := by decide +kernel
theorem dX9_init_30 : decode cX9_init 30 = .ok (.dup, 1) := by decide +kernel
theorem dX9_init_31 : decode cX9_init 31 = .ok (.bipush 20, 2) := by decide +kernel
theorem dX9_init_33 : decode cX9_init 33 = .ok (.invokespecial 25, 3) := by decide +kernel
theorem dX9_init_36 : decode cX9_init 36 = .ok (.putfield 28, 3) := by decide +kernel
theorem dX9_init_39 : decode cX9_init 39 = .ok (.aload_n 0, 1) := by decide +kernel
theorem dX9_init_40 : decode cX9_init 40 = .ok (.bipush 20, 2) := by decide +kernel
theorem dX9_init_42 : decode cX9_init 42 = .ok (.anewarray 32, 3) := by decide +kernel
theorem dX9_init_45 : decode cX9_init 45 = .ok (.putfield 34, 3) := by decide +kernel
theorem dX9_init_48 : decode cX9_init 48 = .ok (.aload_n 0, 1) := by decide +kernel
theorem dX9_init_49 : decode cX9_init 49 = .ok (.new 23, 3) := by decide +kernel
theorem dX9_init_52 : decode cX9_init 52 = .ok (.dup, 1) := by decide +kernel
theorem dX9_init_53 : decode cX9_init 53 = .ok (.bipush 60, 2) := by decide +kernel
theorem dX9_init_55 : decode cX9_init 55 = .ok (.invokespecial 25, 3) := by decide +kernel
theorem dX9_init_58 : decode cX9_init 58 = .ok (.putfield 38, 3) := by decide +kernel
theorem dX9_init_61 : decode cX9_init 61 = .ok (.aload_n 0, 1) := by decide +kernel
theorem dX9_init_62 : decode cX9_init 62 = .ok (.bipush 60, 2) := by decide +kernel
theorem dX9_init_64 : decode cX9_init 64 = .ok (.newarray .int, 2) := by decide +kernel
theorem dX9_init_66 : decode cX9_init 66 = .ok (.putfield 41, 3) := by decide +kernel
theorem dX9_init_69 : decode cX9_init 69 = .ok (.aload_n 0, 1) := by decide +kernel
theorem dX9_init_70 : decode cX9_init 70 = .ok (.bipush 100, 2) := by decide +kernel
theorem dX9_init_72 : decode cX9_init 72 = .ok (.anewarray 45, 3) := by decide +kernel
theorem dX9_init_75 : decode cX9_init 75 = .ok (.putfield 47, 3) := by decide +kernel
theorem dX9_init_78 : decode cX9_init 78 = .ok (.aload_n 0, 1) := by decide +kernel
theorem dX9_init_79 : decode cX9_init 79 = .ok (.bipush 6, 2) := by decide +kernel
theorem dX9_init_81 : decode cX9_init 81 = .ok (.newarray .int, 2) := by decide +kernel
theorem dX9_init_83 : decode cX9_init 83 = .ok (.putfield 51, 3) := by decide +kernel
theorem dX9_init_86 : decode cX9_init 86 = .ok (.aload_n 0, 1) := by decide +kernel
theorem dX9_init_87 : decode cX9_init 87 = .ok (.bipush 100, 2) := by decide +kernel
theorem dX9_init_89 : decode cX9_init 89 = .ok (.newarray .int, 2) := by decide +kernel
theorem dX9_init_91 : decode cX9_init 91 = .ok (.putfield 54, 3) := by decide +kernel
theorem dX9_init_94 : decode cX9_init 94 = .ok (.aload_n 0, 1) := by decide +kernel
theorem dX9_init_95 : decode cX9_init 95 = .ok (.new 57, 3) := by decide +kernel
theorem dX9_init_98 : decode cX9_init 98 = .ok (.dup, 1) := by decide +kernel
theorem dX9_init_99 : decode cX9_init 99 = .ok (.invokespecial 59, 3) := by decide +kernel
theorem dX9_init_102 : decode cX9_init 102 = .ok (.putfield 60, 3) := by decide +kernel
theorem dX9_init_105 : decode cX9_init 105 = .ok (.aload_n 0, 1) := by decide +kernel
theorem dX9_init_106 : decode cX9_init 106 = .ok (.new 64, 3) := by decide +kernel
theorem dX9_init_109 : decode cX9_init 109 = .ok (.dup, 1) := by decide +kernel
theorem dX9_init_110 : decode cX9_init 110 = .ok (.invokespecial 66, 3) := by decide +kernel
theorem dX9_init_113 : decode cX9_init 113 = .ok (.putfield 67, 3) := by decide +kernel
theorem dX9_init_116 : decode cX9_init 116 = .ok (.aload_n 0, 1) := by decide +kernel
theorem dX9_init_117 : decode cX9_init 117 = .ok (.new 71, 3) := by decide +kernel
theorem dX9_init_120 : decode cX9_init 120 = .ok (.dup, 1) := by decide +kernel
theorem dX9_init_121 : decode cX9_init 121 = .ok (.invokespecial 73, 3) := by decide +kernel
theorem dX9_init_124 : decode cX9_init 124 = .ok (.putfield 74, 3) := by decide +kernel
theorem dX9_init_127 : decode cX9_init 127 = .ok (.aload_n 0, 1) := by decide +kernel
theorem dX9_init_128 : decode cX9_init 128 = .ok (.iconst 0, 1) := by decide +kernel
theorem dX9_init_129 : decode cX9_init 129 = .ok (.putfield 78, 3) := by decide +kernel
theorem dX9_init_132 : decode cX9_init 132 = .ok (.aload_n 0, 1) := by decide +kernel
theorem dX9_init_133 : decode cX9_init 133 = .ok (.iconst 0, 1) := by decide +kernel
theorem dX9_init_134 : decode cX9_init 134 = .ok (.putfield 82, 3) := by decide +kernel
theorem dX9_init_137 : decode cX9_init 137 = .ok (.aload_n 0, 1) := by decide +kernel
theorem dX9_init_138 : decode cX9_init 138 = .ok (.getfield 51, 3) := by decide +kernel
theorem dX9_init_141 : decode cX9_init 141 = .ok (.iconst 1, 1) := by decide +kernel
theorem dX9_init_142 : decode cX9_init 142 = .ok (.invokestatic 85, 3) := by decide +kernel
theorem dX9_init_145 : decode cX9_init 145 = .ok (.return_, 1) := by decide +kernel
set_option maxRecDepth 20000 in
theorem ggX9_feed_X8_bytesIn : GoodIn wsX9_feed wsX8_bytesIn := goodIn_r _ [5] (by decide +kernel) (by decide +kernel)
set_option maxRecDepth 20000 in
theorem gX9_feed_X8_bytesIn : GoodIn wsX9_feed (va_wsS RX9 91 yX8_bytesIn wsX8_bytesIn) := goodIn_app (goodIn_of _ (by decide +kernel)) ggX9_feed_X8_bytesIn
set_option maxRecDepth 20000 in
theorem ggX9_feed_X8_append : GoodIn wsX9_feed wsX8_append := goodIn_r _ [9, 10, 11, 26, 27] (by decide +kernel) (by decide +kernel)
set_option maxRecDepth 20000 in
theorem gX9_feed_X8_append : GoodIn wsX9_feed (wsV RX9 98 RX8 yX8_append wsX8_append) := goodIn_app (goodIn_of _ (by decide +kernel)) ggX9_feed_X8_append
theorem dX9_feed_0 : decode cX9_feed 0 = .ok (.iload_n 1, 1) := by decide +kernel
theorem dX9_feed_1 : decode cX9_feed 1 = .ok (.invokestatic 91, 3) := by decide +kernel
theorem dX9_feed_4 : decode cX9_feed 4 = .ok (.iload_n 2, 1) := by decide +kernel
theorem dX9_feed_5 : decode cX9_feed 5 = .ok (.invokestatic 91, 3) := by decide +kernel
theorem dX9_feed_8 : decode cX9_feed 8 = .ok (.iadd, 1) := by decide +kernel
theorem dX9_feed_9 : decode cX9_feed 9 = .ok (.iload_n 3, 1) := by decide +kernel
theorem dX9_feed_10 : decode cX9_feed 10 = .ok (.invokestatic 91, 3) := by decide +kernel
theorem dX9_feed_13 : decode cX9_feed 13 = .ok (.iadd, 1) := by decide +kernel
theorem dX9_feed_14 : decode cX9_feed 14 = .ok (.iload 4, 2) := by decide +kernel
theorem dX9_feed_16 : decode cX9_feed 16 = .ok (.invokestatic 91, 3) := by decide +kernel
theorem dX9_feed_19 : decode cX9_feed 19 = .ok (.iadd, 1) := by decide +kernel
theorem dX9_feed_20 : decode cX9_feed 20 = .ok (.iload 5, 2) := by decide +kernel
theorem dX9_feed_22 : decode cX9_feed 22 = .ok (.invokestatic 91, 3) := by decide +kernel
theorem dX9_feed_25 : decode cX9_feed 25 = .ok (.iadd, 1) := by decide +kernel
theorem dX9_feed_26 : decode cX9_feed 26 = .ok (.istore 6, 2) := by decide +kernel
theorem dX9_feed_28 : decode cX9_feed 28 = .ok (.aload_n 0, 1) := by decide +kernel
theorem dX9_feed_29 : decode cX9_feed 29 = .ok (.getfield 10, 3) := by decide +kernel
theorem dX9_feed_32 : decode cX9_feed 32 = .ok (.getfield 95, 3) := by decide +kernel
theorem dX9_feed_35 : decode cX9_feed 35 = .ok (.iload 6, 2) := by decide +kernel
theorem dX9_feed_37 : decode cX9_feed 37 = .ok (.iadd, 1) := by decide +kernel
theorem dX9_feed_38 : decode cX9_feed 38 = .ok (.bipush 120, 2) := by decide +kernel
theorem dX9_feed_40 : decode cX9_feed 40 = .ok (.if_icmp .le 5, 3) := by decide +kernel
theorem dX9_feed_43 : decode cX9_feed 43 = .ok (.iconst (-1), 1) := by decide +kernel
theorem dX9_feed_44 : decode cX9_feed 44 = .ok (.ireturn, 1) := by decide +kernel
theorem dX9_feed_45 : decode cX9_feed 45 = .ok (.aload_n 0, 1) := by decide +kernel
theorem dX9_feed_46 : decode cX9_feed 46 = .ok (.getfield 10, 3) := by decide +kernel
theorem dX9_feed_49 : decode cX9_feed 49 = .ok (.iload_n 1, 1) := by decide +kernel
theorem dX9_feed_50 : decode cX9_feed 50 = .ok (.invokevirtual 98, 3) := by decide +kernel
theorem dX9_feed_53 : decode cX9_feed 53 = .ok (.aload_n 0, 1) := by decide +kernel
theorem dX9_feed_54 : decode cX9_feed 54 = .ok (.getfield 10, 3) := by decide +kernel
theorem dX9_feed_57 : decode cX9_feed 57 = .ok (.iload_n 2, 1) := by decide +kernel
theorem dX9_feed_58 : decode cX9_feed 58 = .ok (.invokevirtual 98, 3) := by decide +kernel
theorem dX9_feed_61 : decode cX9_feed 61 = .ok (.aload_n 0, 1) := by decide +kernel
theorem dX9_feed_62 : decode cX9_feed 62 = .ok (.getfield 10, 3) := by decide +kernel
theorem dX9_feed_65 : decode cX9_feed 65 = .ok (.iload_n 3, 1) := by decide +kernel
theorem dX9_feed_66 : decode cX9_feed 66 = .ok (.invokevirtual 98, 3) := by decide +kernel
theorem dX9_feed_69 : decode cX9_feed 69 = .ok (.aload_n 0, 1) := by decide +kernel
theorem dX9_feed_70 : decode cX9_feed 70 = .ok (.getfield 10, 3) := by decide +kernel
theorem dX9_feed_73 : decode cX9_feed 73 = .ok (.iload 4, 2) := by decide +kernel
theorem dX9_feed_75 : decode cX9_feed 75 = .ok (.invokevirtual 98, 3) := by decide +kernel
theorem dX9_feed_78 : decode cX9_feed 78 = .ok (.aload_n 0, 1) := by decide +kernel
theorem dX9_feed_79 : decode cX9_feed 79 = .ok (.getfield 10, 3) := by decide +kernel
theorem dX9_feed_82 : decode cX9_feed 82 = .ok (.iload 5, 2) := by decide +kernel
theorem dX9_feed_84 : decode cX9_feed 84 = .ok (.invokevirtual 98, 3) := by decide +kernel
theorem dX9_feed_87 : decode cX9_feed 87 = .ok (.aload_n 0, 1) := by decide +kernel
theorem dX9_feed_88 : decode cX9_feed 88 = .ok (.getfield 10, 3) := by decide +kernel
theorem dX9_feed_91 : decode cX9_feed 91 = .ok (.getfield 95, 3) := by decide +kernel
theorem dX9_feed_94 : decode cX9_feed 94 = .ok (.ireturn, 1) := by decide +kernel
set_option maxRecDepth 20000 in
theorem ggX9_end_X9_within : GoodIn wsX9_end wsX9_within := goodIn_r _ [5] (by decide +kernel) (by decide +kernel)
set_option maxRecDepth 20000 in
theorem gX9_end_X9_within : GoodIn wsX9_end (va_wsS RX9 101 yX9_within wsX9_within) := goodIn_app (goodIn_of _ (by decide +kernel)) ggX9_end_X9_within
theorem dX9_end_0 : decode cX9_end 0 = .ok (.iload_n 1, 1) := by decide +kernel
theorem dX9_end_1 : decode cX9_end 1 = .ok (.iconst 0, 1) := by decide +kernel
theorem dX9_end_2 : decode cX9_end 2 = .ok (.aload_n 0, 1) := by decide +kernel
theorem dX9_end_3 : decode cX9_end 3 = .ok (.getfield 10, 3) := by decide +kernel
theorem dX9_end_6 : decode cX9_end 6 = .ok (.getfield 95, 3) := by decide +kernel
theorem dX9_end_9 : decode cX9_end 9 = .ok (.invokestatic 101, 3) := by decide +kernel
theorem dX9_end_12 : decode cX9_end 12 = .ok (.ifCond .ne 5, 3) := by decide +kernel
theorem dX9_end_15 : decode cX9_end 15 = .ok (.iconst 0, 1) := by decide +kernel
theorem dX9_end_16 : decode cX9_end 16 = .ok (.ireturn, 1) := by decide +kernel
theorem dX9_end_17 : decode cX9_end 17 = .ok (.aload_n 0, 1) := by decide +kernel
theorem dX9_end_18 : decode cX9_end 18 = .ok (.getfield 10, 3) := by decide +kernel
theorem dX9_end_21 : decode cX9_end 21 = .ok (.iload_n 1, 1) := by decide +kernel
theorem dX9_end_22 : decode cX9_end 22 = .ok (.putfield 95, 3) := by decide +kernel
theorem dX9_end_25 : decode cX9_end 25 = .ok (.iconst 1, 1) := by decide +kernel
theorem dX9_end_26 : decode cX9_end 26 = .ok (.ireturn, 1) := by decide +kernel
set_option maxRecDepth 20000 in
theorem ggX9_fault_X8_firstFault : GoodIn wsX9_fault wsX8_firstFault := goodIn_r _ [6, 7, 8, 9, 10, 5, 11, 12, 13, 14, 29, 30] (by decide +kernel) (by decide +kernel)
set_option maxRecDepth 20000 in
theorem gX9_fault_X8_firstFault : GoodIn wsX9_fault (wsV RX9 105 RX8 yX8_firstFault wsX8_firstFault) := goodIn_app (goodIn_of _ (by decide +kernel)) ggX9_fault_X8_firstFault
theorem dX9_fault_0 : decode cX9_fault 0 = .ok (.aload_n 0, 1) := by decide +kernel
theorem dX9_fault_1 : decode cX9_fault 1 = .ok (.getfield 10, 3) := by decide +kernel
theorem dX9_fault_4 : decode cX9_fault 4 = .ok (.invokevirtual 105, 3) := by decide +kernel
theorem dX9_fault_7 : decode cX9_fault 7 = .ok (.ireturn, 1) := by decide +kernel
set_option maxRecDepth 20000 in
theorem ggX9_law_X9_isDay : GoodIn wsX9_law wsX9_isDay := goodIn_r _ [11, 12, 13, 10, 14] (by decide +kernel) (by decide +kernel)
set_option maxRecDepth 20000 in
theorem gX9_law_X9_isDay : GoodIn wsX9_law (va_wsS RX9 109 yX9_isDay wsX9_isDay) := goodIn_app (goodIn_of _ (by decide +kernel)) ggX9_law_X9_isDay
set_option maxRecDepth 20000 in
theorem ggX9_law_X6_isFull : GoodIn wsX9_law wsX6_isFull := goodIn_r _ [19, 20, 21, 88, 89, 90, 91] (by decide +kernel) (by decide +kernel)
set_option maxRecDepth 20000 in
theorem gX9_law_X6_isFull : GoodIn wsX9_law (wsV RX9 113 RX6 yX6_isFull wsX6_isFull) := goodIn_app (goodIn_of _ (by decide +kernel)) ggX9_law_X6_isFull
set_option maxRecDepth 20000 in
theorem ggX9_law_X8_firstFault : GoodIn wsX9_law wsX8_firstFault := goodIn_r _ [26, 27, 28, 29, 30, 25, 31, 32, 33, 34, 86, 87] (by decide +kernel) (by decide +kernel)
set_option maxRecDepth 20000 in
theorem gX9_law_X8_firstFault : GoodIn wsX9_law (wsV RX9 105 RX8 yX8_firstFault wsX8_firstFault) := goodIn_app (goodIn_of _ (by decide +kernel)) ggX9_law_X8_firstFault
set_option maxRecDepth 20000 in
theorem ggX9_law_X6_enter : GoodIn wsX9_law wsX6_enter := goodIn_r _ [38, 21, 20, 39, 40, 88, 89, 90, 91] (by decide +kernel) (by decide +kernel)
set_option maxRecDepth 20000 in
theorem gX9_law_X6_enter : GoodIn wsX9_law (wsV RX9 117 RX6 yX6_enter wsX6_enter) := goodIn_app (goodIn_of _ (by decide +kernel)) ggX9_law_X6_enter
set_option maxRecDepth 20000 in
theorem ggX9_law_X8_tokens : GoodIn wsX9_law wsX8_tokens := goodIn_r _ [44, 27, 45, 28, 29, 30, 25, 31, 46, 47, 48, 49, 50, 51, 52, 53, 54, 55, 56, 57, 58, 59, 60, 61, 62, 63, 86, 87] (by decide +kernel) (by decide +kernel)
set_option maxRecDepth 20000 in
theorem gX9_law_X8_tokens : GoodIn wsX9_law (wsV RX9 121 RX8 yX8_tokens wsX8_tokens) := goodIn_app (goodIn_of _ (by decide +kernel)) ggX9_law_X8_tokens
set_option maxRecDepth 20000 in
theorem ggX9_law_X1_init : GoodIn wsX9_law wsX1_init := goodIn_r _ [66, 67, 68, 69, 70, 85] (by decide +kernel) (by decide +kernel)
set_option maxRecDepth 20000 in
theorem gX9_law_X1_init : GoodIn wsX9_law (wsX1_init) := ggX9_law_X1_init
theorem dX9_law_0 : decode cX9_law 0 = .ok (.iload_n 1, 1) := by decide +kernel
theorem dX9_law_1 : decode cX9_law 1 = .ok (.invokestatic 109, 3) := by decide +kernel
theorem dX9_law_4 : decode cX9_law 4 = .ok (.ifCond .eq 24, 3) := by decide +kernel
theorem dX9_law_7 : decode cX9_law 7 = .ok (.aload_n 0, 1) := by decide +kernel
theorem dX9_law_8 : decode cX9_law 8 = .ok (.getfield 28, 3) := by decide +kernel
theorem dX9_law_11 : decode cX9_law 11 = .ok (.invokevirtual 113, 3) := by decide +kernel
theorem dX9_law_14 : decode cX9_law 14 = .ok (.ifCond .ne 14, 3) := by decide +kernel
theorem dX9_law_17 : decode cX9_law 17 = .ok (.aload_n 0, 1) := by decide +kernel
theorem dX9_law_18 : decode cX9_law 18 = .ok (.getfield 10, 3) := by decide +kernel
theorem dX9_law_21 : decode cX9_law 21 = .ok (.invokevirtual 105, 3) := by decide +kernel
theorem dX9_law_24 : decode cX9_law 24 = .ok (.iconst (-1), 1) := by decide +kernel
theorem dX9_law_25 : decode cX9_law 25 = .ok (.if_icmp .eq 5, 3) := by decide +kernel
theorem dX9_law_28 : decode cX9_law 28 = .ok (.iconst (-1), 1) := by decide +kernel
theorem dX9_law_29 : decode cX9_law 29 = .ok (.ireturn, 1) := by decide +kernel
theorem dX9_law_30 : decode cX9_law 30 = .ok (.aload_n 0, 1) := by decide +kernel
theorem dX9_law_31 : decode cX9_law 31 = .ok (.getfield 28, 3) := by decide +kernel
theorem dX9_law_34 : decode cX9_law 34 = .ok (.iconst 0, 1) := by decide +kernel
theorem dX9_law_35 : decode cX9_law 35 = .ok (.iload_n 1, 1) := by decide +kernel
theorem dX9_law_36 : decode cX9_law 36 = .ok (.aload_n 0, 1) := by decide +kernel
theorem dX9_law_37 : decode cX9_law 37 = .ok (.getfield 82, 3) := by decide +kernel
theorem dX9_law_40 : decode cX9_law 40 = .ok (.invokevirtual 117, 3) := by decide +kernel
theorem dX9_law_43 : decode cX9_law 43 = .ok (.istore_n 2, 1) := by decide +kernel
theorem dX9_law_44 : decode cX9_law 44 = .ok (.aload_n 0, 1) := by decide +kernel
theorem dX9_law_45 : decode cX9_law 45 = .ok (.getfield 34, 3) := by decide +kernel
theorem dX9_law_48 : decode cX9_law 48 = .ok (.iload_n 2, 1) := by decide +kernel
theorem dX9_law_49 : decode cX9_law 49 = .ok (.new 32, 3) := by decide +kernel
theorem dX9_law_52 : decode cX9_law 52 = .ok (.dup, 1) := by decide +kernel
theorem dX9_law_53 : decode cX9_law 53 = .ok (.aload_n 0, 1) := by decide +kernel
theorem dX9_law_54 : decode cX9_law 54 = .ok (.getfield 10, 3) := by decide +kernel
theorem dX9_law_57 : decode cX9_law 57 = .ok (.invokevirtual 121, 3) := by decide +kernel
theorem dX9_law_60 : decode cX9_law 60 = .ok (.invokespecial 125, 3) := by decide +kernel
theorem dX9_law_63 : decode cX9_law 63 = .ok (.aastore, 1) := by decide +kernel
theorem dX9_law_64 : decode cX9_law 64 = .ok (.aload_n 0, 1) := by decide +kernel
theorem dX9_law_65 : decode cX9_law 65 = .ok (.getfield 10, 3) := by decide +kernel
theorem dX9_law_68 : decode cX9_law 68 = .ok (.iconst 0, 1) := by decide +kernel
theorem dX9_law_69 : decode cX9_law 69 = .ok (.putfield 95, 3) := by decide +kernel
theorem dX9_law_72 : decode cX9_law 72 = .ok (.iload_n 2, 1) := by decide +kernel
theorem dX9_law_73 : decode cX9_law 73 = .ok (.ireturn, 1) := by decide +kernel
set_option maxRecDepth 20000 in
theorem ggX9_value_X9_within : GoodIn wsX9_value wsX9_within := goodIn_r _ [9] (by decide +kernel) (by decide +kernel)
set_option maxRecDepth 20000 in
theorem gX9_value_X9_within : GoodIn wsX9_value (va_wsS RX9 101 yX9_within wsX9_within) := goodIn_app (goodIn_of _ (by decide +kernel)) ggX9_value_X9_within
set_option maxRecDepth 20000 in
theorem ggX9_value_X9_isSizeByLaw : GoodIn wsX9_value wsX9_isSizeByLaw := goodIn_r _ [12, 6, 7, 8, 9] (by decide +kernel) (by decide +kernel)
set_option maxRecDepth 20000 in
theorem gX9_value_X9_isSizeByLaw : GoodIn wsX9_value (va_wsS RX9 129 yX9_isSizeByLaw wsX9_isSizeByLaw) := goodIn_app (goodIn_of _ (by decide +kernel)) ggX9_value_X9_isSizeByLaw
set_option maxRecDepth 20000 in
theorem ggX9_value_X5_reckon : GoodIn wsX9_value wsX5_reckon := goodIn_r _ [17, 18, 19, 20, 21, 22, 23, 24, 16, 25, 26, 27, 28, 29, 30, 31, 32, 33, 34, 35, 36, 37, 38, 39, 40, 41, 42, 43, 44, 45, 46, 47, 67, 68, 69, 70, 71] (by decide +kernel) (by decide +kernel)
set_option maxRecDepth 20000 in
theorem gX9_value_X5_reckon : GoodIn wsX9_value (wsV RX9 137 RX5 yX5_reckon wsX5_reckon) := goodIn_app (goodIn_of _ (by decide +kernel)) ggX9_value_X5_reckon
theorem dX9_value_0 : decode cX9_value 0 = .ok (.iload_n 1, 1) := by decide +kernel
theorem dX9_value_1 : decode cX9_value 1 = .ok (.iconst 0, 1) := by decide +kernel
theorem dX9_value_2 : decode cX9_value 2 = .ok (.aload_n 0, 1) := by decide +kernel
theorem dX9_value_3 : decode cX9_value 3 = .ok (.getfield 28, 3) := by decide +kernel
theorem dX9_value_6 : decode cX9_value 6 = .ok (.getfield 128, 3) := by decide +kernel
theorem dX9_value_9 : decode cX9_value 9 = .ok (.iconst 1, 1) := by decide +kernel
theorem dX9_value_10 : decode cX9_value 10 = .ok (.isub, 1) := by decide +kernel
theorem dX9_value_11 : decode cX9_value 11 = .ok (.invokestatic 101, 3) := by decide +kernel
theorem dX9_value_14 : decode cX9_value 14 = .ok (.ifCond .eq 17, 3) := by decide +kernel
theorem dX9_value_17 : decode cX9_value 17 = .ok (.iload_n 2, 1) := by decide +kernel
theorem dX9_value_18 : decode cX9_value 18 = .ok (.invokestatic 129, 3) := by decide +kernel
theorem dX9_value_21 : decode cX9_value 21 = .ok (.ifCond .eq 10, 3) := by decide +kernel
theorem dX9_value_24 : decode cX9_value 24 = .ok (.iload_n 3, 1) := by decide +kernel
theorem dX9_value_25 : decode cX9_value 25 = .ok (.invokestatic 129, 3) := by decide +kernel
theorem dX9_value_28 : decode cX9_value 28 = .ok (.ifCond .ne 11, 3) := by decide +kernel
theorem dX9_value_31 : decode cX9_value 31 = .ok (.new 132, 3) := by decide +kernel
theorem dX9_value_34 : decode cX9_value 34 = .ok (.dup, 1) := by decide +kernel
theorem dX9_value_35 : decode cX9_value 35 = .ok (.invokespecial 134, 3) := by decide +kernel
theorem dX9_value_38 : decode cX9_value 38 = .ok (.athrow, 1) := by decide +kernel
theorem dX9_value_39 : decode cX9_value 39 = .ok (.aload_n 0, 1) := by decide +kernel
theorem dX9_value_40 : decode cX9_value 40 = .ok (.getfield 19, 3) := by decide +kernel
theorem dX9_value_43 : decode cX9_value 43 = .ok (.aload_n 0, 1) := by decide +kernel
theorem dX9_value_44 : decode cX9_value 44 = .ok (.getfield 34, 3) := by decide +kernel
theorem dX9_value_47 : decode cX9_value 47 = .ok (.iload_n 1, 1) := by decide +kernel
theorem dX9_value_48 : decode cX9_value 48 = .ok (.aaload, 1) := by decide +kernel
theorem dX9_value_49 : decode cX9_value 49 = .ok (.getfield 135, 3) := by decide +kernel
theorem dX9_value_52 : decode cX9_value 52 = .ok (.iload_n 2, 1) := by decide +kernel
theorem dX9_value_53 : decode cX9_value 53 = .ok (.iload_n 3, 1) := by decide +kernel
theorem dX9_value_54 : decode cX9_value 54 = .ok (.invokevirtual 137, 3) := by decide +kernel
theorem dX9_value_57 : decode cX9_value 57 = .ok (.lreturn, 1) := by decide +kernel
set_option maxRecDepth 20000 in
theorem ggX9_force_X9_isDay : GoodIn wsX9_force wsX9_isDay := goodIn_r _ [5, 6, 7, 4, 8] (by decide +kernel) (by decide +kernel)
set_option maxRecDepth 20000 in
theorem gX9_force_X9_isDay : GoodIn wsX9_force (va_wsS RX9 109 yX9_isDay wsX9_isDay) := goodIn_app (goodIn_of _ (by decide +kernel)) ggX9_force_X9_isDay
set_option maxRecDepth 20000 in
theorem ggX9_force_X9_isKnown : GoodIn wsX9_force wsX9_isKnown := goodIn_r _ [12, 13, 6, 7, 4, 8, 23, 24, 25, 26, 27, 28, 29, 30, 31, 32, 33, 34, 35, 36] (by decide +kernel) (by decide +kernel)
set_option maxRecDepth 20000 in
theorem gX9_force_X9_isKnown : GoodIn wsX9_force (wsV RX9 141 RX9 yX9_isKnown wsX9_isKnown) := goodIn_app (goodIn_of _ (by decide +kernel)) ggX9_force_X9_isKnown
set_option maxRecDepth 20000 in
theorem ggX9_force_X6_inForce : GoodIn wsX9_force wsX6_inForce := goodIn_r _ [18, 19, 20, 21, 22, 37, 38, 39, 40] (by decide +kernel) (by decide +kernel)
set_option maxRecDepth 20000 in
theorem gX9_force_X6_inForce : GoodIn wsX9_force (wsV RX9 144 RX6 yX6_inForce wsX6_inForce) := goodIn_app (goodIn_of _ (by decide +kernel)) ggX9_force_X6_inForce
theorem dX9_force_0 : decode cX9_force 0 = .ok (.iload_n 1, 1) := by decide +kernel
theorem dX9_force_1 : decode cX9_force 1 = .ok (.invokestatic 109, 3) := by decide +kernel
theorem dX9_force_4 : decode cX9_force 4 = .ok (.ifCond .eq 11, 3) := by decide +kernel
theorem dX9_force_7 : decode cX9_force 7 = .ok (.aload_n 0, 1) := by decide +kernel
theorem dX9_force_8 : decode cX9_force 8 = .ok (.iload_n 2, 1) := by decide +kernel
theorem dX9_force_9 : decode cX9_force 9 = .ok (.invokevirtual 141, 3) := by decide +kernel
theorem dX9_force_12 : decode cX9_force 12 = .ok (.ifCond .ne 5, 3) := by decide +kernel
theorem dX9_force_15 : decode cX9_force 15 = .ok (.iconst (-1), 1) := by decide +kernel
theorem dX9_force_16 : decode cX9_force 16 = .ok (.ireturn, 1) := by decide +kernel
theorem dX9_force_17 : decode cX9_force 17 = .ok (.aload_n 0, 1) := by decide +kernel
theorem dX9_force_18 : decode cX9_force 18 = .ok (.getfield 28, 3) := by decide +kernel
theorem dX9_force_21 : decode cX9_force 21 = .ok (.iconst 0, 1) := by decide +kernel
theorem dX9_force_22 : decode cX9_force 22 = .ok (.iload_n 1, 1) := by decide +kernel
theorem dX9_force_23 : decode cX9_force 23 = .ok (.iload_n 2, 1) := by decide +kernel
theorem dX9_force_24 : decode cX9_force 24 = .ok (.invokevirtual 144, 3) := by decide +kernel
theorem dX9_force_27 : decode cX9_force 27 = .ok (.ireturn, 1) := by decide +kernel
set_option maxRecDepth 20000 in
theorem ggX9_most_X9_isSizeByLaw : GoodIn wsX9_most wsX9_isSizeByLaw := goodIn_r _ [7, 8, 9, 6, 10] (by decide +kernel) (by decide +kernel)
set_option maxRecDepth 20000 in
theorem gX9_most_X9_isSizeByLaw : GoodIn wsX9_most (va_wsS RX9 129 yX9_isSizeByLaw wsX9_isSizeByLaw) := goodIn_app (goodIn_of _ (by decide +kernel)) ggX9_most_X9_isSizeByLaw
set_option maxRecDepth 20000 in
theorem ggX9_most_X5_reckon : GoodIn wsX9_most wsX5_reckon := goodIn_r _ [15, 16, 17, 18, 19, 20, 21, 22, 14, 23, 24, 25, 26, 27, 28, 29, 30, 31, 32, 33, 34, 35, 36, 37, 38, 39, 40, 41, 42, 43, 44, 45, 65, 66, 67, 68, 69] (by decide +kernel) (by decide +kernel)
set_option maxRecDepth 20000 in
theorem gX9_most_X5_reckon : GoodIn wsX9_most (wsV RX9 137 RX5 yX5_reckon wsX5_reckon) := goodIn_app (goodIn_of _ (by decide +kernel)) ggX9_most_X5_reckon
theorem dX9_most_0 : decode cX9_most 0 = .ok (.iload_n 1, 1) := by decide +kernel
theorem dX9_most_1 : decode cX9_most 1 = .ok (.invokestatic 129, 3) := by decide +kernel
theorem dX9_most_4 : decode cX9_most 4 = .ok (.ifCond .eq 10, 3) := by decide +kernel
theorem dX9_most_7 : decode cX9_most 7 = .ok (.iload_n 2, 1) := by decide +kernel
theorem dX9_most_8 : decode cX9_most 8 = .ok (.invokestatic 129, 3) := by decide +kernel
theorem dX9_most_11 : decode cX9_most 11 = .ok (.ifCond .ne 5, 3) := by decide +kernel
theorem dX9_most_14 : decode cX9_most 14 = .ok (.iconst (-1), 1) := by decide +kernel
theorem dX9_most_15 : decode cX9_most 15 = .ok (.ireturn, 1) := by decide +kernel
theorem dX9_most_16 : decode cX9_most 16 = .ok (.iconst (-1), 1) := by decide +kernel
theorem dX9_most_17 : decode cX9_most 17 = .ok (.istore_n 3, 1) := by decide +kernel
theorem dX9_most_18 : decode cX9_most 18 = .ok (.lconst 0, 1) := by decide +kernel
theorem dX9_most_19 : decode cX9_most 19 = .ok (.lstore 4, 2) := by decide +kernel
theorem dX9_most_21 : decode cX9_most 21 = .ok (.iconst 0, 1) := by decide +kernel
theorem dX9_most_22 : decode cX9_most 22 = .ok (.istore 6, 2) := by decide +kernel
theorem dX9_most_24 : decode cX9_most 24 = .ok (.iload 6, 2) := by decide +kernel
theorem dX9_most_26 : decode cX9_most 26 = .ok (.aload_n 0, 1) := by decide +kernel
theorem dX9_most_27 : decode cX9_most 27 = .ok (.getfield 28, 3) := by decide +kernel
theorem dX9_most_30 : decode cX9_most 30 = .ok (.getfield 128, 3) := by decide +kernel
theorem dX9_most_33 : decode cX9_most 33 = .ok (.if_icmp .ge 50, 3) := by decide +kernel
theorem dX9_most_36 : decode cX9_most 36 = .ok (.aload_n 0, 1) := by decide +kernel
theorem dX9_most_37 : decode cX9_most 37 = .ok (.getfield 19, 3) := by decide +kernel
theorem dX9_most_40 : decode cX9_most 40 = .ok (.aload_n 0, 1) := by decide +kernel
theorem dX9_most_41 : decode cX9_most 41 = .ok (.getfield 34, 3) := by decide +kernel
theorem dX9_most_44 : decode cX9_most 44 = .ok (.iload 6, 2) := by decide +kernel
theorem dX9_most_46 : decode cX9_most 46 = .ok (.aaload, 1) := by decide +kernel
theorem dX9_most_47 : decode cX9_most 47 = .ok (.getfield 135, 3) := by decide +kernel
theorem dX9_most_50 : decode cX9_most 50 = .ok (.iload_n 1, 1) := by decide +kernel
theorem dX9_most_51 : decode cX9_most 51 = .ok (.iload_n 2, 1) := by decide +kernel
theorem dX9_most_52 : decode cX9_most 52 = .ok (.invokevirtual 137, 3) := by decide +kernel
theorem dX9_most_55 : decode cX9_most 55 = .ok (.lstore 7, 2) := by decide +kernel
theorem dX9_most_57 : decode cX9_most 57 = .ok (.iload_n 3, 1) := by decide +kernel
theorem dX9_most_58 : decode cX9_most 58 = .ok (.iconst (-1), 1) := by decide +kernel
theorem dX9_most_59 : decode cX9_most 59 = .ok (.if_icmp .eq 11, 3) := by decide +kernel
theorem dX9_most_62 : decode cX9_most 62 = .ok (.lload 7, 2) := by decide +kernel
theorem dX9_most_64 : decode cX9_most 64 = .ok (.lload 4, 2) := by decide +kernel
theorem dX9_most_66 : decode cX9_most 66 = .ok (.lcmp, 1) := by decide +kernel
theorem dX9_most_67 : decode cX9_most 67 = .ok (.ifCond .le 10, 3) := by decide +kernel
theorem dX9_most_70 : decode cX9_most 70 = .ok (.iload 6, 2) := by decide +kernel
theorem dX9_most_72 : decode cX9_most 72 = .ok (.istore_n 3, 1) := by decide +kernel
theorem dX9_most_73 : decode cX9_most 73 = .ok (.lload 7, 2) := by decide +kernel
theorem dX9_most_75 : decode cX9_most 75 = .ok (.lstore 4, 2) := by decide +kernel
theorem dX9_most_77 : decode cX9_most 77 = .ok (.iinc 6 1, 3) := by decide +kernel
theorem dX9_most_80 : decode cX9_most 80 = .ok (.goto (-56), 3) := by decide +kernel
theorem dX9_most_83 : decode cX9_most 83 = .ok (.iload_n 3, 1) := by decide +kernel
theorem dX9_most_84 : decode cX9_most 84 = .ok (.ireturn, 1) := by decide +kernel
set_option maxRecDepth 20000 in
theorem ggX9_error_X9_isStick : GoodIn wsX9_error wsX9_isStick := goodIn_r _ [7, 8, 9, 6, 10] (by decide +kernel) (by decide +kernel)
set_option maxRecDepth 20000 in
theorem gX9_error_X9_isStick : GoodIn wsX9_error (va_wsS RX9 147 yX9_isStick wsX9_isStick) := goodIn_app (goodIn_of _ (by decide +kernel)) ggX9_error_X9_isStick
set_option maxRecDepth 20000 in
theorem ggX9_error_X9_within : GoodIn wsX9_error wsX9_within := goodIn_r _ [10] (by decide +kernel) (by decide +kernel)
set_option maxRecDepth 20000 in
theorem gX9_error_X9_within : GoodIn wsX9_error (va_wsS RX9 101 yX9_within wsX9_within) := goodIn_app (goodIn_of _ (by decide +kernel)) ggX9_error_X9_within
set_option maxRecDepth 20000 in
theorem ggX9_error_X9_isDay : GoodIn wsX9_error wsX9_isDay := goodIn_r _ [13, 8, 9, 6, 10] (by decide +kernel) (by decide +kernel)
set_option maxRecDepth 20000 in
theorem gX9_error_X9_isDay : GoodIn wsX9_error (va_wsS RX9 109 yX9_isDay wsX9_isDay) := goodIn_app (goodIn_of _ (by decide +kernel)) ggX9_error_X9_isDay
set_option maxRecDepth 20000 in
theorem ggX9_error_X6_isFull : GoodIn wsX9_error wsX6_isFull := goodIn_r _ [18, 19, 20, 41, 42, 43, 44] (by decide +kernel) (by decide +kernel)
set_option maxRecDepth 20000 in
theorem gX9_error_X6_isFull : GoodIn wsX9_error (wsV RX9 113 RX6 yX6_isFull wsX6_isFull) := goodIn_app (goodIn_of _ (by decide +kernel)) ggX9_error_X6_isFull
set_option maxRecDepth 20000 in
theorem ggX9_error_X6_enter : GoodIn wsX9_error wsX6_enter := goodIn_r _ [24, 20, 19, 25, 26, 41, 42, 43, 44] (by decide +kernel) (by decide +kernel)
set_option maxRecDepth 20000 in
theorem gX9_error_X6_enter : GoodIn wsX9_error (wsV RX9 117 RX6 yX6_enter wsX6_enter) := goodIn_app (goodIn_of _ (by decide +kernel)) ggX9_error_X6_enter
theorem dX9_error_0 : decode cX9_error 0 = .ok (.iload_n 1, 1) := by decide +kernel
theorem dX9_error_1 : decode cX9_error 1 = .ok (.invokestatic 147, 3) := by decide +kernel
theorem dX9_error_4 : decode cX9_error 4 = .ok (.ifCond .eq 33, 3) := by decide +kernel
theorem dX9_error_7 : decode cX9_error 7 = .ok (.iload_n 2, 1) := by decide +kernel
theorem dX9_error_8 : decode cX9_error 8 = .ok (.sipush (-200), 3) := by decide +kernel
theorem dX9_error_11 : decode cX9_error 11 = .ok (.sipush 200, 3) := by decide +kernel
theorem dX9_error_14 : decode cX9_error 14 = .ok (.invokestatic 101, 3) := by decide +kernel
theorem dX9_error_17 : decode cX9_error 17 = .ok (.ifCond .eq 20, 3) := by decide +kernel
theorem dX9_error_20 : decode cX9_error 20 = .ok (.iload_n 3, 1) := by decide +kernel
theorem dX9_error_21 : decode cX9_error 21 = .ok (.invokestatic 109, 3) := by decide +kernel
theorem dX9_error_24 : decode cX9_error 24 = .ok (.ifCond .eq 13, 3) := by decide +kernel
theorem dX9_error_27 : decode cX9_error 27 = .ok (.aload_n 0, 1) := by decide +kernel
theorem dX9_error_28 : decode cX9_error 28 = .ok (.getfield 38, 3) := by decide +kernel
theorem dX9_error_31 : decode cX9_error 31 = .ok (.invokevirtual 113, 3) := by decide +kernel
theorem dX9_error_34 : decode cX9_error 34 = .ok (.ifCond .eq 5, 3) := by decide +kernel
theorem dX9_error_37 : decode cX9_error 37 = .ok (.iconst 0, 1) := by decide +kernel
theorem dX9_error_38 : decode cX9_error 38 = .ok (.ireturn, 1) := by decide +kernel
theorem dX9_error_39 : decode cX9_error 39 = .ok (.aload_n 0, 1) := by decide +kernel
theorem dX9_error_40 : decode cX9_error 40 = .ok (.getfield 38, 3) := by decide +kernel
theorem dX9_error_43 : decode cX9_error 43 = .ok (.iload_n 1, 1) := by decide +kernel
theorem dX9_error_44 : decode cX9_error 44 = .ok (.iload_n 3, 1) := by decide +kernel
theorem dX9_error_45 : decode cX9_error 45 = .ok (.aload_n 0, 1) := by decide +kernel
theorem dX9_error_46 : decode cX9_error 46 = .ok (.getfield 82, 3) := by decide +kernel
theorem dX9_error_49 : decode cX9_error 49 = .ok (.invokevirtual 117, 3) := by decide +kernel
theorem dX9_error_52 : decode cX9_error 52 = .ok (.istore 4, 2) := by decide +kernel
theorem dX9_error_54 : decode cX9_error 54 = .ok (.aload_n 0, 1) := by decide +kernel
theorem dX9_error_55 : decode cX9_error 55 = .ok (.getfield 41, 3) := by decide +kernel
theorem dX9_error_58 : decode cX9_error 58 = .ok (.iload 4, 2) := by decide +kernel
theorem dX9_error_60 : decode cX9_error 60 = .ok (.iload_n 2, 1) := by decide +kernel
theorem dX9_error_61 : decode cX9_error 61 = .ok (.iastore, 1) := by decide +kernel
theorem dX9_error_62 : decode cX9_error 62 = .ok (.iconst 1, 1) := by decide +kernel
theorem dX9_error_63 : decode cX9_error 63 = .ok (.ireturn, 1) := by decide +kernel
set_option maxRecDepth 20000 in
theorem ggX9_log_X9_isOwner : GoodIn wsX9_log wsX9_isOwner := goodIn_r _ [10, 11, 12, 9, 13] (by decide +kernel) (by decide +kernel)
set_option maxRecDepth 20000 in
theorem gX9_log_X9_isOwner : GoodIn wsX9_log (va_wsS RX9 150 yX9_isOwner wsX9_isOwner) := goodIn_app (goodIn_of _ (by decide +kernel)) ggX9_log_X9_isOwner
set_option maxRecDepth 20000 in
theorem ggX9_log_X9_isStick : GoodIn wsX9_log wsX9_isStick := goodIn_r _ [16, 11, 12, 9, 13] (by decide +kernel) (by decide +kernel)
set_option maxRecDepth 20000 in
theorem gX9_log_X9_isStick : GoodIn wsX9_log (va_wsS RX9 147 yX9_isStick wsX9_isStick) := goodIn_app (goodIn_of _ (by decide +kernel)) ggX9_log_X9_isStick
set_option maxRecDepth 20000 in
theorem ggX9_log_X9_within : GoodIn wsX9_log wsX9_within := goodIn_r _ [13] (by decide +kernel) (by decide +kernel)
set_option maxRecDepth 20000 in
theorem gX9_log_X9_within : GoodIn wsX9_log (va_wsS RX9 101 yX9_within wsX9_within) := goodIn_app (goodIn_of _ (by decide +kernel)) ggX9_log_X9_within
set_option maxRecDepth 20000 in
theorem ggX9_log_X3_init : GoodIn wsX9_log wsX3_init := goodIn_r _ [19, 20, 21, 22, 23, 24, 25, 26, 27, 28, 29, 30, 31, 46, 47, 48, 49, 50, 51, 52, 53, 54] (by decide +kernel) (by decide +kernel)
set_option maxRecDepth 20000 in
theorem gX9_log_X3_init : GoodIn wsX9_log (wsX3_init) := ggX9_log_X3_init
theorem dX9_log_0 : decode cX9_log 0 = .ok (.iload_n 1, 1) := by decide +kernel
theorem dX9_log_1 : decode cX9_log 1 = .ok (.invokestatic 150, 3) := by decide +kernel
theorem dX9_log_4 : decode cX9_log 4 = .ok (.ifCond .eq 40, 3) := by decide +kernel
theorem dX9_log_7 : decode cX9_log 7 = .ok (.iload_n 2, 1) := by decide +kernel
theorem dX9_log_8 : decode cX9_log 8 = .ok (.invokestatic 147, 3) := by decide +kernel
theorem dX9_log_11 : decode cX9_log 11 = .ok (.ifCond .eq 33, 3) := by decide +kernel
theorem dX9_log_14 : decode cX9_log 14 = .ok (.iload_n 3, 1) := by decide +kernel
theorem dX9_log_15 : decode cX9_log 15 = .ok (.iconst 1, 1) := by decide +kernel
theorem dX9_log_16 : decode cX9_log 16 = .ok (.bipush 99, 2) := by decide +kernel
theorem dX9_log_18 : decode cX9_log 18 = .ok (.invokestatic 101, 3) := by decide +kernel
theorem dX9_log_21 : decode cX9_log 21 = .ok (.ifCond .eq 23, 3) := by decide +kernel
theorem dX9_log_24 : decode cX9_log 24 = .ok (.iload 4, 2) := by decide +kernel
theorem dX9_log_26 : decode cX9_log 26 = .ok (.iconst 1, 1) := by decide +kernel
theorem dX9_log_27 : decode cX9_log 27 = .ok (.bipush 60, 2) := by decide +kernel
theorem dX9_log_29 : decode cX9_log 29 = .ok (.invokestatic 101, 3) := by decide +kernel
theorem dX9_log_32 : decode cX9_log 32 = .ok (.ifCond .eq 12, 3) := by decide +kernel
theorem dX9_log_35 : decode cX9_log 35 = .ok (.aload_n 0, 1) := by decide +kernel
theorem dX9_log_36 : decode cX9_log 36 = .ok (.getfield 78, 3) := by decide +kernel
theorem dX9_log_39 : decode cX9_log 39 = .ok (.bipush 100, 2) := by decide +kernel
theorem dX9_log_41 : decode cX9_log 41 = .ok (.if_icmp .lt 5, 3) := by decide +kernel
theorem dX9_log_44 : decode cX9_log 44 = .ok (.iconst (-1), 1) := by decide +kernel
theorem dX9_log_45 : decode cX9_log 45 = .ok (.ireturn, 1) := by decide +kernel
theorem dX9_log_46 : decode cX9_log 46 = .ok (.aload_n 0, 1) := by decide +kernel
theorem dX9_log_47 : decode cX9_log 47 = .ok (.getfield 47, 3) := by decide +kernel
theorem dX9_log_50 : decode cX9_log 50 = .ok (.aload_n 0, 1) := by decide +kernel
theorem dX9_log_51 : decode cX9_log 51 = .ok (.getfield 78, 3) := by decide +kernel
theorem dX9_log_54 : decode cX9_log 54 = .ok (.new 45, 3) := by decide +kernel
theorem dX9_log_57 : decode cX9_log 57 = .ok (.dup, 1) := by decide +kernel
theorem dX9_log_58 : decode cX9_log 58 = .ok (.iload_n 1, 1) := by decide +kernel
theorem dX9_log_59 : decode cX9_log 59 = .ok (.iload_n 2, 1) := by decide +kernel
theorem dX9_log_60 : decode cX9_log 60 = .ok (.iload_n 3, 1) := by decide +kernel
theorem dX9_log_61 : decode cX9_log 61 = .ok (.iload 4, 2) := by decide +kernel
theorem dX9_log_63 : decode cX9_log 63 = .ok (.aload_n 0, 1) := by decide +kernel
theorem dX9_log_64 : decode cX9_log 64 = .ok (.getfield 82, 3) := by decide +kernel
theorem dX9_log_67 : decode cX9_log 67 = .ok (.invokespecial 153, 3) := by decide +kernel
theorem dX9_log_70 : decode cX9_log 70 = .ok (.aastore, 1) := by decide +kernel
theorem dX9_log_71 : decode cX9_log 71 = .ok (.aload_n 0, 1) := by decide +kernel
theorem dX9_log_72 : decode cX9_log 72 = .ok (.dup, 1) := by decide +kernel
theorem dX9_log_73 : decode cX9_log 73 = .ok (.getfield 78, 3) := by decide +kernel
theorem dX9_log_76 : decode cX9_log 76 = .ok (.dup_x1, 1) := by decide +kernel
theorem dX9_log_77 : decode cX9_log 77 = .ok (.iconst 1, 1) := by decide +kernel
theorem dX9_log_78 : decode cX9_log 78 = .ok (.iadd, 1) := by decide +kernel
theorem dX9_log_79 : decode cX9_log 79 = .ok (.putfield 78, 3) := by decide +kernel
theorem dX9_log_82 : decode cX9_log 82 = .ok (.ireturn, 1) := by decide +kernel
set_option maxRecDepth 20000 in
theorem ggX9_defects_X9_isLog : GoodIn wsX9_defects wsX9_isLog := goodIn_r _ [6, 7, 8, 9, 5, 10, 11, 12, 13, 14, 15, 16, 17, 18, 19, 20, 21, 22, 23, 24] (by decide +kernel) (by decide +kernel)
set_option maxRecDepth 20000 in
theorem gX9_defects_X9_isLog : GoodIn wsX9_defects (wsV RX9 156 RX9 yX9_isLog wsX9_isLog) := goodIn_app (goodIn_of _ (by decide +kernel)) ggX9_defects_X9_isLog
set_option maxRecDepth 20000 in
theorem ggX9_defects_X9_within : GoodIn wsX9_defects wsX9_within := goodIn_r _ [10] (by decide +kernel) (by decide +kernel)
set_option maxRecDepth 20000 in
theorem gX9_defects_X9_within : GoodIn wsX9_defects (va_wsS RX9 101 yX9_within wsX9_within) := goodIn_app (goodIn_of _ (by decide +kernel)) ggX9_defects_X9_within
theorem dX9_defects_0 : decode cX9_defects 0 = .ok (.aload_n 0, 1) := by decide +kernel
theorem dX9_defects_1 : decode cX9_defects 1 = .ok (.iload_n 1, 1) := by decide +kernel
theorem dX9_defects_2 : decode cX9_defects 2 = .ok (.invokevirtual 156, 3) := by decide +kernel
theorem dX9_defects_5 : decode cX9_defects 5 = .ok (.ifCond .eq 23, 3) := by decide +kernel
theorem dX9_defects_8 : decode cX9_defects 8 = .ok (.iload_n 2, 1) := by decide +kernel
theorem dX9_defects_9 : decode cX9_defects 9 = .ok (.iconst 0, 1) := by decide +kernel
theorem dX9_defects_10 : decode cX9_defects 10 = .ok (.bipush 99, 2) := by decide +kernel
theorem dX9_defects_12 : decode cX9_defects 12 = .ok (.invokestatic 101, 3) := by decide +kernel
theorem dX9_defects_15 : decode cX9_defects 15 = .ok (.ifCond .eq 13, 3) := by decide +kernel
theorem dX9_defects_18 : decode cX9_defects 18 = .ok (.iload_n 3, 1) := by decide +kernel
theorem dX9_defects_19 : decode cX9_defects 19 = .ok (.iconst 0, 1) := by decide +kernel
theorem dX9_defects_20 : decode cX9_defects 20 = .ok (.bipush 90, 2) := by decide +kernel
theorem dX9_defects_22 : decode cX9_defects 22 = .ok (.invokestatic 101, 3) := by decide +kernel
theorem dX9_defects_25 : decode cX9_defects 25 = .ok (.ifCond .ne 5, 3) := by decide +kernel
theorem dX9_defects_28 : decode cX9_defects 28 = .ok (.iconst 0, 1) := by decide +kernel
theorem dX9_defects_29 : decode cX9_defects 29 = .ok (.ireturn, 1) := by decide +kernel
theorem dX9_defects_30 : decode cX9_defects 30 = .ok (.aload_n 0, 1) := by decide +kernel
theorem dX9_defects_31 : decode cX9_defects 31 = .ok (.getfield 47, 3) := by decide +kernel
theorem dX9_defects_34 : decode cX9_defects 34 = .ok (.iload_n 1, 1) := by decide +kernel
theorem dX9_defects_35 : decode cX9_defects 35 = .ok (.aaload, 1) := by decide +kernel
theorem dX9_defects_36 : decode cX9_defects 36 = .ok (.iload_n 2, 1) := by decide +kernel
theorem dX9_defects_37 : decode cX9_defects 37 = .ok (.putfield 159, 3) := by decide +kernel
theorem dX9_defects_40 : decode cX9_defects 40 = .ok (.aload_n 0, 1) := by decide +kernel
theorem dX9_defects_41 : decode cX9_defects 41 = .ok (.getfield 47, 3) := by decide +kernel
theorem dX9_defects_44 : decode cX9_defects 44 = .ok (.iload_n 1, 1) := by decide +kernel
theorem dX9_defects_45 : decode cX9_defects 45 = .ok (.aaload, 1) := by decide +kernel
theorem dX9_defects_46 : decode cX9_defects 46 = .ok (.iload_n 3, 1) := by decide +kernel
theorem dX9_defects_47 : decode cX9_defects 47 = .ok (.putfield 162, 3) := by decide +kernel
theorem dX9_defects_50 : decode cX9_defects 50 = .ok (.iconst 1, 1) := by decide +kernel
theorem dX9_defects_51 : decode cX9_defects 51 = .ok (.ireturn, 1) := by decide +kernel
set_option maxRecDepth 20000 in
theorem ggX9_scale_X9_isLog : GoodIn wsX9_scale wsX9_isLog := goodIn_r _ [6, 7, 8, 9, 5, 10, 84, 85, 86, 87, 88, 89, 90, 91, 92, 93, 94, 95, 96, 97] (by decide +kernel) (by decide +kernel)
set_option maxRecDepth 20000 in
theorem gX9_scale_X9_isLog : GoodIn wsX9_scale (wsV RX9 156 RX9 yX9_isLog wsX9_isLog) := goodIn_app (goodIn_of _ (by decide +kernel)) ggX9_scale_X9_isLog
set_option maxRecDepth 20000 in
theorem ggX9_scale_X9_isKnown : GoodIn wsX9_scale wsX9_isKnown := goodIn_r _ [14, 15, 8, 9, 5, 10, 84, 85, 86, 87, 88, 89, 90, 91, 92, 93, 94, 95, 96, 97] (by decide +kernel) (by decide +kernel)
set_option maxRecDepth 20000 in
theorem gX9_scale_X9_isKnown : GoodIn wsX9_scale (wsV RX9 141 RX9 yX9_isKnown wsX9_isKnown) := goodIn_app (goodIn_of _ (by decide +kernel)) ggX9_scale_X9_isKnown
set_option maxRecDepth 20000 in
theorem ggX9_scale_X9_scaleOf : GoodIn wsX9_scale wsX9_scaleOf := goodIn_r _ [19, 20, 21, 22, 23, 24, 25, 26, 27, 28, 29, 30, 31, 32, 33, 34, 35, 36, 37, 38, 39, 40, 41, 42, 5, 43, 44, 45, 46, 47, 48, 49, 50, 51, 52, 53, 54, 55, 56, 57, 58, 59, 60, 61, 62, 63, 64, 65, 66, 67, 68, 69, 70, 71, 72, 73, 74, 75, 76, 77, 78, 79, 80, 81, 82, 83, 98, 99, 100, 101, 102, 103, 104, 105, 106, 84, 85, 86, 87, 88, 89, 90, 91, 92, 93, 94, 95, 96, 97, 107, 108, 109, 110, 111, 112, 113, 114, 115, 116] (by decide +kernel) (by decide +kernel)
set_option maxRecDepth 20000 in
theorem gX9_scale_X9_scaleOf : GoodIn wsX9_scale (wsV RX9 165 RX9 yX9_scaleOf wsX9_scaleOf) := goodIn_app (goodIn_of _ (by decide +kernel)) ggX9_scale_X9_scaleOf
theorem dX9_scale_0 : decode cX9_scale 0 = .ok (.aload_n 0, 1) := by decide +kernel
theorem dX9_scale_1 : decode cX9_scale 1 = .ok (.iload_n 1, 1) := by decide +kernel
theorem dX9_scale_2 : decode cX9_scale 2 = .ok (.invokevirtual 156, 3) := by decide +kernel
theorem dX9_scale_5 : decode cX9_scale 5 = .ok (.ifCond .eq 11, 3) := by decide +kernel
theorem dX9_scale_8 : decode cX9_scale 8 = .ok (.aload_n 0, 1) := by decide +kernel
theorem dX9_scale_9 : decode cX9_scale 9 = .ok (.iload_n 2, 1) := by decide +kernel
theorem dX9_scale_10 : decode cX9_scale 10 = .ok (.invokevirtual 141, 3) := by decide +kernel
theorem dX9_scale_13 : decode cX9_scale 13 = .ok (.ifCond .ne 5, 3) := by decide +kernel
theorem dX9_scale_16 : decode cX9_scale 16 = .ok (.iconst (-1), 1) := by decide +kernel
theorem dX9_scale_17 : decode cX9_scale 17 = .ok (.ireturn, 1) := by decide +kernel
theorem dX9_scale_18 : decode cX9_scale 18 = .ok (.aload_n 0, 1) := by decide +kernel
theorem dX9_scale_19 : decode cX9_scale 19 = .ok (.aload_n 0, 1) := by decide +kernel
theorem dX9_scale_20 : decode cX9_scale 20 = .ok (.getfield 47, 3) := by decide +kernel
theorem dX9_scale_23 : decode cX9_scale 23 = .ok (.iload_n 1, 1) := by decide +kernel
theorem dX9_scale_24 : decode cX9_scale 24 = .ok (.aaload, 1) := by decide +kernel
theorem dX9_scale_25 : decode cX9_scale 25 = .ok (.iload_n 2, 1) := by decide +kernel
theorem dX9_scale_26 : decode cX9_scale 26 = .ok (.invokevirtual 165, 3) := by decide +kernel
theorem dX9_scale_29 : decode cX9_scale 29 = .ok (.ireturn, 1) := by decide +kernel
set_option maxRecDepth 20000 in
theorem ggX9_sum_X9_isOwner : GoodIn wsX9_sum wsX9_isOwner := goodIn_r _ [6, 7, 8, 5, 9] (by decide +kernel) (by decide +kernel)
set_option maxRecDepth 20000 in
theorem gX9_sum_X9_isOwner : GoodIn wsX9_sum (va_wsS RX9 150 yX9_isOwner wsX9_isOwner) := goodIn_app (goodIn_of _ (by decide +kernel)) ggX9_sum_X9_isOwner
set_option maxRecDepth 20000 in
theorem ggX9_sum_X9_isKnown : GoodIn wsX9_sum wsX9_isKnown := goodIn_r _ [13, 14, 7, 8, 5, 9, 87, 88, 89, 90, 91, 92, 93, 94, 95, 96, 97, 98, 99, 100] (by decide +kernel) (by decide +kernel)
set_option maxRecDepth 20000 in
theorem gX9_sum_X9_isKnown : GoodIn wsX9_sum (wsV RX9 141 RX9 yX9_isKnown wsX9_isKnown) := goodIn_app (goodIn_of _ (by decide +kernel)) ggX9_sum_X9_isKnown
set_option maxRecDepth 20000 in
theorem ggX9_sum_X9_scaleOrNothing : GoodIn wsX9_sum wsX9_scaleOrNothing := goodIn_r _ [18, 19, 20, 21, 5, 22, 23, 24, 25, 26, 27, 28, 29, 30, 31, 32, 33, 34, 35, 36, 37, 38, 39, 40, 41, 42, 43, 44, 45, 46, 47, 48, 49, 50, 51, 52, 53, 54, 55, 56, 57, 58, 59, 60, 61, 62, 63, 64, 65, 66, 67, 68, 69, 70, 71, 72, 73, 74, 75, 76, 77, 78, 79, 80, 81, 82, 83, 84, 85, 86, 101, 102, 103, 104, 105, 106, 107, 108, 109, 87, 88, 89, 90, 91, 92, 93, 94, 95, 96, 97, 98, 99, 100, 110, 111, 112, 113, 114, 115, 116, 117, 118, 119] (by decide +kernel) (by decide +kernel)
set_option maxRecDepth 20000 in
theorem gX9_sum_X9_scaleOrNothing : GoodIn wsX9_sum (wsV RX9 172 RX9 yX9_scaleOrNothing wsX9_scaleOrNothing) := goodIn_app (goodIn_of _ (by decide +kernel)) ggX9_sum_X9_scaleOrNothing
theorem dX9_sum_0 : decode cX9_sum 0 = .ok (.iload_n 1, 1) := by decide +kernel
theorem dX9_sum_1 : decode cX9_sum 1 = .ok (.invokestatic 150, 3) := by decide +kernel
theorem dX9_sum_4 : decode cX9_sum 4 = .ok (.ifCond .eq 11, 3) := by decide +kernel
theorem dX9_sum_7 : decode cX9_sum 7 = .ok (.aload_n 0, 1) := by decide +kernel
theorem dX9_sum_8 : decode cX9_sum 8 = .ok (.iload_n 2, 1) := by decide +kernel
theorem dX9_sum_9 : decode cX9_sum 9 = .ok (.invokevirtual 141, 3) := by decide +kernel
theorem dX9_sum_12 : decode cX9_sum 12 = .ok (.ifCond .ne 5, 3) := by decide +kernel
theorem dX9_sum_15 : decode cX9_sum 15 = .ok (.iconst (-1), 1) := by decide +kernel
theorem dX9_sum_16 : decode cX9_sum 16 = .ok (.ireturn, 1) := by decide +kernel
theorem dX9_sum_17 : decode cX9_sum 17 = .ok (.iconst 0, 1) := by decide +kernel
theorem dX9_sum_18 : decode cX9_sum 18 = .ok (.istore_n 3, 1) := by decide +kernel
theorem dX9_sum_19 : decode cX9_sum 19 = .ok (.iconst 0, 1) := by decide +kernel
theorem dX9_sum_20 : decode cX9_sum 20 = .ok (.istore 4, 2) := by decide +kernel
theorem dX9_sum_22 : decode cX9_sum 22 = .ok (.iload 4, 2) := by decide +kernel
theorem dX9_sum_24 : decode cX9_sum 24 = .ok (.aload_n 0, 1) := by decide +kernel
theorem dX9_sum_25 : decode cX9_sum 25 = .ok (.getfield 78, 3) := by decide +kernel
theorem dX9_sum_28 : decode cX9_sum 28 = .ok (.if_icmp .ge 38, 3) := by decide +kernel
theorem dX9_sum_31 : decode cX9_sum 31 = .ok (.aload_n 0, 1) := by decide +kernel
theorem dX9_sum_32 : decode cX9_sum 32 = .ok (.getfield 47, 3) := by decide +kernel
theorem dX9_sum_35 : decode cX9_sum 35 = .ok (.iload 4, 2) := by decide +kernel
theorem dX9_sum_37 : decode cX9_sum 37 = .ok (.aaload, 1) := by decide +kernel
theorem dX9_sum_38 : decode cX9_sum 38 = .ok (.getfield 169, 3) := by decide +kernel
theorem dX9_sum_41 : decode cX9_sum 41 = .ok (.iload_n 1, 1) := by decide +kernel
theorem dX9_sum_42 : decode cX9_sum 42 = .ok (.if_icmp .ne 18, 3) := by decide +kernel
theorem dX9_sum_45 : decode cX9_sum 45 = .ok (.iload_n 3, 1) := by decide +kernel
theorem dX9_sum_46 : decode cX9_sum 46 = .ok (.aload_n 0, 1) := by decide +kernel
theorem dX9_sum_47 : decode cX9_sum 47 = .ok (.aload_n 0, 1) := by decide +kernel
theorem dX9_sum_48 : decode cX9_sum 48 = .ok (.getfield 47, 3) := by decide +kernel
theorem dX9_sum_51 : decode cX9_sum 51 = .ok (.iload 4, 2) := by decide +kernel
theorem dX9_sum_53 : decode cX9_sum 53 = .ok (.aaload, 1) := by decide +kernel
theorem dX9_sum_54 : decode cX9_sum 54 = .ok (.iload_n 2, 1) := by decide +kernel
theorem dX9_sum_55 : decode cX9_sum 55 = .ok (.invokevirtual 172, 3) := by decide +kernel
theorem dX9_sum_58 : decode cX9_sum 58 = .ok (.iadd, 1) := by decide +kernel
theorem dX9_sum_59 : decode cX9_sum 59 = .ok (.istore_n 3, 1) := by decide +kernel
theorem dX9_sum_60 : decode cX9_sum 60 = .ok (.iinc 4 1, 3) := by decide +kernel
theorem dX9_sum_63 : decode cX9_sum 63 = .ok (.goto (-41), 3) := by decide +kernel
theorem dX9_sum_66 : decode cX9_sum 66 = .ok (.iload_n 3, 1) := by decide +kernel
theorem dX9_sum_67 : decode cX9_sum 67 = .ok (.ireturn, 1) := by decide +kernel
set_option maxRecDepth 20000 in
theorem ggX9_price_X9_isOwner : GoodIn wsX9_price wsX9_isOwner := goodIn_r _ [5, 6, 7, 4, 8] (by decide +kernel) (by decide +kernel)
set_option maxRecDepth 20000 in
theorem gX9_price_X9_isOwner : GoodIn wsX9_price (va_wsS RX9 150 yX9_isOwner wsX9_isOwner) := goodIn_app (goodIn_of _ (by decide +kernel)) ggX9_price_X9_isOwner
set_option maxRecDepth 20000 in
theorem ggX9_price_X9_within : GoodIn wsX9_price wsX9_within := goodIn_r _ [8] (by decide +kernel) (by decide +kernel)
set_option maxRecDepth 20000 in
theorem gX9_price_X9_within : GoodIn wsX9_price (va_wsS RX9 101 yX9_within wsX9_within) := goodIn_app (goodIn_of _ (by decide +kernel)) ggX9_price_X9_within
theorem dX9_price_0 : decode cX9_price 0 = .ok (.iload_n 1, 1) := by decide +kernel
theorem dX9_price_1 : decode cX9_price 1 = .ok (.invokestatic 150, 3) := by decide +kernel
theorem dX9_price_4 : decode cX9_price 4 = .ok (.ifCond .eq 13, 3) := by decide +kernel
theorem dX9_price_7 : decode cX9_price 7 = .ok (.iload_n 2, 1) := by decide +kernel
theorem dX9_price_8 : decode cX9_price 8 = .ok (.iconst 0, 1) := by decide +kernel
theorem dX9_price_9 : decode cX9_price 9 = .ok (.bipush 20, 2) := by decide +kernel
theorem dX9_price_11 : decode cX9_price 11 = .ok (.invokestatic 101, 3) := by decide +kernel
theorem dX9_price_14 : decode cX9_price 14 = .ok (.ifCond .ne 5, 3) := by decide +kernel
theorem dX9_price_17 : decode cX9_price 17 = .ok (.iconst 0, 1) := by decide +kernel
theorem dX9_price_18 : decode cX9_price 18 = .ok (.ireturn, 1) := by decide +kernel
theorem dX9_price_19 : decode cX9_price 19 = .ok (.aload_n 0, 1) := by decide +kernel
theorem dX9_price_20 : decode cX9_price 20 = .ok (.getfield 51, 3) := by decide +kernel
theorem dX9_price_23 : decode cX9_price 23 = .ok (.iload_n 1, 1) := by decide +kernel
theorem dX9_price_24 : decode cX9_price 24 = .ok (.iload_n 2, 1) := by decide +kernel
theorem dX9_price_25 : decode cX9_price 25 = .ok (.iastore, 1) := by decide +kernel
theorem dX9_price_26 : decode cX9_price 26 = .ok (.iconst 1, 1) := by decide +kernel
theorem dX9_price_27 : decode cX9_price 27 = .ok (.ireturn, 1) := by decide +kernel
set_option maxRecDepth 20000 in
theorem ggX9_day_X9_reckonPays : GoodIn wsX9_day wsX9_reckonPays := goodIn_r _ [7, 8, 9, 10, 1, 11, 12, 13, 14, 6, 15, 16, 17, 18, 19, 20, 21, 22, 23, 24, 25, 26, 27, 28, 29, 30, 31, 32, 33, 34, 35, 36, 37, 38, 39, 40, 41, 42, 43, 44, 45, 46, 47, 48, 49, 50, 51, 52, 53, 54, 55, 56, 57, 58, 59, 60, 61, 62, 63, 64, 65, 66, 67, 68, 69, 70, 71, 72, 73, 74, 75, 76, 77, 78, 79, 80, 81, 82, 83, 121, 122, 123, 124, 125, 126, 127, 128, 129, 130, 131, 132, 133, 134, 140, 141, 142, 143, 144, 145, 146, 147, 148, 149, 150, 151, 152, 153, 154, 155, 156, 157, 158] (by decide +kernel) (by decide +kernel)
set_option maxRecDepth 20000 in
theorem gX9_day_X9_reckonPays : GoodIn wsX9_day (wsV RX9 175 RX9 yX9_reckonPays wsX9_reckonPays) := goodIn_app (goodIn_of _ (by decide +kernel)) ggX9_day_X9_reckonPays
set_option maxRecDepth 20000 in
theorem ggX9_day_X9_bookPays : GoodIn wsX9_day wsX9_bookPays := goodIn_r _ [87, 8, 9, 10, 2, 1, 88, 89, 90, 91, 92, 93, 94, 95, 96, 97, 98, 99, 100, 101, 102, 103, 26, 104, 105, 106, 107, 108, 109, 110, 111, 112, 113, 114, 115, 116, 117, 118, 119, 120, 121, 122, 123, 124, 125, 126, 127, 128, 129, 130, 131, 132, 133, 134, 140, 141, 142, 143, 144, 145, 146, 147, 148, 135, 136, 137, 138, 139] (by decide +kernel) (by decide +kernel)
set_option maxRecDepth 20000 in
theorem gX9_day_X9_bookPays : GoodIn wsX9_day (wsV RX9 179 RX9 yX9_bookPays wsX9_bookPays) := goodIn_app (goodIn_of _ (by decide +kernel)) ggX9_day_X9_bookPays
theorem dX9_day_0 : decode cX9_day 0 = .ok (.aload_n 0, 1) := by decide +kernel
theorem dX9_day_1 : decode cX9_day 1 = .ok (.getfield 82, 3) := by decide +kernel
theorem dX9_day_4 : decode cX9_day 4 = .ok (.sipush 500, 3) := by decide +kernel
theorem dX9_day_7 : decode cX9_day 7 = .ok (.if_icmp .lt 5, 3) := by decide +kernel
theorem dX9_day_10 : decode cX9_day 10 = .ok (.iconst (-1), 1) := by decide +kernel
theorem dX9_day_11 : decode cX9_day 11 = .ok (.ireturn, 1) := by decide +kernel
theorem dX9_day_12 : decode cX9_day 12 = .ok (.aload_n 0, 1) := by decide +kernel
theorem dX9_day_13 : decode cX9_day 13 = .ok (.invokevirtual 175, 3) := by decide +kernel
theorem dX9_day_16 : decode cX9_day 16 = .ok (.istore_n 1, 1) := by decide +kernel
theorem dX9_day_17 : decode cX9_day 17 = .ok (.aload_n 0, 1) := by decide +kernel
theorem dX9_day_18 : decode cX9_day 18 = .ok (.getfield 60, 3) := by decide +kernel
theorem dX9_day_21 : decode cX9_day 21 = .ok (.getfield 178, 3) := by decide +kernel
theorem dX9_day_24 : decode cX9_day 24 = .ok (.iload_n 1, 1) := by decide +kernel
theorem dX9_day_25 : decode cX9_day 25 = .ok (.iadd, 1) := by decide +kernel
theorem dX9_day_26 : decode cX9_day 26 = .ok (.sipush 20000, 3) := by decide +kernel
theorem dX9_day_29 : decode cX9_day 29 = .ok (.if_icmp .le 5, 3) := by decide +kernel
theorem dX9_day_32 : decode cX9_day 32 = .ok (.iconst (-1), 1) := by decide +kernel
theorem dX9_day_33 : decode cX9_day 33 = .ok (.ireturn, 1) := by decide +kernel
theorem dX9_day_34 : decode cX9_day 34 = .ok (.aload_n 0, 1) := by decide +kernel
theorem dX9_day_35 : decode cX9_day 35 = .ok (.invokevirtual 179, 3) := by decide +kernel
theorem dX9_day_38 : decode cX9_day 38 = .ok (.aload_n 0, 1) := by decide +kernel
theorem dX9_day_39 : decode cX9_day 39 = .ok (.dup, 1) := by decide +kernel
theorem dX9_day_40 : decode cX9_day 40 = .ok (.getfield 82, 3) := by decide +kernel
theorem dX9_day_43 : decode cX9_day 43 = .ok (.iconst 1, 1) := by decide +kernel
theorem dX9_day_44 : decode cX9_day 44 = .ok (.iadd, 1) := by decide +kernel
theorem dX9_day_45 : decode cX9_day 45 = .ok (.putfield 82, 3) := by decide +kernel
theorem dX9_day_48 : decode cX9_day 48 = .ok (.iload_n 1, 1) := by decide +kernel
theorem dX9_day_49 : decode cX9_day 49 = .ok (.ireturn, 1) := by decide +kernel
set_option maxRecDepth 20000 in
theorem ggX9_line_X9_within : GoodIn wsX9_line wsX9_within := goodIn_r _ [6] (by decide +kernel) (by decide +kernel)
set_option maxRecDepth 20000 in
theorem gX9_line_X9_within : GoodIn wsX9_line (va_wsS RX9 101 yX9_within wsX9_within) := goodIn_app (goodIn_of _ (by decide +kernel)) ggX9_line_X9_within
theorem dX9_line_0 : decode cX9_line 0 = .ok (.iload_n 1, 1) := by decide +kernel
theorem dX9_line_1 : decode cX9_line 1 = .ok (.iconst 0, 1) := by decide +kernel
theorem dX9_line_2 : decode cX9_line 2 = .ok (.aload_n 0, 1) := by decide +kernel
theorem dX9_line_3 : decode cX9_line 3 = .ok (.getfield 60, 3) := by decide +kernel
theorem dX9_line_6 : decode cX9_line 6 = .ok (.getfield 178, 3) := by decide +kernel
theorem dX9_line_9 : decode cX9_line 9 = .ok (.iconst 1, 1) := by decide +kernel
theorem dX9_line_10 : decode cX9_line 10 = .ok (.isub, 1) := by decide +kernel
theorem dX9_line_11 : decode cX9_line 11 = .ok (.invokestatic 101, 3) := by decide +kernel
theorem dX9_line_14 : decode cX9_line 14 = .ok (.ifCond .ne 6, 3) := by decide +kernel
theorem dX9_line_17 : decode cX9_line 17 = .ok (.ldc 182, 2) := by decide +kernel
theorem dX9_line_19 : decode cX9_line 19 = .ok (.ireturn, 1) := by decide +kernel
theorem dX9_line_20 : decode cX9_line 20 = .ok (.iload_n 2, 1) := by decide +kernel
theorem dX9_line_21 : decode cX9_line 21 = .ok (.tableswitch 57 0 2 #[27, 37, 47], 27) := by decide +kernel
theorem dX9_line_48 : decode cX9_line 48 = .ok (.aload_n 0, 1) := by decide +kernel
theorem dX9_line_49 : decode cX9_line 49 = .ok (.getfield 60, 3) := by decide +kernel
theorem dX9_line_52 : decode cX9_line 52 = .ok (.getfield 183, 3) := by decide +kernel
theorem dX9_line_55 : decode cX9_line 55 = .ok (.iload_n 1, 1) := by decide +kernel
theorem dX9_line_56 : decode cX9_line 56 = .ok (.iaload, 1) := by decide +kernel
theorem dX9_line_57 : decode cX9_line 57 = .ok (.ireturn, 1) := by decide +kernel
theorem dX9_line_58 : decode cX9_line 58 = .ok (.aload_n 0, 1) := by decide +kernel
theorem dX9_line_59 : decode cX9_line 59 = .ok (.getfield 60, 3) := by decide +kernel
theorem dX9_line_62 : decode cX9_line 62 = .ok (.getfield 186, 3) := by decide +kernel
theorem dX9_line_65 : decode cX9_line 65 = .ok (.iload_n 1, 1) := by decide +kernel
theorem dX9_line_66 : decode cX9_line 66 = .ok (.iaload, 1) := by decide +kernel
theorem dX9_line_67 : decode cX9_line 67 = .ok (.ireturn, 1) := by decide +kernel
theorem dX9_line_68 : decode cX9_line 68 = .ok (.aload_n 0, 1) := by decide +kernel
theorem dX9_line_69 : decode cX9_line 69 = .ok (.getfield 60, 3) := by decide +kernel
theorem dX9_line_72 : decode cX9_line 72 = .ok (.getfield 188, 3) := by decide +kernel
theorem dX9_line_75 : decode cX9_line 75 = .ok (.iload_n 1, 1) := by decide +kernel
theorem dX9_line_76 : decode cX9_line 76 = .ok (.iaload, 1) := by decide +kernel
theorem dX9_line_77 : decode cX9_line 77 = .ok (.ireturn, 1) := by decide +kernel
theorem dX9_line_78 : decode cX9_line 78 = .ok (.ldc 182, 2) := by decide +kernel
theorem dX9_line_80 : decode cX9_line 80 = .ok (.ireturn, 1) := by decide +kernel
set_option maxRecDepth 20000 in
theorem ggX9_check_X9_isLog : GoodIn wsX9_check wsX9_isLog := goodIn_r _ [6, 7, 8, 9, 5, 10, 11, 12, 13, 14, 15, 16, 17, 18, 19, 20, 21, 22, 23, 24] (by decide +kernel) (by decide +kernel)
set_option maxRecDepth 20000 in
theorem gX9_check_X9_isLog : GoodIn wsX9_check (wsV RX9 156 RX9 yX9_isLog wsX9_isLog) := goodIn_app (goodIn_of _ (by decide +kernel)) ggX9_check_X9_isLog
set_option maxRecDepth 20000 in
theorem ggX9_check_X9_within : GoodIn wsX9_check wsX9_within := goodIn_r _ [10] (by decide +kernel) (by decide +kernel)
set_option maxRecDepth 20000 in
theorem gX9_check_X9_within : GoodIn wsX9_check (va_wsS RX9 101 yX9_within wsX9_within) := goodIn_app (goodIn_of _ (by decide +kernel)) ggX9_check_X9_within
theorem dX9_check_0 : decode cX9_check 0 = .ok (.aload_n 0, 1) := by decide +kernel
theorem dX9_check_1 : decode cX9_check 1 = .ok (.iload_n 1, 1) := by decide +kernel
theorem dX9_check_2 : decode cX9_check 2 = .ok (.invokevirtual 156, 3) := by decide +kernel
theorem dX9_check_5 : decode cX9_check 5 = .ok (.ifCond .eq 13, 3) := by decide +kernel
theorem dX9_check_8 : decode cX9_check 8 = .ok (.iload_n 2, 1) := by decide +kernel
theorem dX9_check_9 : decode cX9_check 9 = .ok (.iconst 1, 1) := by decide +kernel
theorem dX9_check_10 : decode cX9_check 10 = .ok (.bipush 99, 2) := by decide +kernel
theorem dX9_check_12 : decode cX9_check 12 = .ok (.invokestatic 101, 3) := by decide +kernel
theorem dX9_check_15 : decode cX9_check 15 = .ok (.ifCond .ne 5, 3) := by decide +kernel
theorem dX9_check_18 : decode cX9_check 18 = .ok (.iconst 0, 1) := by decide +kernel
theorem dX9_check_19 : decode cX9_check 19 = .ok (.ireturn, 1) := by decide +kernel
theorem dX9_check_20 : decode cX9_check 20 = .ok (.aload_n 0, 1) := by decide +kernel
theorem dX9_check_21 : decode cX9_check 21 = .ok (.getfield 47, 3) := by decide +kernel
theorem dX9_check_24 : decode cX9_check 24 = .ok (.iload_n 1, 1) := by decide +kernel
theorem dX9_check_25 : decode cX9_check 25 = .ok (.aaload, 1) := by decide +kernel
theorem dX9_check_26 : decode cX9_check 26 = .ok (.iload_n 2, 1) := by decide +kernel
theorem dX9_check_27 : decode cX9_check 27 = .ok (.putfield 191, 3) := by decide +kernel
theorem dX9_check_30 : decode cX9_check 30 = .ok (.iconst 1, 1) := by decide +kernel
theorem dX9_check_31 : decode cX9_check 31 = .ok (.ireturn, 1) := by decide +kernel
set_option maxRecDepth 20000 in
theorem ggX9_habit_X9_isStick : GoodIn wsX9_habit wsX9_isStick := goodIn_r _ [7, 8, 9, 6, 10] (by decide +kernel) (by decide +kernel)
set_option maxRecDepth 20000 in
theorem gX9_habit_X9_isStick : GoodIn wsX9_habit (va_wsS RX9 147 yX9_isStick wsX9_isStick) := goodIn_app (goodIn_of _ (by decide +kernel)) ggX9_habit_X9_isStick
set_option maxRecDepth 20000 in
theorem ggX9_habit_X9_within : GoodIn wsX9_habit wsX9_within := goodIn_r _ [10] (by decide +kernel) (by decide +kernel)
set_option maxRecDepth 20000 in
theorem gX9_habit_X9_within : GoodIn wsX9_habit (va_wsS RX9 101 yX9_within wsX9_within) := goodIn_app (goodIn_of _ (by decide +kernel)) ggX9_habit_X9_within
set_option maxRecDepth 20000 in
theorem ggX9_habit_X9_commonDivisor : GoodIn wsX9_habit wsX9_commonDivisor := goodIn_r _ [13] (by decide +kernel) (by decide +kernel)
set_option maxRecDepth 20000 in
theorem gX9_habit_X9_commonDivisor : GoodIn wsX9_habit (va_wsS RX9 202 yX9_commonDivisor wsX9_commonDivisor) := goodIn_app (goodIn_of _ (by decide +kernel)) ggX9_habit_X9_commonDivisor
theorem dX9_habit_0 : decode cX9_habit 0 = .ok (.iload_n 1, 1) := by decide +kernel
theorem dX9_habit_1 : decode cX9_habit 1 = .ok (.invokestatic 147, 3) := by decide +kernel
theorem dX9_habit_4 : decode cX9_habit 4 = .ok (.ifCond .eq 12, 3) := by decide +kernel
theorem dX9_habit_7 : decode cX9_habit 7 = .ok (.iload_n 2, 1) := by decide +kernel
theorem dX9_habit_8 : decode cX9_habit 8 = .ok (.iconst 0, 1) := by decide +kernel
theorem dX9_habit_9 : decode cX9_habit 9 = .ok (.iconst 1, 1) := by decide +kernel
theorem dX9_habit_10 : decode cX9_habit 10 = .ok (.invokestatic 101, 3) := by decide +kernel
theorem dX9_habit_13 : decode cX9_habit 13 = .ok (.ifCond .ne 7, 3) := by decide +kernel
theorem dX9_habit_16 : decode cX9_habit 16 = .ok (.ldc2_w 194, 3) := by decide +kernel
theorem dX9_habit_19 : decode cX9_habit 19 = .ok (.lreturn, 1) := by decide +kernel
theorem dX9_habit_20 : decode cX9_habit 20 = .ok (.lconst 0, 1) := by decide +kernel
theorem dX9_habit_21 : decode cX9_habit 21 = .ok (.lstore_n 3, 1) := by decide +kernel
theorem dX9_habit_22 : decode cX9_habit 22 = .ok (.lconst 0, 1) := by decide +kernel
theorem dX9_habit_23 : decode cX9_habit 23 = .ok (.lstore 5, 2) := by decide +kernel
theorem dX9_habit_25 : decode cX9_habit 25 = .ok (.iconst 0, 1) := by decide +kernel
theorem dX9_habit_26 : decode cX9_habit 26 = .ok (.istore 7, 2) := by decide +kernel
theorem dX9_habit_28 : decode cX9_habit 28 = .ok (.iload 7, 2) := by decide +kernel
theorem dX9_habit_30 : decode cX9_habit 30 = .ok (.aload_n 0, 1) := by decide +kernel
theorem dX9_habit_31 : decode cX9_habit 31 = .ok (.getfield 78, 3) := by decide +kernel
theorem dX9_habit_34 : decode cX9_habit 34 = .ok (.if_icmp .ge 59, 3) := by decide +kernel
theorem dX9_habit_37 : decode cX9_habit 37 = .ok (.aload_n 0, 1) := by decide +kernel
theorem dX9_habit_38 : decode cX9_habit 38 = .ok (.getfield 47, 3) := by decide +kernel
theorem dX9_habit_41 : decode cX9_habit 41 = .ok (.iload 7, 2) := by decide +kernel
theorem dX9_habit_43 : decode cX9_habit 43 = .ok (.aaload, 1) := by decide +kernel
theorem dX9_habit_44 : decode cX9_habit 44 = .ok (.astore 8, 2) := by decide +kernel
theorem dX9_habit_46 : decode cX9_habit 46 = .ok (.aload 8, 2) := by decide +kernel
theorem dX9_habit_48 : decode cX9_habit 48 = .ok (.getfield 196, 3) := by decide +kernel
theorem dX9_habit_51 : decode cX9_habit 51 = .ok (.iload_n 1, 1) := by decide +kernel
theorem dX9_habit_52 : decode cX9_habit 52 = .ok (.if_icmp .ne 35, 3) := by decide +kernel
theorem dX9_habit_55 : decode cX9_habit 55 = .ok (.lload_n 3, 1) := by decide +kernel
theorem dX9_habit_56 : decode cX9_habit 56 = .ok (.aload 8, 2) := by decide +kernel
theorem dX9_habit_58 : decode cX9_habit 58 = .ok (.getfield 199, 3) := by decide +kernel
theorem dX9_habit_61 : decode cX9_habit 61 = .ok (.aload 8, 2) := by decide +kernel
theorem dX9_habit_63 : decode cX9_habit 63 = .ok (.getfield 191, 3) := by decide +kernel
theorem dX9_habit_66 : decode cX9_habit 66 = .ok (.imul, 1) := by decide +kernel
theorem dX9_habit_67 : decode cX9_habit 67 = .ok (.i2l, 1) := by decide +kernel
theorem dX9_habit_68 : decode cX9_habit 68 = .ok (.ladd, 1) := by decide +kernel
theorem dX9_habit_69 : decode cX9_habit 69 = .ok (.lstore_n 3, 1) := by decide +kernel
theorem dX9_habit_70 : decode cX9_habit 70 = .ok (.lload 5, 2) := by decide +kernel
theorem dX9_habit_72 : decode cX9_habit 72 = .ok (.aload 8, 2) := by decide +kernel
theorem dX9_habit_74 : decode cX9_habit 74 = .ok (.getfield 191, 3) := by decide +kernel
theorem dX9_habit_77 : decode cX9_habit 77 = .ok (.aload 8, 2) := by decide +kernel
theorem dX9_habit_79 : decode cX9_habit 79 = .ok (.getfield 191, 3) := by decide +kernel
theorem dX9_habit_82 : decode cX9_habit 82 = .ok (.imul, 1) := by decide +kernel
theorem dX9_habit_83 : decode cX9_habit 83 = .ok (.i2l, 1) := by decide +kernel
theorem dX9_habit_84 : decode cX9_habit 84 = .ok (.ladd, 1) := by decide +kernel
theorem dX9_habit_85 : decode cX9_habit 85 = .ok (.lstore 5, 2) := by decide +kernel
theorem dX9_habit_87 : decode cX9_habit 87 = .ok (.iinc 7 1, 3) := by decide +kernel
theorem dX9_habit_90 : decode cX9_habit 90 = .ok (.goto (-62), 3) := by decide +kernel
theorem dX9_habit_93 : decode cX9_habit 93 = .ok (.lload_n 3, 1) := by decide +kernel
theorem dX9_habit_94 : decode cX9_habit 94 = .ok (.lload 5, 2) := by decide +kernel
theorem dX9_habit_96 : decode cX9_habit 96 = .ok (.invokestatic 202, 3) := by decide +kernel
theorem dX9_habit_99 : decode cX9_habit 99 = .ok (.lstore 7, 2) := by decide +kernel
theorem dX9_habit_101 : decode cX9_habit 101 = .ok (.lload 7, 2) := by decide +kernel
theorem dX9_habit_103 : decode cX9_habit 103 = .ok (.lconst 0, 1) := by decide +kernel
theorem dX9_habit_104 : decode cX9_habit 104 = .ok (.lcmp, 1) := by decide +kernel
theorem dX9_habit_105 : decode cX9_habit 105 = .ok (.ifCond .ne 7, 3) := by decide +kernel
theorem dX9_habit_108 : decode cX9_habit 108 = .ok (.ldc2_w 194, 3) := by decide +kernel
theorem dX9_habit_111 : decode cX9_habit 111 = .ok (.lreturn, 1) := by decide +kernel
theorem dX9_habit_112 : decode cX9_habit 112 = .ok (.iload_n 2, 1) := by decide +kernel
theorem dX9_habit_113 : decode cX9_habit 113 = .ok (.ifCond .ne 7, 3) := by decide +kernel
theorem dX9_habit_116 : decode cX9_habit 116 = .ok (.lload_n 3, 1) := by decide +kernel
theorem dX9_habit_117 : decode cX9_habit 117 = .ok (.goto 5, 3) := by decide +kernel
theorem dX9_habit_120 : decode cX9_habit 120 = .ok (.lload 5, 2) := by decide +kernel
theorem dX9_habit_122 : decode cX9_habit 122 = .ok (.lload 7, 2) := by decide +kernel
theorem dX9_habit_124 : decode cX9_habit 124 = .ok (.ldiv, 1) := by decide +kernel
theorem dX9_habit_125 : decode cX9_habit 125 = .ok (.lreturn, 1) := by decide +kernel
set_option maxRecDepth 20000 in
theorem ggX9_row_X9_within : GoodIn wsX9_row wsX9_within := goodIn_r _ [5] (by decide +kernel) (by decide +kernel)
set_option maxRecDepth 20000 in
theorem gX9_row_X9_within : GoodIn wsX9_row (va_wsS RX9 101 yX9_within wsX9_within) := goodIn_app (goodIn_of _ (by decide +kernel)) ggX9_row_X9_within
set_option maxRecDepth 20000 in
theorem ggX9_row_X4_addRow : GoodIn wsX9_row wsX4_addRow := goodIn_r _ [10, 11, 12, 13, 14, 15, 16, 17, 18, 19, 20, 21, 36, 37, 38, 39, 40, 41, 42, 43, 44, 45, 46, 47, 48, 49] (by decide +kernel) (by decide +kernel)
set_option maxRecDepth 20000 in
theorem gX9_row_X4_addRow : GoodIn wsX9_row (wsV RX9 206 RX4 yX4_addRow wsX4_addRow) := goodIn_app (goodIn_of _ (by decide +kernel)) ggX9_row_X4_addRow
theorem dX9_row_0 : decode cX9_row 0 = .ok (.iload_n 1, 1) := by decide +kernel
theorem dX9_row_1 : decode cX9_row 1 = .ok (.iconst 0, 1) := by decide +kernel
theorem dX9_row_2 : decode cX9_row 2 = .ok (.iconst 1, 1) := by decide +kernel
theorem dX9_row_3 : decode cX9_row 3 = .ok (.invokestatic 101, 3) := by decide +kernel
theorem dX9_row_6 : decode cX9_row 6 = .ok (.ifCond .eq 23, 3) := by decide +kernel
theorem dX9_row_9 : decode cX9_row 9 = .ok (.iload_n 2, 1) := by decide +kernel
theorem dX9_row_10 : decode cX9_row 10 = .ok (.iconst 1, 1) := by decide +kernel
theorem dX9_row_11 : decode cX9_row 11 = .ok (.bipush 99, 2) := by decide +kernel
theorem dX9_row_13 : decode cX9_row 13 = .ok (.invokestatic 101, 3) := by decide +kernel
theorem dX9_row_16 : decode cX9_row 16 = .ok (.ifCond .eq 13, 3) := by decide +kernel
theorem dX9_row_19 : decode cX9_row 19 = .ok (.iload_n 3, 1) := by decide +kernel
theorem dX9_row_20 : decode cX9_row 20 = .ok (.iconst 1, 1) := by decide +kernel
theorem dX9_row_21 : decode cX9_row 21 = .ok (.bipush 60, 2) := by decide +kernel
theorem dX9_row_23 : decode cX9_row 23 = .ok (.invokestatic 101, 3) := by decide +kernel
theorem dX9_row_26 : decode cX9_row 26 = .ok (.ifCond .ne 5, 3) := by decide +kernel
theorem dX9_row_29 : decode cX9_row 29 = .ok (.iconst (-1), 1) := by decide +kernel
theorem dX9_row_30 : decode cX9_row 30 = .ok (.ireturn, 1) := by decide +kernel
theorem dX9_row_31 : decode cX9_row 31 = .ok (.aload_n 0, 1) := by decide +kernel
theorem dX9_row_32 : decode cX9_row 32 = .ok (.getfield 67, 3) := by decide +kernel
theorem dX9_row_35 : decode cX9_row 35 = .ok (.iload_n 1, 1) := by decide +kernel
theorem dX9_row_36 : decode cX9_row 36 = .ok (.iload_n 2, 1) := by decide +kernel
theorem dX9_row_37 : decode cX9_row 37 = .ok (.iload_n 3, 1) := by decide +kernel
theorem dX9_row_38 : decode cX9_row 38 = .ok (.invokevirtual 206, 3) := by decide +kernel
theorem dX9_row_41 : decode cX9_row 41 = .ok (.ireturn, 1) := by decide +kernel
set_option maxRecDepth 20000 in
theorem ggX9_clear_X4_removeRows : GoodIn wsX9_clear wsX4_removeRows := goodIn_r _ [6, 7, 8, 9, 24, 25, 26, 27, 28, 29, 30, 31, 32, 33, 34, 35, 36, 37] (by decide +kernel) (by decide +kernel)
set_option maxRecDepth 20000 in
theorem gX9_clear_X4_removeRows : GoodIn wsX9_clear (wsV RX9 209 RX4 yX4_removeRows wsX4_removeRows) := goodIn_app (goodIn_of _ (by decide +kernel)) ggX9_clear_X4_removeRows
theorem dX9_clear_0 : decode cX9_clear 0 = .ok (.aload_n 0, 1) := by decide +kernel
theorem dX9_clear_1 : decode cX9_clear 1 = .ok (.getfield 67, 3) := by decide +kernel
theorem dX9_clear_4 : decode cX9_clear 4 = .ok (.invokevirtual 209, 3) := by decide +kernel
theorem dX9_clear_7 : decode cX9_clear 7 = .ok (.return_, 1) := by decide +kernel
set_option maxRecDepth 20000 in
theorem ggX9_allow_X9_within : GoodIn wsX9_allow wsX9_within := goodIn_r _ [5] (by decide +kernel) (by decide +kernel)
set_option maxRecDepth 20000 in
theorem gX9_allow_X9_within : GoodIn wsX9_allow (va_wsS RX9 101 yX9_within wsX9_within) := goodIn_app (goodIn_of _ (by decide +kernel)) ggX9_allow_X9_within
set_option maxRecDepth 20000 in
theorem ggX9_allow_X4_setApart : GoodIn wsX9_allow wsX4_setApart := goodIn_r _ [10, 11, 12, 13, 28, 29, 30, 31, 32, 33, 34, 35, 36, 37, 38] (by decide +kernel) (by decide +kernel)
set_option maxRecDepth 20000 in
theorem gX9_allow_X4_setApart : GoodIn wsX9_allow (wsV RX9 212 RX4 yX4_setApart wsX4_setApart) := goodIn_app (goodIn_of _ (by decide +kernel)) ggX9_allow_X4_setApart
theorem dX9_allow_0 : decode cX9_allow 0 = .ok (.iload_n 1, 1) := by decide +kernel
theorem dX9_allow_1 : decode cX9_allow 1 = .ok (.iconst 0, 1) := by decide +kernel
theorem dX9_allow_2 : decode cX9_allow 2 = .ok (.bipush 20, 2) := by decide +kernel
theorem dX9_allow_4 : decode cX9_allow 4 = .ok (.invokestatic 101, 3) := by decide +kernel
theorem dX9_allow_7 : decode cX9_allow 7 = .ok (.ifCond .eq 13, 3) := by decide +kernel
theorem dX9_allow_10 : decode cX9_allow 10 = .ok (.iload_n 2, 1) := by decide +kernel
theorem dX9_allow_11 : decode cX9_allow 11 = .ok (.iconst 0, 1) := by decide +kernel
theorem dX9_allow_12 : decode cX9_allow 12 = .ok (.bipush 20, 2) := by decide +kernel
theorem dX9_allow_14 : decode cX9_allow 14 = .ok (.invokestatic 101, 3) := by decide +kernel
theorem dX9_allow_17 : decode cX9_allow 17 = .ok (.ifCond .ne 5, 3) := by decide +kernel
theorem dX9_allow_20 : decode cX9_allow 20 = .ok (.iconst 0, 1) := by decide +kernel
theorem dX9_allow_21 : decode cX9_allow 21 = .ok (.ireturn, 1) := by decide +kernel
theorem dX9_allow_22 : decode cX9_allow 22 = .ok (.aload_n 0, 1) := by decide +kernel
theorem dX9_allow_23 : decode cX9_allow 23 = .ok (.getfield 67, 3) := by decide +kernel
theorem dX9_allow_26 : decode cX9_allow 26 = .ok (.iload_n 1, 1) := by decide +kernel
theorem dX9_allow_27 : decode cX9_allow 27 = .ok (.iload_n 2, 1) := by decide +kernel
theorem dX9_allow_28 : decode cX9_allow 28 = .ok (.invokevirtual 212, 3) := by decide +kernel
theorem dX9_allow_31 : decode cX9_allow 31 = .ok (.iconst 1, 1) := by decide +kernel
theorem dX9_allow_32 : decode cX9_allow 32 = .ok (.ireturn, 1) := by decide +kernel
set_option maxRecDepth 20000 in
theorem ggX9_pairs_X4_settle : GoodIn wsX9_pairs wsX4_settle := goodIn_r _ [6, 7, 8, 9, 10, 11, 5, 12, 13, 14, 15, 16, 17, 18, 19, 20, 21, 22, 23, 24, 25, 26, 27, 28, 29, 30, 31, 32, 33, 34, 35, 36, 37, 38, 39, 40, 41, 42, 43, 44, 45, 46, 47, 48, 49, 50, 51, 52, 53, 54, 55, 56, 57, 72, 73, 74, 75, 76, 77, 78, 79, 80, 81, 82, 83, 84, 85] (by decide +kernel) (by decide +kernel)
set_option maxRecDepth 20000 in
theorem gX9_pairs_X4_settle : GoodIn wsX9_pairs (wsV RX9 216 RX4 yX4_settle wsX4_settle) := goodIn_app (goodIn_of _ (by decide +kernel)) ggX9_pairs_X4_settle
theorem dX9_pairs_0 : decode cX9_pairs 0 = .ok (.aload_n 0, 1) := by decide +kernel
theorem dX9_pairs_1 : decode cX9_pairs 1 = .ok (.getfield 67, 3) := by decide +kernel
theorem dX9_pairs_4 : decode cX9_pairs 4 = .ok (.invokevirtual 216, 3) := by decide +kernel
theorem dX9_pairs_7 : decode cX9_pairs 7 = .ok (.aload_n 0, 1) := by decide +kernel
theorem dX9_pairs_8 : decode cX9_pairs 8 = .ok (.getfield 67, 3) := by decide +kernel
theorem dX9_pairs_11 : decode cX9_pairs 11 = .ok (.getfield 219, 3) := by decide +kernel
theorem dX9_pairs_14 : decode cX9_pairs 14 = .ok (.ireturn, 1) := by decide +kernel
set_option maxRecDepth 20000 in
theorem ggX9_pair_X9_within : GoodIn wsX9_pair wsX9_within := goodIn_r _ [5] (by decide +kernel) (by decide +kernel)
set_option maxRecDepth 20000 in
theorem gX9_pair_X9_within : GoodIn wsX9_pair (va_wsS RX9 101 yX9_within wsX9_within) := goodIn_app (goodIn_of _ (by decide +kernel)) ggX9_pair_X9_within
set_option maxRecDepth 20000 in
theorem ggX9_pair_X4_settle : GoodIn wsX9_pair wsX4_settle := goodIn_r _ [10, 11, 12, 13, 14, 15, 9, 16, 17, 18, 19, 20, 21, 22, 23, 24, 25, 26, 27, 28, 29, 30, 31, 32, 33, 34, 35, 36, 37, 38, 39, 40, 41, 42, 43, 44, 45, 46, 47, 48, 49, 50, 51, 52, 53, 54, 55, 56, 57, 58, 59, 60, 61, 76, 77, 78, 79, 80, 81, 82, 83, 84, 85, 86, 87, 88, 89] (by decide +kernel) (by decide +kernel)
set_option maxRecDepth 20000 in
theorem gX9_pair_X4_settle : GoodIn wsX9_pair (wsV RX9 216 RX4 yX4_settle wsX4_settle) := goodIn_app (goodIn_of _ (by decide +kernel)) ggX9_pair_X4_settle
theorem dX9_pair_0 : decode cX9_pair 0 = .ok (.iload_n 1, 1) := by decide +kernel
theorem dX9_pair_1 : decode cX9_pair 1 = .ok (.iconst 0, 1) := by decide +kernel
theorem dX9_pair_2 : decode cX9_pair 2 = .ok (.aload_n 0, 1) := by decide +kernel
theorem dX9_pair_3 : decode cX9_pair 3 = .ok (.getfield 67, 3) := by decide +kernel
theorem dX9_pair_6 : decode cX9_pair 6 = .ok (.getfield 222, 3) := by decide +kernel
theorem dX9_pair_9 : decode cX9_pair 9 = .ok (.getfield 226, 3) := by decide +kernel
theorem dX9_pair_12 : decode cX9_pair 12 = .ok (.iconst 1, 1) := by decide +kernel
theorem dX9_pair_13 : decode cX9_pair 13 = .ok (.isub, 1) := by decide +kernel
theorem dX9_pair_14 : decode cX9_pair 14 = .ok (.invokestatic 101, 3) := by decide +kernel
theorem dX9_pair_17 : decode cX9_pair 17 = .ok (.ifCond .ne 5, 3) := by decide +kernel
theorem dX9_pair_20 : decode cX9_pair 20 = .ok (.iconst (-1), 1) := by decide +kernel
theorem dX9_pair_21 : decode cX9_pair 21 = .ok (.ireturn, 1) := by decide +kernel
theorem dX9_pair_22 : decode cX9_pair 22 = .ok (.aload_n 0, 1) := by decide +kernel
theorem dX9_pair_23 : decode cX9_pair 23 = .ok (.getfield 67, 3) := by decide +kernel
theorem dX9_pair_26 : decode cX9_pair 26 = .ok (.invokevirtual 216, 3) := by decide +kernel
theorem dX9_pair_29 : decode cX9_pair 29 = .ok (.aload_n 0, 1) := by decide +kernel
theorem dX9_pair_30 : decode cX9_pair 30 = .ok (.getfield 67, 3) := by decide +kernel
theorem dX9_pair_33 : decode cX9_pair 33 = .ok (.getfield 229, 3) := by decide +kernel
theorem dX9_pair_36 : decode cX9_pair 36 = .ok (.iload_n 1, 1) := by decide +kernel
theorem dX9_pair_37 : decode cX9_pair 37 = .ok (.iaload, 1) := by decide +kernel
theorem dX9_pair_38 : decode cX9_pair 38 = .ok (.ireturn, 1) := by decide +kernel
set_option maxRecDepth 20000 in
theorem ggX9_near_X9_within : GoodIn wsX9_near wsX9_within := goodIn_r _ [5] (by decide +kernel) (by decide +kernel)
set_option maxRecDepth 20000 in
theorem gX9_near_X9_within : GoodIn wsX9_near (va_wsS RX9 101 yX9_within wsX9_within) := goodIn_app (goodIn_of _ (by decide +kernel)) ggX9_near_X9_within
theorem dX9_near_0 : decode cX9_near 0 = .ok (.iload_n 1, 1) := by decide +kernel
theorem dX9_near_1 : decode cX9_near 1 = .ok (.iconst 0, 1) := by decide +kernel
theorem dX9_near_2 : decode cX9_near 2 = .ok (.bipush 100, 2) := by decide +kernel
theorem dX9_near_4 : decode cX9_near 4 = .ok (.invokestatic 101, 3) := by decide +kernel
theorem dX9_near_7 : decode cX9_near 7 = .ok (.ifCond .ne 5, 3) := by decide +kernel
theorem dX9_near_10 : decode cX9_near 10 = .ok (.iconst 0, 1) := by decide +kernel
theorem dX9_near_11 : decode cX9_near 11 = .ok (.ireturn, 1) := by decide +kernel
theorem dX9_near_12 : decode cX9_near 12 = .ok (.aload_n 0, 1) := by decide +kernel
theorem dX9_near_13 : decode cX9_near 13 = .ok (.getfield 74, 3) := by decide +kernel
theorem dX9_near_16 : decode cX9_near 16 = .ok (.iload_n 1, 1) := by decide +kernel
theorem dX9_near_17 : decode cX9_near 17 = .ok (.putfield 232, 3) := by decide +kernel
theorem dX9_near_20 : decode cX9_near 20 = .ok (.iconst 1, 1) := by decide +kernel
theorem dX9_near_21 : decode cX9_near 21 = .ok (.ireturn, 1) := by decide +kernel
set_option maxRecDepth 20000 in
theorem ggX9_judge_X9_isScale : GoodIn wsX9_judge wsX9_isScale := goodIn_r _ [5, 6, 7, 8, 4, 9] (by decide +kernel) (by decide +kernel)
set_option maxRecDepth 20000 in
theorem gX9_judge_X9_isScale : GoodIn wsX9_judge (va_wsS RX9 235 yX9_isScale wsX9_isScale) := goodIn_app (goodIn_of _ (by decide +kernel)) ggX9_judge_X9_isScale
set_option maxRecDepth 20000 in
theorem ggX9_judge_X0_decide : GoodIn wsX9_judge wsX0_decide := goodIn_r _ [14, 15, 16, 17, 18, 19, 20, 13, 21, 22, 23, 24, 25, 26, 41, 42, 43, 44] (by decide +kernel) (by decide +kernel)
set_option maxRecDepth 20000 in
theorem gX9_judge_X0_decide : GoodIn wsX9_judge (wsV RX9 238 RX0 yX0_decide wsX0_decide) := goodIn_app (goodIn_of _ (by decide +kernel)) ggX9_judge_X0_decide
theorem dX9_judge_0 : decode cX9_judge 0 = .ok (.iload_n 1, 1) := by decide +kernel
theorem dX9_judge_1 : decode cX9_judge 1 = .ok (.invokestatic 235, 3) := by decide +kernel
theorem dX9_judge_4 : decode cX9_judge 4 = .ok (.ifCond .eq 17, 3) := by decide +kernel
theorem dX9_judge_7 : decode cX9_judge 7 = .ok (.iload_n 2, 1) := by decide +kernel
theorem dX9_judge_8 : decode cX9_judge 8 = .ok (.invokestatic 235, 3) := by decide +kernel
theorem dX9_judge_11 : decode cX9_judge 11 = .ok (.ifCond .eq 10, 3) := by decide +kernel
theorem dX9_judge_14 : decode cX9_judge 14 = .ok (.iload_n 3, 1) := by decide +kernel
theorem dX9_judge_15 : decode cX9_judge 15 = .ok (.invokestatic 235, 3) := by decide +kernel
theorem dX9_judge_18 : decode cX9_judge 18 = .ok (.ifCond .ne 5, 3) := by decide +kernel
theorem dX9_judge_21 : decode cX9_judge 21 = .ok (.iconst (-1), 1) := by decide +kernel
theorem dX9_judge_22 : decode cX9_judge 22 = .ok (.ireturn, 1) := by decide +kernel
theorem dX9_judge_23 : decode cX9_judge 23 = .ok (.aload_n 0, 1) := by decide +kernel
theorem dX9_judge_24 : decode cX9_judge 24 = .ok (.getfield 74, 3) := by decide +kernel
theorem dX9_judge_27 : decode cX9_judge 27 = .ok (.iload_n 1, 1) := by decide +kernel
theorem dX9_judge_28 : decode cX9_judge 28 = .ok (.iload_n 2, 1) := by decide +kernel
theorem dX9_judge_29 : decode cX9_judge 29 = .ok (.iload_n 3, 1) := by decide +kernel
theorem dX9_judge_30 : decode cX9_judge 30 = .ok (.invokevirtual 238, 3) := by decide +kernel
theorem dX9_judge_33 : decode cX9_judge 33 = .ok (.ireturn, 1) := by decide +kernel
theorem dX9_count_0 : decode cX9_count 0 = .ok (.iload_n 1, 1) := by decide +kernel
theorem dX9_count_1 : decode cX9_count 1 = .ok (.tableswitch 147 0 10 #[59, 64, 72, 77, 85, 93, 104, 115, 123, 131, 139], 59) := by decide +kernel
theorem dX9_count_60 : decode cX9_count 60 = .ok (.aload_n 0, 1) := by decide +kernel
theorem dX9_count_61 : decode cX9_count 61 = .ok (.getfield 82, 3) := by decide +kernel
theorem dX9_count_64 : decode cX9_count 64 = .ok (.ireturn, 1) := by decide +kernel
theorem dX9_count_65 : decode cX9_count 65 = .ok (.aload_n 0, 1) := by decide +kernel
theorem dX9_count_66 : decode cX9_count 66 = .ok (.getfield 28, 3) := by decide +kernel
theorem dX9_count_69 : decode cX9_count 69 = .ok (.getfield 128, 3) := by decide +kernel
theorem dX9_count_72 : decode cX9_count 72 = .ok (.ireturn, 1) := by decide +kernel
theorem dX9_count_73 : decode cX9_count 73 = .ok (.aload_n 0, 1) := by decide +kernel
theorem dX9_count_74 : decode cX9_count 74 = .ok (.getfield 78, 3) := by decide +kernel
theorem dX9_count_77 : decode cX9_count 77 = .ok (.ireturn, 1) := by decide +kernel
theorem dX9_count_78 : decode cX9_count 78 = .ok (.aload_n 0, 1) := by decide +kernel
theorem dX9_count_79 : decode cX9_count 79 = .ok (.getfield 60, 3) := by decide +kernel
theorem dX9_count_82 : decode cX9_count 82 = .ok (.getfield 178, 3) := by decide +kernel
theorem dX9_count_85 : decode cX9_count 85 = .ok (.ireturn, 1) := by decide +kernel
theorem dX9_count_86 : decode cX9_count 86 = .ok (.aload_n 0, 1) := by decide +kernel
theorem dX9_count_87 : decode cX9_count 87 = .ok (.getfield 60, 3) := by decide +kernel
theorem dX9_count_90 : decode cX9_count 90 = .ok (.getfield 241, 3) := by decide +kernel
theorem dX9_count_93 : decode cX9_count 93 = .ok (.ireturn, 1) := by decide +kernel
theorem dX9_count_94 : decode cX9_count 94 = .ok (.aload_n 0, 1) := by decide +kernel
theorem dX9_count_95 : decode cX9_count 95 = .ok (.getfield 67, 3) := by decide +kernel
theorem dX9_count_98 : decode cX9_count 98 = .ok (.getfield 222, 3) := by decide +kernel
theorem dX9_count_101 : decode cX9_count 101 = .ok (.getfield 226, 3) := by decide +kernel
theorem dX9_count_104 : decode cX9_count 104 = .ok (.ireturn, 1) := by decide +kernel
theorem dX9_count_105 : decode cX9_count 105 = .ok (.aload_n 0, 1) := by decide +kernel
theorem dX9_count_106 : decode cX9_count 106 = .ok (.getfield 67, 3) := by decide +kernel
theorem dX9_count_109 : decode cX9_count 109 = .ok (.getfield 244, 3) := by decide +kernel
theorem dX9_count_112 : decode cX9_count 112 = .ok (.getfield 226, 3) := by decide +kernel
theorem dX9_count_115 : decode cX9_count 115 = .ok (.ireturn, 1) := by decide +kernel
theorem dX9_count_116 : decode cX9_count 116 = .ok (.aload_n 0, 1) := by decide +kernel
theorem dX9_count_117 : decode cX9_count 117 = .ok (.getfield 10, 3) := by decide +kernel
theorem dX9_count_120 : decode cX9_count 120 = .ok (.getfield 95, 3) := by decide +kernel
theorem dX9_count_123 : decode cX9_count 123 = .ok (.ireturn, 1) := by decide +kernel
theorem dX9_count_124 : decode cX9_count 124 = .ok (.aload_n 0, 1) := by decide +kernel
theorem dX9_count_125 : decode cX9_count 125 = .ok (.getfield 74, 3) := by decide +kernel
theorem dX9_count_128 : decode cX9_count 128 = .ok (.getfield 247, 3) := by decide +kernel
theorem dX9_count_131 : decode cX9_count 131 = .ok (.ireturn, 1) := by decide +kernel
theorem dX9_count_132 : decode cX9_count 132 = .ok (.aload_n 0, 1) := by decide +kernel
theorem dX9_count_133 : decode cX9_count 133 = .ok (.getfield 74, 3) := by decide +kernel
theorem dX9_count_136 : decode cX9_count 136 = .ok (.getfield 250, 3) := by decide +kernel
theorem dX9_count_139 : decode cX9_count 139 = .ok (.ireturn, 1) := by decide +kernel
theorem dX9_count_140 : decode cX9_count 140 = .ok (.aload_n 0, 1) := by decide +kernel
theorem dX9_count_141 : decode cX9_count 141 = .ok (.getfield 74, 3) := by decide +kernel
theorem dX9_count_144 : decode cX9_count 144 = .ok (.getfield 253, 3) := by decide +kernel
theorem dX9_count_147 : decode cX9_count 147 = .ok (.ireturn, 1) := by decide +kernel
theorem dX9_count_148 : decode cX9_count 148 = .ok (.iconst (-1), 1) := by decide +kernel
theorem dX9_count_149 : decode cX9_count 149 = .ok (.ireturn, 1) := by decide +kernel
theorem dX9_within_0 : decode cX9_within 0 = .ok (.iload_n 0, 1) := by decide +kernel
theorem dX9_within_1 : decode cX9_within 1 = .ok (.iload_n 1, 1) := by decide +kernel
theorem dX9_within_2 : decode cX9_within 2 = .ok (.if_icmp .lt 12, 3) := by decide +kernel
theorem dX9_within_5 : decode cX9_within 5 = .ok (.iload_n 0, 1) := by decide +kernel
theorem dX9_within_6 : decode cX9_within 6 = .ok (.iload_n 2, 1) := by decide +kernel
theorem dX9_within_7 : decode cX9_within 7 = .ok (.if_icmp .gt 7, 3) := by decide +kernel
theorem dX9_within_10 : decode cX9_within 10 = .ok (.iconst 1, 1) := by decide +kernel
theorem dX9_within_11 : decode cX9_within 11 = .ok (.goto 4, 3) := by decide +kernel
theorem dX9_within_14 : decode cX9_within 14 = .ok (.iconst 0, 1) := by decide +kernel
theorem dX9_within_15 : decode cX9_within 15 = .ok (.ireturn, 1) := by decide +kernel
set_option maxRecDepth 20000 in
theorem ggX9_isDay_X9_within : GoodIn wsX9_isDay wsX9_within := goodIn_r _ [4] (by decide +kernel) (by decide +kernel)
set_option maxRecDepth 20000 in
theorem gX9_isDay_X9_within : GoodIn wsX9_isDay (va_wsS RX9 101 yX9_within wsX9_within) := goodIn_app (goodIn_of _ (by decide +kernel)) ggX9_isDay_X9_within
end
section
theorem dX9_isDay_0 : decode cX9_isDay 0 = .ok (.iload_n 0, 1) := by decide +kernel
theorem dX9_isDay_1 : decode cX9_isDay 1 = .ok (.iconst 0, 1) := by decide +kernel
theorem dX9_isDay_2 : decode cX9_isDay 2 = .ok (.sipush 500, 3) := by decide +kernel
theorem dX9_isDay_5 : decode cX9_isDay 5 = .ok (.invokestatic 101, 3) := by decide +kernel
theorem dX9_isDay_8 : decode cX9_isDay 8 = .ok (.ireturn, 1) := by decide +kernel
set_option maxRecDepth 20000 in
theorem ggX9_isOwner_X9_within : GoodIn wsX9_isOwner wsX9_within := goodIn_r _ [4] (by decide +kernel) (by decide +kernel)
set_option maxRecDepth 20000 in
theorem gX9_isOwner_X9_within : GoodIn wsX9_isOwner (va_wsS RX9 101 yX9_within wsX9_within) := goodIn_app (goodIn_of _ (by decide +kernel)) ggX9_isOwner_X9_within
theorem dX9_isOwner_0 : decode cX9_isOwner 0 = .ok (.iload_n 0, 1) := by decide +kernel
theorem dX9_isOwner_1 : decode cX9_isOwner 1 = .ok (.iconst 0, 1) := by decide +kernel
theorem dX9_isOwner_2 : decode cX9_isOwner 2 = .ok (.iconst 5, 1) := by decide +kernel
theorem dX9_isOwner_3 : decode cX9_isOwner 3 = .ok (.invokestatic 101, 3) := by decide +kernel
theorem dX9_isOwner_6 : decode cX9_isOwner 6 = .ok (.ireturn, 1) := by decide +kernel
set_option maxRecDepth 20000 in
theorem ggX9_isStick_X9_within : GoodIn wsX9_isStick wsX9_within := goodIn_r _ [4] (by decide +kernel) (by decide +kernel)
set_option maxRecDepth 20000 in
theorem gX9_isStick_X9_within : GoodIn wsX9_isStick (va_wsS RX9 101 yX9_within wsX9_within) := goodIn_app (goodIn_of _ (by decide +kernel)) ggX9_isStick_X9_within
theorem dX9_isStick_0 : decode cX9_isStick 0 = .ok (.iload_n 0, 1) := by decide +kernel
theorem dX9_isStick_1 : decode cX9_isStick 1 = .ok (.iconst 0, 1) := by decide +kernel
theorem dX9_isStick_2 : decode cX9_isStick 2 = .ok (.iconst 5, 1) := by decide +kernel
theorem dX9_isStick_3 : decode cX9_isStick 3 = .ok (.invokestatic 101, 3) := by decide +kernel
theorem dX9_isStick_6 : decode cX9_isStick 6 = .ok (.ireturn, 1) := by decide +kernel
set_option maxRecDepth 20000 in
theorem ggX9_isSizeByLaw_X9_within : GoodIn wsX9_isSizeByLaw wsX9_within := goodIn_r _ [4] (by decide +kernel) (by decide +kernel)
set_option maxRecDepth 20000 in
theorem gX9_isSizeByLaw_X9_within : GoodIn wsX9_isSizeByLaw (va_wsS RX9 101 yX9_within wsX9_within) := goodIn_app (goodIn_of _ (by decide +kernel)) ggX9_isSizeByLaw_X9_within
theorem dX9_isSizeByLaw_0 : decode cX9_isSizeByLaw 0 = .ok (.iload_n 0, 1) := by decide +kernel
theorem dX9_isSizeByLaw_1 : decode cX9_isSizeByLaw 1 = .ok (.iconst 0, 1) := by decide +kernel
theorem dX9_isSizeByLaw_2 : decode cX9_isSizeByLaw 2 = .ok (.sipush 1000, 3) := by decide +kernel
theorem dX9_isSizeByLaw_5 : decode cX9_isSizeByLaw 5 = .ok (.invokestatic 101, 3) := by decide +kernel
theorem dX9_isSizeByLaw_8 : decode cX9_isSizeByLaw 8 = .ok (.ireturn, 1) := by decide +kernel
set_option maxRecDepth 20000 in
theorem ggX9_isScale_X9_within : GoodIn wsX9_isScale wsX9_within := goodIn_r _ [5] (by decide +kernel) (by decide +kernel)
set_option maxRecDepth 20000 in
theorem gX9_isScale_X9_within : GoodIn wsX9_isScale (va_wsS RX9 101 yX9_within wsX9_within) := goodIn_app (goodIn_of _ (by decide +kernel)) ggX9_isScale_X9_within
theorem dX9_isScale_0 : decode cX9_isScale 0 = .ok (.iload_n 0, 1) := by decide +kernel
theorem dX9_isScale_1 : decode cX9_isScale 1 = .ok (.iconst 0, 1) := by decide +kernel
theorem dX9_isScale_2 : decode cX9_isScale 2 = .ok (.ldc_w 256, 3) := by decide +kernel
theorem dX9_isScale_5 : decode cX9_isScale 5 = .ok (.invokestatic 101, 3) := by decide +kernel
theorem dX9_isScale_8 : decode cX9_isScale 8 = .ok (.ireturn, 1) := by decide +kernel
set_option maxRecDepth 20000 in
theorem ggX9_isKnown_X9_within : GoodIn wsX9_isKnown wsX9_within := goodIn_r _ [5] (by decide +kernel) (by decide +kernel)
set_option maxRecDepth 20000 in
theorem gX9_isKnown_X9_within : GoodIn wsX9_isKnown (va_wsS RX9 101 yX9_within wsX9_within) := goodIn_app (goodIn_of _ (by decide +kernel)) ggX9_isKnown_X9_within
theorem dX9_isKnown_0 : decode cX9_isKnown 0 = .ok (.iload_n 1, 1) := by decide +kernel
theorem dX9_isKnown_1 : decode cX9_isKnown 1 = .ok (.iconst 0, 1) := by decide +kernel
theorem dX9_isKnown_2 : decode cX9_isKnown 2 = .ok (.aload_n 0, 1) := by decide +kernel
theorem dX9_isKnown_3 : decode cX9_isKnown 3 = .ok (.getfield 82, 3) := by decide +kernel
theorem dX9_isKnown_6 : decode cX9_isKnown 6 = .ok (.invokestatic 101, 3) := by decide +kernel
theorem dX9_isKnown_9 : decode cX9_isKnown 9 = .ok (.ireturn, 1) := by decide +kernel
set_option maxRecDepth 20000 in
theorem ggX9_isLog_X9_within : GoodIn wsX9_isLog wsX9_within := goodIn_r _ [5] (by decide +kernel) (by decide +kernel)
set_option maxRecDepth 20000 in
theorem gX9_isLog_X9_within : GoodIn wsX9_isLog (va_wsS RX9 101 yX9_within wsX9_within) := goodIn_app (goodIn_of _ (by decide +kernel)) ggX9_isLog_X9_within
theorem dX9_isLog_0 : decode cX9_isLog 0 = .ok (.iload_n 1, 1) := by decide +kernel
theorem dX9_isLog_1 : decode cX9_isLog 1 = .ok (.iconst 0, 1) := by decide +kernel
theorem dX9_isLog_2 : decode cX9_isLog 2 = .ok (.aload_n 0, 1) := by decide +kernel
theorem dX9_isLog_3 : decode cX9_isLog 3 = .ok (.getfield 78, 3) := by decide +kernel
theorem dX9_isLog_6 : decode cX9_isLog 6 = .ok (.iconst 1, 1) := by decide +kernel
theorem dX9_isLog_7 : decode cX9_isLog 7 = .ok (.isub, 1) := by decide +kernel
theorem dX9_isLog_8 : decode cX9_isLog 8 = .ok (.invokestatic 101, 3) := by decide +kernel
theorem dX9_isLog_11 : decode cX9_isLog 11 = .ok (.ireturn, 1) := by decide +kernel
set_option maxRecDepth 20000 in
theorem ggX9_scaleOf_X6_inForce : GoodIn wsX9_scaleOf wsX6_inForce := goodIn_r _ [16, 17, 18, 19, 20, 90, 91, 92, 93] (by decide +kernel) (by decide +kernel)
set_option maxRecDepth 20000 in
theorem gX9_scaleOf_X6_inForce : GoodIn wsX9_scaleOf (wsV RX9 144 RX6 yX6_inForce wsX6_inForce) := goodIn_app (goodIn_of _ (by decide +kernel)) ggX9_scaleOf_X6_inForce
set_option maxRecDepth 20000 in
theorem ggX9_scaleOf_X9_trueD : GoodIn wsX9_scaleOf wsX9_trueD := goodIn_r _ [25, 26, 27, 28, 29, 7, 30, 12, 13, 14, 15, 16, 17, 18, 19, 20, 75, 76, 77, 78, 79, 80, 81, 82, 83, 84, 85, 86, 87, 88, 66, 67, 68, 69, 70, 71, 72, 73, 74, 90, 91, 92, 93] (by decide +kernel) (by decide +kernel)
set_option maxRecDepth 20000 in
theorem gX9_scaleOf_X9_trueD : GoodIn wsX9_scaleOf (wsV RX9 260 RX9 yX9_trueD wsX9_trueD) := goodIn_app (goodIn_of _ (by decide +kernel)) ggX9_scaleOf_X9_trueD
set_option maxRecDepth 20000 in
theorem ggX9_scaleOf_X5_reckon : GoodIn wsX9_scaleOf wsX5_reckon := goodIn_r _ [35, 36, 37, 38, 39, 40, 41, 42, 34, 43, 44, 45, 46, 47, 48, 49, 50, 51, 52, 53, 54, 55, 56, 57, 58, 59, 60, 61, 62, 63, 64, 65, 94, 95, 96, 97, 98] (by decide +kernel) (by decide +kernel)
set_option maxRecDepth 20000 in
theorem gX9_scaleOf_X5_reckon : GoodIn wsX9_scaleOf (wsV RX9 137 RX5 yX5_reckon wsX5_reckon) := goodIn_app (goodIn_of _ (by decide +kernel)) ggX9_scaleOf_X5_reckon
theorem dX9_scaleOf_0 : decode cX9_scaleOf 0 = .ok (.aload_n 1, 1) := by decide +kernel
theorem dX9_scaleOf_1 : decode cX9_scaleOf 1 = .ok (.getfield 257, 3) := by decide +kernel
theorem dX9_scaleOf_4 : decode cX9_scaleOf 4 = .ok (.iload_n 2, 1) := by decide +kernel
theorem dX9_scaleOf_5 : decode cX9_scaleOf 5 = .ok (.if_icmp .le 5, 3) := by decide +kernel
theorem dX9_scaleOf_8 : decode cX9_scaleOf 8 = .ok (.iconst (-1), 1) := by decide +kernel
theorem dX9_scaleOf_9 : decode cX9_scaleOf 9 = .ok (.ireturn, 1) := by decide +kernel
theorem dX9_scaleOf_10 : decode cX9_scaleOf 10 = .ok (.aload_n 0, 1) := by decide +kernel
theorem dX9_scaleOf_11 : decode cX9_scaleOf 11 = .ok (.getfield 28, 3) := by decide +kernel
theorem dX9_scaleOf_14 : decode cX9_scaleOf 14 = .ok (.iconst 0, 1) := by decide +kernel
theorem dX9_scaleOf_15 : decode cX9_scaleOf 15 = .ok (.aload_n 1, 1) := by decide +kernel
theorem dX9_scaleOf_16 : decode cX9_scaleOf 16 = .ok (.getfield 257, 3) := by decide +kernel
theorem dX9_scaleOf_19 : decode cX9_scaleOf 19 = .ok (.iload_n 2, 1) := by decide +kernel
theorem dX9_scaleOf_20 : decode cX9_scaleOf 20 = .ok (.invokevirtual 144, 3) := by decide +kernel
theorem dX9_scaleOf_23 : decode cX9_scaleOf 23 = .ok (.istore_n 3, 1) := by decide +kernel
theorem dX9_scaleOf_24 : decode cX9_scaleOf 24 = .ok (.iload_n 3, 1) := by decide +kernel
theorem dX9_scaleOf_25 : decode cX9_scaleOf 25 = .ok (.iconst (-1), 1) := by decide +kernel
theorem dX9_scaleOf_26 : decode cX9_scaleOf 26 = .ok (.if_icmp .ne 5, 3) := by decide +kernel
theorem dX9_scaleOf_29 : decode cX9_scaleOf 29 = .ok (.iconst (-1), 1) := by decide +kernel
theorem dX9_scaleOf_30 : decode cX9_scaleOf 30 = .ok (.ireturn, 1) := by decide +kernel
theorem dX9_scaleOf_31 : decode cX9_scaleOf 31 = .ok (.aload_n 0, 1) := by decide +kernel
theorem dX9_scaleOf_32 : decode cX9_scaleOf 32 = .ok (.getfield 19, 3) := by decide +kernel
theorem dX9_scaleOf_35 : decode cX9_scaleOf 35 = .ok (.aload_n 0, 1) := by decide +kernel
theorem dX9_scaleOf_36 : decode cX9_scaleOf 36 = .ok (.getfield 34, 3) := by decide +kernel
theorem dX9_scaleOf_39 : decode cX9_scaleOf 39 = .ok (.iload_n 3, 1) := by decide +kernel
theorem dX9_scaleOf_40 : decode cX9_scaleOf 40 = .ok (.aaload, 1) := by decide +kernel
theorem dX9_scaleOf_41 : decode cX9_scaleOf 41 = .ok (.getfield 135, 3) := by decide +kernel
theorem dX9_scaleOf_44 : decode cX9_scaleOf 44 = .ok (.aload_n 0, 1) := by decide +kernel
theorem dX9_scaleOf_45 : decode cX9_scaleOf 45 = .ok (.aload_n 1, 1) := by decide +kernel
theorem dX9_scaleOf_46 : decode cX9_scaleOf 46 = .ok (.iload_n 2, 1) := by decide +kernel
theorem dX9_scaleOf_47 : decode cX9_scaleOf 47 = .ok (.invokevirtual 260, 3) := by decide +kernel
theorem dX9_scaleOf_50 : decode cX9_scaleOf 50 = .ok (.aload_n 1, 1) := by decide +kernel
theorem dX9_scaleOf_51 : decode cX9_scaleOf 51 = .ok (.getfield 263, 3) := by decide +kernel
theorem dX9_scaleOf_54 : decode cX9_scaleOf 54 = .ok (.invokevirtual 137, 3) := by decide +kernel
theorem dX9_scaleOf_57 : decode cX9_scaleOf 57 = .ok (.lstore 4, 2) := by decide +kernel
theorem dX9_scaleOf_59 : decode cX9_scaleOf 59 = .ok (.lconst 0, 1) := by decide +kernel
theorem dX9_scaleOf_60 : decode cX9_scaleOf 60 = .ok (.ldc2_w 266, 3) := by decide +kernel
theorem dX9_scaleOf_63 : decode cX9_scaleOf 63 = .ok (.lload 4, 2) := by decide +kernel
theorem dX9_scaleOf_65 : decode cX9_scaleOf 65 = .ok (.invokestatic 268, 3) := by decide +kernel
theorem dX9_scaleOf_68 : decode cX9_scaleOf 68 = .ok (.invokestatic 273, 3) := by decide +kernel
theorem dX9_scaleOf_71 : decode cX9_scaleOf 71 = .ok (.l2i, 1) := by decide +kernel
theorem dX9_scaleOf_72 : decode cX9_scaleOf 72 = .ok (.istore 6, 2) := by decide +kernel
theorem dX9_scaleOf_74 : decode cX9_scaleOf 74 = .ok (.iload 6, 2) := by decide +kernel
theorem dX9_scaleOf_76 : decode cX9_scaleOf 76 = .ok (.bipush 100, 2) := by decide +kernel
theorem dX9_scaleOf_78 : decode cX9_scaleOf 78 = .ok (.aload_n 1, 1) := by decide +kernel
theorem dX9_scaleOf_79 : decode cX9_scaleOf 79 = .ok (.getfield 162, 3) := by decide +kernel
theorem dX9_scaleOf_82 : decode cX9_scaleOf 82 = .ok (.isub, 1) := by decide +kernel
theorem dX9_scaleOf_83 : decode cX9_scaleOf 83 = .ok (.imul, 1) := by decide +kernel
theorem dX9_scaleOf_84 : decode cX9_scaleOf 84 = .ok (.bipush 100, 2) := by decide +kernel
theorem dX9_scaleOf_86 : decode cX9_scaleOf 86 = .ok (.idiv, 1) := by decide +kernel
theorem dX9_scaleOf_87 : decode cX9_scaleOf 87 = .ok (.ireturn, 1) := by decide +kernel
set_option maxRecDepth 20000 in
theorem ggX9_trueD_X6_inForce : GoodIn wsX9_trueD wsX6_inForce := goodIn_r _ [11, 12, 13, 14, 15, 39, 40, 41, 42] (by decide +kernel) (by decide +kernel)
set_option maxRecDepth 20000 in
theorem gX9_trueD_X6_inForce : GoodIn wsX9_trueD (wsV RX9 144 RX6 yX6_inForce wsX6_inForce) := goodIn_app (goodIn_of _ (by decide +kernel)) ggX9_trueD_X6_inForce
theorem dX9_trueD_0 : decode cX9_trueD 0 = .ok (.aload_n 0, 1) := by decide +kernel
theorem dX9_trueD_1 : decode cX9_trueD 1 = .ok (.getfield 38, 3) := by decide +kernel
theorem dX9_trueD_4 : decode cX9_trueD 4 = .ok (.aload_n 1, 1) := by decide +kernel
theorem dX9_trueD_5 : decode cX9_trueD 5 = .ok (.getfield 196, 3) := by decide +kernel
theorem dX9_trueD_8 : decode cX9_trueD 8 = .ok (.aload_n 1, 1) := by decide +kernel
theorem dX9_trueD_9 : decode cX9_trueD 9 = .ok (.getfield 257, 3) := by decide +kernel
theorem dX9_trueD_12 : decode cX9_trueD 12 = .ok (.iload_n 2, 1) := by decide +kernel
theorem dX9_trueD_13 : decode cX9_trueD 13 = .ok (.invokevirtual 144, 3) := by decide +kernel
theorem dX9_trueD_16 : decode cX9_trueD 16 = .ok (.istore_n 3, 1) := by decide +kernel
theorem dX9_trueD_17 : decode cX9_trueD 17 = .ok (.iload_n 3, 1) := by decide +kernel
theorem dX9_trueD_18 : decode cX9_trueD 18 = .ok (.iconst (-1), 1) := by decide +kernel
theorem dX9_trueD_19 : decode cX9_trueD 19 = .ok (.if_icmp .ne 7, 3) := by decide +kernel
theorem dX9_trueD_22 : decode cX9_trueD 22 = .ok (.iconst 0, 1) := by decide +kernel
theorem dX9_trueD_23 : decode cX9_trueD 23 = .ok (.goto 9, 3) := by decide +kernel
theorem dX9_trueD_26 : decode cX9_trueD 26 = .ok (.aload_n 0, 1) := by decide +kernel
theorem dX9_trueD_27 : decode cX9_trueD 27 = .ok (.getfield 41, 3) := by decide +kernel
theorem dX9_trueD_30 : decode cX9_trueD 30 = .ok (.iload_n 3, 1) := by decide +kernel
theorem dX9_trueD_31 : decode cX9_trueD 31 = .ok (.iaload, 1) := by decide +kernel
theorem dX9_trueD_32 : decode cX9_trueD 32 = .ok (.istore 4, 2) := by decide +kernel
theorem dX9_trueD_34 : decode cX9_trueD 34 = .ok (.iconst 0, 1) := by decide +kernel
theorem dX9_trueD_35 : decode cX9_trueD 35 = .ok (.aload_n 1, 1) := by decide +kernel
theorem dX9_trueD_36 : decode cX9_trueD 36 = .ok (.getfield 199, 3) := by decide +kernel
theorem dX9_trueD_39 : decode cX9_trueD 39 = .ok (.sipush 1000, 3) := by decide +kernel
theorem dX9_trueD_42 : decode cX9_trueD 42 = .ok (.imul, 1) := by decide +kernel
theorem dX9_trueD_43 : decode cX9_trueD 43 = .ok (.sipush 1000, 3) := by decide +kernel
theorem dX9_trueD_46 : decode cX9_trueD 46 = .ok (.iload 4, 2) := by decide +kernel
theorem dX9_trueD_48 : decode cX9_trueD 48 = .ok (.iadd, 1) := by decide +kernel
theorem dX9_trueD_49 : decode cX9_trueD 49 = .ok (.idiv, 1) := by decide +kernel
theorem dX9_trueD_50 : decode cX9_trueD 50 = .ok (.aload_n 1, 1) := by decide +kernel
theorem dX9_trueD_51 : decode cX9_trueD 51 = .ok (.getfield 159, 3) := by decide +kernel
theorem dX9_trueD_54 : decode cX9_trueD 54 = .ok (.isub, 1) := by decide +kernel
theorem dX9_trueD_55 : decode cX9_trueD 55 = .ok (.invokestatic 276, 3) := by decide +kernel
theorem dX9_trueD_58 : decode cX9_trueD 58 = .ok (.ireturn, 1) := by decide +kernel
set_option maxRecDepth 20000 in
theorem ggX9_scaleOrNothing_X9_scaleOf : GoodIn wsX9_scaleOrNothing wsX9_scaleOf := goodIn_r _ [5, 6, 7, 8, 9, 10, 11, 12, 13, 14, 15, 16, 17, 18, 19, 20, 21, 22, 23, 24, 25, 26, 27, 28, 4, 29, 30, 31, 32, 33, 34, 35, 36, 37, 38, 39, 40, 41, 42, 43, 44, 45, 46, 47, 48, 49, 50, 51, 52, 53, 54, 55, 56, 57, 58, 59, 60, 61, 62, 63, 64, 65, 66, 67, 68, 69, 70, 71, 72, 73, 74, 75, 76, 77, 78, 79, 80, 81, 82, 83, 84, 85, 86, 87, 88, 89, 90, 91, 92, 93, 94, 95, 96, 97, 98, 99, 100, 101, 102] (by decide +kernel) (by decide +kernel)
set_option maxRecDepth 20000 in
theorem gX9_scaleOrNothing_X9_scaleOf : GoodIn wsX9_scaleOrNothing (wsV RX9 165 RX9 yX9_scaleOf wsX9_scaleOf) := goodIn_app (goodIn_of _ (by decide +kernel)) ggX9_scaleOrNothing_X9_scaleOf
theorem dX9_scaleOrNothing_0 : decode cX9_scaleOrNothing 0 = .ok (.aload_n 0, 1) := by decide +kernel
theorem dX9_scaleOrNothing_1 : decode cX9_scaleOrNothing 1 = .ok (.aload_n 1, 1) := by decide +kernel
theorem dX9_scaleOrNothing_2 : decode cX9_scaleOrNothing 2 = .ok (.iload_n 2, 1) := by decide +kernel
theorem dX9_scaleOrNothing_3 : decode cX9_scaleOrNothing 3 = .ok (.invokevirtual 165, 3) := by decide +kernel
theorem dX9_scaleOrNothing_6 : decode cX9_scaleOrNothing 6 = .ok (.istore_n 3, 1) := by decide +kernel
theorem dX9_scaleOrNothing_7 : decode cX9_scaleOrNothing 7 = .ok (.iload_n 3, 1) := by decide +kernel
theorem dX9_scaleOrNothing_8 : decode cX9_scaleOrNothing 8 = .ok (.iconst (-1), 1) := by decide +kernel
theorem dX9_scaleOrNothing_9 : decode cX9_scaleOrNothing 9 = .ok (.if_icmp .ne 7, 3) := by decide +kernel
theorem dX9_scaleOrNothing_12 : decode cX9_scaleOrNothing 12 = .ok (.iconst 0, 1) := by decide +kernel
theorem dX9_scaleOrNothing_13 : decode cX9_scaleOrNothing 13 = .ok (.goto 4, 3) := by decide +kernel
theorem dX9_scaleOrNothing_16 : decode cX9_scaleOrNothing 16 = .ok (.iload_n 3, 1) := by decide +kernel
theorem dX9_scaleOrNothing_17 : decode cX9_scaleOrNothing 17 = .ok (.ireturn, 1) := by decide +kernel
set_option maxRecDepth 20000 in
theorem ggX9_reckonPays_X9_scaleOrNothing : GoodIn wsX9_reckonPays wsX9_scaleOrNothing := goodIn_r _ [10, 11, 12, 13, 9, 14, 15, 16, 17, 18, 19, 20, 21, 22, 23, 24, 25, 26, 27, 28, 29, 30, 31, 32, 33, 34, 35, 36, 37, 38, 39, 40, 41, 42, 43, 44, 45, 46, 47, 48, 49, 50, 51, 52, 53, 54, 55, 56, 57, 58, 59, 60, 61, 62, 63, 64, 65, 66, 67, 68, 69, 70, 71, 72, 73, 74, 75, 76, 77, 78, 93, 94, 95, 96, 97, 98, 99, 100, 101, 79, 80, 81, 82, 83, 84, 85, 86, 87, 88, 89, 90, 91, 92, 102, 103, 104, 105, 106, 107, 108, 109, 110, 111] (by decide +kernel) (by decide +kernel)
set_option maxRecDepth 20000 in
theorem gX9_reckonPays_X9_scaleOrNothing : GoodIn wsX9_reckonPays (wsV RX9 172 RX9 yX9_scaleOrNothing wsX9_scaleOrNothing) := goodIn_app (goodIn_of _ (by decide +kernel)) ggX9_reckonPays_X9_scaleOrNothing
theorem dX9_reckonPays_0 : decode cX9_reckonPays 0 = .ok (.iconst 0, 1) := by decide +kernel
theorem dX9_reckonPays_1 : decode cX9_reckonPays 1 = .ok (.istore_n 1, 1) := by decide +kernel
theorem dX9_reckonPays_2 : decode cX9_reckonPays 2 = .ok (.iconst 0, 1) := by decide +kernel
theorem dX9_reckonPays_3 : decode cX9_reckonPays 3 = .ok (.istore_n 2, 1) := by decide +kernel
theorem dX9_reckonPays_4 : decode cX9_reckonPays 4 = .ok (.iload_n 2, 1) := by decide +kernel
theorem dX9_reckonPays_5 : decode cX9_reckonPays 5 = .ok (.aload_n 0, 1) := by decide +kernel
theorem dX9_reckonPays_6 : decode cX9_reckonPays 6 = .ok (.getfield 78, 3) := by decide +kernel
theorem dX9_reckonPays_9 : decode cX9_reckonPays 9 = .ok (.if_icmp .ge 65, 3) := by decide +kernel
theorem dX9_reckonPays_12 : decode cX9_reckonPays 12 = .ok (.aload_n 0, 1) := by decide +kernel
theorem dX9_reckonPays_13 : decode cX9_reckonPays 13 = .ok (.getfield 54, 3) := by decide +kernel
theorem dX9_reckonPays_16 : decode cX9_reckonPays 16 = .ok (.iload_n 2, 1) := by decide +kernel
theorem dX9_reckonPays_17 : decode cX9_reckonPays 17 = .ok (.aload_n 0, 1) := by decide +kernel
theorem dX9_reckonPays_18 : decode cX9_reckonPays 18 = .ok (.aload_n 0, 1) := by decide +kernel
theorem dX9_reckonPays_19 : decode cX9_reckonPays 19 = .ok (.getfield 47, 3) := by decide +kernel
theorem dX9_reckonPays_22 : decode cX9_reckonPays 22 = .ok (.iload_n 2, 1) := by decide +kernel
theorem dX9_reckonPays_23 : decode cX9_reckonPays 23 = .ok (.aaload, 1) := by decide +kernel
theorem dX9_reckonPays_24 : decode cX9_reckonPays 24 = .ok (.aload_n 0, 1) := by decide +kernel
theorem dX9_reckonPays_25 : decode cX9_reckonPays 25 = .ok (.getfield 82, 3) := by decide +kernel
theorem dX9_reckonPays_28 : decode cX9_reckonPays 28 = .ok (.invokevirtual 172, 3) := by decide +kernel
theorem dX9_reckonPays_31 : decode cX9_reckonPays 31 = .ok (.aload_n 0, 1) := by decide +kernel
theorem dX9_reckonPays_32 : decode cX9_reckonPays 32 = .ok (.getfield 51, 3) := by decide +kernel
theorem dX9_reckonPays_35 : decode cX9_reckonPays 35 = .ok (.aload_n 0, 1) := by decide +kernel
theorem dX9_reckonPays_36 : decode cX9_reckonPays 36 = .ok (.getfield 47, 3) := by decide +kernel
theorem dX9_reckonPays_39 : decode cX9_reckonPays 39 = .ok (.iload_n 2, 1) := by decide +kernel
theorem dX9_reckonPays_40 : decode cX9_reckonPays 40 = .ok (.aaload, 1) := by decide +kernel
theorem dX9_reckonPays_41 : decode cX9_reckonPays 41 = .ok (.getfield 169, 3) := by decide +kernel
theorem dX9_reckonPays_44 : decode cX9_reckonPays 44 = .ok (.iaload, 1) := by decide +kernel
theorem dX9_reckonPays_45 : decode cX9_reckonPays 45 = .ok (.imul, 1) := by decide +kernel
theorem dX9_reckonPays_46 : decode cX9_reckonPays 46 = .ok (.iastore, 1) := by decide +kernel
theorem dX9_reckonPays_47 : decode cX9_reckonPays 47 = .ok (.aload_n 0, 1) := by decide +kernel
theorem dX9_reckonPays_48 : decode cX9_reckonPays 48 = .ok (.getfield 54, 3) := by decide +kernel
theorem dX9_reckonPays_51 : decode cX9_reckonPays 51 = .ok (.iload_n 2, 1) := by decide +kernel
theorem dX9_reckonPays_52 : decode cX9_reckonPays 52 = .ok (.iaload, 1) := by decide +kernel
theorem dX9_reckonPays_53 : decode cX9_reckonPays 53 = .ok (.aload_n 0, 1) := by decide +kernel
theorem dX9_reckonPays_54 : decode cX9_reckonPays 54 = .ok (.getfield 47, 3) := by decide +kernel
theorem dX9_reckonPays_57 : decode cX9_reckonPays 57 = .ok (.iload_n 2, 1) := by decide +kernel
theorem dX9_reckonPays_58 : decode cX9_reckonPays 58 = .ok (.aaload, 1) := by decide +kernel
theorem dX9_reckonPays_59 : decode cX9_reckonPays 59 = .ok (.getfield 279, 3) := by decide +kernel
theorem dX9_reckonPays_62 : decode cX9_reckonPays 62 = .ok (.if_icmp .eq 6, 3) := by decide +kernel
theorem dX9_reckonPays_65 : decode cX9_reckonPays 65 = .ok (.iinc 1 1, 3) := by decide +kernel
theorem dX9_reckonPays_68 : decode cX9_reckonPays 68 = .ok (.iinc 2 1, 3) := by decide +kernel
theorem dX9_reckonPays_71 : decode cX9_reckonPays 71 = .ok (.goto (-67), 3) := by decide +kernel
theorem dX9_reckonPays_74 : decode cX9_reckonPays 74 = .ok (.iload_n 1, 1) := by decide +kernel
theorem dX9_reckonPays_75 : decode cX9_reckonPays 75 = .ok (.ireturn, 1) := by decide +kernel
set_option maxRecDepth 20000 in
theorem ggX9_bookPays_X2_write : GoodIn wsX9_bookPays wsX2_write := goodIn_r _ [10, 11, 12, 13, 14, 15, 16, 17, 18, 9, 19, 20, 21, 22, 23, 24, 25, 26, 27, 28, 29, 30, 31, 32, 33, 34, 35, 36, 37, 38, 39, 63, 64, 65, 66, 67] (by decide +kernel) (by decide +kernel)
set_option maxRecDepth 20000 in
theorem gX9_bookPays_X2_write : GoodIn wsX9_bookPays (wsV RX9 282 RX2 yX2_write wsX2_write) := goodIn_app (goodIn_of _ (by decide +kernel)) ggX9_bookPays_X2_write
theorem dX9_bookPays_0 : decode cX9_bookPays 0 = .ok (.iconst 0, 1) := by decide +kernel
theorem dX9_bookPays_1 : decode cX9_bookPays 1 = .ok (.istore_n 1, 1) := by decide +kernel
theorem dX9_bookPays_2 : decode cX9_bookPays 2 = .ok (.iload_n 1, 1) := by decide +kernel
theorem dX9_bookPays_3 : decode cX9_bookPays 3 = .ok (.aload_n 0, 1) := by decide +kernel
theorem dX9_bookPays_4 : decode cX9_bookPays 4 = .ok (.getfield 78, 3) := by decide +kernel
theorem dX9_bookPays_7 : decode cX9_bookPays 7 = .ok (.if_icmp .ge 58, 3) := by decide +kernel
theorem dX9_bookPays_10 : decode cX9_bookPays 10 = .ok (.aload_n 0, 1) := by decide +kernel
theorem dX9_bookPays_11 : decode cX9_bookPays 11 = .ok (.getfield 54, 3) := by decide +kernel
theorem dX9_bookPays_14 : decode cX9_bookPays 14 = .ok (.iload_n 1, 1) := by decide +kernel
theorem dX9_bookPays_15 : decode cX9_bookPays 15 = .ok (.iaload, 1) := by decide +kernel
theorem dX9_bookPays_16 : decode cX9_bookPays 16 = .ok (.aload_n 0, 1) := by decide +kernel
theorem dX9_bookPays_17 : decode cX9_bookPays 17 = .ok (.getfield 47, 3) := by decide +kernel
theorem dX9_bookPays_20 : decode cX9_bookPays 20 = .ok (.iload_n 1, 1) := by decide +kernel
theorem dX9_bookPays_21 : decode cX9_bookPays 21 = .ok (.aaload, 1) := by decide +kernel
theorem dX9_bookPays_22 : decode cX9_bookPays 22 = .ok (.getfield 279, 3) := by decide +kernel
theorem dX9_bookPays_25 : decode cX9_bookPays 25 = .ok (.isub, 1) := by decide +kernel
theorem dX9_bookPays_26 : decode cX9_bookPays 26 = .ok (.istore_n 2, 1) := by decide +kernel
theorem dX9_bookPays_27 : decode cX9_bookPays 27 = .ok (.iload_n 2, 1) := by decide +kernel
theorem dX9_bookPays_28 : decode cX9_bookPays 28 = .ok (.ifCond .eq 31, 3) := by decide +kernel
theorem dX9_bookPays_31 : decode cX9_bookPays 31 = .ok (.aload_n 0, 1) := by decide +kernel
theorem dX9_bookPays_32 : decode cX9_bookPays 32 = .ok (.getfield 60, 3) := by decide +kernel
theorem dX9_bookPays_35 : decode cX9_bookPays 35 = .ok (.aload_n 0, 1) := by decide +kernel
theorem dX9_bookPays_36 : decode cX9_bookPays 36 = .ok (.getfield 82, 3) := by decide +kernel
theorem dX9_bookPays_39 : decode cX9_bookPays 39 = .ok (.iload_n 1, 1) := by decide +kernel
theorem dX9_bookPays_40 : decode cX9_bookPays 40 = .ok (.iload_n 2, 1) := by decide +kernel
theorem dX9_bookPays_41 : decode cX9_bookPays 41 = .ok (.invokevirtual 282, 3) := by decide +kernel
theorem dX9_bookPays_44 : decode cX9_bookPays 44 = .ok (.aload_n 0, 1) := by decide +kernel
theorem dX9_bookPays_45 : decode cX9_bookPays 45 = .ok (.getfield 47, 3) := by decide +kernel
theorem dX9_bookPays_48 : decode cX9_bookPays 48 = .ok (.iload_n 1, 1) := by decide +kernel
theorem dX9_bookPays_49 : decode cX9_bookPays 49 = .ok (.aaload, 1) := by decide +kernel
theorem dX9_bookPays_50 : decode cX9_bookPays 50 = .ok (.aload_n 0, 1) := by decide +kernel
theorem dX9_bookPays_51 : decode cX9_bookPays 51 = .ok (.getfield 54, 3) := by decide +kernel
theorem dX9_bookPays_54 : decode cX9_bookPays 54 = .ok (.iload_n 1, 1) := by decide +kernel
theorem dX9_bookPays_55 : decode cX9_bookPays 55 = .ok (.iaload, 1) := by decide +kernel
theorem dX9_bookPays_56 : decode cX9_bookPays 56 = .ok (.putfield 279, 3) := by decide +kernel
theorem dX9_bookPays_59 : decode cX9_bookPays 59 = .ok (.iinc 1 1, 3) := by decide +kernel
theorem dX9_bookPays_62 : decode cX9_bookPays 62 = .ok (.goto (-60), 3) := by decide +kernel
theorem dX9_bookPays_65 : decode cX9_bookPays 65 = .ok (.return_, 1) := by decide +kernel
theorem dX9_commonDivisor_0 : decode cX9_commonDivisor 0 = .ok (.lload_n 0, 1) := by decide +kernel
theorem dX9_commonDivisor_1 : decode cX9_commonDivisor 1 = .ok (.lstore 4, 2) := by decide +kernel
theorem dX9_commonDivisor_3 : decode cX9_commonDivisor 3 = .ok (.lload_n 2, 1) := by decide +kernel
theorem dX9_commonDivisor_4 : decode cX9_commonDivisor 4 = .ok (.lstore 6, 2) := by decide +kernel
theorem dX9_commonDivisor_6 : decode cX9_commonDivisor 6 = .ok (.iconst 0, 1) := by decide +kernel
theorem dX9_commonDivisor_7 : decode cX9_commonDivisor 7 = .ok (.istore 8, 2) := by decide +kernel
theorem dX9_commonDivisor_9 : decode cX9_commonDivisor 9 = .ok (.iload 8, 2) := by decide +kernel
theorem dX9_commonDivisor_11 : decode cX9_commonDivisor 11 = .ok (.bipush 100, 2) := by decide +kernel
theorem dX9_commonDivisor_13 : decode cX9_commonDivisor 13 = .ok (.if_icmp .ge 31, 3) := by decide +kernel
theorem dX9_commonDivisor_16 : decode cX9_commonDivisor 16 = .ok (.lload 6, 2) := by decide +kernel
theorem dX9_commonDivisor_18 : decode cX9_commonDivisor 18 = .ok (.lconst 0, 1) := by decide +kernel
theorem dX9_commonDivisor_19 : decode cX9_commonDivisor 19 = .ok (.lcmp, 1) := by decide +kernel
theorem dX9_commonDivisor_20 : decode cX9_commonDivisor 20 = .ok (.ifCond .eq 24, 3) := by decide +kernel
theorem dX9_commonDivisor_23 : decode cX9_commonDivisor 23 = .ok (.lload 4, 2) := by decide +kernel
theorem dX9_commonDivisor_25 : decode cX9_commonDivisor 25 = .ok (.lload 6, 2) := by decide +kernel
theorem dX9_commonDivisor_27 : decode cX9_commonDivisor 27 = .ok (.lrem, 1) := by decide +kernel
theorem dX9_commonDivisor_28 : decode cX9_commonDivisor 28 = .ok (.lstore 9, 2) := by decide +kernel
theorem dX9_commonDivisor_30 : decode cX9_commonDivisor 30 = .ok (.lload 6, 2) := by decide +kernel
theorem dX9_commonDivisor_32 : decode cX9_commonDivisor 32 = .ok (.lstore 4, 2) := by decide +kernel
theorem dX9_commonDivisor_34 : decode cX9_commonDivisor 34 = .ok (.lload 9, 2) := by decide +kernel
theorem dX9_commonDivisor_36 : decode cX9_commonDivisor 36 = .ok (.lstore 6, 2) := by decide +kernel
theorem dX9_commonDivisor_38 : decode cX9_commonDivisor 38 = .ok (.iinc 8 1, 3) := by decide +kernel
theorem dX9_commonDivisor_41 : decode cX9_commonDivisor 41 = .ok (.goto (-32), 3) := by decide +kernel
theorem dX9_commonDivisor_44 : decode cX9_commonDivisor 44 = .ok (.lload 4, 2) := by decide +kernel
theorem dX9_commonDivisor_46 : decode cX9_commonDivisor 46 = .ok (.lreturn, 1) := by decide +kernel
theorem dX10_init_0 : decode cX10_init 0 = .ok (.aload_n 0, 1) := by decide +kernel
theorem dX10_init_1 : decode cX10_init 1 = .ok (.invokespecial 1, 3) := by decide +kernel
theorem dX10_init_4 : decode cX10_init 4 = .ok (.aload_n 0, 1) := by decide +kernel
theorem dX10_init_5 : decode cX10_init 5 = .ok (.bipush 120, 2) := by decide +kernel
theorem dX10_init_7 : decode cX10_init 7 = .ok (.newarray .byte, 2) := by decide +kernel
theorem dX10_init_9 : decode cX10_init 9 = .ok (.putfield 9, 3) := by decide +kernel
theorem dX10_init_12 : decode cX10_init 12 = .ok (.aload_n 0, 1) := by decide +kernel
theorem dX10_init_13 : decode cX10_init 13 = .ok (.sipush 2400, 3) := by decide +kernel
theorem dX10_init_16 : decode cX10_init 16 = .ok (.newarray .byte, 2) := by decide +kernel
theorem dX10_init_18 : decode cX10_init 18 = .ok (.putfield 13, 3) := by decide +kernel
theorem dX10_init_21 : decode cX10_init 21 = .ok (.aload_n 0, 1) := by decide +kernel
theorem dX10_init_22 : decode cX10_init 22 = .ok (.bipush 20, 2) := by decide +kernel
theorem dX10_init_24 : decode cX10_init 24 = .ok (.newarray .int, 2) := by decide +kernel
theorem dX10_init_26 : decode cX10_init 26 = .ok (.putfield 16, 3) := by decide +kernel
theorem dX10_init_29 : decode cX10_init 29 = .ok (.aload_n 0, 1) := by decide +kernel
theorem dX10_init_30 : decode cX10_init 30 = .ok (.bipush 20, 2) := by decide +kernel
theorem dX10_init_32 : decode cX10_init 32 = .ok (.newarray .int, 2) := by decide +kernel
theorem dX10_init_34 : decode cX10_init 34 = .ok (.putfield 20, 3) := by decide +kernel
theorem dX10_init_37 : decode cX10_init 37 = .ok (.aload_n 0, 1) := by decide +kernel
theorem dX10_init_38 : decode cX10_init 38 = .ok (.bipush 20, 2) := by decide +kernel
theorem dX10_init_40 : decode cX10_init 40 = .ok (.newarray .int, 2) := by decide +kernel
theorem dX10_init_42 : decode cX10_init 42 = .ok (.putfield 23, 3) := by decide +kernel
theorem dX10_init_45 : decode cX10_init 45 = .ok (.aload_n 0, 1) := by decide +kernel
theorem dX10_init_46 : decode cX10_init 46 = .ok (.bipush 60, 2) := by decide +kernel
theorem dX10_init_48 : decode cX10_init 48 = .ok (.newarray .int, 2) := by decide +kernel
theorem dX10_init_50 : decode cX10_init 50 = .ok (.putfield 26, 3) := by decide +kernel
theorem dX10_init_53 : decode cX10_init 53 = .ok (.aload_n 0, 1) := by decide +kernel
theorem dX10_init_54 : decode cX10_init 54 = .ok (.bipush 60, 2) := by decide +kernel
theorem dX10_init_56 : decode cX10_init 56 = .ok (.newarray .int, 2) := by decide +kernel
theorem dX10_init_58 : decode cX10_init 58 = .ok (.putfield 29, 3) := by decide +kernel
theorem dX10_init_61 : decode cX10_init 61 = .ok (.aload_n 0, 1) := by decide +kernel
theorem dX10_init_62 : decode cX10_init 62 = .ok (.bipush 60, 2) := by decide +kernel
theorem dX10_init_64 : decode cX10_init 64 = .ok (.newarray .int, 2) := by decide +kernel
theorem dX10_init_66 : decode cX10_init 66 = .ok (.putfield 32, 3) := by decide +kernel
theorem dX10_init_69 : decode cX10_init 69 = .ok (.aload_n 0, 1) := by decide +kernel
theorem dX10_init_70 : decode cX10_init 70 = .ok (.bipush 60, 2) := by decide +kernel
theorem dX10_init_72 : decode cX10_init 72 = .ok (.newarray .int, 2) := by decide +kernel
theorem dX10_init_74 : decode cX10_init 74 = .ok (.putfield 35, 3) := by decide +kernel
theorem dX10_init_77 : decode cX10_init 77 = .ok (.aload_n 0, 1) := by decide +kernel
theorem dX10_init_78 : decode cX10_init 78 = .ok (.bipush 100, 2) := by decide +kernel
theorem dX10_init_80 : decode cX10_init 80 = .ok (.newarray .int, 2) := by decide +kernel
theorem dX10_init_82 : decode cX10_init 82 = .ok (.putfield 38, 3) := by decide +kernel
theorem dX10_init_85 : decode cX10_init 85 = .ok (.aload_n 0, 1) := by decide +kernel
theorem dX10_init_86 : decode cX10_init 86 = .ok (.bipush 100, 2) := by decide +kernel
theorem dX10_init_88 : decode cX10_init 88 = .ok (.newarray .int, 2) := by decide +kernel
theorem dX10_init_90 : decode cX10_init 90 = .ok (.putfield 41, 3) := by decide +kernel
theorem dX10_init_93 : decode cX10_init 93 = .ok (.aload_n 0, 1) := by decide +kernel
theorem dX10_init_94 : decode cX10_init 94 = .ok (.bipush 100, 2) := by decide +kernel
theorem dX10_init_96 : decode cX10_init 96 = .ok (.newarray .int, 2) := by decide +kernel
theorem dX10_init_98 : decode cX10_init 98 = .ok (.putfield 44, 3) := by decide +kernel
theorem dX10_init_101 : decode cX10_init 101 = .ok (.aload_n 0, 1) := by decide +kernel
theorem dX10_init_102 : decode cX10_init 102 = .ok (.bipush 100, 2) := by decide +kernel
theorem dX10_init_104 : decode cX10_init 104 = .ok (.newarray .int, 2) := by decide +kernel
theorem dX10_init_106 : decode cX10_init 106 = .ok (.putfield 47, 3) := by decide +kernel
theorem dX10_init_109 : decode cX10_init 109 = .ok (.aload_n 0, 1) := by decide +kernel
theorem dX10_init_110 : decode cX10_init 110 = .ok (.bipush 100, 2) := by decide +kernel
theorem dX10_init_112 : decode cX10_init 112 = .ok (.newarray .int, 2) := by decide +kernel
theorem dX10_init_114 : decode cX10_init 114 = .ok (.putfield 50, 3) := by decide +kernel
theorem dX10_init_117 : decode cX10_init 117 = .ok (.aload_n 0, 1) := by decide +kernel
theorem dX10_init_118 : decode cX10_init 118 = .ok (.bipush 100, 2) := by decide +kernel
theorem dX10_init_120 : decode cX10_init 120 = .ok (.newarray .int, 2) := by decide +kernel
theorem dX10_init_122 : decode cX10_init 122 = .ok (.putfield 53, 3) := by decide +kernel
theorem dX10_init_125 : decode cX10_init 125 = .ok (.aload_n 0, 1) := by decide +kernel
theorem dX10_init_126 : decode cX10_init 126 = .ok (.bipush 100, 2) := by decide +kernel
theorem dX10_init_128 : decode cX10_init 128 = .ok (.newarray .int, 2) := by decide +kernel
theorem dX10_init_130 : decode cX10_init 130 = .ok (.putfield 56, 3) := by decide +kernel
theorem dX10_init_133 : decode cX10_init 133 = .ok (.aload_n 0, 1) := by decide +kernel
theorem dX10_init_134 : decode cX10_init 134 = .ok (.bipush 100, 2) := by decide +kernel
theorem dX10_init_136 : decode cX10_init 136 = .ok (.newarray .int, 2) := by decide +kernel
theorem dX10_init_138 : decode cX10_init 138 = .ok (.putfield 59, 3) := by decide +kernel
theorem dX10_init_141 : decode cX10_init 141 = .ok (.aload_n 0, 1) := by decide +kernel
theorem dX10_init_142 : decode cX10_init 142 = .ok (.bipush 100, 2) := by decide +kernel
theorem dX10_init_144 : decode cX10_init 144 = .ok (.newarray .int, 2) := by decide +kernel
theorem dX10_init_146 : decode cX10_init 146 = .ok (.putfield 62, 3) := by decide +kernel
theorem dX10_init_149 : decode cX10_init 149 = .ok (.aload_n 0, 1) := by decide +kernel
theorem dX10_init_150 : decode cX10_init 150 = .ok (.bipush 6, 2) := by decide +kernel
theorem dX10_init_152 : decode cX10_init 152 = .ok (.newarray .int, 2) := by decide +kernel
theorem dX10_init_154 : decode cX10_init 154 = .ok (.putfield 65, 3) := by decide +kernel
theorem dX10_init_157 : decode cX10_init 157 = .ok (.aload_n 0, 1) := by decide +kernel
theorem dX10_init_158 : decode cX10_init 158 = .ok (.sipush 20000, 3) := by decide +kernel
theorem dX10_init_161 : decode cX10_init 161 = .ok (.newarray .int, 2) := by decide +kernel
theorem dX10_init_163 : decode cX10_init 163 = .ok (.putfield 68, 3) := by decide +kernel
theorem dX10_init_166 : decode cX10_init 166 = .ok (.aload_n 0, 1) := by decide +kernel
theorem dX10_init_167 : decode cX10_init 167 = .ok (.sipush 20000, 3) := by decide +kernel
theorem dX10_init_170 : decode cX10_init 170 = .ok (.newarray .int, 2) := by decide +kernel
theorem dX10_init_172 : decode cX10_init 172 = .ok (.putfield 71, 3) := by decide +kernel
theorem dX10_init_175 : decode cX10_init 175 = .ok (.aload_n 0, 1) := by decide +kernel
theorem dX10_init_176 : decode cX10_init 176 = .ok (.sipush 20000, 3) := by decide +kernel
theorem dX10_init_179 : decode cX10_init 179 = .ok (.newarray .int, 2) := by decide +kernel
theorem dX10_init_181 : decode cX10_init 181 = .ok (.putfield 74, 3) := by decide +kernel
theorem dX10_init_184 : decode cX10_init 184 = .ok (.aload_n 0, 1) := by decide +kernel
theorem dX10_init_185 : decode cX10_init 185 = .ok (.aload_n 0, 1) := by decide +kernel
theorem dX10_init_186 : decode cX10_init 186 = .ok (.getfield 9, 3) := by decide +kernel
theorem dX10_init_189 : decode cX10_init 189 = .ok (.putfield 77, 3) := by decide +kernel
theorem dX10_init_192 : decode cX10_init 192 = .ok (.aload_n 0, 1) := by decide +kernel
theorem dX10_init_193 : decode cX10_init 193 = .ok (.bipush 40, 2) := by decide +kernel
theorem dX10_init_195 : decode cX10_init 195 = .ok (.newarray .int, 2) := by decide +kernel
theorem dX10_init_197 : decode cX10_init 197 = .ok (.putfield 80, 3) := by decide +kernel
theorem dX10_init_200 : decode cX10_init 200 = .ok (.aload_n 0, 1) := by decide +kernel
theorem dX10_init_201 : decode cX10_init 201 = .ok (.bipush 40, 2) := by decide +kernel
theorem dX10_init_203 : decode cX10_init 203 = .ok (.newarray .int, 2) := by decide +kernel
theorem dX10_init_205 : decode cX10_init 205 = .ok (.putfield 83, 3) := by decide +kernel
theorem dX10_init_208 : decode cX10_init 208 = .ok (.aload_n 0, 1) := by decide +kernel
theorem dX10_init_209 : decode cX10_init 209 = .ok (.iconst 2, 1) := by decide +kernel
theorem dX10_init_210 : decode cX10_init 210 = .ok (.newarray .int, 2) := by decide +kernel
theorem dX10_init_212 : decode cX10_init 212 = .ok (.putfield 86, 3) := by decide +kernel
theorem dX10_init_215 : decode cX10_init 215 = .ok (.aload_n 0, 1) := by decide +kernel
theorem dX10_init_216 : decode cX10_init 216 = .ok (.bipush 20, 2) := by decide +kernel
theorem dX10_init_218 : decode cX10_init 218 = .ok (.newarray .int, 2) := by decide +kernel
theorem dX10_init_220 : decode cX10_init 220 = .ok (.putfield 89, 3) := by decide +kernel
theorem dX10_init_223 : decode cX10_init 223 = .ok (.aload_n 0, 1) := by decide +kernel
theorem dX10_init_224 : decode cX10_init 224 = .ok (.bipush 20, 2) := by decide +kernel
theorem dX10_init_226 : decode cX10_init 226 = .ok (.newarray .boolean, 2) := by decide +kernel
theorem dX10_init_228 : decode cX10_init 228 = .ok (.putfield 92, 3) := by decide +kernel
theorem dX10_init_231 : decode cX10_init 231 = .ok (.aload_n 0, 1) := by decide +kernel
theorem dX10_init_232 : decode cX10_init 232 = .ok (.bipush 20, 2) := by decide +kernel
theorem dX10_init_234 : decode cX10_init 234 = .ok (.newarray .boolean, 2) := by decide +kernel
theorem dX10_init_236 : decode cX10_init 236 = .ok (.putfield 96, 3) := by decide +kernel
theorem dX10_init_239 : decode cX10_init 239 = .ok (.aload_n 0, 1) := by decide +kernel
theorem dX10_init_240 : decode cX10_init 240 = .ok (.iconst 3, 1) := by decide +kernel
theorem dX10_init_241 : decode cX10_init 241 = .ok (.putfield 99, 3) := by decide +kernel
theorem dX10_init_244 : decode cX10_init 244 = .ok (.aload_n 0, 1) := by decide +kernel
theorem dX10_init_245 : decode cX10_init 245 = .ok (.iconst (-1), 1) := by decide +kernel
theorem dX10_init_246 : decode cX10_init 246 = .ok (.putfield 103, 3) := by decide +kernel
theorem dX10_init_249 : decode cX10_init 249 = .ok (.iconst 0, 1) := by decide +kernel
theorem dX10_init_250 : decode cX10_init 250 = .ok (.istore_n 1, 1) := by decide +kernel
theorem dX10_init_251 : decode cX10_init 251 = .ok (.iload_n 1, 1) := by decide +kernel
theorem dX10_init_252 : decode cX10_init 252 = .ok (.bipush 6, 2) := by decide +kernel
theorem dX10_init_254 : decode cX10_init 254 = .ok (.if_icmp .ge 16, 3) := by decide +kernel
theorem dX10_init_257 : decode cX10_init 257 = .ok (.aload_n 0, 1) := by decide +kernel
theorem dX10_init_258 : decode cX10_init 258 = .ok (.getfield 65, 3) := by decide +kernel
theorem dX10_init_261 : decode cX10_init 261 = .ok (.iload_n 1, 1) := by decide +kernel
theorem dX10_init_262 : decode cX10_init 262 = .ok (.iconst 1, 1) := by decide +kernel
theorem dX10_init_263 : decode cX10_init 263 = .ok (.iastore, 1) := by decide +kernel
theorem dX10_init_264 : decode cX10_init 264 = .ok (.iinc 1 1, 3) := by decide +kernel
theorem dX10_init_267 : decode cX10_init 267 = .ok (.goto (-16), 3) := by decide +kernel
theorem dX10_init_270 : decode cX10_init 270 = .ok (.return_, 1) := by decide +kernel
theorem dX10_thrown_0 : decode cX10_thrown 0 = .ok (.aload_n 0, 1) := by decide +kernel
theorem dX10_thrown_1 : decode cX10_thrown 1 = .ok (.getfield 106, 3) := by decide +kernel
theorem dX10_thrown_4 : decode cX10_thrown 4 = .ok (.ireturn, 1) := by decide +kernel
theorem dX10_isIn_0 : decode cX10_isIn 0 = .ok (.iload_n 0, 1) := by decide +kernel
theorem dX10_isIn_1 : decode cX10_isIn 1 = .ok (.iload_n 1, 1) := by decide +kernel
theorem dX10_isIn_2 : decode cX10_isIn 2 = .ok (.if_icmp .lt 12, 3) := by decide +kernel
theorem dX10_isIn_5 : decode cX10_isIn 5 = .ok (.iload_n 0, 1) := by decide +kernel
theorem dX10_isIn_6 : decode cX10_isIn 6 = .ok (.iload_n 2, 1) := by decide +kernel
theorem dX10_isIn_7 : decode cX10_isIn 7 = .ok (.if_icmp .gt 7, 3) := by decide +kernel
theorem dX10_isIn_10 : decode cX10_isIn 10 = .ok (.iconst 1, 1) := by decide +kernel
theorem dX10_isIn_11 : decode cX10_isIn 11 = .ok (.goto 4, 3) := by decide +kernel
theorem dX10_isIn_14 : decode cX10_isIn 14 = .ok (.iconst 0, 1) := by decide +kernel
theorem dX10_isIn_15 : decode cX10_isIn 15 = .ok (.ireturn, 1) := by decide +kernel
theorem dX10_bytesIn_0 : decode cX10_bytesIn 0 = .ok (.iconst 0, 1) := by decide +kernel
theorem dX10_bytesIn_1 : decode cX10_bytesIn 1 = .ok (.istore_n 1, 1) := by decide +kernel
theorem dX10_bytesIn_2 : decode cX10_bytesIn 2 = .ok (.bipush 24, 2) := by decide +kernel
theorem dX10_bytesIn_4 : decode cX10_bytesIn 4 = .ok (.istore_n 2, 1) := by decide +kernel
theorem dX10_bytesIn_5 : decode cX10_bytesIn 5 = .ok (.iload_n 2, 1) := by decide +kernel
theorem dX10_bytesIn_6 : decode cX10_bytesIn 6 = .ok (.ifCond .lt 27, 3) := by decide +kernel
theorem dX10_bytesIn_9 : decode cX10_bytesIn 9 = .ok (.iload_n 1, 1) := by decide +kernel
theorem dX10_bytesIn_10 : decode cX10_bytesIn 10 = .ok (.iload_n 0, 1) := by decide +kernel
theorem dX10_bytesIn_11 : decode cX10_bytesIn 11 = .ok (.iload_n 2, 1) := by decide +kernel
theorem dX10_bytesIn_12 : decode cX10_bytesIn 12 = .ok (.ishr, 1) := by decide +kernel
theorem dX10_bytesIn_13 : decode cX10_bytesIn 13 = .ok (.sipush 255, 3) := by decide +kernel
theorem dX10_bytesIn_16 : decode cX10_bytesIn 16 = .ok (.iand, 1) := by decide +kernel
theorem dX10_bytesIn_17 : decode cX10_bytesIn 17 = .ok (.ifCond .eq 7, 3) := by decide +kernel
theorem dX10_bytesIn_20 : decode cX10_bytesIn 20 = .ok (.iconst 1, 1) := by decide +kernel
theorem dX10_bytesIn_21 : decode cX10_bytesIn 21 = .ok (.goto 4, 3) := by decide +kernel
theorem dX10_bytesIn_24 : decode cX10_bytesIn 24 = .ok (.iconst 0, 1) := by decide +kernel
theorem dX10_bytesIn_25 : decode cX10_bytesIn 25 = .ok (.iadd, 1) := by decide +kernel
theorem dX10_bytesIn_26 : decode cX10_bytesIn 26 = .ok (.istore_n 1, 1) := by decide +kernel
theorem dX10_bytesIn_27 : decode cX10_bytesIn 27 = .ok (.iinc 2 (-8), 3) := by decide +kernel
theorem dX10_bytesIn_30 : decode cX10_bytesIn 30 = .ok (.goto (-25), 3) := by decide +kernel
theorem dX10_bytesIn_33 : decode cX10_bytesIn 33 = .ok (.iload_n 1, 1) := by decide +kernel
theorem dX10_bytesIn_34 : decode cX10_bytesIn 34 = .ok (.ireturn, 1) := by decide +kernel
theorem dX10_put_0 : decode cX10_put 0 = .ok (.bipush 24, 2) := by decide +kernel
theorem dX10_put_2 : decode cX10_put 2 = .ok (.istore_n 2, 1) := by decide +kernel
theorem dX10_put_3 : decode cX10_put 3 = .ok (.iload_n 2, 1) := by decide +kernel
theorem dX10_put_4 : decode cX10_put 4 = .ok (.ifCond .lt 45, 3) := by decide +kernel
theorem dX10_put_7 : decode cX10_put 7 = .ok (.iload_n 1, 1) := by decide +kernel
theorem dX10_put_8 : decode cX10_put 8 = .ok (.iload_n 2, 1) := by decide +kernel
theorem dX10_put_9 : decode cX10_put 9 = .ok (.ishr, 1) := by decide +kernel
theorem dX10_put_10 : decode cX10_put 10 = .ok (.sipush 255, 3) := by decide +kernel
theorem dX10_put_13 : decode cX10_put 13 = .ok (.iand, 1) := by decide +kernel
theorem dX10_put_14 : decode cX10_put 14 = .ok (.ifCond .ne 6, 3) := by decide +kernel
theorem dX10_put_17 : decode cX10_put 17 = .ok (.goto 26, 3) := by decide +kernel
theorem dX10_put_20 : decode cX10_put 20 = .ok (.aload_n 0, 1) := by decide +kernel
theorem dX10_put_21 : decode cX10_put 21 = .ok (.getfield 9, 3) := by decide +kernel
theorem dX10_put_24 : decode cX10_put 24 = .ok (.aload_n 0, 1) := by decide +kernel
theorem dX10_put_25 : decode cX10_put 25 = .ok (.getfield 109, 3) := by decide +kernel
theorem dX10_put_28 : decode cX10_put 28 = .ok (.iload_n 1, 1) := by decide +kernel
theorem dX10_put_29 : decode cX10_put 29 = .ok (.iload_n 2, 1) := by decide +kernel
theorem dX10_put_30 : decode cX10_put 30 = .ok (.ishr, 1) := by decide +kernel
theorem dX10_put_31 : decode cX10_put 31 = .ok (.i2b, 1) := by decide +kernel
theorem dX10_put_32 : decode cX10_put 32 = .ok (.bastore, 1) := by decide +kernel
theorem dX10_put_33 : decode cX10_put 33 = .ok (.aload_n 0, 1) := by decide +kernel
theorem dX10_put_34 : decode cX10_put 34 = .ok (.dup, 1) := by decide +kernel
theorem dX10_put_35 : decode cX10_put 35 = .ok (.getfield 109, 3) := by decide +kernel
theorem dX10_put_38 : decode cX10_put 38 = .ok (.iconst 1, 1) := by decide +kernel
theorem dX10_put_39 : decode cX10_put 39 = .ok (.iadd, 1) := by decide +kernel
theorem dX10_put_40 : decode cX10_put 40 = .ok (.putfield 109, 3) := by decide +kernel
theorem dX10_put_43 : decode cX10_put 43 = .ok (.iinc 2 (-8), 3) := by decide +kernel
theorem dX10_put_46 : decode cX10_put 46 = .ok (.goto (-43), 3) := by decide +kernel
theorem dX10_put_49 : decode cX10_put 49 = .ok (.return_, 1) := by decide +kernel
set_option maxRecDepth 20000 in
theorem ggX10_feed_X10_bytesIn : GoodIn wsX10_feed wsX10_bytesIn := goodIn_r _ [6] (by decide +kernel) (by decide +kernel)
set_option maxRecDepth 20000 in
theorem gX10_feed_X10_bytesIn : GoodIn wsX10_feed (va_wsS RX10 112 yX10_bytesIn wsX10_bytesIn) := goodIn_app (goodIn_of _ (by decide +kernel)) ggX10_feed_X10_bytesIn
set_option maxRecDepth 20000 in
theorem ggX10_feed_X10_put : GoodIn wsX10_feed wsX10_put := goodIn_r _ [10, 11, 2, 12, 13, 14, 15, 16, 17, 18, 19, 20, 21, 22, 23, 24, 25, 26, 27, 28, 29, 30, 31, 32, 33, 34, 35, 36, 37, 38, 39, 40, 41, 42, 43, 44, 45, 46, 47, 48, 49, 50, 51, 52, 53, 54, 55, 56, 57, 58, 59, 60, 61] (by decide +kernel) (by decide +kernel)
set_option maxRecDepth 20000 in
theorem gX10_feed_X10_put : GoodIn wsX10_feed (wsV RX10 116 RX10 yX10_put wsX10_put) := goodIn_app (goodIn_of _ (by decide +kernel)) ggX10_feed_X10_put
theorem dX10_feed_0 : decode cX10_feed 0 = .ok (.aload_n 0, 1) := by decide +kernel
theorem dX10_feed_1 : decode cX10_feed 1 = .ok (.iconst 0, 1) := by decide +kernel
theorem dX10_feed_2 : decode cX10_feed 2 = .ok (.putfield 106, 3) := by decide +kernel
theorem dX10_feed_5 : decode cX10_feed 5 = .ok (.aload_n 0, 1) := by decide +kernel
theorem dX10_feed_6 : decode cX10_feed 6 = .ok (.getfield 109, 3) := by decide +kernel
theorem dX10_feed_9 : decode cX10_feed 9 = .ok (.iload_n 1, 1) := by decide +kernel
theorem dX10_feed_10 : decode cX10_feed 10 = .ok (.invokestatic 112, 3) := by decide +kernel
theorem dX10_feed_13 : decode cX10_feed 13 = .ok (.iadd, 1) := by decide +kernel
theorem dX10_feed_14 : decode cX10_feed 14 = .ok (.iload_n 2, 1) := by decide +kernel
theorem dX10_feed_15 : decode cX10_feed 15 = .ok (.invokestatic 112, 3) := by decide +kernel
theorem dX10_feed_18 : decode cX10_feed 18 = .ok (.iadd, 1) := by decide +kernel
theorem dX10_feed_19 : decode cX10_feed 19 = .ok (.iload_n 3, 1) := by decide +kernel
theorem dX10_feed_20 : decode cX10_feed 20 = .ok (.invokestatic 112, 3) := by decide +kernel
theorem dX10_feed_23 : decode cX10_feed 23 = .ok (.iadd, 1) := by decide +kernel
theorem dX10_feed_24 : decode cX10_feed 24 = .ok (.iload 4, 2) := by decide +kernel
theorem dX10_feed_26 : decode cX10_feed 26 = .ok (.invokestatic 112, 3) := by decide +kernel
theorem dX10_feed_29 : decode cX10_feed 29 = .ok (.iadd, 1) := by decide +kernel
theorem dX10_feed_30 : decode cX10_feed 30 = .ok (.iload 5, 2) := by decide +kernel
theorem dX10_feed_32 : decode cX10_feed 32 = .ok (.invokestatic 112, 3) := by decide +kernel
theorem dX10_feed_35 : decode cX10_feed 35 = .ok (.iadd, 1) := by decide +kernel
theorem dX10_feed_36 : decode cX10_feed 36 = .ok (.bipush 120, 2) := by decide +kernel
theorem dX10_feed_38 : decode cX10_feed 38 = .ok (.if_icmp .le 5, 3) := by decide +kernel
theorem dX10_feed_41 : decode cX10_feed 41 = .ok (.iconst (-1), 1) := by decide +kernel
theorem dX10_feed_42 : decode cX10_feed 42 = .ok (.ireturn, 1) := by decide +kernel
theorem dX10_feed_43 : decode cX10_feed 43 = .ok (.aload_n 0, 1) := by decide +kernel
theorem dX10_feed_44 : decode cX10_feed 44 = .ok (.iload_n 1, 1) := by decide +kernel
theorem dX10_feed_45 : decode cX10_feed 45 = .ok (.invokevirtual 116, 3) := by decide +kernel
theorem dX10_feed_48 : decode cX10_feed 48 = .ok (.aload_n 0, 1) := by decide +kernel
theorem dX10_feed_49 : decode cX10_feed 49 = .ok (.iload_n 2, 1) := by decide +kernel
theorem dX10_feed_50 : decode cX10_feed 50 = .ok (.invokevirtual 116, 3) := by decide +kernel
theorem dX10_feed_53 : decode cX10_feed 53 = .ok (.aload_n 0, 1) := by decide +kernel
theorem dX10_feed_54 : decode cX10_feed 54 = .ok (.iload_n 3, 1) := by decide +kernel
theorem dX10_feed_55 : decode cX10_feed 55 = .ok (.invokevirtual 116, 3) := by decide +kernel
theorem dX10_feed_58 : decode cX10_feed 58 = .ok (.aload_n 0, 1) := by decide +kernel
theorem dX10_feed_59 : decode cX10_feed 59 = .ok (.iload 4, 2) := by decide +kernel
theorem dX10_feed_61 : decode cX10_feed 61 = .ok (.invokevirtual 116, 3) := by decide +kernel
theorem dX10_feed_64 : decode cX10_feed 64 = .ok (.aload_n 0, 1) := by decide +kernel
theorem dX10_feed_65 : decode cX10_feed 65 = .ok (.iload 5, 2) := by decide +kernel
theorem dX10_feed_67 : decode cX10_feed 67 = .ok (.invokevirtual 116, 3) := by decide +kernel
theorem dX10_feed_70 : decode cX10_feed 70 = .ok (.aload_n 0, 1) := by decide +kernel
theorem dX10_feed_71 : decode cX10_feed 71 = .ok (.getfield 109, 3) := by decide +kernel
theorem dX10_feed_74 : decode cX10_feed 74 = .ok (.ireturn, 1) := by decide +kernel
theorem dX10_end_0 : decode cX10_end 0 = .ok (.aload_n 0, 1) := by decide +kernel
theorem dX10_end_1 : decode cX10_end 1 = .ok (.iconst 0, 1) := by decide +kernel
theorem dX10_end_2 : decode cX10_end 2 = .ok (.putfield 106, 3) := by decide +kernel
theorem dX10_end_5 : decode cX10_end 5 = .ok (.iload_n 1, 1) := by decide +kernel
theorem dX10_end_6 : decode cX10_end 6 = .ok (.ifCond .lt 11, 3) := by decide +kernel
theorem dX10_end_9 : decode cX10_end 9 = .ok (.iload_n 1, 1) := by decide +kernel
theorem dX10_end_10 : decode cX10_end 10 = .ok (.aload_n 0, 1) := by decide +kernel
theorem dX10_end_11 : decode cX10_end 11 = .ok (.getfield 109, 3) := by decide +kernel
theorem dX10_end_14 : decode cX10_end 14 = .ok (.if_icmp .le 5, 3) := by decide +kernel
theorem dX10_end_17 : decode cX10_end 17 = .ok (.iconst 0, 1) := by decide +kernel
theorem dX10_end_18 : decode cX10_end 18 = .ok (.ireturn, 1) := by decide +kernel
theorem dX10_end_19 : decode cX10_end 19 = .ok (.aload_n 0, 1) := by decide +kernel
theorem dX10_end_20 : decode cX10_end 20 = .ok (.iload_n 1, 1) := by decide +kernel
theorem dX10_end_21 : decode cX10_end 21 = .ok (.putfield 109, 3) := by decide +kernel
theorem dX10_end_24 : decode cX10_end 24 = .ok (.iconst 1, 1) := by decide +kernel
theorem dX10_end_25 : decode cX10_end 25 = .ok (.ireturn, 1) := by decide +kernel
theorem dX10_look_0 : decode cX10_look 0 = .ok (.aload_n 0, 1) := by decide +kernel
theorem dX10_look_1 : decode cX10_look 1 = .ok (.getfield 120, 3) := by decide +kernel
theorem dX10_look_4 : decode cX10_look 4 = .ok (.aload_n 0, 1) := by decide +kernel
theorem dX10_look_5 : decode cX10_look 5 = .ok (.getfield 123, 3) := by decide +kernel
theorem dX10_look_8 : decode cX10_look 8 = .ok (.if_icmp .ge 35, 3) := by decide +kernel
theorem dX10_look_11 : decode cX10_look 11 = .ok (.aload_n 0, 1) := by decide +kernel
theorem dX10_look_12 : decode cX10_look 12 = .ok (.getfield 77, 3) := by decide +kernel
theorem dX10_look_15 : decode cX10_look 15 = .ok (.aload_n 0, 1) := by decide +kernel
theorem dX10_look_16 : decode cX10_look 16 = .ok (.getfield 126, 3) := by decide +kernel
theorem dX10_look_19 : decode cX10_look 19 = .ok (.aload_n 0, 1) := by decide +kernel
theorem dX10_look_20 : decode cX10_look 20 = .ok (.getfield 120, 3) := by decide +kernel
theorem dX10_look_23 : decode cX10_look 23 = .ok (.iadd, 1) := by decide +kernel
theorem dX10_look_24 : decode cX10_look 24 = .ok (.baload, 1) := by decide +kernel
theorem dX10_look_25 : decode cX10_look 25 = .ok (.bipush 32, 2) := by decide +kernel
theorem dX10_look_27 : decode cX10_look 27 = .ok (.if_icmp .ne 16, 3) := by decide +kernel
theorem dX10_look_30 : decode cX10_look 30 = .ok (.aload_n 0, 1) := by decide +kernel
theorem dX10_look_31 : decode cX10_look 31 = .ok (.dup, 1) := by decide +kernel
theorem dX10_look_32 : decode cX10_look 32 = .ok (.getfield 120, 3) := by decide +kernel
theorem dX10_look_35 : decode cX10_look 35 = .ok (.iconst 1, 1) := by decide +kernel
theorem dX10_look_36 : decode cX10_look 36 = .ok (.iadd, 1) := by decide +kernel
theorem dX10_look_37 : decode cX10_look 37 = .ok (.putfield 120, 3) := by decide +kernel
theorem dX10_look_40 : decode cX10_look 40 = .ok (.goto (-40), 3) := by decide +kernel
theorem dX10_look_43 : decode cX10_look 43 = .ok (.aload_n 0, 1) := by decide +kernel
theorem dX10_look_44 : decode cX10_look 44 = .ok (.getfield 120, 3) := by decide +kernel
theorem dX10_look_47 : decode cX10_look 47 = .ok (.aload_n 0, 1) := by decide +kernel
theorem dX10_look_48 : decode cX10_look 48 = .ok (.getfield 123, 3) := by decide +kernel
theorem dX10_look_51 : decode cX10_look 51 = .ok (.if_icmp .ge 24, 3) := by decide +kernel
theorem dX10_look_54 : decode cX10_look 54 = .ok (.aload_n 0, 1) := by decide +kernel
theorem dX10_look_55 : decode cX10_look 55 = .ok (.getfield 77, 3) := by decide +kernel
theorem dX10_look_58 : decode cX10_look 58 = .ok (.aload_n 0, 1) := by decide +kernel
theorem dX10_look_59 : decode cX10_look 59 = .ok (.getfield 126, 3) := by decide +kernel
theorem dX10_look_62 : decode cX10_look 62 = .ok (.aload_n 0, 1) := by decide +kernel
theorem dX10_look_63 : decode cX10_look 63 = .ok (.getfield 120, 3) := by decide +kernel
theorem dX10_look_66 : decode cX10_look 66 = .ok (.iadd, 1) := by decide +kernel
theorem dX10_look_67 : decode cX10_look 67 = .ok (.baload, 1) := by decide +kernel
theorem dX10_look_68 : decode cX10_look 68 = .ok (.sipush 255, 3) := by decide +kernel
theorem dX10_look_71 : decode cX10_look 71 = .ok (.iand, 1) := by decide +kernel
theorem dX10_look_72 : decode cX10_look 72 = .ok (.goto 4, 3) := by decide +kernel
theorem dX10_look_75 : decode cX10_look 75 = .ok (.iconst (-1), 1) := by decide +kernel
theorem dX10_look_76 : decode cX10_look 76 = .ok (.ireturn, 1) := by decide +kernel
theorem dX10_wrong_0 : decode cX10_wrong 0 = .ok (.aload_n 0, 1) := by decide +kernel
theorem dX10_wrong_1 : decode cX10_wrong 1 = .ok (.getfield 129, 3) := by decide +kernel
theorem dX10_wrong_4 : decode cX10_wrong 4 = .ok (.iconst (-1), 1) := by decide +kernel
theorem dX10_wrong_5 : decode cX10_wrong 5 = .ok (.if_icmp .ne 11, 3) := by decide +kernel
theorem dX10_wrong_8 : decode cX10_wrong 8 = .ok (.aload_n 0, 1) := by decide +kernel
theorem dX10_wrong_9 : decode cX10_wrong 9 = .ok (.aload_n 0, 1) := by decide +kernel
theorem dX10_wrong_10 : decode cX10_wrong 10 = .ok (.getfield 120, 3) := by decide +kernel
theorem dX10_wrong_13 : decode cX10_wrong 13 = .ok (.putfield 129, 3) := by decide +kernel
theorem dX10_wrong_16 : decode cX10_wrong 16 = .ok (.lconst 0, 1) := by decide +kernel
theorem dX10_wrong_17 : decode cX10_wrong 17 = .ok (.lreturn, 1) := by decide +kernel
theorem dX10_bound_0 : decode cX10_bound 0 = .ok (.ldc2_w 132, 3) := by decide +kernel
theorem dX10_bound_3 : decode cX10_bound 3 = .ok (.ldc2_w 134, 3) := by decide +kernel
theorem dX10_bound_6 : decode cX10_bound 6 = .ok (.lload_n 0, 1) := by decide +kernel
theorem dX10_bound_7 : decode cX10_bound 7 = .ok (.invokestatic 136, 3) := by decide +kernel
theorem dX10_bound_10 : decode cX10_bound 10 = .ok (.invokestatic 142, 3) := by decide +kernel
theorem dX10_bound_13 : decode cX10_bound 13 = .ok (.lreturn, 1) := by decide +kernel
theorem dX10_isDigit_0 : decode cX10_isDigit 0 = .ok (.aload_n 0, 1) := by decide +kernel
theorem dX10_isDigit_1 : decode cX10_isDigit 1 = .ok (.getfield 120, 3) := by decide +kernel
theorem dX10_isDigit_4 : decode cX10_isDigit 4 = .ok (.aload_n 0, 1) := by decide +kernel
theorem dX10_isDigit_5 : decode cX10_isDigit 5 = .ok (.getfield 123, 3) := by decide +kernel
theorem dX10_isDigit_8 : decode cX10_isDigit 8 = .ok (.if_icmp .ge 45, 3) := by decide +kernel
theorem dX10_isDigit_11 : decode cX10_isDigit 11 = .ok (.aload_n 0, 1) := by decide +kernel
theorem dX10_isDigit_12 : decode cX10_isDigit 12 = .ok (.getfield 77, 3) := by decide +kernel
theorem dX10_isDigit_15 : decode cX10_isDigit 15 = .ok (.aload_n 0, 1) := by decide +kernel
theorem dX10_isDigit_16 : decode cX10_isDigit 16 = .ok (.getfield 126, 3) := by decide +kernel
theorem dX10_isDigit_19 : decode cX10_isDigit 19 = .ok (.aload_n 0, 1) := by decide +kernel
theorem dX10_isDigit_20 : decode cX10_isDigit 20 = .ok (.getfield 120, 3) := by decide +kernel
theorem dX10_isDigit_23 : decode cX10_isDigit 23 = .ok (.iadd, 1) := by decide +kernel
theorem dX10_isDigit_24 : decode cX10_isDigit 24 = .ok (.baload, 1) := by decide +kernel
theorem dX10_isDigit_25 : decode cX10_isDigit 25 = .ok (.bipush 48, 2) := by decide +kernel
theorem dX10_isDigit_27 : decode cX10_isDigit 27 = .ok (.if_icmp .lt 26, 3) := by decide +kernel
theorem dX10_isDigit_30 : decode cX10_isDigit 30 = .ok (.aload_n 0, 1) := by decide +kernel
theorem dX10_isDigit_31 : decode cX10_isDigit 31 = .ok (.getfield 77, 3) := by decide +kernel
theorem dX10_isDigit_34 : decode cX10_isDigit 34 = .ok (.aload_n 0, 1) := by decide +kernel
theorem dX10_isDigit_35 : decode cX10_isDigit 35 = .ok (.getfield 126, 3) := by decide +kernel
theorem dX10_isDigit_38 : decode cX10_isDigit 38 = .ok (.aload_n 0, 1) := by decide +kernel
theorem dX10_isDigit_39 : decode cX10_isDigit 39 = .ok (.getfield 120, 3) := by decide +kernel
theorem dX10_isDigit_42 : decode cX10_isDigit 42 = .ok (.iadd, 1) := by decide +kernel
theorem dX10_isDigit_43 : decode cX10_isDigit 43 = .ok (.baload, 1) := by decide +kernel
theorem dX10_isDigit_44 : decode cX10_isDigit 44 = .ok (.bipush 57, 2) := by decide +kernel
theorem dX10_isDigit_46 : decode cX10_isDigit 46 = .ok (.if_icmp .gt 7, 3) := by decide +kernel
theorem dX10_isDigit_49 : decode cX10_isDigit 49 = .ok (.iconst 1, 1) := by decide +kernel
theorem dX10_isDigit_50 : decode cX10_isDigit 50 = .ok (.goto 4, 3) := by decide +kernel
theorem dX10_isDigit_53 : decode cX10_isDigit 53 = .ok (.iconst 0, 1) := by decide +kernel
theorem dX10_isDigit_54 : decode cX10_isDigit 54 = .ok (.ireturn, 1) := by decide +kernel
set_option maxRecDepth 20000 in
theorem ggX10_factor_X10_look : GoodIn wsX10_factor wsX10_look := goodIn_r _ [14, 1, 15, 7, 8, 51, 52, 53, 54, 55, 56, 57, 58, 59, 60, 61, 62, 63, 64, 65, 66, 67, 68, 69, 70, 71, 72, 73, 74, 75, 76, 77, 78, 79, 80, 81, 82, 83, 84, 85, 86, 87, 88, 89, 90, 91, 92, 93, 94, 95, 96, 97, 98, 99, 100] (by decide +kernel) (by decide +kernel)
set_option maxRecDepth 20000 in
theorem gX10_factor_X10_look : GoodIn wsX10_factor (wsV RX10 145 RX10 yX10_look wsX10_look) := goodIn_app (goodIn_of _ (by decide +kernel)) ggX10_factor_X10_look
set_option maxRecDepth 20000 in
theorem ggX10_factor_X10_wrong : GoodIn wsX10_factor wsX10_wrong := goodIn_r _ [19, 5, 1, 51, 52, 53, 54, 55, 56, 57, 58, 59, 60, 61, 62, 63, 64, 65, 66, 67, 68, 69, 70, 71, 72, 73, 74, 75, 76, 77, 78, 79, 80, 81, 82, 83, 84, 85, 86, 87, 88, 89, 90, 91, 92, 93, 94, 95, 96, 97, 98, 99, 100] (by decide +kernel) (by decide +kernel)
set_option maxRecDepth 20000 in
theorem gX10_factor_X10_wrong : GoodIn wsX10_factor (wsV RX10 159 RX10 yX10_wrong wsX10_wrong) := goodIn_app (goodIn_of _ (by decide +kernel)) ggX10_factor_X10_wrong
set_option maxRecDepth 20000 in
theorem ggX10_factor_X10_sums : GoodIn wsX10_factor wsX10_sums := goodIn_r _ [47, 5, 1, 48, 49, 50, 13, 10, 11, 12, 14, 15, 7, 8, 35, 36, 37, 38, 39, 40, 41, 42, 43, 44, 45, 46, 0, 2, 3, 4, 6, 9, 16, 17, 18, 19, 20, 21, 22, 23, 24, 25, 26, 27, 28, 29, 30, 31, 32, 33, 34, 51, 52, 53, 54, 55, 56, 57, 58, 59, 60, 61, 62, 63, 64, 65, 66, 67, 68, 69, 70, 71, 72, 73, 74, 75, 76, 77, 78, 79, 80, 81, 82, 83, 84, 85, 86, 87, 88, 89, 90, 91, 92, 93, 94, 95, 96, 97, 98, 99, 100] (by decide +kernel) (by decide +kernel)
set_option maxRecDepth 20000 in
theorem gX10_factor_X10_sums : GoodIn wsX10_factor (wsV RX10 163 RX10 yX10_sums wsX10_sums) := goodIn_app (goodIn_of _ (by decide +kernel)) ggX10_factor_X10_sums
set_option maxRecDepth 20000 in
theorem ggX10_factor_X10_isDigit : GoodIn wsX10_factor wsX10_isDigit := goodIn_r _ [26, 1, 15, 7, 8, 51, 52, 53, 54, 55, 56, 57, 58, 59, 60, 61, 62, 63, 64, 65, 66, 67, 68, 69, 70, 71, 72, 73, 74, 75, 76, 77, 78, 79, 80, 81, 82, 83, 84, 85, 86, 87, 88, 89, 90, 91, 92, 93, 94, 95, 96, 97, 98, 99, 100] (by decide +kernel) (by decide +kernel)
set_option maxRecDepth 20000 in
theorem gX10_factor_X10_isDigit : GoodIn wsX10_factor (wsV RX10 166 RX10 yX10_isDigit wsX10_isDigit) := goodIn_app (goodIn_of _ (by decide +kernel)) ggX10_factor_X10_isDigit
theorem dX10_factor_0 : decode cX10_factor 0 = .ok (.aload_n 0, 1) := by decide +kernel
theorem dX10_factor_1 : decode cX10_factor 1 = .ok (.invokevirtual 145, 3) := by decide +kernel
theorem dX10_factor_4 : decode cX10_factor 4 = .ok (.istore_n 1, 1) := by decide +kernel
theorem dX10_factor_5 : decode cX10_factor 5 = .ok (.iload_n 1, 1) := by decide +kernel
theorem dX10_factor_6 : decode cX10_factor 6 = .ok (.bipush 100, 2) := by decide +kernel
theorem dX10_factor_8 : decode cX10_factor 8 = .ok (.if_icmp .eq 9, 3) := by decide +kernel
theorem dX10_factor_11 : decode cX10_factor 11 = .ok (.iload_n 1, 1) := by decide +kernel
theorem dX10_factor_12 : decode cX10_factor 12 = .ok (.bipush 108, 2) := by decide +kernel
theorem dX10_factor_14 : decode cX10_factor 14 = .ok (.if_icmp .ne 31, 3) := by decide +kernel
theorem dX10_factor_17 : decode cX10_factor 17 = .ok (.aload_n 0, 1) := by decide +kernel
theorem dX10_factor_18 : decode cX10_factor 18 = .ok (.dup, 1) := by decide +kernel
theorem dX10_factor_19 : decode cX10_factor 19 = .ok (.getfield 120, 3) := by decide +kernel
theorem dX10_factor_22 : decode cX10_factor 22 = .ok (.iconst 1, 1) := by decide +kernel
theorem dX10_factor_23 : decode cX10_factor 23 = .ok (.iadd, 1) := by decide +kernel
theorem dX10_factor_24 : decode cX10_factor 24 = .ok (.putfield 120, 3) := by decide +kernel
theorem dX10_factor_27 : decode cX10_factor 27 = .ok (.iload_n 1, 1) := by decide +kernel
theorem dX10_factor_28 : decode cX10_factor 28 = .ok (.bipush 100, 2) := by decide +kernel
theorem dX10_factor_30 : decode cX10_factor 30 = .ok (.if_icmp .ne 10, 3) := by decide +kernel
theorem dX10_factor_33 : decode cX10_factor 33 = .ok (.aload_n 0, 1) := by decide +kernel
theorem dX10_factor_34 : decode cX10_factor 34 = .ok (.getfield 149, 3) := by decide +kernel
theorem dX10_factor_37 : decode cX10_factor 37 = .ok (.goto 7, 3) := by decide +kernel
theorem dX10_factor_40 : decode cX10_factor 40 = .ok (.aload_n 0, 1) := by decide +kernel
theorem dX10_factor_41 : decode cX10_factor 41 = .ok (.getfield 153, 3) := by decide +kernel
theorem dX10_factor_44 : decode cX10_factor 44 = .ok (.lreturn, 1) := by decide +kernel
theorem dX10_factor_45 : decode cX10_factor 45 = .ok (.iload_n 1, 1) := by decide +kernel
theorem dX10_factor_46 : decode cX10_factor 46 = .ok (.bipush 40, 2) := by decide +kernel
theorem dX10_factor_48 : decode cX10_factor 48 = .ok (.if_icmp .ne 88, 3) := by decide +kernel
theorem dX10_factor_51 : decode cX10_factor 51 = .ok (.aload_n 0, 1) := by decide +kernel
theorem dX10_factor_52 : decode cX10_factor 52 = .ok (.getfield 156, 3) := by decide +kernel
theorem dX10_factor_55 : decode cX10_factor 55 = .ok (.bipush 8, 2) := by decide +kernel
theorem dX10_factor_57 : decode cX10_factor 57 = .ok (.if_icmp .ne 8, 3) := by decide +kernel
theorem dX10_factor_60 : decode cX10_factor 60 = .ok (.aload_n 0, 1) := by decide +kernel
theorem dX10_factor_61 : decode cX10_factor 61 = .ok (.invokevirtual 159, 3) := by decide +kernel
theorem dX10_factor_64 : decode cX10_factor 64 = .ok (.lreturn, 1) := by decide +kernel
theorem dX10_factor_65 : decode cX10_factor 65 = .ok (.aload_n 0, 1) := by decide +kernel
theorem dX10_factor_66 : decode cX10_factor 66 = .ok (.dup, 1) := by decide +kernel
theorem dX10_factor_67 : decode cX10_factor 67 = .ok (.getfield 156, 3) := by decide +kernel
theorem dX10_factor_70 : decode cX10_factor 70 = .ok (.iconst 1, 1) := by decide +kernel
theorem dX10_factor_71 : decode cX10_factor 71 = .ok (.iadd, 1) := by decide +kernel
theorem dX10_factor_72 : decode cX10_factor 72 = .ok (.putfield 156, 3) := by decide +kernel
theorem dX10_factor_75 : decode cX10_factor 75 = .ok (.aload_n 0, 1) := by decide +kernel
theorem dX10_factor_76 : decode cX10_factor 76 = .ok (.dup, 1) := by decide +kernel
theorem dX10_factor_77 : decode cX10_factor 77 = .ok (.getfield 120, 3) := by decide +kernel
theorem dX10_factor_80 : decode cX10_factor 80 = .ok (.iconst 1, 1) := by decide +kernel
theorem dX10_factor_81 : decode cX10_factor 81 = .ok (.iadd, 1) := by decide +kernel
theorem dX10_factor_82 : decode cX10_factor 82 = .ok (.putfield 120, 3) := by decide +kernel
theorem dX10_factor_85 : decode cX10_factor 85 = .ok (.aload_n 0, 1) := by decide +kernel
theorem dX10_factor_86 : decode cX10_factor 86 = .ok (.invokevirtual 163, 3) := by decide +kernel
theorem dX10_factor_89 : decode cX10_factor 89 = .ok (.lstore_n 2, 1) := by decide +kernel
theorem dX10_factor_90 : decode cX10_factor 90 = .ok (.aload_n 0, 1) := by decide +kernel
theorem dX10_factor_91 : decode cX10_factor 91 = .ok (.getfield 129, 3) := by decide +kernel
theorem dX10_factor_94 : decode cX10_factor 94 = .ok (.iconst (-1), 1) := by decide +kernel
theorem dX10_factor_95 : decode cX10_factor 95 = .ok (.if_icmp .eq 5, 3) := by decide +kernel
theorem dX10_factor_98 : decode cX10_factor 98 = .ok (.lconst 0, 1) := by decide +kernel
theorem dX10_factor_99 : decode cX10_factor 99 = .ok (.lreturn, 1) := by decide +kernel
theorem dX10_factor_100 : decode cX10_factor 100 = .ok (.aload_n 0, 1) := by decide +kernel
theorem dX10_factor_101 : decode cX10_factor 101 = .ok (.invokevirtual 145, 3) := by decide +kernel
theorem dX10_factor_104 : decode cX10_factor 104 = .ok (.bipush 41, 2) := by decide +kernel
theorem dX10_factor_106 : decode cX10_factor 106 = .ok (.if_icmp .eq 8, 3) := by decide +kernel
theorem dX10_factor_109 : decode cX10_factor 109 = .ok (.aload_n 0, 1) := by decide +kernel
theorem dX10_factor_110 : decode cX10_factor 110 = .ok (.invokevirtual 159, 3) := by decide +kernel
theorem dX10_factor_113 : decode cX10_factor 113 = .ok (.lreturn, 1) := by decide +kernel
theorem dX10_factor_114 : decode cX10_factor 114 = .ok (.aload_n 0, 1) := by decide +kernel
theorem dX10_factor_115 : decode cX10_factor 115 = .ok (.dup, 1) := by decide +kernel
theorem dX10_factor_116 : decode cX10_factor 116 = .ok (.getfield 120, 3) := by decide +kernel
theorem dX10_factor_119 : decode cX10_factor 119 = .ok (.iconst 1, 1) := by decide +kernel
theorem dX10_factor_120 : decode cX10_factor 120 = .ok (.iadd, 1) := by decide +kernel
theorem dX10_factor_121 : decode cX10_factor 121 = .ok (.putfield 120, 3) := by decide +kernel
theorem dX10_factor_124 : decode cX10_factor 124 = .ok (.aload_n 0, 1) := by decide +kernel
theorem dX10_factor_125 : decode cX10_factor 125 = .ok (.dup, 1) := by decide +kernel
theorem dX10_factor_126 : decode cX10_factor 126 = .ok (.getfield 156, 3) := by decide +kernel
theorem dX10_factor_129 : decode cX10_factor 129 = .ok (.iconst 1, 1) := by decide +kernel
theorem dX10_factor_130 : decode cX10_factor 130 = .ok (.isub, 1) := by decide +kernel
theorem dX10_factor_131 : decode cX10_factor 131 = .ok (.putfield 156, 3) := by decide +kernel
theorem dX10_factor_134 : decode cX10_factor 134 = .ok (.lload_n 2, 1) := by decide +kernel
theorem dX10_factor_135 : decode cX10_factor 135 = .ok (.lreturn, 1) := by decide +kernel
theorem dX10_factor_136 : decode cX10_factor 136 = .ok (.aload_n 0, 1) := by decide +kernel
theorem dX10_factor_137 : decode cX10_factor 137 = .ok (.invokevirtual 166, 3) := by decide +kernel
theorem dX10_factor_140 : decode cX10_factor 140 = .ok (.ifCond .ne 8, 3) := by decide +kernel
theorem dX10_factor_143 : decode cX10_factor 143 = .ok (.aload_n 0, 1) := by decide +kernel
theorem dX10_factor_144 : decode cX10_factor 144 = .ok (.invokevirtual 159, 3) := by decide +kernel
theorem dX10_factor_147 : decode cX10_factor 147 = .ok (.lreturn, 1) := by decide +kernel
theorem dX10_factor_148 : decode cX10_factor 148 = .ok (.lconst 0, 1) := by decide +kernel
theorem dX10_factor_149 : decode cX10_factor 149 = .ok (.lstore_n 2, 1) := by decide +kernel
theorem dX10_factor_150 : decode cX10_factor 150 = .ok (.iconst 0, 1) := by decide +kernel
theorem dX10_factor_151 : decode cX10_factor 151 = .ok (.istore 4, 2) := by decide +kernel
theorem dX10_factor_153 : decode cX10_factor 153 = .ok (.aload_n 0, 1) := by decide +kernel
theorem dX10_factor_154 : decode cX10_factor 154 = .ok (.invokevirtual 166, 3) := by decide +kernel
theorem dX10_factor_157 : decode cX10_factor 157 = .ok (.ifCond .eq 56, 3) := by decide +kernel
theorem dX10_factor_160 : decode cX10_factor 160 = .ok (.iload 4, 2) := by decide +kernel
theorem dX10_factor_162 : decode cX10_factor 162 = .ok (.iconst 5, 1) := by decide +kernel
theorem dX10_factor_163 : decode cX10_factor 163 = .ok (.if_icmp .ne 8, 3) := by decide +kernel
theorem dX10_factor_166 : decode cX10_factor 166 = .ok (.aload_n 0, 1) := by decide +kernel
theorem dX10_factor_167 : decode cX10_factor 167 = .ok (.invokevirtual 159, 3) := by decide +kernel
theorem dX10_factor_170 : decode cX10_factor 170 = .ok (.lreturn, 1) := by decide +kernel
theorem dX10_factor_171 : decode cX10_factor 171 = .ok (.ldc2_w 170, 3) := by decide +kernel
theorem dX10_factor_174 : decode cX10_factor 174 = .ok (.lload_n 2, 1) := by decide +kernel
theorem dX10_factor_175 : decode cX10_factor 175 = .ok (.lmul, 1) := by decide +kernel
theorem dX10_factor_176 : decode cX10_factor 176 = .ok (.aload_n 0, 1) := by decide +kernel
theorem dX10_factor_177 : decode cX10_factor 177 = .ok (.getfield 77, 3) := by decide +kernel
theorem dX10_factor_180 : decode cX10_factor 180 = .ok (.aload_n 0, 1) := by decide +kernel
theorem dX10_factor_181 : decode cX10_factor 181 = .ok (.getfield 126, 3) := by decide +kernel
theorem dX10_factor_184 : decode cX10_factor 184 = .ok (.aload_n 0, 1) := by decide +kernel
theorem dX10_factor_185 : decode cX10_factor 185 = .ok (.getfield 120, 3) := by decide +kernel
theorem dX10_factor_188 : decode cX10_factor 188 = .ok (.iadd, 1) := by decide +kernel
theorem dX10_factor_189 : decode cX10_factor 189 = .ok (.baload, 1) := by decide +kernel
theorem dX10_factor_190 : decode cX10_factor 190 = .ok (.i2l, 1) := by decide +kernel
theorem dX10_factor_191 : decode cX10_factor 191 = .ok (.ladd, 1) := by decide +kernel
theorem dX10_factor_192 : decode cX10_factor 192 = .ok (.ldc2_w 172, 3) := by decide +kernel
theorem dX10_factor_195 : decode cX10_factor 195 = .ok (.lsub, 1) := by decide +kernel
theorem dX10_factor_196 : decode cX10_factor 196 = .ok (.lstore_n 2, 1) := by decide +kernel
theorem dX10_factor_197 : decode cX10_factor 197 = .ok (.iinc 4 1, 3) := by decide +kernel
theorem dX10_factor_200 : decode cX10_factor 200 = .ok (.aload_n 0, 1) := by decide +kernel
theorem dX10_factor_201 : decode cX10_factor 201 = .ok (.dup, 1) := by decide +kernel
theorem dX10_factor_202 : decode cX10_factor 202 = .ok (.getfield 120, 3) := by decide +kernel
theorem dX10_factor_205 : decode cX10_factor 205 = .ok (.iconst 1, 1) := by decide +kernel
theorem dX10_factor_206 : decode cX10_factor 206 = .ok (.iadd, 1) := by decide +kernel
theorem dX10_factor_207 : decode cX10_factor 207 = .ok (.putfield 120, 3) := by decide +kernel
theorem dX10_factor_210 : decode cX10_factor 210 = .ok (.goto (-57), 3) := by decide +kernel
theorem dX10_factor_213 : decode cX10_factor 213 = .ok (.lload_n 2, 1) := by decide +kernel
theorem dX10_factor_214 : decode cX10_factor 214 = .ok (.lreturn, 1) := by decide +kernel
set_option maxRecDepth 20000 in
theorem ggX10_product_X10_factor : GoodIn wsX10_product wsX10_factor := goodIn_r _ [30, 2, 31, 32, 33, 1, 34, 12, 13, 35, 7, 8, 9, 6, 10, 11, 36, 37, 38, 39, 40, 41, 42, 43, 44, 45, 46, 0, 3, 4, 5, 14, 15, 16, 17, 18, 19, 20, 21, 22, 23, 24, 25, 26, 27, 28, 29, 47, 48, 49, 50, 51, 52, 53, 54, 55, 56, 57, 58, 59, 60, 61, 62, 63, 64, 65, 66, 67, 68, 69, 70, 71, 72, 73, 74, 75, 76, 77, 78, 79, 80, 81, 82, 83, 84, 85, 86, 87, 88, 89, 90, 91, 92, 93, 94, 95, 96, 97, 98, 99, 100] (by decide +kernel) (by decide +kernel)
set_option maxRecDepth 20000 in
theorem gX10_product_X10_factor : GoodIn wsX10_product (wsV RX10 174 RX10 yX10_factor wsX10_factor) := goodIn_app (goodIn_of _ (by decide +kernel)) ggX10_product_X10_factor
set_option maxRecDepth 20000 in
theorem ggX10_product_X10_look : GoodIn wsX10_product wsX10_look := goodIn_r _ [10, 2, 11, 12, 13, 51, 52, 53, 54, 55, 56, 57, 58, 59, 60, 61, 62, 63, 64, 65, 66, 67, 68, 69, 70, 71, 72, 73, 74, 75, 76, 77, 78, 79, 80, 81, 82, 83, 84, 85, 86, 87, 88, 89, 90, 91, 92, 93, 94, 95, 96, 97, 98, 99, 100] (by decide +kernel) (by decide +kernel)
set_option maxRecDepth 20000 in
theorem gX10_product_X10_look : GoodIn wsX10_product (wsV RX10 145 RX10 yX10_look wsX10_look) := goodIn_app (goodIn_of _ (by decide +kernel)) ggX10_product_X10_look
set_option maxRecDepth 20000 in
theorem ggX10_product_J9_floorDiv_f86c9 : GoodIn wsX10_product wsJ9_floorDiv_f86c9 := goodIn_r _ [17] (by decide +kernel) (by decide +kernel)
set_option maxRecDepth 20000 in
theorem gX10_product_J9_floorDiv_f86c9 : GoodIn wsX10_product (va_wsS RX10 177 yJ9_floorDiv_f86c9 wsJ9_floorDiv_f86c9) := goodIn_app (goodIn_of _ (by decide +kernel)) ggX10_product_J9_floorDiv_f86c9
set_option maxRecDepth 20000 in
theorem ggX10_product_X10_bound : GoodIn wsX10_product wsX10_bound := goodIn_r _ [20, 21, 22, 23, 24, 25, 26, 27, 28, 29] (by decide +kernel) (by decide +kernel)
set_option maxRecDepth 20000 in
theorem gX10_product_X10_bound : GoodIn wsX10_product (va_wsS RX10 180 yX10_bound wsX10_bound) := goodIn_app (goodIn_of _ (by decide +kernel)) ggX10_product_X10_bound
theorem dX10_product_0 : decode cX10_product 0 = .ok (.aload_n 0, 1) := by decide +kernel
theorem dX10_product_1 : decode cX10_product 1 = .ok (.invokevirtual 174, 3) := by decide +kernel
theorem dX10_product_4 : decode cX10_product 4 = .ok (.lstore_n 1, 1) := by decide +kernel
theorem dX10_product_5 : decode cX10_product 5 = .ok (.aload_n 0, 1) := by decide +kernel
theorem dX10_product_6 : decode cX10_product 6 = .ok (.getfield 129, 3) := by decide +kernel
theorem dX10_product_9 : decode cX10_product 9 = .ok (.iconst (-1), 1) := by decide +kernel
theorem dX10_product_10 : decode cX10_product 10 = .ok (.if_icmp .ne 87, 3) := by decide +kernel
theorem dX10_product_13 : decode cX10_product 13 = .ok (.aload_n 0, 1) := by decide +kernel
theorem dX10_product_14 : decode cX10_product 14 = .ok (.invokevirtual 145, 3) := by decide +kernel
theorem dX10_product_17 : decode cX10_product 17 = .ok (.bipush 42, 2) := by decide +kernel
theorem dX10_product_19 : decode cX10_product 19 = .ok (.if_icmp .eq 12, 3) := by decide +kernel
theorem dX10_product_22 : decode cX10_product 22 = .ok (.aload_n 0, 1) := by decide +kernel
theorem dX10_product_23 : decode cX10_product 23 = .ok (.invokevirtual 145, 3) := by decide +kernel
theorem dX10_product_26 : decode cX10_product 26 = .ok (.bipush 47, 2) := by decide +kernel
theorem dX10_product_28 : decode cX10_product 28 = .ok (.if_icmp .ne 69, 3) := by decide +kernel
theorem dX10_product_31 : decode cX10_product 31 = .ok (.aload_n 0, 1) := by decide +kernel
theorem dX10_product_32 : decode cX10_product 32 = .ok (.invokevirtual 145, 3) := by decide +kernel
theorem dX10_product_35 : decode cX10_product 35 = .ok (.bipush 42, 2) := by decide +kernel
theorem dX10_product_37 : decode cX10_product 37 = .ok (.if_icmp .ne 7, 3) := by decide +kernel
theorem dX10_product_40 : decode cX10_product 40 = .ok (.iconst 1, 1) := by decide +kernel
theorem dX10_product_41 : decode cX10_product 41 = .ok (.goto 4, 3) := by decide +kernel
theorem dX10_product_44 : decode cX10_product 44 = .ok (.iconst 0, 1) := by decide +kernel
theorem dX10_product_45 : decode cX10_product 45 = .ok (.istore_n 3, 1) := by decide +kernel
theorem dX10_product_46 : decode cX10_product 46 = .ok (.aload_n 0, 1) := by decide +kernel
theorem dX10_product_47 : decode cX10_product 47 = .ok (.dup, 1) := by decide +kernel
theorem dX10_product_48 : decode cX10_product 48 = .ok (.getfield 120, 3) := by decide +kernel
theorem dX10_product_51 : decode cX10_product 51 = .ok (.iconst 1, 1) := by decide +kernel
theorem dX10_product_52 : decode cX10_product 52 = .ok (.iadd, 1) := by decide +kernel
theorem dX10_product_53 : decode cX10_product 53 = .ok (.putfield 120, 3) := by decide +kernel
theorem dX10_product_56 : decode cX10_product 56 = .ok (.aload_n 0, 1) := by decide +kernel
theorem dX10_product_57 : decode cX10_product 57 = .ok (.invokevirtual 174, 3) := by decide +kernel
theorem dX10_product_60 : decode cX10_product 60 = .ok (.lstore 4, 2) := by decide +kernel
theorem dX10_product_62 : decode cX10_product 62 = .ok (.iload_n 3, 1) := by decide +kernel
theorem dX10_product_63 : decode cX10_product 63 = .ok (.ifCond .eq 10, 3) := by decide +kernel
theorem dX10_product_66 : decode cX10_product 66 = .ok (.lload_n 1, 1) := by decide +kernel
theorem dX10_product_67 : decode cX10_product 67 = .ok (.lload 4, 2) := by decide +kernel
theorem dX10_product_69 : decode cX10_product 69 = .ok (.lmul, 1) := by decide +kernel
theorem dX10_product_70 : decode cX10_product 70 = .ok (.goto 20, 3) := by decide +kernel
theorem dX10_product_73 : decode cX10_product 73 = .ok (.lload 4, 2) := by decide +kernel
theorem dX10_product_75 : decode cX10_product 75 = .ok (.lconst 0, 1) := by decide +kernel
theorem dX10_product_76 : decode cX10_product 76 = .ok (.lcmp, 1) := by decide +kernel
theorem dX10_product_77 : decode cX10_product 77 = .ok (.ifCond .ne 7, 3) := by decide +kernel
theorem dX10_product_80 : decode cX10_product 80 = .ok (.lconst 0, 1) := by decide +kernel
theorem dX10_product_81 : decode cX10_product 81 = .ok (.goto 9, 3) := by decide +kernel
theorem dX10_product_84 : decode cX10_product 84 = .ok (.lload_n 1, 1) := by decide +kernel
theorem dX10_product_85 : decode cX10_product 85 = .ok (.lload 4, 2) := by decide +kernel
theorem dX10_product_87 : decode cX10_product 87 = .ok (.invokestatic 177, 3) := by decide +kernel
theorem dX10_product_90 : decode cX10_product 90 = .ok (.invokestatic 180, 3) := by decide +kernel
theorem dX10_product_93 : decode cX10_product 93 = .ok (.lstore_n 1, 1) := by decide +kernel
theorem dX10_product_94 : decode cX10_product 94 = .ok (.goto (-89), 3) := by decide +kernel
theorem dX10_product_97 : decode cX10_product 97 = .ok (.lload_n 1, 1) := by decide +kernel
theorem dX10_product_98 : decode cX10_product 98 = .ok (.lreturn, 1) := by decide +kernel
set_option maxRecDepth 20000 in
theorem ggX10_sums_X10_product : GoodIn wsX10_sums wsX10_product := goodIn_r _ [43, 1, 2, 44, 45, 46, 6, 7, 8, 9, 10, 11, 12, 13, 47, 48, 49, 50, 14, 15, 16, 17, 18, 19, 20, 21, 22, 23, 24, 25, 26, 27, 28, 29, 30, 31, 32, 33, 34, 35, 36, 37, 38, 39, 40, 41, 42, 0, 3, 4, 5, 51, 52, 53, 54, 55, 56, 57, 58, 59, 60, 61, 62, 63, 64, 65, 66, 67, 68, 69, 70, 71, 72, 73, 74, 75, 76, 77, 78, 79, 80, 81, 82, 83, 84, 85, 86, 87, 88, 89, 90, 91, 92, 93, 94, 95, 96, 97, 98, 99, 100] (by decide +kernel) (by decide +kernel)
set_option maxRecDepth 20000 in
theorem gX10_sums_X10_product : GoodIn wsX10_sums (wsV RX10 184 RX10 yX10_product wsX10_product) := goodIn_app (goodIn_of _ (by decide +kernel)) ggX10_sums_X10_product
set_option maxRecDepth 20000 in
theorem ggX10_sums_X10_look : GoodIn wsX10_sums wsX10_look := goodIn_r _ [10, 2, 11, 12, 13, 51, 52, 53, 54, 55, 56, 57, 58, 59, 60, 61, 62, 63, 64, 65, 66, 67, 68, 69, 70, 71, 72, 73, 74, 75, 76, 77, 78, 79, 80, 81, 82, 83, 84, 85, 86, 87, 88, 89, 90, 91, 92, 93, 94, 95, 96, 97, 98, 99, 100] (by decide +kernel) (by decide +kernel)
set_option maxRecDepth 20000 in
theorem gX10_sums_X10_look : GoodIn wsX10_sums (wsV RX10 145 RX10 yX10_look wsX10_look) := goodIn_app (goodIn_of _ (by decide +kernel)) ggX10_sums_X10_look
set_option maxRecDepth 20000 in
theorem ggX10_sums_X10_bound : GoodIn wsX10_sums wsX10_bound := goodIn_r _ [16, 17, 18, 19, 20, 21, 22, 23, 24, 25] (by decide +kernel) (by decide +kernel)
set_option maxRecDepth 20000 in
theorem gX10_sums_X10_bound : GoodIn wsX10_sums (va_wsS RX10 180 yX10_bound wsX10_bound) := goodIn_app (goodIn_of _ (by decide +kernel)) ggX10_sums_X10_bound
theorem dX10_sums_0 : decode cX10_sums 0 = .ok (.aload_n 0, 1) := by decide +kernel
theorem dX10_sums_1 : decode cX10_sums 1 = .ok (.invokevirtual 184, 3) := by decide +kernel
theorem dX10_sums_4 : decode cX10_sums 4 = .ok (.lstore_n 1, 1) := by decide +kernel
theorem dX10_sums_5 : decode cX10_sums 5 = .ok (.aload_n 0, 1) := by decide +kernel
theorem dX10_sums_6 : decode cX10_sums 6 = .ok (.getfield 129, 3) := by decide +kernel
theorem dX10_sums_9 : decode cX10_sums 9 = .ok (.iconst (-1), 1) := by decide +kernel
theorem dX10_sums_10 : decode cX10_sums 10 = .ok (.if_icmp .ne 74, 3) := by decide +kernel
theorem dX10_sums_13 : decode cX10_sums 13 = .ok (.aload_n 0, 1) := by decide +kernel
theorem dX10_sums_14 : decode cX10_sums 14 = .ok (.invokevirtual 145, 3) := by decide +kernel
theorem dX10_sums_17 : decode cX10_sums 17 = .ok (.bipush 43, 2) := by decide +kernel
theorem dX10_sums_19 : decode cX10_sums 19 = .ok (.if_icmp .eq 12, 3) := by decide +kernel
theorem dX10_sums_22 : decode cX10_sums 22 = .ok (.aload_n 0, 1) := by decide +kernel
theorem dX10_sums_23 : decode cX10_sums 23 = .ok (.invokevirtual 145, 3) := by decide +kernel
theorem dX10_sums_26 : decode cX10_sums 26 = .ok (.bipush 45, 2) := by decide +kernel
theorem dX10_sums_28 : decode cX10_sums 28 = .ok (.if_icmp .ne 56, 3) := by decide +kernel
theorem dX10_sums_31 : decode cX10_sums 31 = .ok (.aload_n 0, 1) := by decide +kernel
theorem dX10_sums_32 : decode cX10_sums 32 = .ok (.invokevirtual 145, 3) := by decide +kernel
theorem dX10_sums_35 : decode cX10_sums 35 = .ok (.bipush 43, 2) := by decide +kernel
theorem dX10_sums_37 : decode cX10_sums 37 = .ok (.if_icmp .ne 7, 3) := by decide +kernel
theorem dX10_sums_40 : decode cX10_sums 40 = .ok (.iconst 1, 1) := by decide +kernel
theorem dX10_sums_41 : decode cX10_sums 41 = .ok (.goto 4, 3) := by decide +kernel
theorem dX10_sums_44 : decode cX10_sums 44 = .ok (.iconst 0, 1) := by decide +kernel
theorem dX10_sums_45 : decode cX10_sums 45 = .ok (.istore_n 3, 1) := by decide +kernel
theorem dX10_sums_46 : decode cX10_sums 46 = .ok (.aload_n 0, 1) := by decide +kernel
theorem dX10_sums_47 : decode cX10_sums 47 = .ok (.dup, 1) := by decide +kernel
theorem dX10_sums_48 : decode cX10_sums 48 = .ok (.getfield 120, 3) := by decide +kernel
theorem dX10_sums_51 : decode cX10_sums 51 = .ok (.iconst 1, 1) := by decide +kernel
theorem dX10_sums_52 : decode cX10_sums 52 = .ok (.iadd, 1) := by decide +kernel
theorem dX10_sums_53 : decode cX10_sums 53 = .ok (.putfield 120, 3) := by decide +kernel
theorem dX10_sums_56 : decode cX10_sums 56 = .ok (.aload_n 0, 1) := by decide +kernel
theorem dX10_sums_57 : decode cX10_sums 57 = .ok (.invokevirtual 184, 3) := by decide +kernel
theorem dX10_sums_60 : decode cX10_sums 60 = .ok (.lstore 4, 2) := by decide +kernel
theorem dX10_sums_62 : decode cX10_sums 62 = .ok (.iload_n 3, 1) := by decide +kernel
theorem dX10_sums_63 : decode cX10_sums 63 = .ok (.ifCond .eq 10, 3) := by decide +kernel
theorem dX10_sums_66 : decode cX10_sums 66 = .ok (.lload_n 1, 1) := by decide +kernel
theorem dX10_sums_67 : decode cX10_sums 67 = .ok (.lload 4, 2) := by decide +kernel
theorem dX10_sums_69 : decode cX10_sums 69 = .ok (.ladd, 1) := by decide +kernel
theorem dX10_sums_70 : decode cX10_sums 70 = .ok (.goto 7, 3) := by decide +kernel
theorem dX10_sums_73 : decode cX10_sums 73 = .ok (.lload_n 1, 1) := by decide +kernel
theorem dX10_sums_74 : decode cX10_sums 74 = .ok (.lload 4, 2) := by decide +kernel
theorem dX10_sums_76 : decode cX10_sums 76 = .ok (.lsub, 1) := by decide +kernel
theorem dX10_sums_77 : decode cX10_sums 77 = .ok (.invokestatic 180, 3) := by decide +kernel
theorem dX10_sums_80 : decode cX10_sums 80 = .ok (.lstore_n 1, 1) := by decide +kernel
theorem dX10_sums_81 : decode cX10_sums 81 = .ok (.goto (-76), 3) := by decide +kernel
theorem dX10_sums_84 : decode cX10_sums 84 = .ok (.lload_n 1, 1) := by decide +kernel
theorem dX10_sums_85 : decode cX10_sums 85 = .ok (.lreturn, 1) := by decide +kernel
set_option maxRecDepth 20000 in
theorem ggX10_goThrough_X10_sums : GoodIn wsX10_goThrough wsX10_sums := goodIn_r _ [13, 6, 4, 14, 15, 16, 12, 17, 18, 19, 20, 3, 1, 2, 21, 22, 23, 24, 25, 26, 27, 28, 29, 30, 31, 32, 33, 7, 8, 5, 34, 35, 36, 37, 38, 39, 9, 10, 11, 40, 41, 42, 43, 44, 45, 46, 47, 48, 49, 50, 51, 52, 53, 54, 55, 56, 57, 58, 59, 60, 61, 62, 63, 64, 65, 66, 67, 68, 69, 70, 71, 72, 73, 74, 75, 76, 77, 78, 79, 80, 81, 82, 83, 84, 85, 86, 87, 88, 89, 90, 91, 92, 93, 94, 95, 96, 97, 98, 99, 100, 101] (by decide +kernel) (by decide +kernel)
set_option maxRecDepth 20000 in
theorem gX10_goThrough_X10_sums : GoodIn wsX10_goThrough (wsV RX10 163 RX10 yX10_sums wsX10_sums) := goodIn_app (goodIn_of _ (by decide +kernel)) ggX10_goThrough_X10_sums
set_option maxRecDepth 20000 in
theorem ggX10_goThrough_X10_look : GoodIn wsX10_goThrough wsX10_look := goodIn_r _ [20, 4, 3, 1, 2, 52, 53, 54, 55, 56, 57, 58, 59, 60, 61, 62, 63, 64, 65, 66, 67, 68, 69, 70, 71, 72, 73, 74, 75, 76, 77, 78, 79, 80, 81, 82, 83, 84, 85, 86, 87, 88, 89, 90, 91, 92, 93, 94, 95, 96, 97, 98, 99, 100, 101] (by decide +kernel) (by decide +kernel)
set_option maxRecDepth 20000 in
theorem gX10_goThrough_X10_look : GoodIn wsX10_goThrough (wsV RX10 145 RX10 yX10_look wsX10_look) := goodIn_app (goodIn_of _ (by decide +kernel)) ggX10_goThrough_X10_look
set_option maxRecDepth 20000 in
theorem ggX10_goThrough_X10_wrong : GoodIn wsX10_goThrough wsX10_wrong := goodIn_r _ [39, 6, 4, 52, 53, 54, 55, 56, 57, 58, 59, 60, 61, 62, 63, 64, 65, 66, 67, 68, 69, 70, 71, 72, 73, 74, 75, 76, 77, 78, 79, 80, 81, 82, 83, 84, 85, 86, 87, 88, 89, 90, 91, 92, 93, 94, 95, 96, 97, 98, 99, 100, 101] (by decide +kernel) (by decide +kernel)
set_option maxRecDepth 20000 in
theorem gX10_goThrough_X10_wrong : GoodIn wsX10_goThrough (wsV RX10 159 RX10 yX10_wrong wsX10_wrong) := goodIn_app (goodIn_of _ (by decide +kernel)) ggX10_goThrough_X10_wrong
theorem dX10_goThrough_0 : decode cX10_goThrough 0 = .ok (.aload_n 0, 1) := by decide +kernel
theorem dX10_goThrough_1 : decode cX10_goThrough 1 = .ok (.aload_n 1, 1) := by decide +kernel
theorem dX10_goThrough_2 : decode cX10_goThrough 2 = .ok (.putfield 77, 3) := by decide +kernel
theorem dX10_goThrough_5 : decode cX10_goThrough 5 = .ok (.aload_n 0, 1) := by decide +kernel
theorem dX10_goThrough_6 : decode cX10_goThrough 6 = .ok (.iload_n 2, 1) := by decide +kernel
theorem dX10_goThrough_7 : decode cX10_goThrough 7 = .ok (.putfield 126, 3) := by decide +kernel
theorem dX10_goThrough_10 : decode cX10_goThrough 10 = .ok (.aload_n 0, 1) := by decide +kernel
theorem dX10_goThrough_11 : decode cX10_goThrough 11 = .ok (.iload_n 3, 1) := by decide +kernel
theorem dX10_goThrough_12 : decode cX10_goThrough 12 = .ok (.putfield 123, 3) := by decide +kernel
theorem dX10_goThrough_15 : decode cX10_goThrough 15 = .ok (.aload_n 0, 1) := by decide +kernel
theorem dX10_goThrough_16 : decode cX10_goThrough 16 = .ok (.iconst 0, 1) := by decide +kernel
theorem dX10_goThrough_17 : decode cX10_goThrough 17 = .ok (.putfield 120, 3) := by decide +kernel
theorem dX10_goThrough_20 : decode cX10_goThrough 20 = .ok (.aload_n 0, 1) := by decide +kernel
theorem dX10_goThrough_21 : decode cX10_goThrough 21 = .ok (.iconst 0, 1) := by decide +kernel
theorem dX10_goThrough_22 : decode cX10_goThrough 22 = .ok (.putfield 156, 3) := by decide +kernel
theorem dX10_goThrough_25 : decode cX10_goThrough 25 = .ok (.aload_n 0, 1) := by decide +kernel
theorem dX10_goThrough_26 : decode cX10_goThrough 26 = .ok (.iconst (-1), 1) := by decide +kernel
theorem dX10_goThrough_27 : decode cX10_goThrough 27 = .ok (.putfield 129, 3) := by decide +kernel
theorem dX10_goThrough_30 : decode cX10_goThrough 30 = .ok (.aload_n 0, 1) := by decide +kernel
theorem dX10_goThrough_31 : decode cX10_goThrough 31 = .ok (.iload 4, 2) := by decide +kernel
theorem dX10_goThrough_33 : decode cX10_goThrough 33 = .ok (.i2l, 1) := by decide +kernel
theorem dX10_goThrough_34 : decode cX10_goThrough 34 = .ok (.putfield 149, 3) := by decide +kernel
theorem dX10_goThrough_37 : decode cX10_goThrough 37 = .ok (.aload_n 0, 1) := by decide +kernel
theorem dX10_goThrough_38 : decode cX10_goThrough 38 = .ok (.iload 5, 2) := by decide +kernel
theorem dX10_goThrough_40 : decode cX10_goThrough 40 = .ok (.i2l, 1) := by decide +kernel
theorem dX10_goThrough_41 : decode cX10_goThrough 41 = .ok (.putfield 153, 3) := by decide +kernel
theorem dX10_goThrough_44 : decode cX10_goThrough 44 = .ok (.aload_n 0, 1) := by decide +kernel
theorem dX10_goThrough_45 : decode cX10_goThrough 45 = .ok (.invokevirtual 163, 3) := by decide +kernel
theorem dX10_goThrough_48 : decode cX10_goThrough 48 = .ok (.lstore 6, 2) := by decide +kernel
theorem dX10_goThrough_50 : decode cX10_goThrough 50 = .ok (.aload_n 0, 1) := by decide +kernel
theorem dX10_goThrough_51 : decode cX10_goThrough 51 = .ok (.getfield 129, 3) := by decide +kernel
theorem dX10_goThrough_54 : decode cX10_goThrough 54 = .ok (.iconst (-1), 1) := by decide +kernel
theorem dX10_goThrough_55 : decode cX10_goThrough 55 = .ok (.if_icmp .ne 16, 3) := by decide +kernel
theorem dX10_goThrough_58 : decode cX10_goThrough 58 = .ok (.aload_n 0, 1) := by decide +kernel
theorem dX10_goThrough_59 : decode cX10_goThrough 59 = .ok (.invokevirtual 145, 3) := by decide +kernel
theorem dX10_goThrough_62 : decode cX10_goThrough 62 = .ok (.iconst (-1), 1) := by decide +kernel
theorem dX10_goThrough_63 : decode cX10_goThrough 63 = .ok (.if_icmp .eq 8, 3) := by decide +kernel
theorem dX10_goThrough_66 : decode cX10_goThrough 66 = .ok (.aload_n 0, 1) := by decide +kernel
theorem dX10_goThrough_67 : decode cX10_goThrough 67 = .ok (.invokevirtual 159, 3) := by decide +kernel
theorem dX10_goThrough_70 : decode cX10_goThrough 70 = .ok (.lreturn, 1) := by decide +kernel
theorem dX10_goThrough_71 : decode cX10_goThrough 71 = .ok (.lload 6, 2) := by decide +kernel
theorem dX10_goThrough_73 : decode cX10_goThrough 73 = .ok (.lreturn, 1) := by decide +kernel
set_option maxRecDepth 20000 in
theorem ggX10_fault_X10_goThrough : GoodIn wsX10_fault wsX10_goThrough := goodIn_r _ [9, 10, 11, 12, 13, 14, 4, 15, 16, 17, 18, 19, 8, 20, 21, 22, 23, 24, 25, 26, 27, 28, 29, 30, 31, 32, 33, 34, 35, 36, 37, 38, 39, 40, 41, 42, 43, 44, 45, 46, 47, 48, 49, 50, 51, 52, 53, 54, 55, 56, 57, 58, 59, 60, 61, 62, 63, 64, 65, 66, 67, 68, 69, 70, 71, 72, 73, 74, 75, 76, 77, 78, 79, 80, 81, 82, 83, 84, 85, 86, 87, 88, 89, 90, 91, 92, 93, 94, 95, 96, 97, 98, 99, 100, 101, 102, 103, 104, 105, 106, 107, 108] (by decide +kernel) (by decide +kernel)
set_option maxRecDepth 20000 in
theorem gX10_fault_X10_goThrough : GoodIn wsX10_fault (wsV RX10 187 RX10 yX10_goThrough wsX10_goThrough) := goodIn_app (goodIn_of _ (by decide +kernel)) ggX10_fault_X10_goThrough
theorem dX10_fault_0 : decode cX10_fault 0 = .ok (.aload_n 0, 1) := by decide +kernel
theorem dX10_fault_1 : decode cX10_fault 1 = .ok (.iconst 0, 1) := by decide +kernel
theorem dX10_fault_2 : decode cX10_fault 2 = .ok (.putfield 106, 3) := by decide +kernel
theorem dX10_fault_5 : decode cX10_fault 5 = .ok (.aload_n 0, 1) := by decide +kernel
theorem dX10_fault_6 : decode cX10_fault 6 = .ok (.aload_n 0, 1) := by decide +kernel
theorem dX10_fault_7 : decode cX10_fault 7 = .ok (.getfield 9, 3) := by decide +kernel
theorem dX10_fault_10 : decode cX10_fault 10 = .ok (.iconst 0, 1) := by decide +kernel
theorem dX10_fault_11 : decode cX10_fault 11 = .ok (.aload_n 0, 1) := by decide +kernel
theorem dX10_fault_12 : decode cX10_fault 12 = .ok (.getfield 109, 3) := by decide +kernel
theorem dX10_fault_15 : decode cX10_fault 15 = .ok (.iconst 1, 1) := by decide +kernel
theorem dX10_fault_16 : decode cX10_fault 16 = .ok (.iconst 1, 1) := by decide +kernel
theorem dX10_fault_17 : decode cX10_fault 17 = .ok (.invokevirtual 187, 3) := by decide +kernel
theorem dX10_fault_20 : decode cX10_fault 20 = .ok (.lstore_n 1, 1) := by decide +kernel
theorem dX10_fault_21 : decode cX10_fault 21 = .ok (.aload_n 0, 1) := by decide +kernel
theorem dX10_fault_22 : decode cX10_fault 22 = .ok (.getfield 129, 3) := by decide +kernel
theorem dX10_fault_25 : decode cX10_fault 25 = .ok (.ireturn, 1) := by decide +kernel
set_option maxRecDepth 20000 in
theorem ggX10_isLaterDay_X10_isIn : GoodIn wsX10_isLaterDay wsX10_isIn := goodIn_r _ [4] (by decide +kernel) (by decide +kernel)
set_option maxRecDepth 20000 in
theorem gX10_isLaterDay_X10_isIn : GoodIn wsX10_isLaterDay (va_wsS RX10 191 yX10_isIn wsX10_isIn) := goodIn_app (goodIn_of _ (by decide +kernel)) ggX10_isLaterDay_X10_isIn
theorem dX10_isLaterDay_0 : decode cX10_isLaterDay 0 = .ok (.iload_n 0, 1) := by decide +kernel
theorem dX10_isLaterDay_1 : decode cX10_isLaterDay 1 = .ok (.iconst 0, 1) := by decide +kernel
theorem dX10_isLaterDay_2 : decode cX10_isLaterDay 2 = .ok (.sipush 500, 3) := by decide +kernel
theorem dX10_isLaterDay_5 : decode cX10_isLaterDay 5 = .ok (.invokestatic 191, 3) := by decide +kernel
theorem dX10_isLaterDay_8 : decode cX10_isLaterDay 8 = .ok (.ireturn, 1) := by decide +kernel
set_option maxRecDepth 20000 in
theorem ggX10_law_X10_goThrough : GoodIn wsX10_law wsX10_goThrough := goodIn_r _ [15, 16, 17, 18, 19, 20, 4, 21, 22, 23, 24, 25, 14, 26, 27, 28, 29, 30, 31, 32, 33, 34, 35, 36, 37, 38, 39, 40, 41, 42, 43, 44, 45, 46, 47, 48, 49, 50, 51, 52, 53, 54, 55, 56, 57, 58, 59, 60, 61, 62, 63, 64, 71, 72, 73, 74, 75, 76, 77, 78, 79, 80, 81, 82, 83, 84, 85, 86, 87, 88, 89, 90, 91, 92, 93, 94, 95, 96, 97, 98, 99, 100, 101, 102, 103, 104, 105, 106, 107, 108, 109, 110, 111, 112, 113, 114, 115, 116, 117, 118, 119, 120] (by decide +kernel) (by decide +kernel)
set_option maxRecDepth 20000 in
theorem gX10_law_X10_goThrough : GoodIn wsX10_law (wsV RX10 187 RX10 yX10_goThrough wsX10_goThrough) := goodIn_app (goodIn_of _ (by decide +kernel)) ggX10_law_X10_goThrough
set_option maxRecDepth 20000 in
theorem ggX10_law_X10_isLaterDay : GoodIn wsX10_law wsX10_isLaterDay := goodIn_r _ [67, 68, 69, 14, 70] (by decide +kernel) (by decide +kernel)
set_option maxRecDepth 20000 in
theorem gX10_law_X10_isLaterDay : GoodIn wsX10_law (va_wsS RX10 195 yX10_isLaterDay wsX10_isLaterDay) := goodIn_app (goodIn_of _ (by decide +kernel)) ggX10_law_X10_isLaterDay
theorem dX10_law_0 : decode cX10_law 0 = .ok (.aload_n 0, 1) := by decide +kernel
theorem dX10_law_1 : decode cX10_law 1 = .ok (.iconst 0, 1) := by decide +kernel
theorem dX10_law_2 : decode cX10_law 2 = .ok (.putfield 106, 3) := by decide +kernel
theorem dX10_law_5 : decode cX10_law 5 = .ok (.aload_n 0, 1) := by decide +kernel
theorem dX10_law_6 : decode cX10_law 6 = .ok (.aload_n 0, 1) := by decide +kernel
theorem dX10_law_7 : decode cX10_law 7 = .ok (.getfield 9, 3) := by decide +kernel
theorem dX10_law_10 : decode cX10_law 10 = .ok (.iconst 0, 1) := by decide +kernel
theorem dX10_law_11 : decode cX10_law 11 = .ok (.aload_n 0, 1) := by decide +kernel
theorem dX10_law_12 : decode cX10_law 12 = .ok (.getfield 109, 3) := by decide +kernel
theorem dX10_law_15 : decode cX10_law 15 = .ok (.iconst 1, 1) := by decide +kernel
theorem dX10_law_16 : decode cX10_law 16 = .ok (.iconst 1, 1) := by decide +kernel
theorem dX10_law_17 : decode cX10_law 17 = .ok (.invokevirtual 187, 3) := by decide +kernel
theorem dX10_law_20 : decode cX10_law 20 = .ok (.lstore_n 2, 1) := by decide +kernel
theorem dX10_law_21 : decode cX10_law 21 = .ok (.aload_n 0, 1) := by decide +kernel
theorem dX10_law_22 : decode cX10_law 22 = .ok (.getfield 129, 3) := by decide +kernel
theorem dX10_law_25 : decode cX10_law 25 = .ok (.iconst (-1), 1) := by decide +kernel
theorem dX10_law_26 : decode cX10_law 26 = .ok (.if_icmp .ne 19, 3) := by decide +kernel
theorem dX10_law_29 : decode cX10_law 29 = .ok (.iload_n 1, 1) := by decide +kernel
theorem dX10_law_30 : decode cX10_law 30 = .ok (.invokestatic 195, 3) := by decide +kernel
theorem dX10_law_33 : decode cX10_law 33 = .ok (.ifCond .eq 12, 3) := by decide +kernel
theorem dX10_law_36 : decode cX10_law 36 = .ok (.aload_n 0, 1) := by decide +kernel
theorem dX10_law_37 : decode cX10_law 37 = .ok (.getfield 199, 3) := by decide +kernel
theorem dX10_law_40 : decode cX10_law 40 = .ok (.bipush 20, 2) := by decide +kernel
theorem dX10_law_42 : decode cX10_law 42 = .ok (.if_icmp .ne 5, 3) := by decide +kernel
theorem dX10_law_45 : decode cX10_law 45 = .ok (.iconst (-1), 1) := by decide +kernel
theorem dX10_law_46 : decode cX10_law 46 = .ok (.ireturn, 1) := by decide +kernel
theorem dX10_law_47 : decode cX10_law 47 = .ok (.iconst 0, 1) := by decide +kernel
theorem dX10_law_48 : decode cX10_law 48 = .ok (.istore 4, 2) := by decide +kernel
theorem dX10_law_50 : decode cX10_law 50 = .ok (.iload 4, 2) := by decide +kernel
theorem dX10_law_52 : decode cX10_law 52 = .ok (.aload_n 0, 1) := by decide +kernel
theorem dX10_law_53 : decode cX10_law 53 = .ok (.getfield 109, 3) := by decide +kernel
theorem dX10_law_56 : decode cX10_law 56 = .ok (.if_icmp .ge 31, 3) := by decide +kernel
theorem dX10_law_59 : decode cX10_law 59 = .ok (.aload_n 0, 1) := by decide +kernel
theorem dX10_law_60 : decode cX10_law 60 = .ok (.getfield 13, 3) := by decide +kernel
theorem dX10_law_63 : decode cX10_law 63 = .ok (.bipush 120, 2) := by decide +kernel
theorem dX10_law_65 : decode cX10_law 65 = .ok (.aload_n 0, 1) := by decide +kernel
theorem dX10_law_66 : decode cX10_law 66 = .ok (.getfield 199, 3) := by decide +kernel
theorem dX10_law_69 : decode cX10_law 69 = .ok (.imul, 1) := by decide +kernel
theorem dX10_law_70 : decode cX10_law 70 = .ok (.iload 4, 2) := by decide +kernel
theorem dX10_law_72 : decode cX10_law 72 = .ok (.iadd, 1) := by decide +kernel
theorem dX10_law_73 : decode cX10_law 73 = .ok (.aload_n 0, 1) := by decide +kernel
theorem dX10_law_74 : decode cX10_law 74 = .ok (.getfield 9, 3) := by decide +kernel
theorem dX10_law_77 : decode cX10_law 77 = .ok (.iload 4, 2) := by decide +kernel
theorem dX10_law_79 : decode cX10_law 79 = .ok (.baload, 1) := by decide +kernel
theorem dX10_law_80 : decode cX10_law 80 = .ok (.bastore, 1) := by decide +kernel
theorem dX10_law_81 : decode cX10_law 81 = .ok (.iinc 4 1, 3) := by decide +kernel
theorem dX10_law_84 : decode cX10_law 84 = .ok (.goto (-34), 3) := by decide +kernel
theorem dX10_law_87 : decode cX10_law 87 = .ok (.aload_n 0, 1) := by decide +kernel
theorem dX10_law_88 : decode cX10_law 88 = .ok (.getfield 16, 3) := by decide +kernel
theorem dX10_law_91 : decode cX10_law 91 = .ok (.aload_n 0, 1) := by decide +kernel
theorem dX10_law_92 : decode cX10_law 92 = .ok (.getfield 199, 3) := by decide +kernel
theorem dX10_law_95 : decode cX10_law 95 = .ok (.aload_n 0, 1) := by decide +kernel
theorem dX10_law_96 : decode cX10_law 96 = .ok (.getfield 109, 3) := by decide +kernel
theorem dX10_law_99 : decode cX10_law 99 = .ok (.iastore, 1) := by decide +kernel
theorem dX10_law_100 : decode cX10_law 100 = .ok (.aload_n 0, 1) := by decide +kernel
theorem dX10_law_101 : decode cX10_law 101 = .ok (.getfield 20, 3) := by decide +kernel
theorem dX10_law_104 : decode cX10_law 104 = .ok (.aload_n 0, 1) := by decide +kernel
theorem dX10_law_105 : decode cX10_law 105 = .ok (.getfield 199, 3) := by decide +kernel
theorem dX10_law_108 : decode cX10_law 108 = .ok (.iload_n 1, 1) := by decide +kernel
theorem dX10_law_109 : decode cX10_law 109 = .ok (.iastore, 1) := by decide +kernel
theorem dX10_law_110 : decode cX10_law 110 = .ok (.aload_n 0, 1) := by decide +kernel
theorem dX10_law_111 : decode cX10_law 111 = .ok (.getfield 23, 3) := by decide +kernel
theorem dX10_law_114 : decode cX10_law 114 = .ok (.aload_n 0, 1) := by decide +kernel
theorem dX10_law_115 : decode cX10_law 115 = .ok (.getfield 199, 3) := by decide +kernel
theorem dX10_law_118 : decode cX10_law 118 = .ok (.aload_n 0, 1) := by decide +kernel
theorem dX10_law_119 : decode cX10_law 119 = .ok (.getfield 202, 3) := by decide +kernel
theorem dX10_law_122 : decode cX10_law 122 = .ok (.iastore, 1) := by decide +kernel
theorem dX10_law_123 : decode cX10_law 123 = .ok (.aload_n 0, 1) := by decide +kernel
theorem dX10_law_124 : decode cX10_law 124 = .ok (.dup, 1) := by decide +kernel
theorem dX10_law_125 : decode cX10_law 125 = .ok (.getfield 199, 3) := by decide +kernel
theorem dX10_law_128 : decode cX10_law 128 = .ok (.iconst 1, 1) := by decide +kernel
theorem dX10_law_129 : decode cX10_law 129 = .ok (.iadd, 1) := by decide +kernel
theorem dX10_law_130 : decode cX10_law 130 = .ok (.putfield 199, 3) := by decide +kernel
theorem dX10_law_133 : decode cX10_law 133 = .ok (.aload_n 0, 1) := by decide +kernel
theorem dX10_law_134 : decode cX10_law 134 = .ok (.iconst 0, 1) := by decide +kernel
theorem dX10_law_135 : decode cX10_law 135 = .ok (.putfield 109, 3) := by decide +kernel
theorem dX10_law_138 : decode cX10_law 138 = .ok (.aload_n 0, 1) := by decide +kernel
theorem dX10_law_139 : decode cX10_law 139 = .ok (.getfield 199, 3) := by decide +kernel
theorem dX10_law_142 : decode cX10_law 142 = .ok (.iconst 1, 1) := by decide +kernel
theorem dX10_law_143 : decode cX10_law 143 = .ok (.isub, 1) := by decide +kernel
theorem dX10_law_144 : decode cX10_law 144 = .ok (.ireturn, 1) := by decide +kernel
set_option maxRecDepth 20000 in
theorem ggX10_lawValue_X10_goThrough : GoodIn wsX10_lawValue wsX10_goThrough := goodIn_r _ [7, 8, 9, 10, 11, 12, 13, 14, 15, 16, 17, 18, 6, 19, 20, 21, 22, 23, 24, 25, 26, 27, 28, 29, 30, 31, 32, 33, 34, 35, 36, 37, 38, 39, 40, 41, 42, 43, 44, 45, 46, 47, 48, 49, 50, 51, 52, 53, 54, 55, 56, 57, 58, 59, 60, 61, 62, 63, 64, 65, 66, 67, 68, 69, 70, 71, 72, 73, 74, 75, 76, 77, 78, 79, 80, 81, 82, 83, 84, 85, 86, 87, 88, 89, 90, 91, 92, 93, 94, 95, 96, 97, 98, 99, 100, 101, 102, 103, 104, 105, 106, 107] (by decide +kernel) (by decide +kernel)
set_option maxRecDepth 20000 in
theorem gX10_lawValue_X10_goThrough : GoodIn wsX10_lawValue (wsV RX10 187 RX10 yX10_goThrough wsX10_goThrough) := goodIn_app (goodIn_of _ (by decide +kernel)) ggX10_lawValue_X10_goThrough
theorem dX10_lawValue_0 : decode cX10_lawValue 0 = .ok (.aload_n 0, 1) := by decide +kernel
theorem dX10_lawValue_1 : decode cX10_lawValue 1 = .ok (.aload_n 0, 1) := by decide +kernel
theorem dX10_lawValue_2 : decode cX10_lawValue 2 = .ok (.getfield 13, 3) := by decide +kernel
theorem dX10_lawValue_5 : decode cX10_lawValue 5 = .ok (.bipush 120, 2) := by decide +kernel
theorem dX10_lawValue_7 : decode cX10_lawValue 7 = .ok (.iload_n 1, 1) := by decide +kernel
theorem dX10_lawValue_8 : decode cX10_lawValue 8 = .ok (.imul, 1) := by decide +kernel
theorem dX10_lawValue_9 : decode cX10_lawValue 9 = .ok (.aload_n 0, 1) := by decide +kernel
theorem dX10_lawValue_10 : decode cX10_lawValue 10 = .ok (.getfield 16, 3) := by decide +kernel
theorem dX10_lawValue_13 : decode cX10_lawValue 13 = .ok (.iload_n 1, 1) := by decide +kernel
theorem dX10_lawValue_14 : decode cX10_lawValue 14 = .ok (.iaload, 1) := by decide +kernel
theorem dX10_lawValue_15 : decode cX10_lawValue 15 = .ok (.iload_n 2, 1) := by decide +kernel
theorem dX10_lawValue_16 : decode cX10_lawValue 16 = .ok (.iload_n 3, 1) := by decide +kernel
theorem dX10_lawValue_17 : decode cX10_lawValue 17 = .ok (.invokevirtual 187, 3) := by decide +kernel
theorem dX10_lawValue_20 : decode cX10_lawValue 20 = .ok (.lreturn, 1) := by decide +kernel
set_option maxRecDepth 20000 in
theorem ggX10_value_X10_isIn : GoodIn wsX10_value wsX10_isIn := goodIn_r _ [6] (by decide +kernel) (by decide +kernel)
set_option maxRecDepth 20000 in
theorem gX10_value_X10_isIn : GoodIn wsX10_value (va_wsS RX10 191 yX10_isIn wsX10_isIn) := goodIn_app (goodIn_of _ (by decide +kernel)) ggX10_value_X10_isIn
set_option maxRecDepth 20000 in
theorem ggX10_value_X10_lawValue : GoodIn wsX10_value wsX10_lawValue := goodIn_r _ [10, 11, 12, 13, 14, 15, 5, 16, 17, 18, 19, 20, 21, 22, 23, 24, 25, 26, 27, 28, 29, 30, 31, 32, 33, 34, 35, 36, 37, 38, 39, 40, 41, 42, 43, 44, 45, 46, 47, 48, 49, 50, 51, 52, 53, 54, 55, 56, 57, 58, 59, 60, 61, 62, 63, 64, 65, 66, 67, 68, 69, 70, 71, 72, 73, 74, 75, 76, 77, 78, 79, 80, 81, 82, 83, 84, 85, 86, 87, 88, 89, 90, 91, 92, 93, 94, 95, 96, 97, 98, 99, 100, 101, 102, 103, 104, 105, 106, 107, 108, 109, 110, 111, 112, 113, 114, 115, 116] (by decide +kernel) (by decide +kernel)
set_option maxRecDepth 20000 in
theorem gX10_value_X10_lawValue : GoodIn wsX10_value (wsV RX10 205 RX10 yX10_lawValue wsX10_lawValue) := goodIn_app (goodIn_of _ (by decide +kernel)) ggX10_value_X10_lawValue
theorem dX10_value_0 : decode cX10_value 0 = .ok (.aload_n 0, 1) := by decide +kernel
theorem dX10_value_1 : decode cX10_value 1 = .ok (.iload_n 1, 1) := by decide +kernel
theorem dX10_value_2 : decode cX10_value 2 = .ok (.iconst 0, 1) := by decide +kernel
theorem dX10_value_3 : decode cX10_value 3 = .ok (.aload_n 0, 1) := by decide +kernel
theorem dX10_value_4 : decode cX10_value 4 = .ok (.getfield 199, 3) := by decide +kernel
theorem dX10_value_7 : decode cX10_value 7 = .ok (.iconst 1, 1) := by decide +kernel
theorem dX10_value_8 : decode cX10_value 8 = .ok (.isub, 1) := by decide +kernel
theorem dX10_value_9 : decode cX10_value 9 = .ok (.invokestatic 191, 3) := by decide +kernel
theorem dX10_value_12 : decode cX10_value 12 = .ok (.ifCond .eq 29, 3) := by decide +kernel
theorem dX10_value_15 : decode cX10_value 15 = .ok (.iload_n 2, 1) := by decide +kernel
theorem dX10_value_16 : decode cX10_value 16 = .ok (.iconst 0, 1) := by decide +kernel
theorem dX10_value_17 : decode cX10_value 17 = .ok (.sipush 1000, 3) := by decide +kernel
theorem dX10_value_20 : decode cX10_value 20 = .ok (.invokestatic 191, 3) := by decide +kernel
theorem dX10_value_23 : decode cX10_value 23 = .ok (.ifCond .eq 18, 3) := by decide +kernel
theorem dX10_value_26 : decode cX10_value 26 = .ok (.iload_n 3, 1) := by decide +kernel
theorem dX10_value_27 : decode cX10_value 27 = .ok (.iconst 0, 1) := by decide +kernel
theorem dX10_value_28 : decode cX10_value 28 = .ok (.sipush 1000, 3) := by decide +kernel
theorem dX10_value_31 : decode cX10_value 31 = .ok (.invokestatic 191, 3) := by decide +kernel
theorem dX10_value_34 : decode cX10_value 34 = .ok (.ifCond .eq 7, 3) := by decide +kernel
theorem dX10_value_37 : decode cX10_value 37 = .ok (.iconst 0, 1) := by decide +kernel
theorem dX10_value_38 : decode cX10_value 38 = .ok (.goto 4, 3) := by decide +kernel
theorem dX10_value_41 : decode cX10_value 41 = .ok (.iconst 1, 1) := by decide +kernel
theorem dX10_value_42 : decode cX10_value 42 = .ok (.putfield 106, 3) := by decide +kernel
theorem dX10_value_45 : decode cX10_value 45 = .ok (.aload_n 0, 1) := by decide +kernel
theorem dX10_value_46 : decode cX10_value 46 = .ok (.getfield 106, 3) := by decide +kernel
theorem dX10_value_49 : decode cX10_value 49 = .ok (.ifCond .le 7, 3) := by decide +kernel
theorem dX10_value_52 : decode cX10_value 52 = .ok (.lconst 0, 1) := by decide +kernel
theorem dX10_value_53 : decode cX10_value 53 = .ok (.goto 10, 3) := by decide +kernel
theorem dX10_value_56 : decode cX10_value 56 = .ok (.aload_n 0, 1) := by decide +kernel
theorem dX10_value_57 : decode cX10_value 57 = .ok (.iload_n 1, 1) := by decide +kernel
theorem dX10_value_58 : decode cX10_value 58 = .ok (.iload_n 2, 1) := by decide +kernel
theorem dX10_value_59 : decode cX10_value 59 = .ok (.iload_n 3, 1) := by decide +kernel
theorem dX10_value_60 : decode cX10_value 60 = .ok (.invokevirtual 205, 3) := by decide +kernel
theorem dX10_value_63 : decode cX10_value 63 = .ok (.lreturn, 1) := by decide +kernel
theorem dX10_inForce_0 : decode cX10_inForce 0 = .ok (.iconst (-1), 1) := by decide +kernel
theorem dX10_inForce_1 : decode cX10_inForce 1 = .ok (.istore_n 3, 1) := by decide +kernel
theorem dX10_inForce_2 : decode cX10_inForce 2 = .ok (.iconst 0, 1) := by decide +kernel
theorem dX10_inForce_3 : decode cX10_inForce 3 = .ok (.istore 4, 2) := by decide +kernel
theorem dX10_inForce_5 : decode cX10_inForce 5 = .ok (.iload 4, 2) := by decide +kernel
theorem dX10_inForce_7 : decode cX10_inForce 7 = .ok (.aload_n 0, 1) := by decide +kernel
theorem dX10_inForce_8 : decode cX10_inForce 8 = .ok (.getfield 199, 3) := by decide +kernel
theorem dX10_inForce_11 : decode cX10_inForce 11 = .ok (.if_icmp .ge 55, 3) := by decide +kernel
theorem dX10_inForce_14 : decode cX10_inForce 14 = .ok (.aload_n 0, 1) := by decide +kernel
theorem dX10_inForce_15 : decode cX10_inForce 15 = .ok (.getfield 23, 3) := by decide +kernel
theorem dX10_inForce_18 : decode cX10_inForce 18 = .ok (.iload 4, 2) := by decide +kernel
theorem dX10_inForce_20 : decode cX10_inForce 20 = .ok (.iaload, 1) := by decide +kernel
theorem dX10_inForce_21 : decode cX10_inForce 21 = .ok (.iload_n 2, 1) := by decide +kernel
theorem dX10_inForce_22 : decode cX10_inForce 22 = .ok (.if_icmp .gt 38, 3) := by decide +kernel
theorem dX10_inForce_25 : decode cX10_inForce 25 = .ok (.aload_n 0, 1) := by decide +kernel
theorem dX10_inForce_26 : decode cX10_inForce 26 = .ok (.getfield 20, 3) := by decide +kernel
theorem dX10_inForce_29 : decode cX10_inForce 29 = .ok (.iload 4, 2) := by decide +kernel
theorem dX10_inForce_31 : decode cX10_inForce 31 = .ok (.iaload, 1) := by decide +kernel
theorem dX10_inForce_32 : decode cX10_inForce 32 = .ok (.iload_n 1, 1) := by decide +kernel
theorem dX10_inForce_33 : decode cX10_inForce 33 = .ok (.if_icmp .gt 27, 3) := by decide +kernel
theorem dX10_inForce_36 : decode cX10_inForce 36 = .ok (.iload_n 3, 1) := by decide +kernel
theorem dX10_inForce_37 : decode cX10_inForce 37 = .ok (.iconst (-1), 1) := by decide +kernel
theorem dX10_inForce_38 : decode cX10_inForce 38 = .ok (.if_icmp .eq 19, 3) := by decide +kernel
theorem dX10_inForce_41 : decode cX10_inForce 41 = .ok (.aload_n 0, 1) := by decide +kernel
theorem dX10_inForce_42 : decode cX10_inForce 42 = .ok (.getfield 20, 3) := by decide +kernel
theorem dX10_inForce_45 : decode cX10_inForce 45 = .ok (.iload 4, 2) := by decide +kernel
theorem dX10_inForce_47 : decode cX10_inForce 47 = .ok (.iaload, 1) := by decide +kernel
theorem dX10_inForce_48 : decode cX10_inForce 48 = .ok (.aload_n 0, 1) := by decide +kernel
theorem dX10_inForce_49 : decode cX10_inForce 49 = .ok (.getfield 20, 3) := by decide +kernel
theorem dX10_inForce_52 : decode cX10_inForce 52 = .ok (.iload_n 3, 1) := by decide +kernel
theorem dX10_inForce_53 : decode cX10_inForce 53 = .ok (.iaload, 1) := by decide +kernel
theorem dX10_inForce_54 : decode cX10_inForce 54 = .ok (.if_icmp .lt 6, 3) := by decide +kernel
theorem dX10_inForce_57 : decode cX10_inForce 57 = .ok (.iload 4, 2) := by decide +kernel
theorem dX10_inForce_59 : decode cX10_inForce 59 = .ok (.istore_n 3, 1) := by decide +kernel
theorem dX10_inForce_60 : decode cX10_inForce 60 = .ok (.iinc 4 1, 3) := by decide +kernel
theorem dX10_inForce_63 : decode cX10_inForce 63 = .ok (.goto (-58), 3) := by decide +kernel
theorem dX10_inForce_66 : decode cX10_inForce 66 = .ok (.iload_n 3, 1) := by decide +kernel
theorem dX10_inForce_67 : decode cX10_inForce 67 = .ok (.ireturn, 1) := by decide +kernel
set_option maxRecDepth 20000 in
theorem ggX10_isKnown_X10_isIn : GoodIn wsX10_isKnown wsX10_isIn := goodIn_r _ [5] (by decide +kernel) (by decide +kernel)
set_option maxRecDepth 20000 in
theorem gX10_isKnown_X10_isIn : GoodIn wsX10_isKnown (va_wsS RX10 191 yX10_isIn wsX10_isIn) := goodIn_app (goodIn_of _ (by decide +kernel)) ggX10_isKnown_X10_isIn
theorem dX10_isKnown_0 : decode cX10_isKnown 0 = .ok (.iload_n 1, 1) := by decide +kernel
theorem dX10_isKnown_1 : decode cX10_isKnown 1 = .ok (.iconst 0, 1) := by decide +kernel
theorem dX10_isKnown_2 : decode cX10_isKnown 2 = .ok (.aload_n 0, 1) := by decide +kernel
theorem dX10_isKnown_3 : decode cX10_isKnown 3 = .ok (.getfield 202, 3) := by decide +kernel
theorem dX10_isKnown_6 : decode cX10_isKnown 6 = .ok (.invokestatic 191, 3) := by decide +kernel
theorem dX10_isKnown_9 : decode cX10_isKnown 9 = .ok (.ireturn, 1) := by decide +kernel
set_option maxRecDepth 20000 in
theorem ggX10_force_X10_isLaterDay : GoodIn wsX10_force wsX10_isLaterDay := goodIn_r _ [5, 6, 7, 4, 8] (by decide +kernel) (by decide +kernel)
set_option maxRecDepth 20000 in
theorem gX10_force_X10_isLaterDay : GoodIn wsX10_force (va_wsS RX10 195 yX10_isLaterDay wsX10_isLaterDay) := goodIn_app (goodIn_of _ (by decide +kernel)) ggX10_force_X10_isLaterDay
set_option maxRecDepth 20000 in
theorem ggX10_force_X10_isKnown : GoodIn wsX10_force wsX10_isKnown := goodIn_r _ [12, 13, 6, 7, 4, 8, 21, 22, 23, 24, 25, 26, 27, 28, 29, 30, 31, 32, 33, 34, 35, 36, 37, 38, 39, 40, 41, 42, 43, 44, 45, 46, 47, 48, 49, 50, 51, 52, 53, 54, 55, 56, 57, 58, 59, 60, 61, 62, 63, 64, 65, 66, 67, 68, 69, 70] (by decide +kernel) (by decide +kernel)
set_option maxRecDepth 20000 in
theorem gX10_force_X10_isKnown : GoodIn wsX10_force (wsV RX10 209 RX10 yX10_isKnown wsX10_isKnown) := goodIn_app (goodIn_of _ (by decide +kernel)) ggX10_force_X10_isKnown
set_option maxRecDepth 20000 in
theorem ggX10_force_X10_inForce : GoodIn wsX10_force wsX10_inForce := goodIn_r _ [17, 18, 19, 20, 21, 22, 23, 24, 25, 26, 27, 28, 29, 30, 31, 32, 33, 34, 35, 36, 37, 38, 39, 40, 41, 42, 43, 44, 45, 46, 47, 48, 49, 50, 51, 52, 53, 54, 55, 56, 57, 58, 59, 60, 61, 62, 63, 64, 65, 66, 67, 68, 69, 70] (by decide +kernel) (by decide +kernel)
set_option maxRecDepth 20000 in
theorem gX10_force_X10_inForce : GoodIn wsX10_force (wsV RX10 212 RX10 yX10_inForce wsX10_inForce) := goodIn_app (goodIn_of _ (by decide +kernel)) ggX10_force_X10_inForce
end
section
theorem dX10_force_0 : decode cX10_force 0 = .ok (.aload_n 0, 1) := by decide +kernel
theorem dX10_force_1 : decode cX10_force 1 = .ok (.iconst 0, 1) := by decide +kernel
theorem dX10_force_2 : decode cX10_force 2 = .ok (.putfield 106, 3) := by decide +kernel
theorem dX10_force_5 : decode cX10_force 5 = .ok (.iload_n 1, 1) := by decide +kernel
theorem dX10_force_6 : decode cX10_force 6 = .ok (.invokestatic 195, 3) := by decide +kernel
theorem dX10_force_9 : decode cX10_force 9 = .ok (.ifCond .eq 20, 3) := by decide +kernel
theorem dX10_force_12 : decode cX10_force 12 = .ok (.aload_n 0, 1) := by decide +kernel
theorem dX10_force_13 : decode cX10_force 13 = .ok (.iload_n 2, 1) := by decide +kernel
theorem dX10_force_14 : decode cX10_force 14 = .ok (.invokevirtual 209, 3) := by decide +kernel
theorem dX10_force_17 : decode cX10_force 17 = .ok (.ifCond .eq 12, 3) := by decide +kernel
theorem dX10_force_20 : decode cX10_force 20 = .ok (.aload_n 0, 1) := by decide +kernel
theorem dX10_force_21 : decode cX10_force 21 = .ok (.iload_n 1, 1) := by decide +kernel
theorem dX10_force_22 : decode cX10_force 22 = .ok (.iload_n 2, 1) := by decide +kernel
theorem dX10_force_23 : decode cX10_force 23 = .ok (.invokevirtual 212, 3) := by decide +kernel
theorem dX10_force_26 : decode cX10_force 26 = .ok (.goto 4, 3) := by decide +kernel
theorem dX10_force_29 : decode cX10_force 29 = .ok (.iconst (-1), 1) := by decide +kernel
theorem dX10_force_30 : decode cX10_force 30 = .ok (.ireturn, 1) := by decide +kernel
set_option maxRecDepth 20000 in
theorem ggX10_most_X10_isIn : GoodIn wsX10_most wsX10_isIn := goodIn_r _ [6] (by decide +kernel) (by decide +kernel)
set_option maxRecDepth 20000 in
theorem gX10_most_X10_isIn : GoodIn wsX10_most (va_wsS RX10 191 yX10_isIn wsX10_isIn) := goodIn_app (goodIn_of _ (by decide +kernel)) ggX10_most_X10_isIn
set_option maxRecDepth 20000 in
theorem ggX10_most_X10_lawValue : GoodIn wsX10_most wsX10_lawValue := goodIn_r _ [10, 11, 12, 13, 14, 15, 5, 16, 17, 18, 19, 20, 21, 22, 23, 24, 25, 26, 27, 28, 29, 30, 31, 32, 33, 34, 35, 36, 37, 38, 39, 40, 41, 42, 43, 44, 45, 46, 47, 48, 49, 50, 51, 52, 53, 54, 55, 56, 57, 58, 59, 60, 61, 62, 63, 64, 65, 66, 67, 68, 69, 70, 71, 72, 73, 74, 75, 76, 77, 78, 79, 80, 81, 82, 83, 84, 85, 86, 87, 88, 89, 90, 91, 92, 93, 94, 95, 96, 97, 98, 99, 100, 101, 102, 103, 104, 105, 106, 107, 108, 109, 110, 111, 112, 113, 114, 115, 116] (by decide +kernel) (by decide +kernel)
set_option maxRecDepth 20000 in
theorem gX10_most_X10_lawValue : GoodIn wsX10_most (wsV RX10 205 RX10 yX10_lawValue wsX10_lawValue) := goodIn_app (goodIn_of _ (by decide +kernel)) ggX10_most_X10_lawValue
theorem dX10_most_0 : decode cX10_most 0 = .ok (.aload_n 0, 1) := by decide +kernel
theorem dX10_most_1 : decode cX10_most 1 = .ok (.iconst 0, 1) := by decide +kernel
theorem dX10_most_2 : decode cX10_most 2 = .ok (.putfield 106, 3) := by decide +kernel
theorem dX10_most_5 : decode cX10_most 5 = .ok (.iload_n 1, 1) := by decide +kernel
theorem dX10_most_6 : decode cX10_most 6 = .ok (.iconst 0, 1) := by decide +kernel
theorem dX10_most_7 : decode cX10_most 7 = .ok (.sipush 1000, 3) := by decide +kernel
theorem dX10_most_10 : decode cX10_most 10 = .ok (.invokestatic 191, 3) := by decide +kernel
theorem dX10_most_13 : decode cX10_most 13 = .ok (.ifCond .eq 14, 3) := by decide +kernel
theorem dX10_most_16 : decode cX10_most 16 = .ok (.iload_n 2, 1) := by decide +kernel
theorem dX10_most_17 : decode cX10_most 17 = .ok (.iconst 0, 1) := by decide +kernel
theorem dX10_most_18 : decode cX10_most 18 = .ok (.sipush 1000, 3) := by decide +kernel
theorem dX10_most_21 : decode cX10_most 21 = .ok (.invokestatic 191, 3) := by decide +kernel
theorem dX10_most_24 : decode cX10_most 24 = .ok (.ifCond .ne 5, 3) := by decide +kernel
theorem dX10_most_27 : decode cX10_most 27 = .ok (.iconst (-1), 1) := by decide +kernel
theorem dX10_most_28 : decode cX10_most 28 = .ok (.ireturn, 1) := by decide +kernel
theorem dX10_most_29 : decode cX10_most 29 = .ok (.iconst (-1), 1) := by decide +kernel
theorem dX10_most_30 : decode cX10_most 30 = .ok (.istore_n 3, 1) := by decide +kernel
theorem dX10_most_31 : decode cX10_most 31 = .ok (.iconst 0, 1) := by decide +kernel
theorem dX10_most_32 : decode cX10_most 32 = .ok (.istore 4, 2) := by decide +kernel
theorem dX10_most_34 : decode cX10_most 34 = .ok (.iload 4, 2) := by decide +kernel
theorem dX10_most_36 : decode cX10_most 36 = .ok (.aload_n 0, 1) := by decide +kernel
theorem dX10_most_37 : decode cX10_most 37 = .ok (.getfield 199, 3) := by decide +kernel
theorem dX10_most_40 : decode cX10_most 40 = .ok (.if_icmp .ge 36, 3) := by decide +kernel
theorem dX10_most_43 : decode cX10_most 43 = .ok (.iload_n 3, 1) := by decide +kernel
theorem dX10_most_44 : decode cX10_most 44 = .ok (.iconst (-1), 1) := by decide +kernel
theorem dX10_most_45 : decode cX10_most 45 = .ok (.if_icmp .eq 22, 3) := by decide +kernel
theorem dX10_most_48 : decode cX10_most 48 = .ok (.aload_n 0, 1) := by decide +kernel
theorem dX10_most_49 : decode cX10_most 49 = .ok (.iload 4, 2) := by decide +kernel
theorem dX10_most_51 : decode cX10_most 51 = .ok (.iload_n 1, 1) := by decide +kernel
theorem dX10_most_52 : decode cX10_most 52 = .ok (.iload_n 2, 1) := by decide +kernel
theorem dX10_most_53 : decode cX10_most 53 = .ok (.invokevirtual 205, 3) := by decide +kernel
theorem dX10_most_56 : decode cX10_most 56 = .ok (.aload_n 0, 1) := by decide +kernel
theorem dX10_most_57 : decode cX10_most 57 = .ok (.iload_n 3, 1) := by decide +kernel
theorem dX10_most_58 : decode cX10_most 58 = .ok (.iload_n 1, 1) := by decide +kernel
theorem dX10_most_59 : decode cX10_most 59 = .ok (.iload_n 2, 1) := by decide +kernel
theorem dX10_most_60 : decode cX10_most 60 = .ok (.invokevirtual 205, 3) := by decide +kernel
theorem dX10_most_63 : decode cX10_most 63 = .ok (.lcmp, 1) := by decide +kernel
theorem dX10_most_64 : decode cX10_most 64 = .ok (.ifCond .le 6, 3) := by decide +kernel
theorem dX10_most_67 : decode cX10_most 67 = .ok (.iload 4, 2) := by decide +kernel
theorem dX10_most_69 : decode cX10_most 69 = .ok (.istore_n 3, 1) := by decide +kernel
theorem dX10_most_70 : decode cX10_most 70 = .ok (.iinc 4 1, 3) := by decide +kernel
theorem dX10_most_73 : decode cX10_most 73 = .ok (.goto (-39), 3) := by decide +kernel
theorem dX10_most_76 : decode cX10_most 76 = .ok (.iload_n 3, 1) := by decide +kernel
theorem dX10_most_77 : decode cX10_most 77 = .ok (.ireturn, 1) := by decide +kernel
set_option maxRecDepth 20000 in
theorem ggX10_error_X10_isIn : GoodIn wsX10_error wsX10_isIn := goodIn_r _ [11] (by decide +kernel) (by decide +kernel)
set_option maxRecDepth 20000 in
theorem gX10_error_X10_isIn : GoodIn wsX10_error (va_wsS RX10 191 yX10_isIn wsX10_isIn) := goodIn_app (goodIn_of _ (by decide +kernel)) ggX10_error_X10_isIn
set_option maxRecDepth 20000 in
theorem ggX10_error_X10_isLaterDay : GoodIn wsX10_error wsX10_isLaterDay := goodIn_r _ [14, 8, 9, 10, 11] (by decide +kernel) (by decide +kernel)
set_option maxRecDepth 20000 in
theorem gX10_error_X10_isLaterDay : GoodIn wsX10_error (va_wsS RX10 195 yX10_isLaterDay wsX10_isLaterDay) := goodIn_app (goodIn_of _ (by decide +kernel)) ggX10_error_X10_isLaterDay
theorem dX10_error_0 : decode cX10_error 0 = .ok (.aload_n 0, 1) := by decide +kernel
theorem dX10_error_1 : decode cX10_error 1 = .ok (.iconst 0, 1) := by decide +kernel
theorem dX10_error_2 : decode cX10_error 2 = .ok (.putfield 106, 3) := by decide +kernel
theorem dX10_error_5 : decode cX10_error 5 = .ok (.aload_n 0, 1) := by decide +kernel
theorem dX10_error_6 : decode cX10_error 6 = .ok (.getfield 216, 3) := by decide +kernel
theorem dX10_error_9 : decode cX10_error 9 = .ok (.bipush 60, 2) := by decide +kernel
theorem dX10_error_11 : decode cX10_error 11 = .ok (.if_icmp .eq 32, 3) := by decide +kernel
theorem dX10_error_14 : decode cX10_error 14 = .ok (.iload_n 1, 1) := by decide +kernel
theorem dX10_error_15 : decode cX10_error 15 = .ok (.iconst 0, 1) := by decide +kernel
theorem dX10_error_16 : decode cX10_error 16 = .ok (.iconst 5, 1) := by decide +kernel
theorem dX10_error_17 : decode cX10_error 17 = .ok (.invokestatic 191, 3) := by decide +kernel
theorem dX10_error_20 : decode cX10_error 20 = .ok (.ifCond .eq 23, 3) := by decide +kernel
theorem dX10_error_23 : decode cX10_error 23 = .ok (.iload_n 2, 1) := by decide +kernel
theorem dX10_error_24 : decode cX10_error 24 = .ok (.sipush (-200), 3) := by decide +kernel
theorem dX10_error_27 : decode cX10_error 27 = .ok (.sipush 200, 3) := by decide +kernel
theorem dX10_error_30 : decode cX10_error 30 = .ok (.invokestatic 191, 3) := by decide +kernel
theorem dX10_error_33 : decode cX10_error 33 = .ok (.ifCond .eq 10, 3) := by decide +kernel
theorem dX10_error_36 : decode cX10_error 36 = .ok (.iload_n 3, 1) := by decide +kernel
theorem dX10_error_37 : decode cX10_error 37 = .ok (.invokestatic 195, 3) := by decide +kernel
theorem dX10_error_40 : decode cX10_error 40 = .ok (.ifCond .ne 5, 3) := by decide +kernel
theorem dX10_error_43 : decode cX10_error 43 = .ok (.iconst 0, 1) := by decide +kernel
theorem dX10_error_44 : decode cX10_error 44 = .ok (.ireturn, 1) := by decide +kernel
theorem dX10_error_45 : decode cX10_error 45 = .ok (.aload_n 0, 1) := by decide +kernel
theorem dX10_error_46 : decode cX10_error 46 = .ok (.getfield 26, 3) := by decide +kernel
theorem dX10_error_49 : decode cX10_error 49 = .ok (.aload_n 0, 1) := by decide +kernel
theorem dX10_error_50 : decode cX10_error 50 = .ok (.getfield 216, 3) := by decide +kernel
theorem dX10_error_53 : decode cX10_error 53 = .ok (.iload_n 1, 1) := by decide +kernel
theorem dX10_error_54 : decode cX10_error 54 = .ok (.iastore, 1) := by decide +kernel
theorem dX10_error_55 : decode cX10_error 55 = .ok (.aload_n 0, 1) := by decide +kernel
theorem dX10_error_56 : decode cX10_error 56 = .ok (.getfield 29, 3) := by decide +kernel
theorem dX10_error_59 : decode cX10_error 59 = .ok (.aload_n 0, 1) := by decide +kernel
theorem dX10_error_60 : decode cX10_error 60 = .ok (.getfield 216, 3) := by decide +kernel
theorem dX10_error_63 : decode cX10_error 63 = .ok (.iload_n 2, 1) := by decide +kernel
theorem dX10_error_64 : decode cX10_error 64 = .ok (.iastore, 1) := by decide +kernel
theorem dX10_error_65 : decode cX10_error 65 = .ok (.aload_n 0, 1) := by decide +kernel
theorem dX10_error_66 : decode cX10_error 66 = .ok (.getfield 32, 3) := by decide +kernel
theorem dX10_error_69 : decode cX10_error 69 = .ok (.aload_n 0, 1) := by decide +kernel
theorem dX10_error_70 : decode cX10_error 70 = .ok (.getfield 216, 3) := by decide +kernel
theorem dX10_error_73 : decode cX10_error 73 = .ok (.iload_n 3, 1) := by decide +kernel
theorem dX10_error_74 : decode cX10_error 74 = .ok (.iastore, 1) := by decide +kernel
theorem dX10_error_75 : decode cX10_error 75 = .ok (.aload_n 0, 1) := by decide +kernel
theorem dX10_error_76 : decode cX10_error 76 = .ok (.getfield 35, 3) := by decide +kernel
theorem dX10_error_79 : decode cX10_error 79 = .ok (.aload_n 0, 1) := by decide +kernel
theorem dX10_error_80 : decode cX10_error 80 = .ok (.getfield 216, 3) := by decide +kernel
theorem dX10_error_83 : decode cX10_error 83 = .ok (.aload_n 0, 1) := by decide +kernel
theorem dX10_error_84 : decode cX10_error 84 = .ok (.getfield 202, 3) := by decide +kernel
theorem dX10_error_87 : decode cX10_error 87 = .ok (.iastore, 1) := by decide +kernel
theorem dX10_error_88 : decode cX10_error 88 = .ok (.aload_n 0, 1) := by decide +kernel
theorem dX10_error_89 : decode cX10_error 89 = .ok (.dup, 1) := by decide +kernel
theorem dX10_error_90 : decode cX10_error 90 = .ok (.getfield 216, 3) := by decide +kernel
theorem dX10_error_93 : decode cX10_error 93 = .ok (.iconst 1, 1) := by decide +kernel
theorem dX10_error_94 : decode cX10_error 94 = .ok (.iadd, 1) := by decide +kernel
theorem dX10_error_95 : decode cX10_error 95 = .ok (.putfield 216, 3) := by decide +kernel
theorem dX10_error_98 : decode cX10_error 98 = .ok (.iconst 1, 1) := by decide +kernel
theorem dX10_error_99 : decode cX10_error 99 = .ok (.ireturn, 1) := by decide +kernel
theorem dX10_errorOn_0 : decode cX10_errorOn 0 = .ok (.iconst (-1), 1) := by decide +kernel
theorem dX10_errorOn_1 : decode cX10_errorOn 1 = .ok (.istore 4, 2) := by decide +kernel
theorem dX10_errorOn_3 : decode cX10_errorOn 3 = .ok (.iconst 0, 1) := by decide +kernel
theorem dX10_errorOn_4 : decode cX10_errorOn 4 = .ok (.istore 5, 2) := by decide +kernel
theorem dX10_errorOn_6 : decode cX10_errorOn 6 = .ok (.iconst 0, 1) := by decide +kernel
theorem dX10_errorOn_7 : decode cX10_errorOn 7 = .ok (.istore 6, 2) := by decide +kernel
theorem dX10_errorOn_9 : decode cX10_errorOn 9 = .ok (.iload 6, 2) := by decide +kernel
theorem dX10_errorOn_11 : decode cX10_errorOn 11 = .ok (.aload_n 0, 1) := by decide +kernel
theorem dX10_errorOn_12 : decode cX10_errorOn 12 = .ok (.getfield 216, 3) := by decide +kernel
theorem dX10_errorOn_15 : decode cX10_errorOn 15 = .ok (.if_icmp .ge 75, 3) := by decide +kernel
theorem dX10_errorOn_18 : decode cX10_errorOn 18 = .ok (.aload_n 0, 1) := by decide +kernel
theorem dX10_errorOn_19 : decode cX10_errorOn 19 = .ok (.getfield 26, 3) := by decide +kernel
theorem dX10_errorOn_22 : decode cX10_errorOn 22 = .ok (.iload 6, 2) := by decide +kernel
theorem dX10_errorOn_24 : decode cX10_errorOn 24 = .ok (.iaload, 1) := by decide +kernel
theorem dX10_errorOn_25 : decode cX10_errorOn 25 = .ok (.iload_n 1, 1) := by decide +kernel
theorem dX10_errorOn_26 : decode cX10_errorOn 26 = .ok (.if_icmp .ne 58, 3) := by decide +kernel
theorem dX10_errorOn_29 : decode cX10_errorOn 29 = .ok (.aload_n 0, 1) := by decide +kernel
theorem dX10_errorOn_30 : decode cX10_errorOn 30 = .ok (.getfield 35, 3) := by decide +kernel
theorem dX10_errorOn_33 : decode cX10_errorOn 33 = .ok (.iload 6, 2) := by decide +kernel
theorem dX10_errorOn_35 : decode cX10_errorOn 35 = .ok (.iaload, 1) := by decide +kernel
theorem dX10_errorOn_36 : decode cX10_errorOn 36 = .ok (.iload_n 3, 1) := by decide +kernel
theorem dX10_errorOn_37 : decode cX10_errorOn 37 = .ok (.if_icmp .gt 47, 3) := by decide +kernel
theorem dX10_errorOn_40 : decode cX10_errorOn 40 = .ok (.aload_n 0, 1) := by decide +kernel
theorem dX10_errorOn_41 : decode cX10_errorOn 41 = .ok (.getfield 32, 3) := by decide +kernel
theorem dX10_errorOn_44 : decode cX10_errorOn 44 = .ok (.iload 6, 2) := by decide +kernel
theorem dX10_errorOn_46 : decode cX10_errorOn 46 = .ok (.iaload, 1) := by decide +kernel
theorem dX10_errorOn_47 : decode cX10_errorOn 47 = .ok (.iload_n 2, 1) := by decide +kernel
theorem dX10_errorOn_48 : decode cX10_errorOn 48 = .ok (.if_icmp .gt 36, 3) := by decide +kernel
theorem dX10_errorOn_51 : decode cX10_errorOn 51 = .ok (.aload_n 0, 1) := by decide +kernel
theorem dX10_errorOn_52 : decode cX10_errorOn 52 = .ok (.getfield 32, 3) := by decide +kernel
theorem dX10_errorOn_55 : decode cX10_errorOn 55 = .ok (.iload 6, 2) := by decide +kernel
theorem dX10_errorOn_57 : decode cX10_errorOn 57 = .ok (.iaload, 1) := by decide +kernel
theorem dX10_errorOn_58 : decode cX10_errorOn 58 = .ok (.iload 4, 2) := by decide +kernel
theorem dX10_errorOn_60 : decode cX10_errorOn 60 = .ok (.if_icmp .ge 6, 3) := by decide +kernel
theorem dX10_errorOn_63 : decode cX10_errorOn 63 = .ok (.goto 21, 3) := by decide +kernel
theorem dX10_errorOn_66 : decode cX10_errorOn 66 = .ok (.aload_n 0, 1) := by decide +kernel
theorem dX10_errorOn_67 : decode cX10_errorOn 67 = .ok (.getfield 32, 3) := by decide +kernel
theorem dX10_errorOn_70 : decode cX10_errorOn 70 = .ok (.iload 6, 2) := by decide +kernel
theorem dX10_errorOn_72 : decode cX10_errorOn 72 = .ok (.iaload, 1) := by decide +kernel
theorem dX10_errorOn_73 : decode cX10_errorOn 73 = .ok (.istore 4, 2) := by decide +kernel
theorem dX10_errorOn_75 : decode cX10_errorOn 75 = .ok (.aload_n 0, 1) := by decide +kernel
theorem dX10_errorOn_76 : decode cX10_errorOn 76 = .ok (.getfield 29, 3) := by decide +kernel
theorem dX10_errorOn_79 : decode cX10_errorOn 79 = .ok (.iload 6, 2) := by decide +kernel
theorem dX10_errorOn_81 : decode cX10_errorOn 81 = .ok (.iaload, 1) := by decide +kernel
theorem dX10_errorOn_82 : decode cX10_errorOn 82 = .ok (.istore 5, 2) := by decide +kernel
theorem dX10_errorOn_84 : decode cX10_errorOn 84 = .ok (.iinc 6 1, 3) := by decide +kernel
theorem dX10_errorOn_87 : decode cX10_errorOn 87 = .ok (.goto (-78), 3) := by decide +kernel
theorem dX10_errorOn_90 : decode cX10_errorOn 90 = .ok (.iload 5, 2) := by decide +kernel
theorem dX10_errorOn_92 : decode cX10_errorOn 92 = .ok (.ireturn, 1) := by decide +kernel
set_option maxRecDepth 20000 in
theorem ggX10_log_X10_isIn : GoodIn wsX10_log wsX10_isIn := goodIn_r _ [12] (by decide +kernel) (by decide +kernel)
set_option maxRecDepth 20000 in
theorem gX10_log_X10_isIn : GoodIn wsX10_log (va_wsS RX10 191 yX10_isIn wsX10_isIn) := goodIn_app (goodIn_of _ (by decide +kernel)) ggX10_log_X10_isIn
theorem dX10_log_0 : decode cX10_log 0 = .ok (.aload_n 0, 1) := by decide +kernel
theorem dX10_log_1 : decode cX10_log 1 = .ok (.iconst 0, 1) := by decide +kernel
theorem dX10_log_2 : decode cX10_log 2 = .ok (.putfield 106, 3) := by decide +kernel
theorem dX10_log_5 : decode cX10_log 5 = .ok (.aload_n 0, 1) := by decide +kernel
theorem dX10_log_6 : decode cX10_log 6 = .ok (.getfield 219, 3) := by decide +kernel
theorem dX10_log_9 : decode cX10_log 9 = .ok (.bipush 100, 2) := by decide +kernel
theorem dX10_log_11 : decode cX10_log 11 = .ok (.if_icmp .eq 42, 3) := by decide +kernel
theorem dX10_log_14 : decode cX10_log 14 = .ok (.iload_n 1, 1) := by decide +kernel
theorem dX10_log_15 : decode cX10_log 15 = .ok (.iconst 0, 1) := by decide +kernel
theorem dX10_log_16 : decode cX10_log 16 = .ok (.iconst 5, 1) := by decide +kernel
theorem dX10_log_17 : decode cX10_log 17 = .ok (.invokestatic 191, 3) := by decide +kernel
theorem dX10_log_20 : decode cX10_log 20 = .ok (.ifCond .eq 33, 3) := by decide +kernel
theorem dX10_log_23 : decode cX10_log 23 = .ok (.iload_n 2, 1) := by decide +kernel
theorem dX10_log_24 : decode cX10_log 24 = .ok (.iconst 0, 1) := by decide +kernel
theorem dX10_log_25 : decode cX10_log 25 = .ok (.iconst 5, 1) := by decide +kernel
theorem dX10_log_26 : decode cX10_log 26 = .ok (.invokestatic 191, 3) := by decide +kernel
theorem dX10_log_29 : decode cX10_log 29 = .ok (.ifCond .eq 24, 3) := by decide +kernel
theorem dX10_log_32 : decode cX10_log 32 = .ok (.iload_n 3, 1) := by decide +kernel
theorem dX10_log_33 : decode cX10_log 33 = .ok (.iconst 1, 1) := by decide +kernel
theorem dX10_log_34 : decode cX10_log 34 = .ok (.bipush 99, 2) := by decide +kernel
theorem dX10_log_36 : decode cX10_log 36 = .ok (.invokestatic 191, 3) := by decide +kernel
theorem dX10_log_39 : decode cX10_log 39 = .ok (.ifCond .eq 14, 3) := by decide +kernel
theorem dX10_log_42 : decode cX10_log 42 = .ok (.iload 4, 2) := by decide +kernel
theorem dX10_log_44 : decode cX10_log 44 = .ok (.iconst 1, 1) := by decide +kernel
theorem dX10_log_45 : decode cX10_log 45 = .ok (.bipush 60, 2) := by decide +kernel
theorem dX10_log_47 : decode cX10_log 47 = .ok (.invokestatic 191, 3) := by decide +kernel
theorem dX10_log_50 : decode cX10_log 50 = .ok (.ifCond .ne 5, 3) := by decide +kernel
theorem dX10_log_53 : decode cX10_log 53 = .ok (.iconst (-1), 1) := by decide +kernel
theorem dX10_log_54 : decode cX10_log 54 = .ok (.ireturn, 1) := by decide +kernel
theorem dX10_log_55 : decode cX10_log 55 = .ok (.aload_n 0, 1) := by decide +kernel
theorem dX10_log_56 : decode cX10_log 56 = .ok (.getfield 38, 3) := by decide +kernel
theorem dX10_log_59 : decode cX10_log 59 = .ok (.aload_n 0, 1) := by decide +kernel
theorem dX10_log_60 : decode cX10_log 60 = .ok (.getfield 219, 3) := by decide +kernel
theorem dX10_log_63 : decode cX10_log 63 = .ok (.iload_n 1, 1) := by decide +kernel
theorem dX10_log_64 : decode cX10_log 64 = .ok (.iastore, 1) := by decide +kernel
theorem dX10_log_65 : decode cX10_log 65 = .ok (.aload_n 0, 1) := by decide +kernel
theorem dX10_log_66 : decode cX10_log 66 = .ok (.getfield 41, 3) := by decide +kernel
theorem dX10_log_69 : decode cX10_log 69 = .ok (.aload_n 0, 1) := by decide +kernel
theorem dX10_log_70 : decode cX10_log 70 = .ok (.getfield 219, 3) := by decide +kernel
theorem dX10_log_73 : decode cX10_log 73 = .ok (.iload_n 2, 1) := by decide +kernel
theorem dX10_log_74 : decode cX10_log 74 = .ok (.iastore, 1) := by decide +kernel
theorem dX10_log_75 : decode cX10_log 75 = .ok (.aload_n 0, 1) := by decide +kernel
theorem dX10_log_76 : decode cX10_log 76 = .ok (.getfield 44, 3) := by decide +kernel
theorem dX10_log_79 : decode cX10_log 79 = .ok (.aload_n 0, 1) := by decide +kernel
theorem dX10_log_80 : decode cX10_log 80 = .ok (.getfield 219, 3) := by decide +kernel
theorem dX10_log_83 : decode cX10_log 83 = .ok (.iload_n 3, 1) := by decide +kernel
theorem dX10_log_84 : decode cX10_log 84 = .ok (.iastore, 1) := by decide +kernel
theorem dX10_log_85 : decode cX10_log 85 = .ok (.aload_n 0, 1) := by decide +kernel
theorem dX10_log_86 : decode cX10_log 86 = .ok (.getfield 47, 3) := by decide +kernel
theorem dX10_log_89 : decode cX10_log 89 = .ok (.aload_n 0, 1) := by decide +kernel
theorem dX10_log_90 : decode cX10_log 90 = .ok (.getfield 219, 3) := by decide +kernel
theorem dX10_log_93 : decode cX10_log 93 = .ok (.iload 4, 2) := by decide +kernel
theorem dX10_log_95 : decode cX10_log 95 = .ok (.iastore, 1) := by decide +kernel
theorem dX10_log_96 : decode cX10_log 96 = .ok (.aload_n 0, 1) := by decide +kernel
theorem dX10_log_97 : decode cX10_log 97 = .ok (.getfield 50, 3) := by decide +kernel
theorem dX10_log_100 : decode cX10_log 100 = .ok (.aload_n 0, 1) := by decide +kernel
theorem dX10_log_101 : decode cX10_log 101 = .ok (.getfield 219, 3) := by decide +kernel
theorem dX10_log_104 : decode cX10_log 104 = .ok (.aload_n 0, 1) := by decide +kernel
theorem dX10_log_105 : decode cX10_log 105 = .ok (.getfield 202, 3) := by decide +kernel
theorem dX10_log_108 : decode cX10_log 108 = .ok (.iastore, 1) := by decide +kernel
theorem dX10_log_109 : decode cX10_log 109 = .ok (.aload_n 0, 1) := by decide +kernel
theorem dX10_log_110 : decode cX10_log 110 = .ok (.dup, 1) := by decide +kernel
theorem dX10_log_111 : decode cX10_log 111 = .ok (.getfield 219, 3) := by decide +kernel
theorem dX10_log_114 : decode cX10_log 114 = .ok (.iconst 1, 1) := by decide +kernel
theorem dX10_log_115 : decode cX10_log 115 = .ok (.iadd, 1) := by decide +kernel
theorem dX10_log_116 : decode cX10_log 116 = .ok (.putfield 219, 3) := by decide +kernel
theorem dX10_log_119 : decode cX10_log 119 = .ok (.aload_n 0, 1) := by decide +kernel
theorem dX10_log_120 : decode cX10_log 120 = .ok (.getfield 219, 3) := by decide +kernel
theorem dX10_log_123 : decode cX10_log 123 = .ok (.iconst 1, 1) := by decide +kernel
theorem dX10_log_124 : decode cX10_log 124 = .ok (.isub, 1) := by decide +kernel
theorem dX10_log_125 : decode cX10_log 125 = .ok (.ireturn, 1) := by decide +kernel
theorem dX10_isLog_0 : decode cX10_isLog 0 = .ok (.iload_n 1, 1) := by decide +kernel
theorem dX10_isLog_1 : decode cX10_isLog 1 = .ok (.ifCond .lt 15, 3) := by decide +kernel
theorem dX10_isLog_4 : decode cX10_isLog 4 = .ok (.iload_n 1, 1) := by decide +kernel
theorem dX10_isLog_5 : decode cX10_isLog 5 = .ok (.aload_n 0, 1) := by decide +kernel
theorem dX10_isLog_6 : decode cX10_isLog 6 = .ok (.getfield 219, 3) := by decide +kernel
theorem dX10_isLog_9 : decode cX10_isLog 9 = .ok (.if_icmp .ge 7, 3) := by decide +kernel
theorem dX10_isLog_12 : decode cX10_isLog 12 = .ok (.iconst 1, 1) := by decide +kernel
theorem dX10_isLog_13 : decode cX10_isLog 13 = .ok (.goto 4, 3) := by decide +kernel
theorem dX10_isLog_16 : decode cX10_isLog 16 = .ok (.iconst 0, 1) := by decide +kernel
theorem dX10_isLog_17 : decode cX10_isLog 17 = .ok (.ireturn, 1) := by decide +kernel
set_option maxRecDepth 20000 in
theorem ggX10_defects_X10_isLog : GoodIn wsX10_defects wsX10_isLog := goodIn_r _ [8, 9, 13, 14, 15, 16, 17, 18, 19, 20, 21, 22, 23, 24, 25, 26, 27, 28, 29, 30, 31, 32, 33, 34, 35, 36, 37, 38, 39, 40, 41, 42, 43, 44, 45, 46, 47, 48, 49, 50, 51, 52, 53, 54, 55, 56, 57, 58, 59, 60, 61, 62] (by decide +kernel) (by decide +kernel)
set_option maxRecDepth 20000 in
theorem gX10_defects_X10_isLog : GoodIn wsX10_defects (wsV RX10 222 RX10 yX10_isLog wsX10_isLog) := goodIn_app (goodIn_of _ (by decide +kernel)) ggX10_defects_X10_isLog
set_option maxRecDepth 20000 in
theorem ggX10_defects_X10_isIn : GoodIn wsX10_defects wsX10_isIn := goodIn_r _ [12] (by decide +kernel) (by decide +kernel)
set_option maxRecDepth 20000 in
theorem gX10_defects_X10_isIn : GoodIn wsX10_defects (va_wsS RX10 191 yX10_isIn wsX10_isIn) := goodIn_app (goodIn_of _ (by decide +kernel)) ggX10_defects_X10_isIn
theorem dX10_defects_0 : decode cX10_defects 0 = .ok (.aload_n 0, 1) := by decide +kernel
theorem dX10_defects_1 : decode cX10_defects 1 = .ok (.iconst 0, 1) := by decide +kernel
theorem dX10_defects_2 : decode cX10_defects 2 = .ok (.putfield 106, 3) := by decide +kernel
theorem dX10_defects_5 : decode cX10_defects 5 = .ok (.aload_n 0, 1) := by decide +kernel
theorem dX10_defects_6 : decode cX10_defects 6 = .ok (.iload_n 1, 1) := by decide +kernel
theorem dX10_defects_7 : decode cX10_defects 7 = .ok (.invokevirtual 222, 3) := by decide +kernel
theorem dX10_defects_10 : decode cX10_defects 10 = .ok (.ifCond .eq 23, 3) := by decide +kernel
theorem dX10_defects_13 : decode cX10_defects 13 = .ok (.iload_n 2, 1) := by decide +kernel
theorem dX10_defects_14 : decode cX10_defects 14 = .ok (.iconst 0, 1) := by decide +kernel
theorem dX10_defects_15 : decode cX10_defects 15 = .ok (.bipush 99, 2) := by decide +kernel
theorem dX10_defects_17 : decode cX10_defects 17 = .ok (.invokestatic 191, 3) := by decide +kernel
theorem dX10_defects_20 : decode cX10_defects 20 = .ok (.ifCond .eq 13, 3) := by decide +kernel
theorem dX10_defects_23 : decode cX10_defects 23 = .ok (.iload_n 3, 1) := by decide +kernel
theorem dX10_defects_24 : decode cX10_defects 24 = .ok (.iconst 0, 1) := by decide +kernel
theorem dX10_defects_25 : decode cX10_defects 25 = .ok (.bipush 90, 2) := by decide +kernel
theorem dX10_defects_27 : decode cX10_defects 27 = .ok (.invokestatic 191, 3) := by decide +kernel
theorem dX10_defects_30 : decode cX10_defects 30 = .ok (.ifCond .ne 5, 3) := by decide +kernel
theorem dX10_defects_33 : decode cX10_defects 33 = .ok (.iconst 0, 1) := by decide +kernel
theorem dX10_defects_34 : decode cX10_defects 34 = .ok (.ireturn, 1) := by decide +kernel
theorem dX10_defects_35 : decode cX10_defects 35 = .ok (.aload_n 0, 1) := by decide +kernel
theorem dX10_defects_36 : decode cX10_defects 36 = .ok (.getfield 53, 3) := by decide +kernel
theorem dX10_defects_39 : decode cX10_defects 39 = .ok (.iload_n 1, 1) := by decide +kernel
theorem dX10_defects_40 : decode cX10_defects 40 = .ok (.iload_n 2, 1) := by decide +kernel
theorem dX10_defects_41 : decode cX10_defects 41 = .ok (.iastore, 1) := by decide +kernel
theorem dX10_defects_42 : decode cX10_defects 42 = .ok (.aload_n 0, 1) := by decide +kernel
theorem dX10_defects_43 : decode cX10_defects 43 = .ok (.getfield 56, 3) := by decide +kernel
theorem dX10_defects_46 : decode cX10_defects 46 = .ok (.iload_n 1, 1) := by decide +kernel
theorem dX10_defects_47 : decode cX10_defects 47 = .ok (.iload_n 3, 1) := by decide +kernel
theorem dX10_defects_48 : decode cX10_defects 48 = .ok (.iastore, 1) := by decide +kernel
theorem dX10_defects_49 : decode cX10_defects 49 = .ok (.iconst 1, 1) := by decide +kernel
theorem dX10_defects_50 : decode cX10_defects 50 = .ok (.ireturn, 1) := by decide +kernel
set_option maxRecDepth 20000 in
theorem ggX10_scaleOf_X10_inForce : GoodIn wsX10_scaleOf wsX10_inForce := goodIn_r _ [23, 24, 25, 26, 89, 90, 91, 92, 93, 94, 95, 96, 97, 98, 99, 100, 101, 102, 103, 104, 105, 106, 107, 108, 109, 110, 111, 112, 113, 114, 115, 116, 117, 118, 119, 120, 121, 122, 123, 124, 125, 126, 127, 128, 129, 130, 131, 132, 133, 134, 135, 136, 137, 138] (by decide +kernel) (by decide +kernel)
set_option maxRecDepth 20000 in
theorem gX10_scaleOf_X10_inForce : GoodIn wsX10_scaleOf (wsV RX10 212 RX10 yX10_inForce wsX10_inForce) := goodIn_app (goodIn_of _ (by decide +kernel)) ggX10_scaleOf_X10_inForce
set_option maxRecDepth 20000 in
theorem ggX10_scaleOf_X10_errorOn : GoodIn wsX10_scaleOf wsX10_errorOn := goodIn_r _ [30, 31, 32, 33, 34, 35, 89, 90, 91, 92, 93, 94, 95, 96, 97, 98, 99, 100, 101, 102, 103, 104, 105, 106, 107, 108, 109, 110, 111, 112, 113, 114, 115, 116, 117, 118, 119, 120, 121, 122, 123, 124, 125, 126, 127, 128, 129, 130, 131, 132, 133, 134, 135, 136, 137, 138] (by decide +kernel) (by decide +kernel)
set_option maxRecDepth 20000 in
theorem gX10_scaleOf_X10_errorOn : GoodIn wsX10_scaleOf (wsV RX10 225 RX10 yX10_errorOn wsX10_errorOn) := goodIn_app (goodIn_of _ (by decide +kernel)) ggX10_scaleOf_X10_errorOn
set_option maxRecDepth 20000 in
theorem ggX10_scaleOf_X10_lawValue : GoodIn wsX10_scaleOf wsX10_lawValue := goodIn_r _ [39, 40, 41, 42, 43, 44, 22, 45, 46, 47, 48, 49, 50, 51, 52, 53, 54, 55, 56, 57, 58, 59, 60, 61, 62, 63, 64, 65, 66, 67, 68, 69, 11, 12, 7, 13, 14, 15, 16, 70, 71, 72, 73, 74, 75, 76, 77, 78, 79, 80, 81, 82, 83, 84, 85, 86, 87, 88, 89, 90, 91, 92, 93, 94, 95, 96, 97, 98, 99, 100, 101, 102, 103, 104, 105, 106, 107, 108, 109, 110, 111, 112, 113, 114, 115, 116, 117, 118, 119, 120, 121, 122, 123, 124, 125, 126, 127, 128, 129, 130, 131, 132, 133, 134, 135, 136, 137, 138] (by decide +kernel) (by decide +kernel)
set_option maxRecDepth 20000 in
theorem gX10_scaleOf_X10_lawValue : GoodIn wsX10_scaleOf (wsV RX10 205 RX10 yX10_lawValue wsX10_lawValue) := goodIn_app (goodIn_of _ (by decide +kernel)) ggX10_scaleOf_X10_lawValue
theorem dX10_scaleOf_0 : decode cX10_scaleOf 0 = .ok (.aload_n 0, 1) := by decide +kernel
theorem dX10_scaleOf_1 : decode cX10_scaleOf 1 = .ok (.getfield 50, 3) := by decide +kernel
theorem dX10_scaleOf_4 : decode cX10_scaleOf 4 = .ok (.iload_n 1, 1) := by decide +kernel
theorem dX10_scaleOf_5 : decode cX10_scaleOf 5 = .ok (.iaload, 1) := by decide +kernel
theorem dX10_scaleOf_6 : decode cX10_scaleOf 6 = .ok (.iload_n 2, 1) := by decide +kernel
theorem dX10_scaleOf_7 : decode cX10_scaleOf 7 = .ok (.if_icmp .le 7, 3) := by decide +kernel
theorem dX10_scaleOf_10 : decode cX10_scaleOf 10 = .ok (.iconst (-1), 1) := by decide +kernel
theorem dX10_scaleOf_11 : decode cX10_scaleOf 11 = .ok (.goto 14, 3) := by decide +kernel
theorem dX10_scaleOf_14 : decode cX10_scaleOf 14 = .ok (.aload_n 0, 1) := by decide +kernel
theorem dX10_scaleOf_15 : decode cX10_scaleOf 15 = .ok (.aload_n 0, 1) := by decide +kernel
theorem dX10_scaleOf_16 : decode cX10_scaleOf 16 = .ok (.getfield 50, 3) := by decide +kernel
theorem dX10_scaleOf_19 : decode cX10_scaleOf 19 = .ok (.iload_n 1, 1) := by decide +kernel
theorem dX10_scaleOf_20 : decode cX10_scaleOf 20 = .ok (.iaload, 1) := by decide +kernel
theorem dX10_scaleOf_21 : decode cX10_scaleOf 21 = .ok (.iload_n 2, 1) := by decide +kernel
theorem dX10_scaleOf_22 : decode cX10_scaleOf 22 = .ok (.invokevirtual 212, 3) := by decide +kernel
theorem dX10_scaleOf_25 : decode cX10_scaleOf 25 = .ok (.istore_n 3, 1) := by decide +kernel
theorem dX10_scaleOf_26 : decode cX10_scaleOf 26 = .ok (.iload_n 3, 1) := by decide +kernel
theorem dX10_scaleOf_27 : decode cX10_scaleOf 27 = .ok (.iconst (-1), 1) := by decide +kernel
theorem dX10_scaleOf_28 : decode cX10_scaleOf 28 = .ok (.if_icmp .ne 5, 3) := by decide +kernel
theorem dX10_scaleOf_31 : decode cX10_scaleOf 31 = .ok (.iconst (-1), 1) := by decide +kernel
theorem dX10_scaleOf_32 : decode cX10_scaleOf 32 = .ok (.ireturn, 1) := by decide +kernel
theorem dX10_scaleOf_33 : decode cX10_scaleOf 33 = .ok (.iconst 0, 1) := by decide +kernel
theorem dX10_scaleOf_34 : decode cX10_scaleOf 34 = .ok (.aload_n 0, 1) := by decide +kernel
theorem dX10_scaleOf_35 : decode cX10_scaleOf 35 = .ok (.getfield 44, 3) := by decide +kernel
theorem dX10_scaleOf_38 : decode cX10_scaleOf 38 = .ok (.iload_n 1, 1) := by decide +kernel
theorem dX10_scaleOf_39 : decode cX10_scaleOf 39 = .ok (.iaload, 1) := by decide +kernel
theorem dX10_scaleOf_40 : decode cX10_scaleOf 40 = .ok (.sipush 1000, 3) := by decide +kernel
theorem dX10_scaleOf_43 : decode cX10_scaleOf 43 = .ok (.imul, 1) := by decide +kernel
theorem dX10_scaleOf_44 : decode cX10_scaleOf 44 = .ok (.sipush 1000, 3) := by decide +kernel
theorem dX10_scaleOf_47 : decode cX10_scaleOf 47 = .ok (.aload_n 0, 1) := by decide +kernel
theorem dX10_scaleOf_48 : decode cX10_scaleOf 48 = .ok (.aload_n 0, 1) := by decide +kernel
theorem dX10_scaleOf_49 : decode cX10_scaleOf 49 = .ok (.getfield 41, 3) := by decide +kernel
theorem dX10_scaleOf_52 : decode cX10_scaleOf 52 = .ok (.iload_n 1, 1) := by decide +kernel
theorem dX10_scaleOf_53 : decode cX10_scaleOf 53 = .ok (.iaload, 1) := by decide +kernel
theorem dX10_scaleOf_54 : decode cX10_scaleOf 54 = .ok (.aload_n 0, 1) := by decide +kernel
theorem dX10_scaleOf_55 : decode cX10_scaleOf 55 = .ok (.getfield 50, 3) := by decide +kernel
theorem dX10_scaleOf_58 : decode cX10_scaleOf 58 = .ok (.iload_n 1, 1) := by decide +kernel
theorem dX10_scaleOf_59 : decode cX10_scaleOf 59 = .ok (.iaload, 1) := by decide +kernel
theorem dX10_scaleOf_60 : decode cX10_scaleOf 60 = .ok (.iload_n 2, 1) := by decide +kernel
theorem dX10_scaleOf_61 : decode cX10_scaleOf 61 = .ok (.invokevirtual 225, 3) := by decide +kernel
theorem dX10_scaleOf_64 : decode cX10_scaleOf 64 = .ok (.iadd, 1) := by decide +kernel
theorem dX10_scaleOf_65 : decode cX10_scaleOf 65 = .ok (.idiv, 1) := by decide +kernel
theorem dX10_scaleOf_66 : decode cX10_scaleOf 66 = .ok (.aload_n 0, 1) := by decide +kernel
theorem dX10_scaleOf_67 : decode cX10_scaleOf 67 = .ok (.getfield 53, 3) := by decide +kernel
theorem dX10_scaleOf_70 : decode cX10_scaleOf 70 = .ok (.iload_n 1, 1) := by decide +kernel
theorem dX10_scaleOf_71 : decode cX10_scaleOf 71 = .ok (.iaload, 1) := by decide +kernel
theorem dX10_scaleOf_72 : decode cX10_scaleOf 72 = .ok (.isub, 1) := by decide +kernel
theorem dX10_scaleOf_73 : decode cX10_scaleOf 73 = .ok (.invokestatic 229, 3) := by decide +kernel
theorem dX10_scaleOf_76 : decode cX10_scaleOf 76 = .ok (.istore 4, 2) := by decide +kernel
theorem dX10_scaleOf_78 : decode cX10_scaleOf 78 = .ok (.lconst 0, 1) := by decide +kernel
theorem dX10_scaleOf_79 : decode cX10_scaleOf 79 = .ok (.ldc2_w 231, 3) := by decide +kernel
theorem dX10_scaleOf_82 : decode cX10_scaleOf 82 = .ok (.aload_n 0, 1) := by decide +kernel
theorem dX10_scaleOf_83 : decode cX10_scaleOf 83 = .ok (.iload_n 3, 1) := by decide +kernel
theorem dX10_scaleOf_84 : decode cX10_scaleOf 84 = .ok (.iload 4, 2) := by decide +kernel
theorem dX10_scaleOf_86 : decode cX10_scaleOf 86 = .ok (.aload_n 0, 1) := by decide +kernel
theorem dX10_scaleOf_87 : decode cX10_scaleOf 87 = .ok (.getfield 47, 3) := by decide +kernel
theorem dX10_scaleOf_90 : decode cX10_scaleOf 90 = .ok (.iload_n 1, 1) := by decide +kernel
theorem dX10_scaleOf_91 : decode cX10_scaleOf 91 = .ok (.iaload, 1) := by decide +kernel
theorem dX10_scaleOf_92 : decode cX10_scaleOf 92 = .ok (.invokevirtual 205, 3) := by decide +kernel
theorem dX10_scaleOf_95 : decode cX10_scaleOf 95 = .ok (.invokestatic 136, 3) := by decide +kernel
theorem dX10_scaleOf_98 : decode cX10_scaleOf 98 = .ok (.invokestatic 142, 3) := by decide +kernel
theorem dX10_scaleOf_101 : decode cX10_scaleOf 101 = .ok (.lstore 5, 2) := by decide +kernel
theorem dX10_scaleOf_103 : decode cX10_scaleOf 103 = .ok (.lload 5, 2) := by decide +kernel
theorem dX10_scaleOf_105 : decode cX10_scaleOf 105 = .ok (.bipush 100, 2) := by decide +kernel
theorem dX10_scaleOf_107 : decode cX10_scaleOf 107 = .ok (.aload_n 0, 1) := by decide +kernel
theorem dX10_scaleOf_108 : decode cX10_scaleOf 108 = .ok (.getfield 56, 3) := by decide +kernel
theorem dX10_scaleOf_111 : decode cX10_scaleOf 111 = .ok (.iload_n 1, 1) := by decide +kernel
theorem dX10_scaleOf_112 : decode cX10_scaleOf 112 = .ok (.iaload, 1) := by decide +kernel
theorem dX10_scaleOf_113 : decode cX10_scaleOf 113 = .ok (.isub, 1) := by decide +kernel
theorem dX10_scaleOf_114 : decode cX10_scaleOf 114 = .ok (.i2l, 1) := by decide +kernel
theorem dX10_scaleOf_115 : decode cX10_scaleOf 115 = .ok (.lmul, 1) := by decide +kernel
theorem dX10_scaleOf_116 : decode cX10_scaleOf 116 = .ok (.ldc2_w 233, 3) := by decide +kernel
theorem dX10_scaleOf_119 : decode cX10_scaleOf 119 = .ok (.ldiv, 1) := by decide +kernel
theorem dX10_scaleOf_120 : decode cX10_scaleOf 120 = .ok (.l2i, 1) := by decide +kernel
theorem dX10_scaleOf_121 : decode cX10_scaleOf 121 = .ok (.ireturn, 1) := by decide +kernel
set_option maxRecDepth 20000 in
theorem ggX10_scale_X10_isLog : GoodIn wsX10_scale wsX10_isLog := goodIn_r _ [6, 7, 107, 108, 109, 110, 111, 112, 113, 114, 115, 116, 117, 118, 119, 120, 121, 122, 123, 124, 125, 126, 127, 128, 129, 130, 131, 132, 133, 134, 135, 136, 137, 138, 139, 140, 141, 142, 143, 144, 145, 146, 147, 148, 149, 150, 151, 152, 153, 154, 155, 156] (by decide +kernel) (by decide +kernel)
set_option maxRecDepth 20000 in
theorem gX10_scale_X10_isLog : GoodIn wsX10_scale (wsV RX10 222 RX10 yX10_isLog wsX10_isLog) := goodIn_app (goodIn_of _ (by decide +kernel)) ggX10_scale_X10_isLog
set_option maxRecDepth 20000 in
theorem ggX10_scale_X10_isKnown : GoodIn wsX10_scale wsX10_isKnown := goodIn_r _ [11, 12, 13, 14, 5, 15, 107, 108, 109, 110, 111, 112, 113, 114, 115, 116, 117, 118, 119, 120, 121, 122, 123, 124, 125, 126, 127, 128, 129, 130, 131, 132, 133, 134, 135, 136, 137, 138, 139, 140, 141, 142, 143, 144, 145, 146, 147, 148, 149, 150, 151, 152, 153, 154, 155, 156] (by decide +kernel) (by decide +kernel)
set_option maxRecDepth 20000 in
theorem gX10_scale_X10_isKnown : GoodIn wsX10_scale (wsV RX10 209 RX10 yX10_isKnown wsX10_isKnown) := goodIn_app (goodIn_of _ (by decide +kernel)) ggX10_scale_X10_isKnown
set_option maxRecDepth 20000 in
theorem ggX10_scale_X10_scaleOf : GoodIn wsX10_scale wsX10_scaleOf := goodIn_r _ [19, 20, 21, 22, 23, 24, 25, 26, 27, 28, 29, 30, 31, 32, 33, 34, 35, 36, 37, 38, 39, 40, 5, 41, 42, 43, 44, 45, 46, 47, 48, 49, 50, 51, 52, 53, 54, 55, 56, 57, 58, 59, 60, 61, 62, 63, 64, 65, 66, 67, 68, 69, 70, 71, 72, 73, 74, 75, 76, 77, 78, 79, 80, 81, 82, 83, 84, 85, 86, 87, 88, 89, 90, 91, 92, 93, 94, 95, 96, 97, 98, 99, 100, 101, 102, 103, 104, 105, 106, 107, 108, 109, 110, 111, 112, 113, 114, 115, 116, 117, 118, 119, 120, 121, 122, 123, 124, 125, 126, 127, 128, 129, 130, 131, 132, 133, 134, 135, 136, 137, 138, 139, 140, 141, 142, 143, 144, 145, 146, 147, 148, 149, 150, 151, 152, 153, 154, 155, 156] (by decide +kernel) (by decide +kernel)
set_option maxRecDepth 20000 in
theorem gX10_scale_X10_scaleOf : GoodIn wsX10_scale (wsV RX10 235 RX10 yX10_scaleOf wsX10_scaleOf) := goodIn_app (goodIn_of _ (by decide +kernel)) ggX10_scale_X10_scaleOf
theorem dX10_scale_0 : decode cX10_scale 0 = .ok (.aload_n 0, 1) := by decide +kernel
theorem dX10_scale_1 : decode cX10_scale 1 = .ok (.iconst 0, 1) := by decide +kernel
theorem dX10_scale_2 : decode cX10_scale 2 = .ok (.putfield 106, 3) := by decide +kernel
theorem dX10_scale_5 : decode cX10_scale 5 = .ok (.aload_n 0, 1) := by decide +kernel
theorem dX10_scale_6 : decode cX10_scale 6 = .ok (.iload_n 1, 1) := by decide +kernel
theorem dX10_scale_7 : decode cX10_scale 7 = .ok (.invokevirtual 222, 3) := by decide +kernel
theorem dX10_scale_10 : decode cX10_scale 10 = .ok (.ifCond .eq 20, 3) := by decide +kernel
theorem dX10_scale_13 : decode cX10_scale 13 = .ok (.aload_n 0, 1) := by decide +kernel
theorem dX10_scale_14 : decode cX10_scale 14 = .ok (.iload_n 2, 1) := by decide +kernel
theorem dX10_scale_15 : decode cX10_scale 15 = .ok (.invokevirtual 209, 3) := by decide +kernel
theorem dX10_scale_18 : decode cX10_scale 18 = .ok (.ifCond .eq 12, 3) := by decide +kernel
theorem dX10_scale_21 : decode cX10_scale 21 = .ok (.aload_n 0, 1) := by decide +kernel
theorem dX10_scale_22 : decode cX10_scale 22 = .ok (.iload_n 1, 1) := by decide +kernel
theorem dX10_scale_23 : decode cX10_scale 23 = .ok (.iload_n 2, 1) := by decide +kernel
theorem dX10_scale_24 : decode cX10_scale 24 = .ok (.invokevirtual 235, 3) := by decide +kernel
theorem dX10_scale_27 : decode cX10_scale 27 = .ok (.goto 4, 3) := by decide +kernel
theorem dX10_scale_30 : decode cX10_scale 30 = .ok (.iconst (-1), 1) := by decide +kernel
theorem dX10_scale_31 : decode cX10_scale 31 = .ok (.ireturn, 1) := by decide +kernel
set_option maxRecDepth 20000 in
theorem ggX10_sum_X10_isIn : GoodIn wsX10_sum wsX10_isIn := goodIn_r _ [11] (by decide +kernel) (by decide +kernel)
set_option maxRecDepth 20000 in
theorem gX10_sum_X10_isIn : GoodIn wsX10_sum (va_wsS RX10 191 yX10_isIn wsX10_isIn) := goodIn_app (goodIn_of _ (by decide +kernel)) ggX10_sum_X10_isIn
set_option maxRecDepth 20000 in
theorem ggX10_sum_X10_isKnown : GoodIn wsX10_sum wsX10_isKnown := goodIn_r _ [15, 16, 8, 9, 10, 11, 104, 105, 106, 107, 108, 109, 110, 111, 112, 113, 114, 115, 116, 117, 118, 119, 120, 121, 122, 123, 124, 125, 126, 127, 128, 129, 130, 131, 132, 133, 134, 135, 136, 137, 138, 139, 140, 141, 142, 143, 144, 145, 146, 147, 148, 149, 150, 151, 152, 153] (by decide +kernel) (by decide +kernel)
set_option maxRecDepth 20000 in
theorem gX10_sum_X10_isKnown : GoodIn wsX10_sum (wsV RX10 209 RX10 yX10_isKnown wsX10_isKnown) := goodIn_app (goodIn_of _ (by decide +kernel)) ggX10_sum_X10_isKnown
set_option maxRecDepth 20000 in
theorem ggX10_sum_X10_scaleOf : GoodIn wsX10_sum wsX10_scaleOf := goodIn_r _ [20, 21, 22, 23, 24, 4, 5, 6, 7, 25, 26, 27, 28, 29, 30, 31, 32, 33, 34, 35, 36, 37, 10, 38, 39, 40, 41, 42, 43, 44, 45, 46, 47, 48, 49, 50, 51, 52, 53, 54, 55, 56, 57, 58, 59, 60, 61, 62, 63, 64, 65, 66, 67, 68, 69, 70, 71, 72, 73, 74, 75, 76, 77, 78, 79, 80, 81, 82, 83, 84, 85, 86, 87, 88, 89, 90, 91, 92, 93, 94, 95, 96, 97, 98, 99, 100, 101, 102, 103, 104, 105, 106, 107, 108, 109, 110, 111, 112, 113, 114, 115, 116, 117, 118, 119, 120, 121, 122, 123, 124, 125, 126, 127, 128, 129, 130, 131, 132, 133, 134, 135, 136, 137, 138, 139, 140, 141, 142, 143, 144, 145, 146, 147, 148, 149, 150, 151, 152, 153] (by decide +kernel) (by decide +kernel)
set_option maxRecDepth 20000 in
theorem gX10_sum_X10_scaleOf : GoodIn wsX10_sum (wsV RX10 235 RX10 yX10_scaleOf wsX10_scaleOf) := goodIn_app (goodIn_of _ (by decide +kernel)) ggX10_sum_X10_scaleOf
theorem dX10_sum_0 : decode cX10_sum 0 = .ok (.aload_n 0, 1) := by decide +kernel
theorem dX10_sum_1 : decode cX10_sum 1 = .ok (.iconst 0, 1) := by decide +kernel
theorem dX10_sum_2 : decode cX10_sum 2 = .ok (.putfield 106, 3) := by decide +kernel
theorem dX10_sum_5 : decode cX10_sum 5 = .ok (.iload_n 1, 1) := by decide +kernel
theorem dX10_sum_6 : decode cX10_sum 6 = .ok (.iconst 0, 1) := by decide +kernel
theorem dX10_sum_7 : decode cX10_sum 7 = .ok (.iconst 5, 1) := by decide +kernel
theorem dX10_sum_8 : decode cX10_sum 8 = .ok (.invokestatic 191, 3) := by decide +kernel
theorem dX10_sum_11 : decode cX10_sum 11 = .ok (.ifCond .eq 11, 3) := by decide +kernel
theorem dX10_sum_14 : decode cX10_sum 14 = .ok (.aload_n 0, 1) := by decide +kernel
theorem dX10_sum_15 : decode cX10_sum 15 = .ok (.iload_n 2, 1) := by decide +kernel
theorem dX10_sum_16 : decode cX10_sum 16 = .ok (.invokevirtual 209, 3) := by decide +kernel
theorem dX10_sum_19 : decode cX10_sum 19 = .ok (.ifCond .ne 5, 3) := by decide +kernel
theorem dX10_sum_22 : decode cX10_sum 22 = .ok (.iconst (-1), 1) := by decide +kernel
theorem dX10_sum_23 : decode cX10_sum 23 = .ok (.ireturn, 1) := by decide +kernel
theorem dX10_sum_24 : decode cX10_sum 24 = .ok (.iconst 0, 1) := by decide +kernel
theorem dX10_sum_25 : decode cX10_sum 25 = .ok (.istore_n 3, 1) := by decide +kernel
theorem dX10_sum_26 : decode cX10_sum 26 = .ok (.iconst 0, 1) := by decide +kernel
theorem dX10_sum_27 : decode cX10_sum 27 = .ok (.istore 4, 2) := by decide +kernel
theorem dX10_sum_29 : decode cX10_sum 29 = .ok (.iload 4, 2) := by decide +kernel
theorem dX10_sum_31 : decode cX10_sum 31 = .ok (.aload_n 0, 1) := by decide +kernel
theorem dX10_sum_32 : decode cX10_sum 32 = .ok (.getfield 219, 3) := by decide +kernel
theorem dX10_sum_35 : decode cX10_sum 35 = .ok (.if_icmp .ge 38, 3) := by decide +kernel
theorem dX10_sum_38 : decode cX10_sum 38 = .ok (.iload_n 3, 1) := by decide +kernel
theorem dX10_sum_39 : decode cX10_sum 39 = .ok (.aload_n 0, 1) := by decide +kernel
theorem dX10_sum_40 : decode cX10_sum 40 = .ok (.getfield 38, 3) := by decide +kernel
theorem dX10_sum_43 : decode cX10_sum 43 = .ok (.iload 4, 2) := by decide +kernel
theorem dX10_sum_45 : decode cX10_sum 45 = .ok (.iaload, 1) := by decide +kernel
theorem dX10_sum_46 : decode cX10_sum 46 = .ok (.iload_n 1, 1) := by decide +kernel
theorem dX10_sum_47 : decode cX10_sum 47 = .ok (.if_icmp .ne 17, 3) := by decide +kernel
theorem dX10_sum_50 : decode cX10_sum 50 = .ok (.iconst 0, 1) := by decide +kernel
theorem dX10_sum_51 : decode cX10_sum 51 = .ok (.aload_n 0, 1) := by decide +kernel
theorem dX10_sum_52 : decode cX10_sum 52 = .ok (.iload 4, 2) := by decide +kernel
theorem dX10_sum_54 : decode cX10_sum 54 = .ok (.iload_n 2, 1) := by decide +kernel
theorem dX10_sum_55 : decode cX10_sum 55 = .ok (.invokevirtual 235, 3) := by decide +kernel
theorem dX10_sum_58 : decode cX10_sum 58 = .ok (.invokestatic 229, 3) := by decide +kernel
theorem dX10_sum_61 : decode cX10_sum 61 = .ok (.goto 4, 3) := by decide +kernel
theorem dX10_sum_64 : decode cX10_sum 64 = .ok (.iconst 0, 1) := by decide +kernel
theorem dX10_sum_65 : decode cX10_sum 65 = .ok (.iadd, 1) := by decide +kernel
theorem dX10_sum_66 : decode cX10_sum 66 = .ok (.istore_n 3, 1) := by decide +kernel
theorem dX10_sum_67 : decode cX10_sum 67 = .ok (.iinc 4 1, 3) := by decide +kernel
theorem dX10_sum_70 : decode cX10_sum 70 = .ok (.goto (-41), 3) := by decide +kernel
theorem dX10_sum_73 : decode cX10_sum 73 = .ok (.iload_n 3, 1) := by decide +kernel
theorem dX10_sum_74 : decode cX10_sum 74 = .ok (.ireturn, 1) := by decide +kernel
set_option maxRecDepth 20000 in
theorem ggX10_price_X10_isIn : GoodIn wsX10_price wsX10_isIn := goodIn_r _ [6] (by decide +kernel) (by decide +kernel)
set_option maxRecDepth 20000 in
theorem gX10_price_X10_isIn : GoodIn wsX10_price (va_wsS RX10 191 yX10_isIn wsX10_isIn) := goodIn_app (goodIn_of _ (by decide +kernel)) ggX10_price_X10_isIn
theorem dX10_price_0 : decode cX10_price 0 = .ok (.aload_n 0, 1) := by decide +kernel
theorem dX10_price_1 : decode cX10_price 1 = .ok (.iconst 0, 1) := by decide +kernel
theorem dX10_price_2 : decode cX10_price 2 = .ok (.putfield 106, 3) := by decide +kernel
theorem dX10_price_5 : decode cX10_price 5 = .ok (.iload_n 1, 1) := by decide +kernel
theorem dX10_price_6 : decode cX10_price 6 = .ok (.iconst 0, 1) := by decide +kernel
theorem dX10_price_7 : decode cX10_price 7 = .ok (.iconst 5, 1) := by decide +kernel
theorem dX10_price_8 : decode cX10_price 8 = .ok (.invokestatic 191, 3) := by decide +kernel
theorem dX10_price_11 : decode cX10_price 11 = .ok (.ifCond .eq 13, 3) := by decide +kernel
theorem dX10_price_14 : decode cX10_price 14 = .ok (.iload_n 2, 1) := by decide +kernel
theorem dX10_price_15 : decode cX10_price 15 = .ok (.iconst 0, 1) := by decide +kernel
theorem dX10_price_16 : decode cX10_price 16 = .ok (.bipush 20, 2) := by decide +kernel
theorem dX10_price_18 : decode cX10_price 18 = .ok (.invokestatic 191, 3) := by decide +kernel
theorem dX10_price_21 : decode cX10_price 21 = .ok (.ifCond .ne 5, 3) := by decide +kernel
theorem dX10_price_24 : decode cX10_price 24 = .ok (.iconst 0, 1) := by decide +kernel
theorem dX10_price_25 : decode cX10_price 25 = .ok (.ireturn, 1) := by decide +kernel
theorem dX10_price_26 : decode cX10_price 26 = .ok (.aload_n 0, 1) := by decide +kernel
theorem dX10_price_27 : decode cX10_price 27 = .ok (.getfield 65, 3) := by decide +kernel
theorem dX10_price_30 : decode cX10_price 30 = .ok (.iload_n 1, 1) := by decide +kernel
theorem dX10_price_31 : decode cX10_price 31 = .ok (.iload_n 2, 1) := by decide +kernel
theorem dX10_price_32 : decode cX10_price 32 = .ok (.iastore, 1) := by decide +kernel
theorem dX10_price_33 : decode cX10_price 33 = .ok (.iconst 1, 1) := by decide +kernel
theorem dX10_price_34 : decode cX10_price 34 = .ok (.ireturn, 1) := by decide +kernel
set_option maxRecDepth 20000 in
theorem ggX10_payOf_X10_scaleOf : GoodIn wsX10_payOf wsX10_scaleOf := goodIn_r _ [12, 13, 14, 15, 16, 2, 3, 4, 5, 17, 18, 19, 20, 21, 22, 23, 24, 25, 26, 27, 28, 29, 11, 30, 31, 32, 33, 34, 35, 36, 37, 38, 39, 40, 41, 42, 43, 44, 45, 46, 47, 48, 49, 50, 51, 52, 53, 54, 55, 56, 57, 58, 59, 60, 61, 62, 63, 64, 65, 66, 67, 68, 69, 70, 71, 72, 73, 74, 75, 76, 77, 78, 79, 80, 81, 82, 83, 84, 85, 86, 87, 88, 89, 90, 91, 92, 93, 94, 95, 96, 97, 98, 99, 100, 101, 102, 103, 104, 105, 106, 107, 108, 109, 110, 111, 112, 113, 114, 115, 116, 117, 118, 119, 120, 121, 122, 123, 124, 125, 126, 127, 128, 129, 130, 131, 132, 133, 134, 135, 136, 137, 138, 139, 140, 141, 142, 143, 144, 145] (by decide +kernel) (by decide +kernel)
set_option maxRecDepth 20000 in
theorem gX10_payOf_X10_scaleOf : GoodIn wsX10_payOf (wsV RX10 235 RX10 yX10_scaleOf wsX10_scaleOf) := goodIn_app (goodIn_of _ (by decide +kernel)) ggX10_payOf_X10_scaleOf
theorem dX10_payOf_0 : decode cX10_payOf 0 = .ok (.iconst 0, 1) := by decide +kernel
theorem dX10_payOf_1 : decode cX10_payOf 1 = .ok (.aload_n 0, 1) := by decide +kernel
theorem dX10_payOf_2 : decode cX10_payOf 2 = .ok (.iload_n 1, 1) := by decide +kernel
theorem dX10_payOf_3 : decode cX10_payOf 3 = .ok (.aload_n 0, 1) := by decide +kernel
theorem dX10_payOf_4 : decode cX10_payOf 4 = .ok (.getfield 202, 3) := by decide +kernel
theorem dX10_payOf_7 : decode cX10_payOf 7 = .ok (.invokevirtual 235, 3) := by decide +kernel
theorem dX10_payOf_10 : decode cX10_payOf 10 = .ok (.invokestatic 229, 3) := by decide +kernel
theorem dX10_payOf_13 : decode cX10_payOf 13 = .ok (.aload_n 0, 1) := by decide +kernel
theorem dX10_payOf_14 : decode cX10_payOf 14 = .ok (.getfield 65, 3) := by decide +kernel
theorem dX10_payOf_17 : decode cX10_payOf 17 = .ok (.aload_n 0, 1) := by decide +kernel
theorem dX10_payOf_18 : decode cX10_payOf 18 = .ok (.getfield 38, 3) := by decide +kernel
theorem dX10_payOf_21 : decode cX10_payOf 21 = .ok (.iload_n 1, 1) := by decide +kernel
theorem dX10_payOf_22 : decode cX10_payOf 22 = .ok (.iaload, 1) := by decide +kernel
theorem dX10_payOf_23 : decode cX10_payOf 23 = .ok (.iaload, 1) := by decide +kernel
theorem dX10_payOf_24 : decode cX10_payOf 24 = .ok (.imul, 1) := by decide +kernel
theorem dX10_payOf_25 : decode cX10_payOf 25 = .ok (.ireturn, 1) := by decide +kernel
set_option maxRecDepth 20000 in
theorem ggX10_day_X10_payOf : GoodIn wsX10_day wsX10_payOf := goodIn_r _ [14, 4, 15, 16, 17, 18, 19, 20, 21, 22, 23, 13, 24, 25, 26, 27, 28, 29, 30, 31, 32, 33, 34, 35, 36, 37, 38, 39, 40, 41, 42, 43, 44, 45, 46, 47, 48, 49, 50, 51, 52, 53, 54, 55, 56, 57, 58, 59, 60, 61, 62, 63, 64, 65, 66, 67, 68, 69, 70, 71, 72, 73, 74, 75, 76, 77, 78, 79, 80, 81, 82, 83, 84, 85, 86, 87, 88, 89, 90, 91, 92, 93, 94, 95, 96, 97, 98, 99, 100, 101, 102, 103, 104, 105, 106, 107, 108, 109, 110, 111, 112, 113, 114, 115, 116, 117, 118, 119, 120, 121, 122, 123, 124, 125, 126, 127, 128, 129, 130, 131, 132, 133, 134, 135, 136, 137, 138, 139, 140, 141, 142, 143, 144, 145, 146, 147, 148, 149, 150, 151, 152, 153, 154, 155, 156, 157] (by decide +kernel) (by decide +kernel)
set_option maxRecDepth 20000 in
theorem gX10_day_X10_payOf : GoodIn wsX10_day (wsV RX10 238 RX10 yX10_payOf wsX10_payOf) := goodIn_app (goodIn_of _ (by decide +kernel)) ggX10_day_X10_payOf
theorem dX10_day_0 : decode cX10_day 0 = .ok (.aload_n 0, 1) := by decide +kernel
theorem dX10_day_1 : decode cX10_day 1 = .ok (.iconst 0, 1) := by decide +kernel
theorem dX10_day_2 : decode cX10_day 2 = .ok (.putfield 106, 3) := by decide +kernel
theorem dX10_day_5 : decode cX10_day 5 = .ok (.iconst 0, 1) := by decide +kernel
theorem dX10_day_6 : decode cX10_day 6 = .ok (.istore_n 1, 1) := by decide +kernel
theorem dX10_day_7 : decode cX10_day 7 = .ok (.iconst 0, 1) := by decide +kernel
theorem dX10_day_8 : decode cX10_day 8 = .ok (.istore_n 2, 1) := by decide +kernel
theorem dX10_day_9 : decode cX10_day 9 = .ok (.iload_n 2, 1) := by decide +kernel
theorem dX10_day_10 : decode cX10_day 10 = .ok (.aload_n 0, 1) := by decide +kernel
theorem dX10_day_11 : decode cX10_day 11 = .ok (.getfield 219, 3) := by decide +kernel
theorem dX10_day_14 : decode cX10_day 14 = .ok (.if_icmp .ge 31, 3) := by decide +kernel
theorem dX10_day_17 : decode cX10_day 17 = .ok (.iload_n 1, 1) := by decide +kernel
theorem dX10_day_18 : decode cX10_day 18 = .ok (.aload_n 0, 1) := by decide +kernel
theorem dX10_day_19 : decode cX10_day 19 = .ok (.iload_n 2, 1) := by decide +kernel
theorem dX10_day_20 : decode cX10_day 20 = .ok (.invokevirtual 238, 3) := by decide +kernel
theorem dX10_day_23 : decode cX10_day 23 = .ok (.aload_n 0, 1) := by decide +kernel
theorem dX10_day_24 : decode cX10_day 24 = .ok (.getfield 59, 3) := by decide +kernel
theorem dX10_day_27 : decode cX10_day 27 = .ok (.iload_n 2, 1) := by decide +kernel
theorem dX10_day_28 : decode cX10_day 28 = .ok (.iaload, 1) := by decide +kernel
theorem dX10_day_29 : decode cX10_day 29 = .ok (.if_icmp .eq 7, 3) := by decide +kernel
theorem dX10_day_32 : decode cX10_day 32 = .ok (.iconst 1, 1) := by decide +kernel
theorem dX10_day_33 : decode cX10_day 33 = .ok (.goto 4, 3) := by decide +kernel
theorem dX10_day_36 : decode cX10_day 36 = .ok (.iconst 0, 1) := by decide +kernel
theorem dX10_day_37 : decode cX10_day 37 = .ok (.iadd, 1) := by decide +kernel
theorem dX10_day_38 : decode cX10_day 38 = .ok (.istore_n 1, 1) := by decide +kernel
theorem dX10_day_39 : decode cX10_day 39 = .ok (.iinc 2 1, 3) := by decide +kernel
theorem dX10_day_42 : decode cX10_day 42 = .ok (.goto (-33), 3) := by decide +kernel
theorem dX10_day_45 : decode cX10_day 45 = .ok (.aload_n 0, 1) := by decide +kernel
theorem dX10_day_46 : decode cX10_day 46 = .ok (.getfield 202, 3) := by decide +kernel
theorem dX10_day_49 : decode cX10_day 49 = .ok (.sipush 500, 3) := by decide +kernel
theorem dX10_day_52 : decode cX10_day 52 = .ok (.if_icmp .eq 15, 3) := by decide +kernel
theorem dX10_day_55 : decode cX10_day 55 = .ok (.aload_n 0, 1) := by decide +kernel
theorem dX10_day_56 : decode cX10_day 56 = .ok (.getfield 241, 3) := by decide +kernel
theorem dX10_day_59 : decode cX10_day 59 = .ok (.iload_n 1, 1) := by decide +kernel
theorem dX10_day_60 : decode cX10_day 60 = .ok (.iadd, 1) := by decide +kernel
theorem dX10_day_61 : decode cX10_day 61 = .ok (.sipush 20000, 3) := by decide +kernel
theorem dX10_day_64 : decode cX10_day 64 = .ok (.if_icmp .le 5, 3) := by decide +kernel
theorem dX10_day_67 : decode cX10_day 67 = .ok (.iconst (-1), 1) := by decide +kernel
theorem dX10_day_68 : decode cX10_day 68 = .ok (.ireturn, 1) := by decide +kernel
theorem dX10_day_69 : decode cX10_day 69 = .ok (.iconst 0, 1) := by decide +kernel
theorem dX10_day_70 : decode cX10_day 70 = .ok (.istore_n 2, 1) := by decide +kernel
theorem dX10_day_71 : decode cX10_day 71 = .ok (.iload_n 2, 1) := by decide +kernel
theorem dX10_day_72 : decode cX10_day 72 = .ok (.aload_n 0, 1) := by decide +kernel
theorem dX10_day_73 : decode cX10_day 73 = .ok (.getfield 219, 3) := by decide +kernel
theorem dX10_day_76 : decode cX10_day 76 = .ok (.if_icmp .ge 102, 3) := by decide +kernel
theorem dX10_day_79 : decode cX10_day 79 = .ok (.aload_n 0, 1) := by decide +kernel
theorem dX10_day_80 : decode cX10_day 80 = .ok (.iload_n 2, 1) := by decide +kernel
theorem dX10_day_81 : decode cX10_day 81 = .ok (.invokevirtual 238, 3) := by decide +kernel
theorem dX10_day_84 : decode cX10_day 84 = .ok (.istore_n 3, 1) := by decide +kernel
theorem dX10_day_85 : decode cX10_day 85 = .ok (.iload_n 3, 1) := by decide +kernel
theorem dX10_day_86 : decode cX10_day 86 = .ok (.aload_n 0, 1) := by decide +kernel
theorem dX10_day_87 : decode cX10_day 87 = .ok (.getfield 59, 3) := by decide +kernel
theorem dX10_day_90 : decode cX10_day 90 = .ok (.iload_n 2, 1) := by decide +kernel
theorem dX10_day_91 : decode cX10_day 91 = .ok (.iaload, 1) := by decide +kernel
theorem dX10_day_92 : decode cX10_day 92 = .ok (.if_icmp .ne 6, 3) := by decide +kernel
theorem dX10_day_95 : decode cX10_day 95 = .ok (.goto 77, 3) := by decide +kernel
theorem dX10_day_98 : decode cX10_day 98 = .ok (.aload_n 0, 1) := by decide +kernel
theorem dX10_day_99 : decode cX10_day 99 = .ok (.getfield 68, 3) := by decide +kernel
theorem dX10_day_102 : decode cX10_day 102 = .ok (.aload_n 0, 1) := by decide +kernel
theorem dX10_day_103 : decode cX10_day 103 = .ok (.getfield 241, 3) := by decide +kernel
theorem dX10_day_106 : decode cX10_day 106 = .ok (.aload_n 0, 1) := by decide +kernel
theorem dX10_day_107 : decode cX10_day 107 = .ok (.getfield 202, 3) := by decide +kernel
theorem dX10_day_110 : decode cX10_day 110 = .ok (.iastore, 1) := by decide +kernel
theorem dX10_day_111 : decode cX10_day 111 = .ok (.aload_n 0, 1) := by decide +kernel
theorem dX10_day_112 : decode cX10_day 112 = .ok (.getfield 71, 3) := by decide +kernel
theorem dX10_day_115 : decode cX10_day 115 = .ok (.aload_n 0, 1) := by decide +kernel
theorem dX10_day_116 : decode cX10_day 116 = .ok (.getfield 241, 3) := by decide +kernel
theorem dX10_day_119 : decode cX10_day 119 = .ok (.iload_n 2, 1) := by decide +kernel
theorem dX10_day_120 : decode cX10_day 120 = .ok (.iastore, 1) := by decide +kernel
theorem dX10_day_121 : decode cX10_day 121 = .ok (.aload_n 0, 1) := by decide +kernel
theorem dX10_day_122 : decode cX10_day 122 = .ok (.getfield 74, 3) := by decide +kernel
theorem dX10_day_125 : decode cX10_day 125 = .ok (.aload_n 0, 1) := by decide +kernel
theorem dX10_day_126 : decode cX10_day 126 = .ok (.getfield 241, 3) := by decide +kernel
theorem dX10_day_129 : decode cX10_day 129 = .ok (.iload_n 3, 1) := by decide +kernel
theorem dX10_day_130 : decode cX10_day 130 = .ok (.aload_n 0, 1) := by decide +kernel
theorem dX10_day_131 : decode cX10_day 131 = .ok (.getfield 59, 3) := by decide +kernel
theorem dX10_day_134 : decode cX10_day 134 = .ok (.iload_n 2, 1) := by decide +kernel
theorem dX10_day_135 : decode cX10_day 135 = .ok (.iaload, 1) := by decide +kernel
theorem dX10_day_136 : decode cX10_day 136 = .ok (.isub, 1) := by decide +kernel
theorem dX10_day_137 : decode cX10_day 137 = .ok (.iastore, 1) := by decide +kernel
theorem dX10_day_138 : decode cX10_day 138 = .ok (.aload_n 0, 1) := by decide +kernel
theorem dX10_day_139 : decode cX10_day 139 = .ok (.dup, 1) := by decide +kernel
theorem dX10_day_140 : decode cX10_day 140 = .ok (.getfield 244, 3) := by decide +kernel
theorem dX10_day_143 : decode cX10_day 143 = .ok (.iload_n 3, 1) := by decide +kernel
theorem dX10_day_144 : decode cX10_day 144 = .ok (.aload_n 0, 1) := by decide +kernel
theorem dX10_day_145 : decode cX10_day 145 = .ok (.getfield 59, 3) := by decide +kernel
theorem dX10_day_148 : decode cX10_day 148 = .ok (.iload_n 2, 1) := by decide +kernel
theorem dX10_day_149 : decode cX10_day 149 = .ok (.iaload, 1) := by decide +kernel
theorem dX10_day_150 : decode cX10_day 150 = .ok (.isub, 1) := by decide +kernel
theorem dX10_day_151 : decode cX10_day 151 = .ok (.iadd, 1) := by decide +kernel
theorem dX10_day_152 : decode cX10_day 152 = .ok (.putfield 244, 3) := by decide +kernel
theorem dX10_day_155 : decode cX10_day 155 = .ok (.aload_n 0, 1) := by decide +kernel
theorem dX10_day_156 : decode cX10_day 156 = .ok (.getfield 59, 3) := by decide +kernel
theorem dX10_day_159 : decode cX10_day 159 = .ok (.iload_n 2, 1) := by decide +kernel
theorem dX10_day_160 : decode cX10_day 160 = .ok (.iload_n 3, 1) := by decide +kernel
theorem dX10_day_161 : decode cX10_day 161 = .ok (.iastore, 1) := by decide +kernel
theorem dX10_day_162 : decode cX10_day 162 = .ok (.aload_n 0, 1) := by decide +kernel
theorem dX10_day_163 : decode cX10_day 163 = .ok (.dup, 1) := by decide +kernel
theorem dX10_day_164 : decode cX10_day 164 = .ok (.getfield 241, 3) := by decide +kernel
theorem dX10_day_167 : decode cX10_day 167 = .ok (.iconst 1, 1) := by decide +kernel
theorem dX10_day_168 : decode cX10_day 168 = .ok (.iadd, 1) := by decide +kernel
theorem dX10_day_169 : decode cX10_day 169 = .ok (.putfield 241, 3) := by decide +kernel
theorem dX10_day_172 : decode cX10_day 172 = .ok (.iinc 2 1, 3) := by decide +kernel
theorem dX10_day_175 : decode cX10_day 175 = .ok (.goto (-104), 3) := by decide +kernel
theorem dX10_day_178 : decode cX10_day 178 = .ok (.aload_n 0, 1) := by decide +kernel
theorem dX10_day_179 : decode cX10_day 179 = .ok (.dup, 1) := by decide +kernel
theorem dX10_day_180 : decode cX10_day 180 = .ok (.getfield 202, 3) := by decide +kernel
theorem dX10_day_183 : decode cX10_day 183 = .ok (.iconst 1, 1) := by decide +kernel
theorem dX10_day_184 : decode cX10_day 184 = .ok (.iadd, 1) := by decide +kernel
theorem dX10_day_185 : decode cX10_day 185 = .ok (.putfield 202, 3) := by decide +kernel
theorem dX10_day_188 : decode cX10_day 188 = .ok (.iload_n 1, 1) := by decide +kernel
theorem dX10_day_189 : decode cX10_day 189 = .ok (.ireturn, 1) := by decide +kernel
set_option maxRecDepth 20000 in
theorem ggX10_line_X10_isIn : GoodIn wsX10_line wsX10_isIn := goodIn_r _ [10] (by decide +kernel) (by decide +kernel)
set_option maxRecDepth 20000 in
theorem gX10_line_X10_isIn : GoodIn wsX10_line (va_wsS RX10 191 yX10_isIn wsX10_isIn) := goodIn_app (goodIn_of _ (by decide +kernel)) ggX10_line_X10_isIn
theorem dX10_line_0 : decode cX10_line 0 = .ok (.aload_n 0, 1) := by decide +kernel
theorem dX10_line_1 : decode cX10_line 1 = .ok (.iconst 0, 1) := by decide +kernel
theorem dX10_line_2 : decode cX10_line 2 = .ok (.putfield 106, 3) := by decide +kernel
theorem dX10_line_5 : decode cX10_line 5 = .ok (.iload_n 1, 1) := by decide +kernel
theorem dX10_line_6 : decode cX10_line 6 = .ok (.iconst 0, 1) := by decide +kernel
theorem dX10_line_7 : decode cX10_line 7 = .ok (.aload_n 0, 1) := by decide +kernel
theorem dX10_line_8 : decode cX10_line 8 = .ok (.getfield 241, 3) := by decide +kernel
theorem dX10_line_11 : decode cX10_line 11 = .ok (.iconst 1, 1) := by decide +kernel
theorem dX10_line_12 : decode cX10_line 12 = .ok (.isub, 1) := by decide +kernel
theorem dX10_line_13 : decode cX10_line 13 = .ok (.invokestatic 191, 3) := by decide +kernel
theorem dX10_line_16 : decode cX10_line 16 = .ok (.ifCond .eq 12, 3) := by decide +kernel
theorem dX10_line_19 : decode cX10_line 19 = .ok (.iload_n 2, 1) := by decide +kernel
theorem dX10_line_20 : decode cX10_line 20 = .ok (.iconst 0, 1) := by decide +kernel
theorem dX10_line_21 : decode cX10_line 21 = .ok (.iconst 2, 1) := by decide +kernel
theorem dX10_line_22 : decode cX10_line 22 = .ok (.invokestatic 191, 3) := by decide +kernel
theorem dX10_line_25 : decode cX10_line 25 = .ok (.ifCond .ne 6, 3) := by decide +kernel
theorem dX10_line_28 : decode cX10_line 28 = .ok (.ldc 247, 2) := by decide +kernel
theorem dX10_line_30 : decode cX10_line 30 = .ok (.ireturn, 1) := by decide +kernel
theorem dX10_line_31 : decode cX10_line 31 = .ok (.iload_n 2, 1) := by decide +kernel
theorem dX10_line_32 : decode cX10_line 32 = .ok (.ifCond .ne 12, 3) := by decide +kernel
theorem dX10_line_35 : decode cX10_line 35 = .ok (.aload_n 0, 1) := by decide +kernel
theorem dX10_line_36 : decode cX10_line 36 = .ok (.getfield 68, 3) := by decide +kernel
theorem dX10_line_39 : decode cX10_line 39 = .ok (.iload_n 1, 1) := by decide +kernel
theorem dX10_line_40 : decode cX10_line 40 = .ok (.iaload, 1) := by decide +kernel
theorem dX10_line_41 : decode cX10_line 41 = .ok (.goto 23, 3) := by decide +kernel
theorem dX10_line_44 : decode cX10_line 44 = .ok (.iload_n 2, 1) := by decide +kernel
theorem dX10_line_45 : decode cX10_line 45 = .ok (.iconst 1, 1) := by decide +kernel
theorem dX10_line_46 : decode cX10_line 46 = .ok (.if_icmp .ne 12, 3) := by decide +kernel
theorem dX10_line_49 : decode cX10_line 49 = .ok (.aload_n 0, 1) := by decide +kernel
theorem dX10_line_50 : decode cX10_line 50 = .ok (.getfield 71, 3) := by decide +kernel
theorem dX10_line_53 : decode cX10_line 53 = .ok (.iload_n 1, 1) := by decide +kernel
theorem dX10_line_54 : decode cX10_line 54 = .ok (.iaload, 1) := by decide +kernel
theorem dX10_line_55 : decode cX10_line 55 = .ok (.goto 9, 3) := by decide +kernel
theorem dX10_line_58 : decode cX10_line 58 = .ok (.aload_n 0, 1) := by decide +kernel
theorem dX10_line_59 : decode cX10_line 59 = .ok (.getfield 74, 3) := by decide +kernel
theorem dX10_line_62 : decode cX10_line 62 = .ok (.iload_n 1, 1) := by decide +kernel
theorem dX10_line_63 : decode cX10_line 63 = .ok (.iaload, 1) := by decide +kernel
theorem dX10_line_64 : decode cX10_line 64 = .ok (.ireturn, 1) := by decide +kernel
set_option maxRecDepth 20000 in
theorem ggX10_check_X10_isLog : GoodIn wsX10_check wsX10_isLog := goodIn_r _ [7, 8, 12, 13, 14, 15, 16, 17, 18, 19, 20, 21, 22, 23, 24, 25, 26, 27, 28, 29, 30, 31, 32, 33, 34, 35, 36, 37, 38, 39, 40, 41, 42, 43, 44, 45, 46, 47, 48, 49, 50, 51, 52, 53, 54, 55, 56, 57, 58, 59, 60, 61] (by decide +kernel) (by decide +kernel)
set_option maxRecDepth 20000 in
theorem gX10_check_X10_isLog : GoodIn wsX10_check (wsV RX10 222 RX10 yX10_isLog wsX10_isLog) := goodIn_app (goodIn_of _ (by decide +kernel)) ggX10_check_X10_isLog
set_option maxRecDepth 20000 in
theorem ggX10_check_X10_isIn : GoodIn wsX10_check wsX10_isIn := goodIn_r _ [11] (by decide +kernel) (by decide +kernel)
set_option maxRecDepth 20000 in
theorem gX10_check_X10_isIn : GoodIn wsX10_check (va_wsS RX10 191 yX10_isIn wsX10_isIn) := goodIn_app (goodIn_of _ (by decide +kernel)) ggX10_check_X10_isIn
theorem dX10_check_0 : decode cX10_check 0 = .ok (.aload_n 0, 1) := by decide +kernel
theorem dX10_check_1 : decode cX10_check 1 = .ok (.iconst 0, 1) := by decide +kernel
theorem dX10_check_2 : decode cX10_check 2 = .ok (.putfield 106, 3) := by decide +kernel
theorem dX10_check_5 : decode cX10_check 5 = .ok (.aload_n 0, 1) := by decide +kernel
theorem dX10_check_6 : decode cX10_check 6 = .ok (.iload_n 1, 1) := by decide +kernel
theorem dX10_check_7 : decode cX10_check 7 = .ok (.invokevirtual 222, 3) := by decide +kernel
theorem dX10_check_10 : decode cX10_check 10 = .ok (.ifCond .eq 13, 3) := by decide +kernel
theorem dX10_check_13 : decode cX10_check 13 = .ok (.iload_n 2, 1) := by decide +kernel
theorem dX10_check_14 : decode cX10_check 14 = .ok (.iconst 1, 1) := by decide +kernel
theorem dX10_check_15 : decode cX10_check 15 = .ok (.bipush 99, 2) := by decide +kernel
theorem dX10_check_17 : decode cX10_check 17 = .ok (.invokestatic 191, 3) := by decide +kernel
theorem dX10_check_20 : decode cX10_check 20 = .ok (.ifCond .ne 5, 3) := by decide +kernel
theorem dX10_check_23 : decode cX10_check 23 = .ok (.iconst 0, 1) := by decide +kernel
theorem dX10_check_24 : decode cX10_check 24 = .ok (.ireturn, 1) := by decide +kernel
theorem dX10_check_25 : decode cX10_check 25 = .ok (.aload_n 0, 1) := by decide +kernel
theorem dX10_check_26 : decode cX10_check 26 = .ok (.getfield 62, 3) := by decide +kernel
theorem dX10_check_29 : decode cX10_check 29 = .ok (.iload_n 1, 1) := by decide +kernel
theorem dX10_check_30 : decode cX10_check 30 = .ok (.iload_n 2, 1) := by decide +kernel
theorem dX10_check_31 : decode cX10_check 31 = .ok (.iastore, 1) := by decide +kernel
theorem dX10_check_32 : decode cX10_check 32 = .ok (.iconst 1, 1) := by decide +kernel
theorem dX10_check_33 : decode cX10_check 33 = .ok (.ireturn, 1) := by decide +kernel
set_option maxRecDepth 20000 in
theorem ggX10_habit_X10_isIn : GoodIn wsX10_habit wsX10_isIn := goodIn_r _ [10] (by decide +kernel) (by decide +kernel)
set_option maxRecDepth 20000 in
theorem gX10_habit_X10_isIn : GoodIn wsX10_habit (va_wsS RX10 191 yX10_isIn wsX10_isIn) := goodIn_app (goodIn_of _ (by decide +kernel)) ggX10_habit_X10_isIn
theorem dX10_habit_0 : decode cX10_habit 0 = .ok (.aload_n 0, 1) := by decide +kernel
theorem dX10_habit_1 : decode cX10_habit 1 = .ok (.iconst 0, 1) := by decide +kernel
theorem dX10_habit_2 : decode cX10_habit 2 = .ok (.putfield 106, 3) := by decide +kernel
theorem dX10_habit_5 : decode cX10_habit 5 = .ok (.iload_n 1, 1) := by decide +kernel
theorem dX10_habit_6 : decode cX10_habit 6 = .ok (.iconst 0, 1) := by decide +kernel
theorem dX10_habit_7 : decode cX10_habit 7 = .ok (.iconst 5, 1) := by decide +kernel
theorem dX10_habit_8 : decode cX10_habit 8 = .ok (.invokestatic 191, 3) := by decide +kernel
theorem dX10_habit_11 : decode cX10_habit 11 = .ok (.ifCond .eq 12, 3) := by decide +kernel
theorem dX10_habit_14 : decode cX10_habit 14 = .ok (.iload_n 2, 1) := by decide +kernel
theorem dX10_habit_15 : decode cX10_habit 15 = .ok (.iconst 0, 1) := by decide +kernel
theorem dX10_habit_16 : decode cX10_habit 16 = .ok (.iconst 1, 1) := by decide +kernel
theorem dX10_habit_17 : decode cX10_habit 17 = .ok (.invokestatic 191, 3) := by decide +kernel
theorem dX10_habit_20 : decode cX10_habit 20 = .ok (.ifCond .ne 7, 3) := by decide +kernel
theorem dX10_habit_23 : decode cX10_habit 23 = .ok (.ldc2_w 248, 3) := by decide +kernel
theorem dX10_habit_26 : decode cX10_habit 26 = .ok (.lreturn, 1) := by decide +kernel
theorem dX10_habit_27 : decode cX10_habit 27 = .ok (.lconst 0, 1) := by decide +kernel
theorem dX10_habit_28 : decode cX10_habit 28 = .ok (.lstore_n 3, 1) := by decide +kernel
theorem dX10_habit_29 : decode cX10_habit 29 = .ok (.lconst 0, 1) := by decide +kernel
theorem dX10_habit_30 : decode cX10_habit 30 = .ok (.lstore 5, 2) := by decide +kernel
theorem dX10_habit_32 : decode cX10_habit 32 = .ok (.iconst 0, 1) := by decide +kernel
theorem dX10_habit_33 : decode cX10_habit 33 = .ok (.istore 7, 2) := by decide +kernel
theorem dX10_habit_35 : decode cX10_habit 35 = .ok (.iload 7, 2) := by decide +kernel
theorem dX10_habit_37 : decode cX10_habit 37 = .ok (.aload_n 0, 1) := by decide +kernel
theorem dX10_habit_38 : decode cX10_habit 38 = .ok (.getfield 219, 3) := by decide +kernel
theorem dX10_habit_41 : decode cX10_habit 41 = .ok (.if_icmp .ge 73, 3) := by decide +kernel
theorem dX10_habit_44 : decode cX10_habit 44 = .ok (.aload_n 0, 1) := by decide +kernel
theorem dX10_habit_45 : decode cX10_habit 45 = .ok (.getfield 41, 3) := by decide +kernel
theorem dX10_habit_48 : decode cX10_habit 48 = .ok (.iload 7, 2) := by decide +kernel
theorem dX10_habit_50 : decode cX10_habit 50 = .ok (.iaload, 1) := by decide +kernel
theorem dX10_habit_51 : decode cX10_habit 51 = .ok (.iload_n 1, 1) := by decide +kernel
theorem dX10_habit_52 : decode cX10_habit 52 = .ok (.if_icmp .ne 56, 3) := by decide +kernel
theorem dX10_habit_55 : decode cX10_habit 55 = .ok (.aload_n 0, 1) := by decide +kernel
theorem dX10_habit_56 : decode cX10_habit 56 = .ok (.getfield 62, 3) := by decide +kernel
theorem dX10_habit_59 : decode cX10_habit 59 = .ok (.iload 7, 2) := by decide +kernel
theorem dX10_habit_61 : decode cX10_habit 61 = .ok (.iaload, 1) := by decide +kernel
theorem dX10_habit_62 : decode cX10_habit 62 = .ok (.ifCond .ne 6, 3) := by decide +kernel
theorem dX10_habit_65 : decode cX10_habit 65 = .ok (.goto 43, 3) := by decide +kernel
theorem dX10_habit_68 : decode cX10_habit 68 = .ok (.lload_n 3, 1) := by decide +kernel
theorem dX10_habit_69 : decode cX10_habit 69 = .ok (.aload_n 0, 1) := by decide +kernel
theorem dX10_habit_70 : decode cX10_habit 70 = .ok (.getfield 44, 3) := by decide +kernel
theorem dX10_habit_73 : decode cX10_habit 73 = .ok (.iload 7, 2) := by decide +kernel
theorem dX10_habit_75 : decode cX10_habit 75 = .ok (.iaload, 1) := by decide +kernel
theorem dX10_habit_76 : decode cX10_habit 76 = .ok (.aload_n 0, 1) := by decide +kernel
theorem dX10_habit_77 : decode cX10_habit 77 = .ok (.getfield 62, 3) := by decide +kernel
theorem dX10_habit_80 : decode cX10_habit 80 = .ok (.iload 7, 2) := by decide +kernel
theorem dX10_habit_82 : decode cX10_habit 82 = .ok (.iaload, 1) := by decide +kernel
theorem dX10_habit_83 : decode cX10_habit 83 = .ok (.imul, 1) := by decide +kernel
theorem dX10_habit_84 : decode cX10_habit 84 = .ok (.i2l, 1) := by decide +kernel
theorem dX10_habit_85 : decode cX10_habit 85 = .ok (.ladd, 1) := by decide +kernel
theorem dX10_habit_86 : decode cX10_habit 86 = .ok (.lstore_n 3, 1) := by decide +kernel
theorem dX10_habit_87 : decode cX10_habit 87 = .ok (.lload 5, 2) := by decide +kernel
theorem dX10_habit_89 : decode cX10_habit 89 = .ok (.aload_n 0, 1) := by decide +kernel
theorem dX10_habit_90 : decode cX10_habit 90 = .ok (.getfield 62, 3) := by decide +kernel
theorem dX10_habit_93 : decode cX10_habit 93 = .ok (.iload 7, 2) := by decide +kernel
theorem dX10_habit_95 : decode cX10_habit 95 = .ok (.iaload, 1) := by decide +kernel
theorem dX10_habit_96 : decode cX10_habit 96 = .ok (.aload_n 0, 1) := by decide +kernel
theorem dX10_habit_97 : decode cX10_habit 97 = .ok (.getfield 62, 3) := by decide +kernel
theorem dX10_habit_100 : decode cX10_habit 100 = .ok (.iload 7, 2) := by decide +kernel
theorem dX10_habit_102 : decode cX10_habit 102 = .ok (.iaload, 1) := by decide +kernel
theorem dX10_habit_103 : decode cX10_habit 103 = .ok (.imul, 1) := by decide +kernel
theorem dX10_habit_104 : decode cX10_habit 104 = .ok (.i2l, 1) := by decide +kernel
theorem dX10_habit_105 : decode cX10_habit 105 = .ok (.ladd, 1) := by decide +kernel
theorem dX10_habit_106 : decode cX10_habit 106 = .ok (.lstore 5, 2) := by decide +kernel
theorem dX10_habit_108 : decode cX10_habit 108 = .ok (.iinc 7 1, 3) := by decide +kernel
theorem dX10_habit_111 : decode cX10_habit 111 = .ok (.goto (-76), 3) := by decide +kernel
theorem dX10_habit_114 : decode cX10_habit 114 = .ok (.lload 5, 2) := by decide +kernel
theorem dX10_habit_116 : decode cX10_habit 116 = .ok (.lconst 0, 1) := by decide +kernel
theorem dX10_habit_117 : decode cX10_habit 117 = .ok (.lcmp, 1) := by decide +kernel
theorem dX10_habit_118 : decode cX10_habit 118 = .ok (.ifCond .ne 7, 3) := by decide +kernel
theorem dX10_habit_121 : decode cX10_habit 121 = .ok (.ldc2_w 248, 3) := by decide +kernel
theorem dX10_habit_124 : decode cX10_habit 124 = .ok (.lreturn, 1) := by decide +kernel
theorem dX10_habit_125 : decode cX10_habit 125 = .ok (.lload_n 3, 1) := by decide +kernel
theorem dX10_habit_126 : decode cX10_habit 126 = .ok (.lstore 7, 2) := by decide +kernel
theorem dX10_habit_128 : decode cX10_habit 128 = .ok (.lload 5, 2) := by decide +kernel
theorem dX10_habit_130 : decode cX10_habit 130 = .ok (.lstore 9, 2) := by decide +kernel
theorem dX10_habit_132 : decode cX10_habit 132 = .ok (.lload 9, 2) := by decide +kernel
theorem dX10_habit_134 : decode cX10_habit 134 = .ok (.lconst 0, 1) := by decide +kernel
theorem dX10_habit_135 : decode cX10_habit 135 = .ok (.lcmp, 1) := by decide +kernel
theorem dX10_habit_136 : decode cX10_habit 136 = .ok (.ifCond .eq 21, 3) := by decide +kernel
theorem dX10_habit_139 : decode cX10_habit 139 = .ok (.lload 7, 2) := by decide +kernel
theorem dX10_habit_141 : decode cX10_habit 141 = .ok (.lload 9, 2) := by decide +kernel
theorem dX10_habit_143 : decode cX10_habit 143 = .ok (.lrem, 1) := by decide +kernel
theorem dX10_habit_144 : decode cX10_habit 144 = .ok (.lstore 11, 2) := by decide +kernel
theorem dX10_habit_146 : decode cX10_habit 146 = .ok (.lload 9, 2) := by decide +kernel
theorem dX10_habit_148 : decode cX10_habit 148 = .ok (.lstore 7, 2) := by decide +kernel
theorem dX10_habit_150 : decode cX10_habit 150 = .ok (.lload 11, 2) := by decide +kernel
theorem dX10_habit_152 : decode cX10_habit 152 = .ok (.lstore 9, 2) := by decide +kernel
theorem dX10_habit_154 : decode cX10_habit 154 = .ok (.goto (-22), 3) := by decide +kernel
theorem dX10_habit_157 : decode cX10_habit 157 = .ok (.iload_n 2, 1) := by decide +kernel
theorem dX10_habit_158 : decode cX10_habit 158 = .ok (.ifCond .ne 10, 3) := by decide +kernel
theorem dX10_habit_161 : decode cX10_habit 161 = .ok (.lload_n 3, 1) := by decide +kernel
theorem dX10_habit_162 : decode cX10_habit 162 = .ok (.lload 7, 2) := by decide +kernel
theorem dX10_habit_164 : decode cX10_habit 164 = .ok (.ldiv, 1) := by decide +kernel
theorem dX10_habit_165 : decode cX10_habit 165 = .ok (.goto 8, 3) := by decide +kernel
theorem dX10_habit_168 : decode cX10_habit 168 = .ok (.lload 5, 2) := by decide +kernel
theorem dX10_habit_170 : decode cX10_habit 170 = .ok (.lload 7, 2) := by decide +kernel
theorem dX10_habit_172 : decode cX10_habit 172 = .ok (.ldiv, 1) := by decide +kernel
theorem dX10_habit_173 : decode cX10_habit 173 = .ok (.lreturn, 1) := by decide +kernel
set_option maxRecDepth 20000 in
theorem ggX10_row_X10_isIn : GoodIn wsX10_row wsX10_isIn := goodIn_r _ [8] (by decide +kernel) (by decide +kernel)
set_option maxRecDepth 20000 in
theorem gX10_row_X10_isIn : GoodIn wsX10_row (va_wsS RX10 191 yX10_isIn wsX10_isIn) := goodIn_app (goodIn_of _ (by decide +kernel)) ggX10_row_X10_isIn
theorem dX10_row_0 : decode cX10_row 0 = .ok (.aload_n 0, 1) := by decide +kernel
theorem dX10_row_1 : decode cX10_row 1 = .ok (.iconst 0, 1) := by decide +kernel
theorem dX10_row_2 : decode cX10_row 2 = .ok (.putfield 106, 3) := by decide +kernel
theorem dX10_row_5 : decode cX10_row 5 = .ok (.iload_n 1, 1) := by decide +kernel
theorem dX10_row_6 : decode cX10_row 6 = .ok (.iconst 0, 1) := by decide +kernel
theorem dX10_row_7 : decode cX10_row 7 = .ok (.iconst 1, 1) := by decide +kernel
theorem dX10_row_8 : decode cX10_row 8 = .ok (.invokestatic 191, 3) := by decide +kernel
theorem dX10_row_11 : decode cX10_row 11 = .ok (.ifCond .eq 34, 3) := by decide +kernel
theorem dX10_row_14 : decode cX10_row 14 = .ok (.iload_n 2, 1) := by decide +kernel
theorem dX10_row_15 : decode cX10_row 15 = .ok (.iconst 1, 1) := by decide +kernel
theorem dX10_row_16 : decode cX10_row 16 = .ok (.bipush 99, 2) := by decide +kernel
theorem dX10_row_18 : decode cX10_row 18 = .ok (.invokestatic 191, 3) := by decide +kernel
theorem dX10_row_21 : decode cX10_row 21 = .ok (.ifCond .eq 24, 3) := by decide +kernel
theorem dX10_row_24 : decode cX10_row 24 = .ok (.iload_n 3, 1) := by decide +kernel
theorem dX10_row_25 : decode cX10_row 25 = .ok (.iconst 1, 1) := by decide +kernel
theorem dX10_row_26 : decode cX10_row 26 = .ok (.bipush 60, 2) := by decide +kernel
theorem dX10_row_28 : decode cX10_row 28 = .ok (.invokestatic 191, 3) := by decide +kernel
theorem dX10_row_31 : decode cX10_row 31 = .ok (.ifCond .eq 14, 3) := by decide +kernel
theorem dX10_row_34 : decode cX10_row 34 = .ok (.aload_n 0, 1) := by decide +kernel
theorem dX10_row_35 : decode cX10_row 35 = .ok (.getfield 86, 3) := by decide +kernel
theorem dX10_row_38 : decode cX10_row 38 = .ok (.iload_n 1, 1) := by decide +kernel
theorem dX10_row_39 : decode cX10_row 39 = .ok (.iaload, 1) := by decide +kernel
theorem dX10_row_40 : decode cX10_row 40 = .ok (.bipush 20, 2) := by decide +kernel
theorem dX10_row_42 : decode cX10_row 42 = .ok (.if_icmp .ne 5, 3) := by decide +kernel
theorem dX10_row_45 : decode cX10_row 45 = .ok (.iconst (-1), 1) := by decide +kernel
theorem dX10_row_46 : decode cX10_row 46 = .ok (.ireturn, 1) := by decide +kernel
theorem dX10_row_47 : decode cX10_row 47 = .ok (.aload_n 0, 1) := by decide +kernel
theorem dX10_row_48 : decode cX10_row 48 = .ok (.getfield 80, 3) := by decide +kernel
theorem dX10_row_51 : decode cX10_row 51 = .ok (.bipush 20, 2) := by decide +kernel
theorem dX10_row_53 : decode cX10_row 53 = .ok (.iload_n 1, 1) := by decide +kernel
theorem dX10_row_54 : decode cX10_row 54 = .ok (.imul, 1) := by decide +kernel
theorem dX10_row_55 : decode cX10_row 55 = .ok (.aload_n 0, 1) := by decide +kernel
theorem dX10_row_56 : decode cX10_row 56 = .ok (.getfield 86, 3) := by decide +kernel
theorem dX10_row_59 : decode cX10_row 59 = .ok (.iload_n 1, 1) := by decide +kernel
theorem dX10_row_60 : decode cX10_row 60 = .ok (.iaload, 1) := by decide +kernel
theorem dX10_row_61 : decode cX10_row 61 = .ok (.iadd, 1) := by decide +kernel
theorem dX10_row_62 : decode cX10_row 62 = .ok (.iload_n 2, 1) := by decide +kernel
theorem dX10_row_63 : decode cX10_row 63 = .ok (.iastore, 1) := by decide +kernel
theorem dX10_row_64 : decode cX10_row 64 = .ok (.aload_n 0, 1) := by decide +kernel
theorem dX10_row_65 : decode cX10_row 65 = .ok (.getfield 83, 3) := by decide +kernel
theorem dX10_row_68 : decode cX10_row 68 = .ok (.bipush 20, 2) := by decide +kernel
theorem dX10_row_70 : decode cX10_row 70 = .ok (.iload_n 1, 1) := by decide +kernel
theorem dX10_row_71 : decode cX10_row 71 = .ok (.imul, 1) := by decide +kernel
theorem dX10_row_72 : decode cX10_row 72 = .ok (.aload_n 0, 1) := by decide +kernel
theorem dX10_row_73 : decode cX10_row 73 = .ok (.getfield 86, 3) := by decide +kernel
theorem dX10_row_76 : decode cX10_row 76 = .ok (.iload_n 1, 1) := by decide +kernel
theorem dX10_row_77 : decode cX10_row 77 = .ok (.iaload, 1) := by decide +kernel
theorem dX10_row_78 : decode cX10_row 78 = .ok (.iadd, 1) := by decide +kernel
theorem dX10_row_79 : decode cX10_row 79 = .ok (.iload_n 3, 1) := by decide +kernel
theorem dX10_row_80 : decode cX10_row 80 = .ok (.iastore, 1) := by decide +kernel
theorem dX10_row_81 : decode cX10_row 81 = .ok (.aload_n 0, 1) := by decide +kernel
theorem dX10_row_82 : decode cX10_row 82 = .ok (.getfield 86, 3) := by decide +kernel
theorem dX10_row_85 : decode cX10_row 85 = .ok (.iload_n 1, 1) := by decide +kernel
theorem dX10_row_86 : decode cX10_row 86 = .ok (.dup2, 1) := by decide +kernel
theorem dX10_row_87 : decode cX10_row 87 = .ok (.iaload, 1) := by decide +kernel
theorem dX10_row_88 : decode cX10_row 88 = .ok (.iconst 1, 1) := by decide +kernel
theorem dX10_row_89 : decode cX10_row 89 = .ok (.iadd, 1) := by decide +kernel
theorem dX10_row_90 : decode cX10_row 90 = .ok (.iastore, 1) := by decide +kernel
theorem dX10_row_91 : decode cX10_row 91 = .ok (.aload_n 0, 1) := by decide +kernel
theorem dX10_row_92 : decode cX10_row 92 = .ok (.getfield 86, 3) := by decide +kernel
theorem dX10_row_95 : decode cX10_row 95 = .ok (.iload_n 1, 1) := by decide +kernel
theorem dX10_row_96 : decode cX10_row 96 = .ok (.iaload, 1) := by decide +kernel
theorem dX10_row_97 : decode cX10_row 97 = .ok (.iconst 1, 1) := by decide +kernel
theorem dX10_row_98 : decode cX10_row 98 = .ok (.isub, 1) := by decide +kernel
theorem dX10_row_99 : decode cX10_row 99 = .ok (.ireturn, 1) := by decide +kernel
theorem dX10_clear_0 : decode cX10_clear 0 = .ok (.aload_n 0, 1) := by decide +kernel
theorem dX10_clear_1 : decode cX10_clear 1 = .ok (.iconst 0, 1) := by decide +kernel
theorem dX10_clear_2 : decode cX10_clear 2 = .ok (.putfield 106, 3) := by decide +kernel
theorem dX10_clear_5 : decode cX10_clear 5 = .ok (.aload_n 0, 1) := by decide +kernel
theorem dX10_clear_6 : decode cX10_clear 6 = .ok (.getfield 86, 3) := by decide +kernel
theorem dX10_clear_9 : decode cX10_clear 9 = .ok (.iconst 0, 1) := by decide +kernel
theorem dX10_clear_10 : decode cX10_clear 10 = .ok (.iconst 0, 1) := by decide +kernel
theorem dX10_clear_11 : decode cX10_clear 11 = .ok (.iastore, 1) := by decide +kernel
theorem dX10_clear_12 : decode cX10_clear 12 = .ok (.aload_n 0, 1) := by decide +kernel
theorem dX10_clear_13 : decode cX10_clear 13 = .ok (.getfield 86, 3) := by decide +kernel
theorem dX10_clear_16 : decode cX10_clear 16 = .ok (.iconst 1, 1) := by decide +kernel
theorem dX10_clear_17 : decode cX10_clear 17 = .ok (.iconst 0, 1) := by decide +kernel
theorem dX10_clear_18 : decode cX10_clear 18 = .ok (.iastore, 1) := by decide +kernel
theorem dX10_clear_19 : decode cX10_clear 19 = .ok (.return_, 1) := by decide +kernel
set_option maxRecDepth 20000 in
theorem ggX10_allow_X10_isIn : GoodIn wsX10_allow wsX10_isIn := goodIn_r _ [7] (by decide +kernel) (by decide +kernel)
set_option maxRecDepth 20000 in
theorem gX10_allow_X10_isIn : GoodIn wsX10_allow (va_wsS RX10 191 yX10_isIn wsX10_isIn) := goodIn_app (goodIn_of _ (by decide +kernel)) ggX10_allow_X10_isIn
theorem dX10_allow_0 : decode cX10_allow 0 = .ok (.aload_n 0, 1) := by decide +kernel
theorem dX10_allow_1 : decode cX10_allow 1 = .ok (.iconst 0, 1) := by decide +kernel
theorem dX10_allow_2 : decode cX10_allow 2 = .ok (.putfield 106, 3) := by decide +kernel
theorem dX10_allow_5 : decode cX10_allow 5 = .ok (.iload_n 1, 1) := by decide +kernel
theorem dX10_allow_6 : decode cX10_allow 6 = .ok (.iconst 0, 1) := by decide +kernel
theorem dX10_allow_7 : decode cX10_allow 7 = .ok (.bipush 20, 2) := by decide +kernel
theorem dX10_allow_9 : decode cX10_allow 9 = .ok (.invokestatic 191, 3) := by decide +kernel
theorem dX10_allow_12 : decode cX10_allow 12 = .ok (.ifCond .eq 13, 3) := by decide +kernel
theorem dX10_allow_15 : decode cX10_allow 15 = .ok (.iload_n 2, 1) := by decide +kernel
theorem dX10_allow_16 : decode cX10_allow 16 = .ok (.iconst 0, 1) := by decide +kernel
theorem dX10_allow_17 : decode cX10_allow 17 = .ok (.bipush 20, 2) := by decide +kernel
theorem dX10_allow_19 : decode cX10_allow 19 = .ok (.invokestatic 191, 3) := by decide +kernel
theorem dX10_allow_22 : decode cX10_allow 22 = .ok (.ifCond .ne 5, 3) := by decide +kernel
theorem dX10_allow_25 : decode cX10_allow 25 = .ok (.iconst 0, 1) := by decide +kernel
theorem dX10_allow_26 : decode cX10_allow 26 = .ok (.ireturn, 1) := by decide +kernel
theorem dX10_allow_27 : decode cX10_allow 27 = .ok (.aload_n 0, 1) := by decide +kernel
theorem dX10_allow_28 : decode cX10_allow 28 = .ok (.iload_n 1, 1) := by decide +kernel
theorem dX10_allow_29 : decode cX10_allow 29 = .ok (.putfield 250, 3) := by decide +kernel
theorem dX10_allow_32 : decode cX10_allow 32 = .ok (.aload_n 0, 1) := by decide +kernel
theorem dX10_allow_33 : decode cX10_allow 33 = .ok (.iload_n 2, 1) := by decide +kernel
theorem dX10_allow_34 : decode cX10_allow 34 = .ok (.putfield 253, 3) := by decide +kernel
theorem dX10_allow_37 : decode cX10_allow 37 = .ok (.iconst 1, 1) := by decide +kernel
theorem dX10_allow_38 : decode cX10_allow 38 = .ok (.ireturn, 1) := by decide +kernel
theorem dX10_agree_0 : decode cX10_agree 0 = .ok (.aload_n 0, 1) := by decide +kernel
theorem dX10_agree_1 : decode cX10_agree 1 = .ok (.getfield 80, 3) := by decide +kernel
theorem dX10_agree_4 : decode cX10_agree 4 = .ok (.iload_n 1, 1) := by decide +kernel
theorem dX10_agree_5 : decode cX10_agree 5 = .ok (.iaload, 1) := by decide +kernel
theorem dX10_agree_6 : decode cX10_agree 6 = .ok (.aload_n 0, 1) := by decide +kernel
theorem dX10_agree_7 : decode cX10_agree 7 = .ok (.getfield 80, 3) := by decide +kernel
theorem dX10_agree_10 : decode cX10_agree 10 = .ok (.bipush 20, 2) := by decide +kernel
theorem dX10_agree_12 : decode cX10_agree 12 = .ok (.iload_n 2, 1) := by decide +kernel
theorem dX10_agree_13 : decode cX10_agree 13 = .ok (.iadd, 1) := by decide +kernel
theorem dX10_agree_14 : decode cX10_agree 14 = .ok (.iaload, 1) := by decide +kernel
theorem dX10_agree_15 : decode cX10_agree 15 = .ok (.isub, 1) := by decide +kernel
theorem dX10_agree_16 : decode cX10_agree 16 = .ok (.invokestatic 256, 3) := by decide +kernel
theorem dX10_agree_19 : decode cX10_agree 19 = .ok (.aload_n 0, 1) := by decide +kernel
theorem dX10_agree_20 : decode cX10_agree 20 = .ok (.getfield 250, 3) := by decide +kernel
theorem dX10_agree_23 : decode cX10_agree 23 = .ok (.if_icmp .gt 33, 3) := by decide +kernel
theorem dX10_agree_26 : decode cX10_agree 26 = .ok (.aload_n 0, 1) := by decide +kernel
theorem dX10_agree_27 : decode cX10_agree 27 = .ok (.getfield 83, 3) := by decide +kernel
theorem dX10_agree_30 : decode cX10_agree 30 = .ok (.iload_n 1, 1) := by decide +kernel
theorem dX10_agree_31 : decode cX10_agree 31 = .ok (.iaload, 1) := by decide +kernel
theorem dX10_agree_32 : decode cX10_agree 32 = .ok (.aload_n 0, 1) := by decide +kernel
theorem dX10_agree_33 : decode cX10_agree 33 = .ok (.getfield 83, 3) := by decide +kernel
theorem dX10_agree_36 : decode cX10_agree 36 = .ok (.bipush 20, 2) := by decide +kernel
theorem dX10_agree_38 : decode cX10_agree 38 = .ok (.iload_n 2, 1) := by decide +kernel
theorem dX10_agree_39 : decode cX10_agree 39 = .ok (.iadd, 1) := by decide +kernel
theorem dX10_agree_40 : decode cX10_agree 40 = .ok (.iaload, 1) := by decide +kernel
theorem dX10_agree_41 : decode cX10_agree 41 = .ok (.isub, 1) := by decide +kernel
theorem dX10_agree_42 : decode cX10_agree 42 = .ok (.invokestatic 256, 3) := by decide +kernel
theorem dX10_agree_45 : decode cX10_agree 45 = .ok (.aload_n 0, 1) := by decide +kernel
theorem dX10_agree_46 : decode cX10_agree 46 = .ok (.getfield 253, 3) := by decide +kernel
theorem dX10_agree_49 : decode cX10_agree 49 = .ok (.if_icmp .gt 7, 3) := by decide +kernel
theorem dX10_agree_52 : decode cX10_agree 52 = .ok (.iconst 1, 1) := by decide +kernel
theorem dX10_agree_53 : decode cX10_agree 53 = .ok (.goto 4, 3) := by decide +kernel
theorem dX10_agree_56 : decode cX10_agree 56 = .ok (.iconst 0, 1) := by decide +kernel
theorem dX10_agree_57 : decode cX10_agree 57 = .ok (.ireturn, 1) := by decide +kernel
set_option maxRecDepth 20000 in
theorem ggX10_finds_X10_agree : GoodIn wsX10_finds wsX10_agree := goodIn_r _ [9, 10, 11, 12, 13, 14, 15, 16, 17, 21, 22, 23, 24, 25, 26, 27, 28, 29, 30, 31, 32, 33, 34, 35, 36, 37, 38, 39, 40, 41, 42, 43, 44, 45, 46, 47, 48, 49, 50, 51, 52, 53, 54, 55, 56, 57, 58, 59, 60, 61, 62, 63, 64, 65, 66, 67, 68, 69, 70] (by decide +kernel) (by decide +kernel)
set_option maxRecDepth 20000 in
theorem gX10_finds_X10_agree : GoodIn wsX10_finds (wsV RX10 259 RX10 yX10_agree wsX10_agree) := goodIn_app (goodIn_of _ (by decide +kernel)) ggX10_finds_X10_agree
set_option maxRecDepth 20000 in
theorem ggX10_finds_X10_finds : GoodIn wsX10_finds wsX10_finds := goodIn_r _ [0, 1, 2, 3, 4, 5, 6, 7, 8, 9, 10, 11, 12, 13, 14, 15, 16, 17, 18, 19, 20, 21, 22, 23, 24, 25, 26, 27, 28, 29, 30, 31, 32, 33, 34, 35, 36, 37, 38, 39, 40, 41, 42, 43, 44, 45, 46, 47, 48, 49, 50, 51, 52, 53, 54, 55, 56, 57, 58, 59, 60, 61, 62, 63, 64, 65, 66, 67, 68, 69, 70] (by decide +kernel) (by decide +kernel)
set_option maxRecDepth 20000 in
theorem gX10_finds_X10_finds : GoodIn wsX10_finds (wsV RX10 263 RX10 yX10_finds wsX10_finds) := goodIn_app (goodIn_of _ (by decide +kernel)) ggX10_finds_X10_finds
theorem dX10_finds_0 : decode cX10_finds 0 = .ok (.iconst 0, 1) := by decide +kernel
theorem dX10_finds_1 : decode cX10_finds 1 = .ok (.istore_n 2, 1) := by decide +kernel
theorem dX10_finds_2 : decode cX10_finds 2 = .ok (.iload_n 2, 1) := by decide +kernel
theorem dX10_finds_3 : decode cX10_finds 3 = .ok (.aload_n 0, 1) := by decide +kernel
theorem dX10_finds_4 : decode cX10_finds 4 = .ok (.getfield 86, 3) := by decide +kernel
theorem dX10_finds_7 : decode cX10_finds 7 = .ok (.iconst 1, 1) := by decide +kernel
theorem dX10_finds_8 : decode cX10_finds 8 = .ok (.iaload, 1) := by decide +kernel
theorem dX10_finds_9 : decode cX10_finds 9 = .ok (.if_icmp .ge 78, 3) := by decide +kernel
theorem dX10_finds_12 : decode cX10_finds 12 = .ok (.aload_n 0, 1) := by decide +kernel
theorem dX10_finds_13 : decode cX10_finds 13 = .ok (.getfield 92, 3) := by decide +kernel
theorem dX10_finds_16 : decode cX10_finds 16 = .ok (.iload_n 2, 1) := by decide +kernel
theorem dX10_finds_17 : decode cX10_finds 17 = .ok (.baload, 1) := by decide +kernel
theorem dX10_finds_18 : decode cX10_finds 18 = .ok (.ifCond .ne 63, 3) := by decide +kernel
theorem dX10_finds_21 : decode cX10_finds 21 = .ok (.aload_n 0, 1) := by decide +kernel
theorem dX10_finds_22 : decode cX10_finds 22 = .ok (.getfield 96, 3) := by decide +kernel
theorem dX10_finds_25 : decode cX10_finds 25 = .ok (.iload_n 2, 1) := by decide +kernel
theorem dX10_finds_26 : decode cX10_finds 26 = .ok (.baload, 1) := by decide +kernel
theorem dX10_finds_27 : decode cX10_finds 27 = .ok (.ifCond .ne 54, 3) := by decide +kernel
theorem dX10_finds_30 : decode cX10_finds 30 = .ok (.aload_n 0, 1) := by decide +kernel
theorem dX10_finds_31 : decode cX10_finds 31 = .ok (.iload_n 1, 1) := by decide +kernel
theorem dX10_finds_32 : decode cX10_finds 32 = .ok (.iload_n 2, 1) := by decide +kernel
theorem dX10_finds_33 : decode cX10_finds 33 = .ok (.invokevirtual 259, 3) := by decide +kernel
theorem dX10_finds_36 : decode cX10_finds 36 = .ok (.ifCond .ne 6, 3) := by decide +kernel
theorem dX10_finds_39 : decode cX10_finds 39 = .ok (.goto 42, 3) := by decide +kernel
theorem dX10_finds_42 : decode cX10_finds 42 = .ok (.aload_n 0, 1) := by decide +kernel
theorem dX10_finds_43 : decode cX10_finds 43 = .ok (.getfield 96, 3) := by decide +kernel
theorem dX10_finds_46 : decode cX10_finds 46 = .ok (.iload_n 2, 1) := by decide +kernel
theorem dX10_finds_47 : decode cX10_finds 47 = .ok (.iconst 1, 1) := by decide +kernel
theorem dX10_finds_48 : decode cX10_finds 48 = .ok (.bastore, 1) := by decide +kernel
theorem dX10_finds_49 : decode cX10_finds 49 = .ok (.aload_n 0, 1) := by decide +kernel
theorem dX10_finds_50 : decode cX10_finds 50 = .ok (.getfield 89, 3) := by decide +kernel
theorem dX10_finds_53 : decode cX10_finds 53 = .ok (.iload_n 2, 1) := by decide +kernel
theorem dX10_finds_54 : decode cX10_finds 54 = .ok (.iaload, 1) := by decide +kernel
theorem dX10_finds_55 : decode cX10_finds 55 = .ok (.iconst (-1), 1) := by decide +kernel
theorem dX10_finds_56 : decode cX10_finds 56 = .ok (.if_icmp .eq 16, 3) := by decide +kernel
theorem dX10_finds_59 : decode cX10_finds 59 = .ok (.aload_n 0, 1) := by decide +kernel
theorem dX10_finds_60 : decode cX10_finds 60 = .ok (.aload_n 0, 1) := by decide +kernel
theorem dX10_finds_61 : decode cX10_finds 61 = .ok (.getfield 89, 3) := by decide +kernel
theorem dX10_finds_64 : decode cX10_finds 64 = .ok (.iload_n 2, 1) := by decide +kernel
theorem dX10_finds_65 : decode cX10_finds 65 = .ok (.iaload, 1) := by decide +kernel
theorem dX10_finds_66 : decode cX10_finds 66 = .ok (.invokevirtual 263, 3) := by decide +kernel
theorem dX10_finds_69 : decode cX10_finds 69 = .ok (.ifCond .eq 12, 3) := by decide +kernel
theorem dX10_finds_72 : decode cX10_finds 72 = .ok (.aload_n 0, 1) := by decide +kernel
theorem dX10_finds_73 : decode cX10_finds 73 = .ok (.getfield 89, 3) := by decide +kernel
theorem dX10_finds_76 : decode cX10_finds 76 = .ok (.iload_n 2, 1) := by decide +kernel
theorem dX10_finds_77 : decode cX10_finds 77 = .ok (.iload_n 1, 1) := by decide +kernel
theorem dX10_finds_78 : decode cX10_finds 78 = .ok (.iastore, 1) := by decide +kernel
theorem dX10_finds_79 : decode cX10_finds 79 = .ok (.iconst 1, 1) := by decide +kernel
theorem dX10_finds_80 : decode cX10_finds 80 = .ok (.ireturn, 1) := by decide +kernel
theorem dX10_finds_81 : decode cX10_finds 81 = .ok (.iinc 2 1, 3) := by decide +kernel
theorem dX10_finds_84 : decode cX10_finds 84 = .ok (.goto (-82), 3) := by decide +kernel
theorem dX10_finds_87 : decode cX10_finds 87 = .ok (.iconst 0, 1) := by decide +kernel
theorem dX10_finds_88 : decode cX10_finds 88 = .ok (.ireturn, 1) := by decide +kernel
set_option maxRecDepth 20000 in
theorem ggX10_mostFrom_X10_finds : GoodIn wsX10_mostFrom wsX10_finds := goodIn_r _ [8, 1, 9, 3, 2, 10, 11, 12, 7, 13, 14, 15, 16, 17, 18, 19, 20, 21, 4, 5, 6, 22, 23, 24, 25, 26, 27, 28, 29, 30, 31, 32, 33, 34, 35, 36, 37, 38, 39, 40, 41, 42, 43, 44, 45, 46, 47, 48, 49, 50, 51, 52, 53, 54, 55, 56, 57, 58, 59, 60, 61, 62, 63, 64, 65, 66, 67, 68, 69, 70, 71] (by decide +kernel) (by decide +kernel)
set_option maxRecDepth 20000 in
theorem gX10_mostFrom_X10_finds : GoodIn wsX10_mostFrom (wsV RX10 263 RX10 yX10_finds wsX10_finds) := goodIn_app (goodIn_of _ (by decide +kernel)) ggX10_mostFrom_X10_finds
theorem dX10_mostFrom_0 : decode cX10_mostFrom 0 = .ok (.iconst 0, 1) := by decide +kernel
theorem dX10_mostFrom_1 : decode cX10_mostFrom 1 = .ok (.istore_n 2, 1) := by decide +kernel
theorem dX10_mostFrom_2 : decode cX10_mostFrom 2 = .ok (.iload_n 2, 1) := by decide +kernel
theorem dX10_mostFrom_3 : decode cX10_mostFrom 3 = .ok (.aload_n 0, 1) := by decide +kernel
theorem dX10_mostFrom_4 : decode cX10_mostFrom 4 = .ok (.getfield 86, 3) := by decide +kernel
theorem dX10_mostFrom_7 : decode cX10_mostFrom 7 = .ok (.iconst 1, 1) := by decide +kernel
theorem dX10_mostFrom_8 : decode cX10_mostFrom 8 = .ok (.iaload, 1) := by decide +kernel
theorem dX10_mostFrom_9 : decode cX10_mostFrom 9 = .ok (.if_icmp .ge 16, 3) := by decide +kernel
theorem dX10_mostFrom_12 : decode cX10_mostFrom 12 = .ok (.aload_n 0, 1) := by decide +kernel
theorem dX10_mostFrom_13 : decode cX10_mostFrom 13 = .ok (.getfield 89, 3) := by decide +kernel
theorem dX10_mostFrom_16 : decode cX10_mostFrom 16 = .ok (.iload_n 2, 1) := by decide +kernel
theorem dX10_mostFrom_17 : decode cX10_mostFrom 17 = .ok (.iconst (-1), 1) := by decide +kernel
theorem dX10_mostFrom_18 : decode cX10_mostFrom 18 = .ok (.iastore, 1) := by decide +kernel
theorem dX10_mostFrom_19 : decode cX10_mostFrom 19 = .ok (.iinc 2 1, 3) := by decide +kernel
theorem dX10_mostFrom_22 : decode cX10_mostFrom 22 = .ok (.goto (-20), 3) := by decide +kernel
theorem dX10_mostFrom_25 : decode cX10_mostFrom 25 = .ok (.iconst 0, 1) := by decide +kernel
theorem dX10_mostFrom_26 : decode cX10_mostFrom 26 = .ok (.istore_n 2, 1) := by decide +kernel
theorem dX10_mostFrom_27 : decode cX10_mostFrom 27 = .ok (.iload_n 1, 1) := by decide +kernel
theorem dX10_mostFrom_28 : decode cX10_mostFrom 28 = .ok (.istore_n 3, 1) := by decide +kernel
theorem dX10_mostFrom_29 : decode cX10_mostFrom 29 = .ok (.iload_n 3, 1) := by decide +kernel
theorem dX10_mostFrom_30 : decode cX10_mostFrom 30 = .ok (.aload_n 0, 1) := by decide +kernel
theorem dX10_mostFrom_31 : decode cX10_mostFrom 31 = .ok (.getfield 86, 3) := by decide +kernel
theorem dX10_mostFrom_34 : decode cX10_mostFrom 34 = .ok (.iconst 0, 1) := by decide +kernel
theorem dX10_mostFrom_35 : decode cX10_mostFrom 35 = .ok (.iaload, 1) := by decide +kernel
theorem dX10_mostFrom_36 : decode cX10_mostFrom 36 = .ok (.if_icmp .ge 53, 3) := by decide +kernel
theorem dX10_mostFrom_39 : decode cX10_mostFrom 39 = .ok (.iconst 0, 1) := by decide +kernel
theorem dX10_mostFrom_40 : decode cX10_mostFrom 40 = .ok (.istore 4, 2) := by decide +kernel
theorem dX10_mostFrom_42 : decode cX10_mostFrom 42 = .ok (.iload 4, 2) := by decide +kernel
theorem dX10_mostFrom_44 : decode cX10_mostFrom 44 = .ok (.aload_n 0, 1) := by decide +kernel
theorem dX10_mostFrom_45 : decode cX10_mostFrom 45 = .ok (.getfield 86, 3) := by decide +kernel
theorem dX10_mostFrom_48 : decode cX10_mostFrom 48 = .ok (.iconst 1, 1) := by decide +kernel
theorem dX10_mostFrom_49 : decode cX10_mostFrom 49 = .ok (.iaload, 1) := by decide +kernel
theorem dX10_mostFrom_50 : decode cX10_mostFrom 50 = .ok (.if_icmp .ge 17, 3) := by decide +kernel
theorem dX10_mostFrom_53 : decode cX10_mostFrom 53 = .ok (.aload_n 0, 1) := by decide +kernel
theorem dX10_mostFrom_54 : decode cX10_mostFrom 54 = .ok (.getfield 96, 3) := by decide +kernel
theorem dX10_mostFrom_57 : decode cX10_mostFrom 57 = .ok (.iload 4, 2) := by decide +kernel
theorem dX10_mostFrom_59 : decode cX10_mostFrom 59 = .ok (.iconst 0, 1) := by decide +kernel
theorem dX10_mostFrom_60 : decode cX10_mostFrom 60 = .ok (.bastore, 1) := by decide +kernel
theorem dX10_mostFrom_61 : decode cX10_mostFrom 61 = .ok (.iinc 4 1, 3) := by decide +kernel
theorem dX10_mostFrom_64 : decode cX10_mostFrom 64 = .ok (.goto (-22), 3) := by decide +kernel
theorem dX10_mostFrom_67 : decode cX10_mostFrom 67 = .ok (.iload_n 2, 1) := by decide +kernel
theorem dX10_mostFrom_68 : decode cX10_mostFrom 68 = .ok (.aload_n 0, 1) := by decide +kernel
theorem dX10_mostFrom_69 : decode cX10_mostFrom 69 = .ok (.iload_n 3, 1) := by decide +kernel
theorem dX10_mostFrom_70 : decode cX10_mostFrom 70 = .ok (.invokevirtual 263, 3) := by decide +kernel
theorem dX10_mostFrom_73 : decode cX10_mostFrom 73 = .ok (.ifCond .eq 7, 3) := by decide +kernel
theorem dX10_mostFrom_76 : decode cX10_mostFrom 76 = .ok (.iconst 1, 1) := by decide +kernel
theorem dX10_mostFrom_77 : decode cX10_mostFrom 77 = .ok (.goto 4, 3) := by decide +kernel
theorem dX10_mostFrom_80 : decode cX10_mostFrom 80 = .ok (.iconst 0, 1) := by decide +kernel
theorem dX10_mostFrom_81 : decode cX10_mostFrom 81 = .ok (.iadd, 1) := by decide +kernel
theorem dX10_mostFrom_82 : decode cX10_mostFrom 82 = .ok (.istore_n 2, 1) := by decide +kernel
theorem dX10_mostFrom_83 : decode cX10_mostFrom 83 = .ok (.iinc 3 1, 3) := by decide +kernel
theorem dX10_mostFrom_86 : decode cX10_mostFrom 86 = .ok (.goto (-57), 3) := by decide +kernel
theorem dX10_mostFrom_89 : decode cX10_mostFrom 89 = .ok (.iload_n 2, 1) := by decide +kernel
theorem dX10_mostFrom_90 : decode cX10_mostFrom 90 = .ok (.ireturn, 1) := by decide +kernel
theorem dX10_free_0 : decode cX10_free 0 = .ok (.iconst 0, 1) := by decide +kernel
theorem dX10_free_1 : decode cX10_free 1 = .ok (.istore_n 1, 1) := by decide +kernel
theorem dX10_free_2 : decode cX10_free 2 = .ok (.iload_n 1, 1) := by decide +kernel
theorem dX10_free_3 : decode cX10_free 3 = .ok (.bipush 20, 2) := by decide +kernel
theorem dX10_free_5 : decode cX10_free 5 = .ok (.if_icmp .ge 16, 3) := by decide +kernel
theorem dX10_free_8 : decode cX10_free 8 = .ok (.aload_n 0, 1) := by decide +kernel
theorem dX10_free_9 : decode cX10_free 9 = .ok (.getfield 92, 3) := by decide +kernel
theorem dX10_free_12 : decode cX10_free 12 = .ok (.iload_n 1, 1) := by decide +kernel
theorem dX10_free_13 : decode cX10_free 13 = .ok (.iconst 0, 1) := by decide +kernel
theorem dX10_free_14 : decode cX10_free 14 = .ok (.bastore, 1) := by decide +kernel
theorem dX10_free_15 : decode cX10_free 15 = .ok (.iinc 1 1, 3) := by decide +kernel
theorem dX10_free_18 : decode cX10_free 18 = .ok (.goto (-16), 3) := by decide +kernel
theorem dX10_free_21 : decode cX10_free 21 = .ok (.return_, 1) := by decide +kernel
set_option maxRecDepth 20000 in
theorem ggX10_pairs_X10_free : GoodIn wsX10_pairs wsX10_free := goodIn_r _ [6, 7, 31, 32, 33, 34, 35, 36, 37, 38, 39, 40, 41, 42, 43, 44, 45, 46, 47, 48, 49, 50, 51, 52, 53, 54, 55, 56, 57, 58, 59, 60, 61, 62, 63, 64, 65, 66, 67, 68, 69, 70, 71, 72, 73, 74, 75, 76, 77, 78, 79, 80] (by decide +kernel) (by decide +kernel)
set_option maxRecDepth 20000 in
theorem gX10_pairs_X10_free : GoodIn wsX10_pairs (wsV RX10 266 RX10 yX10_free wsX10_free) := goodIn_app (goodIn_of _ (by decide +kernel)) ggX10_pairs_X10_free
set_option maxRecDepth 20000 in
theorem ggX10_pairs_X10_mostFrom : GoodIn wsX10_pairs wsX10_mostFrom := goodIn_r _ [11, 12, 13, 14, 15, 16, 17, 5, 18, 7, 19, 20, 21, 22, 23, 24, 25, 26, 27, 28, 29, 30, 31, 32, 33, 34, 35, 36, 37, 38, 39, 40, 41, 42, 43, 44, 45, 46, 47, 48, 49, 50, 51, 52, 53, 54, 55, 56, 57, 58, 59, 60, 61, 62, 63, 64, 65, 66, 67, 68, 69, 70, 71, 72, 73, 74, 75, 76, 77, 78, 79, 80] (by decide +kernel) (by decide +kernel)
set_option maxRecDepth 20000 in
theorem gX10_pairs_X10_mostFrom : GoodIn wsX10_pairs (wsV RX10 269 RX10 yX10_mostFrom wsX10_mostFrom) := goodIn_app (goodIn_of _ (by decide +kernel)) ggX10_pairs_X10_mostFrom
theorem dX10_pairs_0 : decode cX10_pairs 0 = .ok (.aload_n 0, 1) := by decide +kernel
theorem dX10_pairs_1 : decode cX10_pairs 1 = .ok (.iconst 0, 1) := by decide +kernel
theorem dX10_pairs_2 : decode cX10_pairs 2 = .ok (.putfield 106, 3) := by decide +kernel
theorem dX10_pairs_5 : decode cX10_pairs 5 = .ok (.aload_n 0, 1) := by decide +kernel
theorem dX10_pairs_6 : decode cX10_pairs 6 = .ok (.invokevirtual 266, 3) := by decide +kernel
theorem dX10_pairs_9 : decode cX10_pairs 9 = .ok (.aload_n 0, 1) := by decide +kernel
theorem dX10_pairs_10 : decode cX10_pairs 10 = .ok (.iconst 0, 1) := by decide +kernel
theorem dX10_pairs_11 : decode cX10_pairs 11 = .ok (.invokevirtual 269, 3) := by decide +kernel
theorem dX10_pairs_14 : decode cX10_pairs 14 = .ok (.ireturn, 1) := by decide +kernel
set_option maxRecDepth 20000 in
theorem ggX10_pair_X10_isIn : GoodIn wsX10_pair wsX10_isIn := goodIn_r _ [7] (by decide +kernel) (by decide +kernel)
set_option maxRecDepth 20000 in
theorem gX10_pair_X10_isIn : GoodIn wsX10_pair (va_wsS RX10 191 yX10_isIn wsX10_isIn) := goodIn_app (goodIn_of _ (by decide +kernel)) ggX10_pair_X10_isIn
set_option maxRecDepth 20000 in
theorem ggX10_pair_X10_free : GoodIn wsX10_pair wsX10_free := goodIn_r _ [11, 3, 34, 35, 36, 37, 38, 39, 40, 41, 42, 43, 44, 45, 46, 47, 48, 49, 50, 51, 52, 53, 54, 55, 56, 57, 58, 59, 60, 61, 62, 63, 64, 65, 66, 67, 68, 69, 70, 71, 72, 73, 74, 75, 76, 77, 78, 79, 80, 81, 82, 83] (by decide +kernel) (by decide +kernel)
set_option maxRecDepth 20000 in
theorem gX10_pair_X10_free : GoodIn wsX10_pair (wsV RX10 266 RX10 yX10_free wsX10_free) := goodIn_app (goodIn_of _ (by decide +kernel)) ggX10_pair_X10_free
set_option maxRecDepth 20000 in
theorem ggX10_pair_X10_mostFrom : GoodIn wsX10_pair wsX10_mostFrom := goodIn_r _ [15, 2, 16, 17, 18, 19, 20, 6, 21, 3, 22, 23, 24, 25, 26, 27, 28, 29, 30, 31, 32, 33, 34, 35, 36, 37, 38, 39, 40, 41, 42, 43, 44, 45, 46, 47, 48, 49, 50, 51, 52, 53, 54, 55, 56, 57, 58, 59, 60, 61, 62, 63, 64, 65, 66, 67, 68, 69, 70, 71, 72, 73, 74, 75, 76, 77, 78, 79, 80, 81, 82, 83] (by decide +kernel) (by decide +kernel)
set_option maxRecDepth 20000 in
theorem gX10_pair_X10_mostFrom : GoodIn wsX10_pair (wsV RX10 269 RX10 yX10_mostFrom wsX10_mostFrom) := goodIn_app (goodIn_of _ (by decide +kernel)) ggX10_pair_X10_mostFrom
set_option maxRecDepth 20000 in
theorem ggX10_pair_X10_agree : GoodIn wsX10_pair wsX10_agree := goodIn_r _ [25, 26, 27, 28, 29, 30, 31, 32, 33, 34, 35, 36, 37, 38, 39, 40, 41, 42, 43, 44, 45, 46, 47, 48, 49, 50, 51, 52, 53, 54, 55, 56, 57, 58, 59, 60, 61, 62, 63, 64, 65, 66, 67, 68, 69, 70, 71, 72, 73, 74, 75, 76, 77, 78, 79, 80, 81, 82, 83] (by decide +kernel) (by decide +kernel)
set_option maxRecDepth 20000 in
theorem gX10_pair_X10_agree : GoodIn wsX10_pair (wsV RX10 259 RX10 yX10_agree wsX10_agree) := goodIn_app (goodIn_of _ (by decide +kernel)) ggX10_pair_X10_agree
theorem dX10_pair_0 : decode cX10_pair 0 = .ok (.aload_n 0, 1) := by decide +kernel
theorem dX10_pair_1 : decode cX10_pair 1 = .ok (.iconst 0, 1) := by decide +kernel
theorem dX10_pair_2 : decode cX10_pair 2 = .ok (.putfield 106, 3) := by decide +kernel
theorem dX10_pair_5 : decode cX10_pair 5 = .ok (.iload_n 1, 1) := by decide +kernel
theorem dX10_pair_6 : decode cX10_pair 6 = .ok (.iconst 0, 1) := by decide +kernel
theorem dX10_pair_7 : decode cX10_pair 7 = .ok (.aload_n 0, 1) := by decide +kernel
theorem dX10_pair_8 : decode cX10_pair 8 = .ok (.getfield 86, 3) := by decide +kernel
theorem dX10_pair_11 : decode cX10_pair 11 = .ok (.iconst 0, 1) := by decide +kernel
theorem dX10_pair_12 : decode cX10_pair 12 = .ok (.iaload, 1) := by decide +kernel
theorem dX10_pair_13 : decode cX10_pair 13 = .ok (.iconst 1, 1) := by decide +kernel
theorem dX10_pair_14 : decode cX10_pair 14 = .ok (.isub, 1) := by decide +kernel
theorem dX10_pair_15 : decode cX10_pair 15 = .ok (.invokestatic 191, 3) := by decide +kernel
theorem dX10_pair_18 : decode cX10_pair 18 = .ok (.ifCond .ne 5, 3) := by decide +kernel
theorem dX10_pair_21 : decode cX10_pair 21 = .ok (.iconst (-1), 1) := by decide +kernel
theorem dX10_pair_22 : decode cX10_pair 22 = .ok (.ireturn, 1) := by decide +kernel
theorem dX10_pair_23 : decode cX10_pair 23 = .ok (.aload_n 0, 1) := by decide +kernel
theorem dX10_pair_24 : decode cX10_pair 24 = .ok (.invokevirtual 266, 3) := by decide +kernel
theorem dX10_pair_27 : decode cX10_pair 27 = .ok (.aload_n 0, 1) := by decide +kernel
theorem dX10_pair_28 : decode cX10_pair 28 = .ok (.iconst 0, 1) := by decide +kernel
theorem dX10_pair_29 : decode cX10_pair 29 = .ok (.invokevirtual 269, 3) := by decide +kernel
theorem dX10_pair_32 : decode cX10_pair 32 = .ok (.istore_n 2, 1) := by decide +kernel
theorem dX10_pair_33 : decode cX10_pair 33 = .ok (.iconst 0, 1) := by decide +kernel
theorem dX10_pair_34 : decode cX10_pair 34 = .ok (.istore_n 3, 1) := by decide +kernel
theorem dX10_pair_35 : decode cX10_pair 35 = .ok (.iload_n 3, 1) := by decide +kernel
theorem dX10_pair_36 : decode cX10_pair 36 = .ok (.iload_n 1, 1) := by decide +kernel
theorem dX10_pair_37 : decode cX10_pair 37 = .ok (.if_icmp .gt 114, 3) := by decide +kernel
theorem dX10_pair_40 : decode cX10_pair 40 = .ok (.iconst (-1), 1) := by decide +kernel
theorem dX10_pair_41 : decode cX10_pair 41 = .ok (.istore 4, 2) := by decide +kernel
theorem dX10_pair_43 : decode cX10_pair 43 = .ok (.iconst 0, 1) := by decide +kernel
theorem dX10_pair_44 : decode cX10_pair 44 = .ok (.istore 5, 2) := by decide +kernel
theorem dX10_pair_46 : decode cX10_pair 46 = .ok (.iload 5, 2) := by decide +kernel
theorem dX10_pair_48 : decode cX10_pair 48 = .ok (.aload_n 0, 1) := by decide +kernel
theorem dX10_pair_49 : decode cX10_pair 49 = .ok (.getfield 86, 3) := by decide +kernel
theorem dX10_pair_52 : decode cX10_pair 52 = .ok (.iconst 1, 1) := by decide +kernel
theorem dX10_pair_53 : decode cX10_pair 53 = .ok (.iaload, 1) := by decide +kernel
theorem dX10_pair_54 : decode cX10_pair 54 = .ok (.if_icmp .ge 74, 3) := by decide +kernel
theorem dX10_pair_57 : decode cX10_pair 57 = .ok (.iload 4, 2) := by decide +kernel
theorem dX10_pair_59 : decode cX10_pair 59 = .ok (.iconst (-1), 1) := by decide +kernel
theorem dX10_pair_60 : decode cX10_pair 60 = .ok (.if_icmp .ne 68, 3) := by decide +kernel
theorem dX10_pair_63 : decode cX10_pair 63 = .ok (.aload_n 0, 1) := by decide +kernel
theorem dX10_pair_64 : decode cX10_pair 64 = .ok (.getfield 92, 3) := by decide +kernel
theorem dX10_pair_67 : decode cX10_pair 67 = .ok (.iload 5, 2) := by decide +kernel
theorem dX10_pair_69 : decode cX10_pair 69 = .ok (.baload, 1) := by decide +kernel
theorem dX10_pair_70 : decode cX10_pair 70 = .ok (.ifCond .ne 52, 3) := by decide +kernel
theorem dX10_pair_73 : decode cX10_pair 73 = .ok (.aload_n 0, 1) := by decide +kernel
theorem dX10_pair_74 : decode cX10_pair 74 = .ok (.iload_n 3, 1) := by decide +kernel
theorem dX10_pair_75 : decode cX10_pair 75 = .ok (.iload 5, 2) := by decide +kernel
theorem dX10_pair_77 : decode cX10_pair 77 = .ok (.invokevirtual 259, 3) := by decide +kernel
theorem dX10_pair_80 : decode cX10_pair 80 = .ok (.ifCond .ne 6, 3) := by decide +kernel
theorem dX10_pair_83 : decode cX10_pair 83 = .ok (.goto 39, 3) := by decide +kernel
theorem dX10_pair_86 : decode cX10_pair 86 = .ok (.aload_n 0, 1) := by decide +kernel
theorem dX10_pair_87 : decode cX10_pair 87 = .ok (.getfield 92, 3) := by decide +kernel
theorem dX10_pair_90 : decode cX10_pair 90 = .ok (.iload 5, 2) := by decide +kernel
theorem dX10_pair_92 : decode cX10_pair 92 = .ok (.iconst 1, 1) := by decide +kernel
theorem dX10_pair_93 : decode cX10_pair 93 = .ok (.bastore, 1) := by decide +kernel
theorem dX10_pair_94 : decode cX10_pair 94 = .ok (.aload_n 0, 1) := by decide +kernel
theorem dX10_pair_95 : decode cX10_pair 95 = .ok (.iload_n 3, 1) := by decide +kernel
theorem dX10_pair_96 : decode cX10_pair 96 = .ok (.iconst 1, 1) := by decide +kernel
theorem dX10_pair_97 : decode cX10_pair 97 = .ok (.iadd, 1) := by decide +kernel
theorem dX10_pair_98 : decode cX10_pair 98 = .ok (.invokevirtual 269, 3) := by decide +kernel
theorem dX10_pair_101 : decode cX10_pair 101 = .ok (.iload_n 2, 1) := by decide +kernel
theorem dX10_pair_102 : decode cX10_pair 102 = .ok (.iconst 1, 1) := by decide +kernel
theorem dX10_pair_103 : decode cX10_pair 103 = .ok (.isub, 1) := by decide +kernel
theorem dX10_pair_104 : decode cX10_pair 104 = .ok (.if_icmp .ne 10, 3) := by decide +kernel
theorem dX10_pair_107 : decode cX10_pair 107 = .ok (.iload 5, 2) := by decide +kernel
theorem dX10_pair_109 : decode cX10_pair 109 = .ok (.istore 4, 2) := by decide +kernel
theorem dX10_pair_111 : decode cX10_pair 111 = .ok (.goto 11, 3) := by decide +kernel
theorem dX10_pair_114 : decode cX10_pair 114 = .ok (.aload_n 0, 1) := by decide +kernel
theorem dX10_pair_115 : decode cX10_pair 115 = .ok (.getfield 92, 3) := by decide +kernel
theorem dX10_pair_118 : decode cX10_pair 118 = .ok (.iload 5, 2) := by decide +kernel
theorem dX10_pair_120 : decode cX10_pair 120 = .ok (.iconst 0, 1) := by decide +kernel
theorem dX10_pair_121 : decode cX10_pair 121 = .ok (.bastore, 1) := by decide +kernel
theorem dX10_pair_122 : decode cX10_pair 122 = .ok (.iinc 5 1, 3) := by decide +kernel
theorem dX10_pair_125 : decode cX10_pair 125 = .ok (.goto (-79), 3) := by decide +kernel
theorem dX10_pair_128 : decode cX10_pair 128 = .ok (.iload 4, 2) := by decide +kernel
theorem dX10_pair_130 : decode cX10_pair 130 = .ok (.iconst (-1), 1) := by decide +kernel
theorem dX10_pair_131 : decode cX10_pair 131 = .ok (.if_icmp .eq 6, 3) := by decide +kernel
theorem dX10_pair_134 : decode cX10_pair 134 = .ok (.iinc 2 (-1), 3) := by decide +kernel
theorem dX10_pair_137 : decode cX10_pair 137 = .ok (.iload_n 3, 1) := by decide +kernel
end
section
theorem dX10_pair_138 : decode cX10_pair 138 = .ok (.iload_n 1, 1) := by decide +kernel
theorem dX10_pair_139 : decode cX10_pair 139 = .ok (.if_icmp .ne 6, 3) := by decide +kernel
theorem dX10_pair_142 : decode cX10_pair 142 = .ok (.iload 4, 2) := by decide +kernel
theorem dX10_pair_144 : decode cX10_pair 144 = .ok (.ireturn, 1) := by decide +kernel
theorem dX10_pair_145 : decode cX10_pair 145 = .ok (.iinc 3 1, 3) := by decide +kernel
theorem dX10_pair_148 : decode cX10_pair 148 = .ok (.goto (-113), 3) := by decide +kernel
theorem dX10_pair_151 : decode cX10_pair 151 = .ok (.iconst (-1), 1) := by decide +kernel
theorem dX10_pair_152 : decode cX10_pair 152 = .ok (.ireturn, 1) := by decide +kernel
set_option maxRecDepth 20000 in
theorem ggX10_near_X10_isIn : GoodIn wsX10_near wsX10_isIn := goodIn_r _ [6] (by decide +kernel) (by decide +kernel)
set_option maxRecDepth 20000 in
theorem gX10_near_X10_isIn : GoodIn wsX10_near (va_wsS RX10 191 yX10_isIn wsX10_isIn) := goodIn_app (goodIn_of _ (by decide +kernel)) ggX10_near_X10_isIn
theorem dX10_near_0 : decode cX10_near 0 = .ok (.aload_n 0, 1) := by decide +kernel
theorem dX10_near_1 : decode cX10_near 1 = .ok (.iconst 0, 1) := by decide +kernel
theorem dX10_near_2 : decode cX10_near 2 = .ok (.putfield 106, 3) := by decide +kernel
theorem dX10_near_5 : decode cX10_near 5 = .ok (.iload_n 1, 1) := by decide +kernel
theorem dX10_near_6 : decode cX10_near 6 = .ok (.iconst 0, 1) := by decide +kernel
theorem dX10_near_7 : decode cX10_near 7 = .ok (.bipush 100, 2) := by decide +kernel
theorem dX10_near_9 : decode cX10_near 9 = .ok (.invokestatic 191, 3) := by decide +kernel
theorem dX10_near_12 : decode cX10_near 12 = .ok (.ifCond .ne 5, 3) := by decide +kernel
theorem dX10_near_15 : decode cX10_near 15 = .ok (.iconst 0, 1) := by decide +kernel
theorem dX10_near_16 : decode cX10_near 16 = .ok (.ireturn, 1) := by decide +kernel
theorem dX10_near_17 : decode cX10_near 17 = .ok (.aload_n 0, 1) := by decide +kernel
theorem dX10_near_18 : decode cX10_near 18 = .ok (.iload_n 1, 1) := by decide +kernel
theorem dX10_near_19 : decode cX10_near 19 = .ok (.putfield 99, 3) := by decide +kernel
theorem dX10_near_22 : decode cX10_near 22 = .ok (.iconst 1, 1) := by decide +kernel
theorem dX10_near_23 : decode cX10_near 23 = .ok (.ireturn, 1) := by decide +kernel
theorem dX10_isNear_0 : decode cX10_isNear 0 = .ok (.iload_n 1, 1) := by decide +kernel
theorem dX10_isNear_1 : decode cX10_isNear 1 = .ok (.iload_n 2, 1) := by decide +kernel
theorem dX10_isNear_2 : decode cX10_isNear 2 = .ok (.isub, 1) := by decide +kernel
theorem dX10_isNear_3 : decode cX10_isNear 3 = .ok (.invokestatic 256, 3) := by decide +kernel
theorem dX10_isNear_6 : decode cX10_isNear 6 = .ok (.i2l, 1) := by decide +kernel
theorem dX10_isNear_7 : decode cX10_isNear 7 = .ok (.ldc2_w 233, 3) := by decide +kernel
theorem dX10_isNear_10 : decode cX10_isNear 10 = .ok (.lmul, 1) := by decide +kernel
theorem dX10_isNear_11 : decode cX10_isNear 11 = .ok (.iload_n 2, 1) := by decide +kernel
theorem dX10_isNear_12 : decode cX10_isNear 12 = .ok (.i2l, 1) := by decide +kernel
theorem dX10_isNear_13 : decode cX10_isNear 13 = .ok (.aload_n 0, 1) := by decide +kernel
theorem dX10_isNear_14 : decode cX10_isNear 14 = .ok (.getfield 99, 3) := by decide +kernel
theorem dX10_isNear_17 : decode cX10_isNear 17 = .ok (.i2l, 1) := by decide +kernel
theorem dX10_isNear_18 : decode cX10_isNear 18 = .ok (.lmul, 1) := by decide +kernel
theorem dX10_isNear_19 : decode cX10_isNear 19 = .ok (.lcmp, 1) := by decide +kernel
theorem dX10_isNear_20 : decode cX10_isNear 20 = .ok (.ifCond .gt 7, 3) := by decide +kernel
theorem dX10_isNear_23 : decode cX10_isNear 23 = .ok (.iconst 1, 1) := by decide +kernel
theorem dX10_isNear_24 : decode cX10_isNear 24 = .ok (.goto 4, 3) := by decide +kernel
theorem dX10_isNear_27 : decode cX10_isNear 27 = .ok (.iconst 0, 1) := by decide +kernel
theorem dX10_isNear_28 : decode cX10_isNear 28 = .ok (.ireturn, 1) := by decide +kernel
set_option maxRecDepth 20000 in
theorem ggX10_judge_X10_isIn : GoodIn wsX10_judge wsX10_isIn := goodIn_r _ [9] (by decide +kernel) (by decide +kernel)
set_option maxRecDepth 20000 in
theorem gX10_judge_X10_isIn : GoodIn wsX10_judge (va_wsS RX10 191 yX10_isIn wsX10_isIn) := goodIn_app (goodIn_of _ (by decide +kernel)) ggX10_judge_X10_isIn
set_option maxRecDepth 20000 in
theorem ggX10_judge_X10_isNear : GoodIn wsX10_judge wsX10_isNear := goodIn_r _ [13, 14, 15, 16, 17, 18, 19, 20, 21, 22, 23, 24, 25, 26, 27, 28, 29, 30, 31, 32, 33, 34, 35, 36, 37, 38, 39, 40, 41, 42, 43, 44, 45, 46, 47, 48, 49, 50, 51, 52, 53, 54, 55, 56, 57, 58, 59, 60, 61, 62, 63, 64, 65, 66, 67, 68, 69] (by decide +kernel) (by decide +kernel)
set_option maxRecDepth 20000 in
theorem gX10_judge_X10_isNear : GoodIn wsX10_judge (wsV RX10 273 RX10 yX10_isNear wsX10_isNear) := goodIn_app (goodIn_of _ (by decide +kernel)) ggX10_judge_X10_isNear
theorem dX10_judge_0 : decode cX10_judge 0 = .ok (.aload_n 0, 1) := by decide +kernel
theorem dX10_judge_1 : decode cX10_judge 1 = .ok (.iconst 0, 1) := by decide +kernel
theorem dX10_judge_2 : decode cX10_judge 2 = .ok (.putfield 106, 3) := by decide +kernel
theorem dX10_judge_5 : decode cX10_judge 5 = .ok (.iload_n 1, 1) := by decide +kernel
theorem dX10_judge_6 : decode cX10_judge 6 = .ok (.iconst 0, 1) := by decide +kernel
theorem dX10_judge_7 : decode cX10_judge 7 = .ok (.ldc_w 272, 3) := by decide +kernel
theorem dX10_judge_10 : decode cX10_judge 10 = .ok (.invokestatic 191, 3) := by decide +kernel
theorem dX10_judge_13 : decode cX10_judge 13 = .ok (.ifCond .eq 25, 3) := by decide +kernel
theorem dX10_judge_16 : decode cX10_judge 16 = .ok (.iload_n 2, 1) := by decide +kernel
theorem dX10_judge_17 : decode cX10_judge 17 = .ok (.iconst 0, 1) := by decide +kernel
theorem dX10_judge_18 : decode cX10_judge 18 = .ok (.ldc_w 272, 3) := by decide +kernel
theorem dX10_judge_21 : decode cX10_judge 21 = .ok (.invokestatic 191, 3) := by decide +kernel
theorem dX10_judge_24 : decode cX10_judge 24 = .ok (.ifCond .eq 14, 3) := by decide +kernel
theorem dX10_judge_27 : decode cX10_judge 27 = .ok (.iload_n 3, 1) := by decide +kernel
theorem dX10_judge_28 : decode cX10_judge 28 = .ok (.iconst 0, 1) := by decide +kernel
theorem dX10_judge_29 : decode cX10_judge 29 = .ok (.ldc_w 272, 3) := by decide +kernel
theorem dX10_judge_32 : decode cX10_judge 32 = .ok (.invokestatic 191, 3) := by decide +kernel
theorem dX10_judge_35 : decode cX10_judge 35 = .ok (.ifCond .ne 5, 3) := by decide +kernel
theorem dX10_judge_38 : decode cX10_judge 38 = .ok (.iconst (-1), 1) := by decide +kernel
theorem dX10_judge_39 : decode cX10_judge 39 = .ok (.ireturn, 1) := by decide +kernel
theorem dX10_judge_40 : decode cX10_judge 40 = .ok (.aload_n 0, 1) := by decide +kernel
theorem dX10_judge_41 : decode cX10_judge 41 = .ok (.iload_n 1, 1) := by decide +kernel
theorem dX10_judge_42 : decode cX10_judge 42 = .ok (.iload_n 3, 1) := by decide +kernel
theorem dX10_judge_43 : decode cX10_judge 43 = .ok (.invokevirtual 273, 3) := by decide +kernel
theorem dX10_judge_46 : decode cX10_judge 46 = .ok (.istore 4, 2) := by decide +kernel
theorem dX10_judge_48 : decode cX10_judge 48 = .ok (.aload_n 0, 1) := by decide +kernel
theorem dX10_judge_49 : decode cX10_judge 49 = .ok (.iload_n 2, 1) := by decide +kernel
theorem dX10_judge_50 : decode cX10_judge 50 = .ok (.iload_n 3, 1) := by decide +kernel
theorem dX10_judge_51 : decode cX10_judge 51 = .ok (.invokevirtual 273, 3) := by decide +kernel
theorem dX10_judge_54 : decode cX10_judge 54 = .ok (.istore 5, 2) := by decide +kernel
theorem dX10_judge_56 : decode cX10_judge 56 = .ok (.aload_n 0, 1) := by decide +kernel
theorem dX10_judge_57 : decode cX10_judge 57 = .ok (.dup, 1) := by decide +kernel
theorem dX10_judge_58 : decode cX10_judge 58 = .ok (.getfield 276, 3) := by decide +kernel
theorem dX10_judge_61 : decode cX10_judge 61 = .ok (.iload 4, 2) := by decide +kernel
theorem dX10_judge_63 : decode cX10_judge 63 = .ok (.ifCond .eq 7, 3) := by decide +kernel
theorem dX10_judge_66 : decode cX10_judge 66 = .ok (.iconst 0, 1) := by decide +kernel
theorem dX10_judge_67 : decode cX10_judge 67 = .ok (.goto 4, 3) := by decide +kernel
theorem dX10_judge_70 : decode cX10_judge 70 = .ok (.iconst 1, 1) := by decide +kernel
theorem dX10_judge_71 : decode cX10_judge 71 = .ok (.iadd, 1) := by decide +kernel
theorem dX10_judge_72 : decode cX10_judge 72 = .ok (.putfield 276, 3) := by decide +kernel
theorem dX10_judge_75 : decode cX10_judge 75 = .ok (.aload_n 0, 1) := by decide +kernel
theorem dX10_judge_76 : decode cX10_judge 76 = .ok (.dup, 1) := by decide +kernel
theorem dX10_judge_77 : decode cX10_judge 77 = .ok (.getfield 279, 3) := by decide +kernel
theorem dX10_judge_80 : decode cX10_judge 80 = .ok (.iload 5, 2) := by decide +kernel
theorem dX10_judge_82 : decode cX10_judge 82 = .ok (.ifCond .eq 7, 3) := by decide +kernel
theorem dX10_judge_85 : decode cX10_judge 85 = .ok (.iconst 0, 1) := by decide +kernel
theorem dX10_judge_86 : decode cX10_judge 86 = .ok (.goto 4, 3) := by decide +kernel
theorem dX10_judge_89 : decode cX10_judge 89 = .ok (.iconst 1, 1) := by decide +kernel
theorem dX10_judge_90 : decode cX10_judge 90 = .ok (.iadd, 1) := by decide +kernel
theorem dX10_judge_91 : decode cX10_judge 91 = .ok (.putfield 279, 3) := by decide +kernel
theorem dX10_judge_94 : decode cX10_judge 94 = .ok (.iload 4, 2) := by decide +kernel
theorem dX10_judge_96 : decode cX10_judge 96 = .ok (.ifCond .eq 12, 3) := by decide +kernel
theorem dX10_judge_99 : decode cX10_judge 99 = .ok (.iload 5, 2) := by decide +kernel
theorem dX10_judge_101 : decode cX10_judge 101 = .ok (.ifCond .eq 7, 3) := by decide +kernel
theorem dX10_judge_104 : decode cX10_judge 104 = .ok (.iconst 0, 1) := by decide +kernel
theorem dX10_judge_105 : decode cX10_judge 105 = .ok (.goto 22, 3) := by decide +kernel
theorem dX10_judge_108 : decode cX10_judge 108 = .ok (.iload 5, 2) := by decide +kernel
theorem dX10_judge_110 : decode cX10_judge 110 = .ok (.ifCond .eq 7, 3) := by decide +kernel
theorem dX10_judge_113 : decode cX10_judge 113 = .ok (.iconst 1, 1) := by decide +kernel
theorem dX10_judge_114 : decode cX10_judge 114 = .ok (.goto 13, 3) := by decide +kernel
theorem dX10_judge_117 : decode cX10_judge 117 = .ok (.iload 4, 2) := by decide +kernel
theorem dX10_judge_119 : decode cX10_judge 119 = .ok (.ifCond .eq 7, 3) := by decide +kernel
theorem dX10_judge_122 : decode cX10_judge 122 = .ok (.iconst 2, 1) := by decide +kernel
theorem dX10_judge_123 : decode cX10_judge 123 = .ok (.goto 4, 3) := by decide +kernel
theorem dX10_judge_126 : decode cX10_judge 126 = .ok (.iconst 3, 1) := by decide +kernel
theorem dX10_judge_127 : decode cX10_judge 127 = .ok (.istore 6, 2) := by decide +kernel
theorem dX10_judge_129 : decode cX10_judge 129 = .ok (.aload_n 0, 1) := by decide +kernel
theorem dX10_judge_130 : decode cX10_judge 130 = .ok (.iload 6, 2) := by decide +kernel
theorem dX10_judge_132 : decode cX10_judge 132 = .ok (.iconst 1, 1) := by decide +kernel
theorem dX10_judge_133 : decode cX10_judge 133 = .ok (.if_icmp .ne 7, 3) := by decide +kernel
theorem dX10_judge_136 : decode cX10_judge 136 = .ok (.iload_n 2, 1) := by decide +kernel
theorem dX10_judge_137 : decode cX10_judge 137 = .ok (.goto 14, 3) := by decide +kernel
theorem dX10_judge_140 : decode cX10_judge 140 = .ok (.iload 6, 2) := by decide +kernel
theorem dX10_judge_142 : decode cX10_judge 142 = .ok (.iconst 2, 1) := by decide +kernel
theorem dX10_judge_143 : decode cX10_judge 143 = .ok (.if_icmp .ne 7, 3) := by decide +kernel
theorem dX10_judge_146 : decode cX10_judge 146 = .ok (.iload_n 1, 1) := by decide +kernel
theorem dX10_judge_147 : decode cX10_judge 147 = .ok (.goto 4, 3) := by decide +kernel
theorem dX10_judge_150 : decode cX10_judge 150 = .ok (.iload_n 3, 1) := by decide +kernel
theorem dX10_judge_151 : decode cX10_judge 151 = .ok (.putfield 103, 3) := by decide +kernel
theorem dX10_judge_154 : decode cX10_judge 154 = .ok (.iload 6, 2) := by decide +kernel
theorem dX10_judge_156 : decode cX10_judge 156 = .ok (.ireturn, 1) := by decide +kernel
theorem dX10_count_0 : decode cX10_count 0 = .ok (.aload_n 0, 1) := by decide +kernel
theorem dX10_count_1 : decode cX10_count 1 = .ok (.iconst 0, 1) := by decide +kernel
theorem dX10_count_2 : decode cX10_count 2 = .ok (.putfield 106, 3) := by decide +kernel
theorem dX10_count_5 : decode cX10_count 5 = .ok (.iload_n 1, 1) := by decide +kernel
theorem dX10_count_6 : decode cX10_count 6 = .ok (.tableswitch 117 0 10 #[58, 63, 68, 73, 78, 83, 90, 97, 102, 107, 112], 58) := by decide +kernel
theorem dX10_count_64 : decode cX10_count 64 = .ok (.aload_n 0, 1) := by decide +kernel
theorem dX10_count_65 : decode cX10_count 65 = .ok (.getfield 202, 3) := by decide +kernel
theorem dX10_count_68 : decode cX10_count 68 = .ok (.ireturn, 1) := by decide +kernel
theorem dX10_count_69 : decode cX10_count 69 = .ok (.aload_n 0, 1) := by decide +kernel
theorem dX10_count_70 : decode cX10_count 70 = .ok (.getfield 199, 3) := by decide +kernel
theorem dX10_count_73 : decode cX10_count 73 = .ok (.ireturn, 1) := by decide +kernel
theorem dX10_count_74 : decode cX10_count 74 = .ok (.aload_n 0, 1) := by decide +kernel
theorem dX10_count_75 : decode cX10_count 75 = .ok (.getfield 219, 3) := by decide +kernel
theorem dX10_count_78 : decode cX10_count 78 = .ok (.ireturn, 1) := by decide +kernel
theorem dX10_count_79 : decode cX10_count 79 = .ok (.aload_n 0, 1) := by decide +kernel
theorem dX10_count_80 : decode cX10_count 80 = .ok (.getfield 241, 3) := by decide +kernel
theorem dX10_count_83 : decode cX10_count 83 = .ok (.ireturn, 1) := by decide +kernel
theorem dX10_count_84 : decode cX10_count 84 = .ok (.aload_n 0, 1) := by decide +kernel
theorem dX10_count_85 : decode cX10_count 85 = .ok (.getfield 244, 3) := by decide +kernel
theorem dX10_count_88 : decode cX10_count 88 = .ok (.ireturn, 1) := by decide +kernel
theorem dX10_count_89 : decode cX10_count 89 = .ok (.aload_n 0, 1) := by decide +kernel
theorem dX10_count_90 : decode cX10_count 90 = .ok (.getfield 86, 3) := by decide +kernel
theorem dX10_count_93 : decode cX10_count 93 = .ok (.iconst 0, 1) := by decide +kernel
theorem dX10_count_94 : decode cX10_count 94 = .ok (.iaload, 1) := by decide +kernel
theorem dX10_count_95 : decode cX10_count 95 = .ok (.ireturn, 1) := by decide +kernel
theorem dX10_count_96 : decode cX10_count 96 = .ok (.aload_n 0, 1) := by decide +kernel
theorem dX10_count_97 : decode cX10_count 97 = .ok (.getfield 86, 3) := by decide +kernel
theorem dX10_count_100 : decode cX10_count 100 = .ok (.iconst 1, 1) := by decide +kernel
theorem dX10_count_101 : decode cX10_count 101 = .ok (.iaload, 1) := by decide +kernel
theorem dX10_count_102 : decode cX10_count 102 = .ok (.ireturn, 1) := by decide +kernel
theorem dX10_count_103 : decode cX10_count 103 = .ok (.aload_n 0, 1) := by decide +kernel
theorem dX10_count_104 : decode cX10_count 104 = .ok (.getfield 109, 3) := by decide +kernel
theorem dX10_count_107 : decode cX10_count 107 = .ok (.ireturn, 1) := by decide +kernel
theorem dX10_count_108 : decode cX10_count 108 = .ok (.aload_n 0, 1) := by decide +kernel
theorem dX10_count_109 : decode cX10_count 109 = .ok (.getfield 103, 3) := by decide +kernel
theorem dX10_count_112 : decode cX10_count 112 = .ok (.ireturn, 1) := by decide +kernel
theorem dX10_count_113 : decode cX10_count 113 = .ok (.aload_n 0, 1) := by decide +kernel
theorem dX10_count_114 : decode cX10_count 114 = .ok (.getfield 276, 3) := by decide +kernel
theorem dX10_count_117 : decode cX10_count 117 = .ok (.ireturn, 1) := by decide +kernel
theorem dX10_count_118 : decode cX10_count 118 = .ok (.aload_n 0, 1) := by decide +kernel
theorem dX10_count_119 : decode cX10_count 119 = .ok (.getfield 279, 3) := by decide +kernel
theorem dX10_count_122 : decode cX10_count 122 = .ok (.ireturn, 1) := by decide +kernel
theorem dX10_count_123 : decode cX10_count 123 = .ok (.iconst (-1), 1) := by decide +kernel
theorem dX10_count_124 : decode cX10_count 124 = .ok (.ireturn, 1) := by decide +kernel
theorem dJ9_floorDiv_f86c9_0 : decode cJ9_floorDiv_f86c9 0 = .ok (.lload_n 0, 1) := by decide +kernel
theorem dJ9_floorDiv_f86c9_1 : decode cJ9_floorDiv_f86c9 1 = .ok (.lload_n 2, 1) := by decide +kernel
theorem dJ9_floorDiv_f86c9_2 : decode cJ9_floorDiv_f86c9 2 = .ok (.ldiv, 1) := by decide +kernel
theorem dJ9_floorDiv_f86c9_3 : decode cJ9_floorDiv_f86c9 3 = .ok (.lstore 4, 2) := by decide +kernel
theorem dJ9_floorDiv_f86c9_5 : decode cJ9_floorDiv_f86c9 5 = .ok (.lload_n 0, 1) := by decide +kernel
theorem dJ9_floorDiv_f86c9_6 : decode cJ9_floorDiv_f86c9 6 = .ok (.lload_n 2, 1) := by decide +kernel
theorem dJ9_floorDiv_f86c9_7 : decode cJ9_floorDiv_f86c9 7 = .ok (.lxor, 1) := by decide +kernel
theorem dJ9_floorDiv_f86c9_8 : decode cJ9_floorDiv_f86c9 8 = .ok (.lconst 0, 1) := by decide +kernel
theorem dJ9_floorDiv_f86c9_9 : decode cJ9_floorDiv_f86c9 9 = .ok (.lcmp, 1) := by decide +kernel
theorem dJ9_floorDiv_f86c9_10 : decode cJ9_floorDiv_f86c9 10 = .ok (.ifCond .ge 17, 3) := by decide +kernel
theorem dJ9_floorDiv_f86c9_13 : decode cJ9_floorDiv_f86c9 13 = .ok (.lload 4, 2) := by decide +kernel
theorem dJ9_floorDiv_f86c9_15 : decode cJ9_floorDiv_f86c9 15 = .ok (.lload_n 2, 1) := by decide +kernel
theorem dJ9_floorDiv_f86c9_16 : decode cJ9_floorDiv_f86c9 16 = .ok (.lmul, 1) := by decide +kernel
theorem dJ9_floorDiv_f86c9_17 : decode cJ9_floorDiv_f86c9 17 = .ok (.lload_n 0, 1) := by decide +kernel
theorem dJ9_floorDiv_f86c9_18 : decode cJ9_floorDiv_f86c9 18 = .ok (.lcmp, 1) := by decide +kernel
theorem dJ9_floorDiv_f86c9_19 : decode cJ9_floorDiv_f86c9 19 = .ok (.ifCond .eq 8, 3) := by decide +kernel
theorem dJ9_floorDiv_f86c9_22 : decode cJ9_floorDiv_f86c9 22 = .ok (.lload 4, 2) := by decide +kernel
theorem dJ9_floorDiv_f86c9_24 : decode cJ9_floorDiv_f86c9 24 = .ok (.lconst 1, 1) := by decide +kernel
theorem dJ9_floorDiv_f86c9_25 : decode cJ9_floorDiv_f86c9 25 = .ok (.lsub, 1) := by decide +kernel
theorem dJ9_floorDiv_f86c9_26 : decode cJ9_floorDiv_f86c9 26 = .ok (.lreturn, 1) := by decide +kernel
theorem dJ9_floorDiv_f86c9_27 : decode cJ9_floorDiv_f86c9 27 = .ok (.lload 4, 2) := by decide +kernel
theorem dJ9_floorDiv_f86c9_29 : decode cJ9_floorDiv_f86c9 29 = .ok (.lreturn, 1) := by decide +kernel
theorem dJ9_abs_0f7a4_0 : decode cJ9_abs_0f7a4 0 = .ok (.iload_n 0, 1) := by decide +kernel
theorem dJ9_abs_0f7a4_1 : decode cJ9_abs_0f7a4 1 = .ok (.ifCond .ge 8, 3) := by decide +kernel
theorem dJ9_abs_0f7a4_4 : decode cJ9_abs_0f7a4 4 = .ok (.iload_n 0, 1) := by decide +kernel
theorem dJ9_abs_0f7a4_5 : decode cJ9_abs_0f7a4 5 = .ok (.ineg, 1) := by decide +kernel
theorem dJ9_abs_0f7a4_6 : decode cJ9_abs_0f7a4 6 = .ok (.goto 4, 3) := by decide +kernel
theorem dJ9_abs_0f7a4_9 : decode cJ9_abs_0f7a4 9 = .ok (.iload_n 0, 1) := by decide +kernel
theorem dJ9_abs_0f7a4_10 : decode cJ9_abs_0f7a4 10 = .ok (.ireturn, 1) := by decide +kernel
theorem dJ9_max_7cf53_0 : decode cJ9_max_7cf53 0 = .ok (.iload_n 0, 1) := by decide +kernel
theorem dJ9_max_7cf53_1 : decode cJ9_max_7cf53 1 = .ok (.iload_n 1, 1) := by decide +kernel
theorem dJ9_max_7cf53_2 : decode cJ9_max_7cf53 2 = .ok (.if_icmp .lt 7, 3) := by decide +kernel
theorem dJ9_max_7cf53_5 : decode cJ9_max_7cf53 5 = .ok (.iload_n 0, 1) := by decide +kernel
theorem dJ9_max_7cf53_6 : decode cJ9_max_7cf53 6 = .ok (.goto 4, 3) := by decide +kernel
theorem dJ9_max_7cf53_9 : decode cJ9_max_7cf53 9 = .ok (.iload_n 1, 1) := by decide +kernel
theorem dJ9_max_7cf53_10 : decode cJ9_max_7cf53 10 = .ok (.ireturn, 1) := by decide +kernel
theorem dJ9_max_f86c9_0 : decode cJ9_max_f86c9 0 = .ok (.lload_n 0, 1) := by decide +kernel
theorem dJ9_max_f86c9_1 : decode cJ9_max_f86c9 1 = .ok (.lload_n 2, 1) := by decide +kernel
theorem dJ9_max_f86c9_2 : decode cJ9_max_f86c9 2 = .ok (.lcmp, 1) := by decide +kernel
theorem dJ9_max_f86c9_3 : decode cJ9_max_f86c9 3 = .ok (.ifCond .lt 7, 3) := by decide +kernel
theorem dJ9_max_f86c9_6 : decode cJ9_max_f86c9 6 = .ok (.lload_n 0, 1) := by decide +kernel
theorem dJ9_max_f86c9_7 : decode cJ9_max_f86c9 7 = .ok (.goto 4, 3) := by decide +kernel
theorem dJ9_max_f86c9_10 : decode cJ9_max_f86c9 10 = .ok (.lload_n 2, 1) := by decide +kernel
theorem dJ9_max_f86c9_11 : decode cJ9_max_f86c9 11 = .ok (.lreturn, 1) := by decide +kernel
theorem dJ9_min_7cf53_0 : decode cJ9_min_7cf53 0 = .ok (.iload_n 0, 1) := by decide +kernel
theorem dJ9_min_7cf53_1 : decode cJ9_min_7cf53 1 = .ok (.iload_n 1, 1) := by decide +kernel
theorem dJ9_min_7cf53_2 : decode cJ9_min_7cf53 2 = .ok (.if_icmp .gt 7, 3) := by decide +kernel
theorem dJ9_min_7cf53_5 : decode cJ9_min_7cf53 5 = .ok (.iload_n 0, 1) := by decide +kernel
theorem dJ9_min_7cf53_6 : decode cJ9_min_7cf53 6 = .ok (.goto 4, 3) := by decide +kernel
theorem dJ9_min_7cf53_9 : decode cJ9_min_7cf53 9 = .ok (.iload_n 1, 1) := by decide +kernel
theorem dJ9_min_7cf53_10 : decode cJ9_min_7cf53 10 = .ok (.ireturn, 1) := by decide +kernel
theorem dJ9_min_f86c9_0 : decode cJ9_min_f86c9 0 = .ok (.lload_n 0, 1) := by decide +kernel
theorem dJ9_min_f86c9_1 : decode cJ9_min_f86c9 1 = .ok (.lload_n 2, 1) := by decide +kernel
theorem dJ9_min_f86c9_2 : decode cJ9_min_f86c9 2 = .ok (.lcmp, 1) := by decide +kernel
theorem dJ9_min_f86c9_3 : decode cJ9_min_f86c9 3 = .ok (.ifCond .gt 7, 3) := by decide +kernel
theorem dJ9_min_f86c9_6 : decode cJ9_min_f86c9 6 = .ok (.lload_n 0, 1) := by decide +kernel
theorem dJ9_min_f86c9_7 : decode cJ9_min_f86c9 7 = .ok (.goto 4, 3) := by decide +kernel
theorem dJ9_min_f86c9_10 : decode cJ9_min_f86c9 10 = .ok (.lload_n 2, 1) := by decide +kernel
theorem dJ9_min_f86c9_11 : decode cJ9_min_f86c9 11 = .ok (.lreturn, 1) := by decide +kernel
theorem dJ7_fill_53178_0 : decode cJ7_fill_53178 0 = .ok (.iconst 0, 1) := by decide +kernel
theorem dJ7_fill_53178_1 : decode cJ7_fill_53178 1 = .ok (.istore_n 2, 1) := by decide +kernel
theorem dJ7_fill_53178_2 : decode cJ7_fill_53178 2 = .ok (.aload_n 0, 1) := by decide +kernel
theorem dJ7_fill_53178_3 : decode cJ7_fill_53178 3 = .ok (.arraylength, 1) := by decide +kernel
theorem dJ7_fill_53178_4 : decode cJ7_fill_53178 4 = .ok (.istore_n 3, 1) := by decide +kernel
theorem dJ7_fill_53178_5 : decode cJ7_fill_53178 5 = .ok (.iload_n 2, 1) := by decide +kernel
theorem dJ7_fill_53178_6 : decode cJ7_fill_53178 6 = .ok (.iload_n 3, 1) := by decide +kernel
theorem dJ7_fill_53178_7 : decode cJ7_fill_53178 7 = .ok (.if_icmp .ge 13, 3) := by decide +kernel
theorem dJ7_fill_53178_10 : decode cJ7_fill_53178 10 = .ok (.aload_n 0, 1) := by decide +kernel
theorem dJ7_fill_53178_11 : decode cJ7_fill_53178 11 = .ok (.iload_n 2, 1) := by decide +kernel
theorem dJ7_fill_53178_12 : decode cJ7_fill_53178 12 = .ok (.iload_n 1, 1) := by decide +kernel
theorem dJ7_fill_53178_13 : decode cJ7_fill_53178 13 = .ok (.iastore, 1) := by decide +kernel
theorem dJ7_fill_53178_14 : decode cJ7_fill_53178 14 = .ok (.iinc 2 1, 3) := by decide +kernel
theorem dJ7_fill_53178_17 : decode cJ7_fill_53178 17 = .ok (.goto (-12), 3) := by decide +kernel
theorem dJ7_fill_53178_20 : decode cJ7_fill_53178 20 = .ok (.return_, 1) := by decide +kernel
theorem dJ7_copyOf_59c91_0 : decode cJ7_copyOf_59c91 0 = .ok (.iload_n 1, 1) := by decide +kernel
theorem dJ7_copyOf_59c91_1 : decode cJ7_copyOf_59c91 1 = .ok (.aload_n 0, 1) := by decide +kernel
theorem dJ7_copyOf_59c91_2 : decode cJ7_copyOf_59c91 2 = .ok (.arraylength, 1) := by decide +kernel
theorem dJ7_copyOf_59c91_3 : decode cJ7_copyOf_59c91 3 = .ok (.if_icmp .ne 11, 3) := by decide +kernel
theorem dJ7_copyOf_59c91_6 : decode cJ7_copyOf_59c91 6 = .ok (.aload_n 0, 1) := by decide +kernel
theorem dJ7_copyOf_59c91_7 : decode cJ7_copyOf_59c91 7 = .ok (.invokevirtual 316, 3) := by decide +kernel
theorem dJ7_copyOf_59c91_10 : decode cJ7_copyOf_59c91 10 = .ok (.checkcast 317, 3) := by decide +kernel
theorem dJ7_copyOf_59c91_13 : decode cJ7_copyOf_59c91 13 = .ok (.areturn, 1) := by decide +kernel
theorem dJ7_copyOf_59c91_14 : decode cJ7_copyOf_59c91 14 = .ok (.iload_n 1, 1) := by decide +kernel
theorem dJ7_copyOf_59c91_15 : decode cJ7_copyOf_59c91 15 = .ok (.newarray .int, 2) := by decide +kernel
theorem dJ7_copyOf_59c91_17 : decode cJ7_copyOf_59c91 17 = .ok (.astore_n 2, 1) := by decide +kernel
theorem dJ7_copyOf_59c91_18 : decode cJ7_copyOf_59c91 18 = .ok (.aload_n 0, 1) := by decide +kernel
theorem dJ7_copyOf_59c91_19 : decode cJ7_copyOf_59c91 19 = .ok (.iconst 0, 1) := by decide +kernel
theorem dJ7_copyOf_59c91_20 : decode cJ7_copyOf_59c91 20 = .ok (.aload_n 2, 1) := by decide +kernel
theorem dJ7_copyOf_59c91_21 : decode cJ7_copyOf_59c91 21 = .ok (.iconst 0, 1) := by decide +kernel
theorem dJ7_copyOf_59c91_22 : decode cJ7_copyOf_59c91 22 = .ok (.aload_n 0, 1) := by decide +kernel
theorem dJ7_copyOf_59c91_23 : decode cJ7_copyOf_59c91 23 = .ok (.arraylength, 1) := by decide +kernel
theorem dJ7_copyOf_59c91_24 : decode cJ7_copyOf_59c91 24 = .ok (.iload_n 1, 1) := by decide +kernel
theorem dJ7_copyOf_59c91_25 : decode cJ7_copyOf_59c91 25 = .ok (.invokestatic 304, 3) := by decide +kernel
theorem dJ7_copyOf_59c91_28 : decode cJ7_copyOf_59c91 28 = .ok (.invokestatic 150, 3) := by decide +kernel
theorem dJ7_copyOf_59c91_31 : decode cJ7_copyOf_59c91 31 = .ok (.aload_n 2, 1) := by decide +kernel
theorem dJ7_copyOf_59c91_32 : decode cJ7_copyOf_59c91 32 = .ok (.areturn, 1) := by decide +kernel
abbrev vwCl : List vw_C := [(RX0, TX0, 4), (RX1, TX1, 1), (RX2, TX2, 5), (RX3, TX3, 9), (RX4, TX4, 11), (RX5, TX5, 5), (RX6, TX6, 4), (RX7, TX7, 3), (RX8, TX8, 2), (RX9, TX9, 14), (RX10, TX10, 50)]
end
section
/-- the run's own numbers: the classes' ids, their slots, the array classes (byte, int, long, boolean, Law, Log) -/
abbrev gG : Type := (Nat → ClassId) × (Nat → Nat → Nat) × (Nat → ClassId)
abbrev gD (G : gG) : va_G := (G.1, G.2.1)
abbrev gT (G : gG) : List (ClassId × FieldType) := [(G.2.2 0, .byte), (G.2.2 1, .int), (G.2.2 2, .long), (G.2.2 3, .boolean), (G.2.2 4, .object "ScaleHouse$Law"), (G.2.2 5, .object "ScaleHouse$Log")]
/-- words that no method's own list holds -/
def nW : List Cond := [.fieldLinkNest "ScaleHouse" 95 "ScaleHouse$Tape" "size" "I" "ScaleHouse", .fieldLinkNest "ScaleHouse" 128 "ScaleHouse$Register" "size" "I" "ScaleHouse", .fieldLinkNest "ScaleHouse" 183 "ScaleHouse$Ledger" "days" "[I" "ScaleHouse", .fieldLinkNest "ScaleHouse" 186 "ScaleHouse$Ledger" "logs" "[I" "ScaleHouse", .fieldLinkNest "ScaleHouse" 188 "ScaleHouse$Ledger" "coins" "[I" "ScaleHouse", .fieldLinkNest "ScaleHouse" 178 "ScaleHouse$Ledger" "size" "I" "ScaleHouse", .fieldLinkNest "ScaleHouse" 241 "ScaleHouse$Ledger" "allCoins" "I" "ScaleHouse", .fieldLinkNest "ScaleHouse$Pairing" 68 "ScaleHouse$Tally" "ds" "[I" "ScaleHouse", .fieldLinkNest "ScaleHouse$Pairing" 77 "ScaleHouse$Tally" "ls" "[I" "ScaleHouse", .fieldLinkNest "ScaleHouse$Pairing" 55 "ScaleHouse$Tally" "size" "I" "ScaleHouse", .fieldLinkNest "ScaleHouse" 226 "ScaleHouse$Tally" "size" "I" "ScaleHouse", .fieldLinkNest "ScaleHouse" 222 "ScaleHouse$Pairing" "buyer" "LScaleHouse$Tally;" "ScaleHouse", .fieldLinkNest "ScaleHouse" 244 "ScaleHouse$Pairing" "seller" "LScaleHouse$Tally;" "ScaleHouse", .fieldLinkNest "ScaleHouse" 229 "ScaleHouse$Pairing" "sellerOf" "[I" "ScaleHouse", .fieldLinkNest "ScaleHouse" 219 "ScaleHouse$Pairing" "found" "I" "ScaleHouse", .fieldLinkNest "ScaleHouse" 232 "ScaleHouse$Court" "allowance" "I" "ScaleHouse", .fieldLinkNest "ScaleHouse" 247 "ScaleHouse$Court" "stood" "I" "ScaleHouse", .fieldLinkNest "ScaleHouse" 250 "ScaleHouse$Court" "buyerOff" "I" "ScaleHouse", .fieldLinkNest "ScaleHouse" 253 "ScaleHouse$Court" "sellerOff" "I" "ScaleHouse", .fieldLinkNest "ScaleHouse" 135 "ScaleHouse$Law" "tokens" "[I" "ScaleHouse", .fieldLinkNest "ScaleHouse" 169 "ScaleHouse$Log" "owner" "I" "ScaleHouse", .fieldLinkNest "ScaleHouse" 196 "ScaleHouse$Log" "stick" "I" "ScaleHouse", .fieldLinkNest "ScaleHouse" 199 "ScaleHouse$Log" "read" "I" "ScaleHouse", .fieldLinkNest "ScaleHouse" 263 "ScaleHouse$Log" "length" "I" "ScaleHouse", .fieldLinkNest "ScaleHouse" 257 "ScaleHouse$Log" "day" "I" "ScaleHouse", .fieldLinkNest "ScaleHouse" 159 "ScaleHouse$Log" "rot" "I" "ScaleHouse", .fieldLinkNest "ScaleHouse" 162 "ScaleHouse$Log" "bend" "I" "ScaleHouse", .fieldLinkNest "ScaleHouse" 191 "ScaleHouse$Log" "checked" "I" "ScaleHouse", .fieldLinkNest "ScaleHouse" 279 "ScaleHouse$Log" "booked" "I" "ScaleHouse", .methodLinkNest "ScaleHouse" 9 ⟨"ScaleHouse$Tape", "<init>", "()V"⟩ "ScaleHouse", .methodLinkNest "ScaleHouse" 18 ⟨"ScaleHouse$Reckoner", "<init>", "()V"⟩ "ScaleHouse", .methodLinkNest "ScaleHouse" 59 ⟨"ScaleHouse$Ledger", "<init>", "()V"⟩ "ScaleHouse", .methodLinkNest "ScaleHouse" 66 ⟨"ScaleHouse$Pairing", "<init>", "()V"⟩ "ScaleHouse", .methodLinkNest "ScaleHouse$Pairing" 11 ⟨"ScaleHouse$Tally", "<init>", "()V"⟩ "ScaleHouse", .methodLinkNest "ScaleHouse" 73 ⟨"ScaleHouse$Court", "<init>", "()V"⟩ "ScaleHouse", .castable "[I" "java/lang/Cloneable", .arrayOver (.object "ScaleHouse$Law"), .arrayOver (.object "ScaleHouse$Log")]
def gN (w : Cond) : Bool := match w with
  | .fieldLinkNest _ _ _ _ _ _ => true
  | .methodLinkNest _ _ _ _ => true
  | .castable _ _ => true
  | .arrayOver (.object _) => true
  | _ => false
theorem gN_warm {w : Cond} (h : gN w = true) {s U : State} (hW : s.WarmedH U.vm) (z : va_Nw w s) : va_Nw w U := by
  unfold gN at h
  split at h
  · exact va_Nw.warmF hW z
  · exact va_Nw.warmM hW z
  · exact va_Nw.warmC hW z
  · exact va_AO.moved hW.alike z
  · cases h
theorem gN_same {w : Cond} (h : gN w = true) {u U : State} (hv : u.vm = U.vm) (z : va_Nw w u) : va_Nw w U := by
  unfold gN at h
  split at h
  · exact va_Nw.same rfl hv z
  · exact va_Nw.same rfl hv z
  · exact va_Nw.same rfl hv z
  · exact va_AO.moved (by rw [hv]; exact Vm.Alike.refl _) z
  · cases h
theorem nW_ok : ∀ w ∈ nW, gN w = true := by decide +kernel
def gK (G : gG) (U : State) : Prop := va_K (gD G) vwCl (gT G) U ∧ ∀ w ∈ nW, va_Nw w U
theorem gK.warm {G : gG} {s U : State} (hW : s.WarmedH U.vm) (h : gK G s) : gK G U := ⟨va_K.moved hW.alike h.1, fun w hw => gN_warm (nW_ok w hw) hW (h.2 w hw)⟩
theorem gK.calling {G : gG} {U : State} {g : JFrame} {mk : MethodId} {a : Array Value} (h : gK G U) : gK G (U.calling g mk a) := ⟨va_K.moved (u := U) (U := U.calling g mk a) (Vm.Alike.refl U.vm) h.1, fun w hw => gN_same (u := U) (nW_ok w hw) rfl (h.2 w hw)⟩
/-- the world in the middle of a method -/
def gS (G : gG) (A : Nat → Prop) (s : State) (ws : va_W) (H : Heap) (locs : List Loc) : Prop := va_P (gD G) vwCl ws H ∧ va_D A ws ∧ va_S A s.heap H locs
/-- what stays while a method runs -/
def gC (p : Program) (m : MethodId) (c : Code) (cc : ByteArray) (nL : Nat) (s : State) (args : Array Value) (Ts : List Cond) (own : String) (G : gG) (A : Nat → Prop) : Prop := (CallFix p m c cc nL s args Ts own ∧ gK G s) ∧ ∀ q, s.heap.size ≤ q → A q
def gQ (G : gG) (A : Nat → Prop) (ws : va_W) (t : State) : Prop := va_P (gD G) vwCl ws t.heap ∧ va_D A ws
def gB (G : gG) (av : List Value) (ws : va_W) (sz : Nat) : Array Value → State → Prop := va_Pc av (fun U => U.heap.size = sz ∧ va_P (gD G) vwCl ws U.heap ∧ va_D (fun _ => True) ws ∧ gK G U)
theorem gB_blind {G : gG} {av : List Value} {ws : va_W} {sz : Nat} : FrameBlind (gB G av ws sz) := fun a U g mk q => by
  obtain ⟨q0, q1, q2, q3, q4⟩ := q
  exact ⟨q0, q1, q2, q3, q4.calling⟩
-- contracts
abbrev gR (fr lo mc ms : Nat) : Room := { frames := fr, cells := mc, slots := ms, locals := lo }
def cM (l : Launch) (y : MethodName) (wsC : List Cond) (fr lo mc ms : Nat) (G : gG) (av : List Value) (ws : va_W) (Qc : (Nat → Prop) → Array Value → State → Outcome → State → Prop) : Prop :=
  ∀ sz : Nat, Met l y wsC (gR fr lo mc ms) (gB G av ws sz) (Qc (va_A ws sz)) mc ms (va_A ws sz)
def qI (G : gG) {S : Type} (post : Int32 → S → Prop) (ws' : S → va_W) (A : Nat → Prop) : Array Value → State → Outcome → State → Prop := va_Qi post (fun u => gQ G A (ws' u)) A
def qL (G : gG) {S : Type} (post : Int64 → S → Prop) (ws' : S → va_W) (A : Nat → Prop) : Array Value → State → Outcome → State → Prop := va_Ql post (fun u => gQ G A (ws' u)) A
def qV (G : gG) {S : Type} (post : S → Prop) (ws' : S → va_W) (A : Nat → Prop) : Array Value → State → Outcome → State → Prop := va_Qv post (fun u => gQ G A (ws' u)) A
def qR (G : gG) {S : Type} (post : S → Prop) (ws' : S → Nat → va_W) (A : Nat → Prop) : Array Value → State → Outcome → State → Prop := va_Qr post (fun u a => gQ G A (ws' u a)) A
-- worlds by another order
theorem gP_perm {D : va_G} {cl : List vw_C} {ws ws' : va_W} {H : Heap} (hp : ws.Perm ws') (h : va_P D cl ws H) : va_P D cl ws' H := by
  intro k q hk
  obtain ⟨i, hi⟩ := List.getElem?_of_mem (hp.mem_iff.mpr (List.mem_of_getElem? hk))
  exact h i q hi
theorem gD_iff {ws : va_W} : (∀ (i j : Nat) (p q : Nat × va_E), ws[i]? = some p → ws[j]? = some q → p.1 = q.1 → i = j) ↔ ws.Pairwise (fun p q => p.1 ≠ q.1) := by
  rw [List.pairwise_iff_getElem]
  constructor
  · intro h i j hi hj hij he
    exact absurd (h i j _ _ (List.getElem?_eq_getElem hi) (List.getElem?_eq_getElem hj) he) (Nat.ne_of_lt hij)
  · intro h i j p q hi hj he
    obtain ⟨li, ei⟩ := List.getElem?_eq_some_iff.mp hi
    obtain ⟨lj, ej⟩ := List.getElem?_eq_some_iff.mp hj
    rcases Nat.lt_trichotomy i j with hl | hl | hl
    · exact absurd (by rw [ei, ej]; exact he) (h i j li lj hl)
    · exact hl
    · exact absurd (by rw [ei, ej]; exact he.symm) (h j i lj li hl)
theorem gD_perm {A : Nat → Prop} {ws ws' : va_W} (hp : ws.Perm ws') (h : va_D A ws) : va_D A ws' := by
  refine ⟨gD_iff.mpr ((hp.pairwise_iff (fun h => Ne.symm h)).mp (gD_iff.mp h.1)), fun k q hk => ?_⟩
  obtain ⟨i, hi⟩ := List.getElem?_of_mem (hp.mem_iff.mpr (List.mem_of_getElem? hk))
  exact h.2 i q hi
theorem gS.perm {G : gG} {A : Nat → Prop} {s : State} {ws ws' : va_W} {H : Heap} {locs : List Loc} (h : gS G A s ws H locs) (hp : ws.Perm ws') : gS G A s ws' H locs := ⟨gP_perm hp h.1, gD_perm hp h.2.1, h.2.2⟩
theorem pm {ws ws' : va_W} (n : Nat) (hn : ws.length = n) (is : List Nat) (hp : is.Perm (List.range n)) (h : is.map (fun i => ws[i]?) = ws'.map some) : ws.Perm ws' := by
  subst hn
  have h1 : (List.range ws.length).map (fun i => ws[i]?) = ws.map some := by
    apply List.ext_getElem?
    intro i
    rw [List.getElem?_map, List.getElem?_map]
    by_cases hi : i < ws.length
    · rw [List.getElem?_range hi, List.getElem?_eq_getElem hi]; simp [hi]
    · rw [List.getElem?_eq_none (by simpa using Nat.le_of_not_lt hi), List.getElem?_eq_none (Nat.le_of_not_lt hi)]; rfl
  have h2 := hp.map (fun i => ws[i]?)
  rw [h, h1] at h2
  have h3 := h2.filterMap id
  rw [List.filterMap_map, List.filterMap_map] at h3
  have e : ∀ w : va_W, List.filterMap (id ∘ some) w = w := fun w => by
    induction w with
    | nil => rfl
    | cons a t ih => simp [Function.comp_def]
  rw [e, e] at h3
  exact h3.symm
theorem pmA {ws ws' pl : va_W} (h : ws.Perm ws') : (ws ++ pl).Perm (ws' ++ pl) := h.append_right pl
theorem pmB {ws wc wr pl : va_W} (h : ws.Perm (wc ++ wr)) : (ws ++ pl).Perm (wc ++ (wr ++ pl)) := by
  have := h.append_right pl
  rwa [List.append_assoc] at this

section GR
variable {p : Program} {l : Launch} {e : Env} {R : Room} {s : State} {m : MethodId} {args : Array Value} {below : List Frame} {meth : Method} {c : Code} {H : Heap} {locs : List Loc} {cells slots : Nat} {Q : State → Prop} {cc : ByteArray} {nL : Nat} {Ts : List Cond} {own : String} {G : gG} {A : Nat → Prop} {ws : va_W} {pc : Nat} {ls : Array Slot} {rest : List Value}
theorem r_get (C : gC p m c cc nL s args Ts own G A) (h : gS G A s ws H locs) (q0 : Nat) {a ci : Nat} {fs : List Value} (he : ws[q0]? = some (a, .inr (ci, fs))) {Cn : String} {T : u_T} {N : Nat} (hc : vwCl[ci]? = some (Cn, T, N)) (hin : ∀ w ∈ u_ws Cn T N, w ∈ Ts) (k : Nat) (hk : k < N) {index : Nat} {ref : String} (hlink : Cond.fieldLink own index ref (T k).2.1 (T k).2.2.1 ∈ Ts) (hsame : (T k).1 = ref) {v : Value} (hv : fs[k]? = some v) (hdg : decode cc pc = .ok (.getfield index, 3)) (kk : W p l e R s m args below meth c H locs cells slots Q (F0 m (pc + 3) ls (v :: rest))) : W p l e R s m args below meth c H locs cells slots Q (F0 m pc ls (.ref a :: rest)) :=
  va_get C.1.1.1 C.1.1.2.1 C.1.1.2.2.2.2 hin C.1.1.2.2.2.1 C.1.2.1 h.1 q0 he hc k hk (C.1.1.2.2.2.2 _ hlink) (fun _ h9 => hsame ▸ h9) hv hdg kk
theorem r_getN (C : gC p m c cc nL s args Ts own G A) (h : gS G A s ws H locs) (q0 : Nat) {a ci : Nat} {fs : List Value} (he : ws[q0]? = some (a, .inr (ci, fs))) {Cn : String} {T : u_T} {N : Nat} (hc : vwCl[ci]? = some (Cn, T, N)) (hin : ∀ w ∈ u_ws Cn T N, w ∈ Ts) (k : Nat) (hk : k < N) {index : Nat} {ref host : String} (hlink : Cond.fieldLinkNest own index ref (T k).2.1 (T k).2.2.1 host ∈ nW) (hsame : (T k).1 = ref) {v : Value} (hv : fs[k]? = some v) (hdg : decode cc pc = .ok (.getfield index, 3)) (kk : W p l e R s m args below meth c H locs cells slots Q (F0 m (pc + 3) ls (v :: rest))) : W p l e R s m args below meth c H locs cells slots Q (F0 m pc ls (.ref a :: rest)) :=
  va_getN C.1.1.1 C.1.1.2.1 C.1.1.2.2.2.2 hin C.1.1.2.2.2.1 C.1.2.1 h.1 q0 he hc k hk (va_Nw.use rfl (C.1.2.2 _ hlink)) (fun _ h9 => hsame ▸ h9) hv hdg kk
theorem r_put (C : gC p m c cc nL s args Ts own G A) (h : gS G A s ws H locs) (q0 : Nat) {a ci : Nat} {fs : List Value} (he : ws[q0]? = some (a, .inr (ci, fs))) {Cn : String} {T : u_T} {N : Nat} (hc : vwCl[ci]? = some (Cn, T, N)) (hin : ∀ w ∈ u_ws Cn T N, w ∈ Ts) (ty0 : Nat → FieldType) (hty : ∀ k, k < N → parseFieldDescriptor (T k).2.2.1 = some (ty0 k)) (hnm : ∀ a, a < N → ∀ b, b < N → a ≠ b → (T a).2.1 ≠ (T b).2.1) (k : Nat) (hk : k < N) {index : Nat} {ref  : String} (hlink : Cond.fieldLink own index ref (T k).2.1 (T k).2.2.1 ∈ Ts) (hsame : (T k).1 = ref) (hfin : (T k).2.2.2 = false) {v : Value} (hn : narrow (ty0 k) v = v) (hfit : fits (ty0 k) v = true) (hl : k < fs.length) (hdg : decode cc pc = .ok (.putfield index, 3)) (kk : ∀ (H1 : Heap) (locs1 : List Loc), gS G A s (ws.set q0 (a, .inr (ci, fs.set k v))) H1 locs1 → W p l e R s m args below meth c H1 locs1 cells slots Q (F0 m (pc + 3) ls rest)) : W p l e R s m args below meth c H locs cells slots Q (F0 m pc ls (v :: .ref a :: rest)) :=
  va_put C.1.1.1 C.1.1.2.1 C.1.1.2.2.2.2 hin ty0 hty hnm C.1.1.2.2.2.1 C.1.2.1 h.1 h.2.1 h.2.2 q0 he hc k hk (C.1.1.2.2.2.2 _ hlink) (fun _ h9 => hsame ▸ h9) hfin (hty k hk) hn hfit hl hdg (fun H1 locs1 a1 a2 a3 => kk H1 locs1 ⟨a1, a2, a3⟩)
theorem r_putN (C : gC p m c cc nL s args Ts own G A) (h : gS G A s ws H locs) (q0 : Nat) {a ci : Nat} {fs : List Value} (he : ws[q0]? = some (a, .inr (ci, fs))) {Cn : String} {T : u_T} {N : Nat} (hc : vwCl[ci]? = some (Cn, T, N)) (hin : ∀ w ∈ u_ws Cn T N, w ∈ Ts) (ty0 : Nat → FieldType) (hty : ∀ k, k < N → parseFieldDescriptor (T k).2.2.1 = some (ty0 k)) (hnm : ∀ a, a < N → ∀ b, b < N → a ≠ b → (T a).2.1 ≠ (T b).2.1) (k : Nat) (hk : k < N) {index : Nat} {ref host : String} (hlink : Cond.fieldLinkNest own index ref (T k).2.1 (T k).2.2.1 host ∈ nW) (hsame : (T k).1 = ref) (hfin : (T k).2.2.2 = false) {v : Value} (hn : narrow (ty0 k) v = v) (hfit : fits (ty0 k) v = true) (hl : k < fs.length) (hdg : decode cc pc = .ok (.putfield index, 3)) (kk : ∀ (H1 : Heap) (locs1 : List Loc), gS G A s (ws.set q0 (a, .inr (ci, fs.set k v))) H1 locs1 → W p l e R s m args below meth c H1 locs1 cells slots Q (F0 m (pc + 3) ls rest)) : W p l e R s m args below meth c H locs cells slots Q (F0 m pc ls (v :: .ref a :: rest)) :=
  va_putN C.1.1.1 C.1.1.2.1 C.1.1.2.2.2.2 hin ty0 hty hnm C.1.1.2.2.2.1 C.1.2.1 h.1 h.2.1 h.2.2 q0 he hc k hk (va_Nw.use rfl (C.1.2.2 _ hlink)) (fun _ h9 => hsame ▸ h9) hfin (hty k hk) hn hfit hl hdg (fun H1 locs1 a1 a2 a3 => kk H1 locs1 ⟨a1, a2, a3⟩)
theorem r_putF (C : gC p m c cc nL s args Ts own G A) (h : gS G A s ws H locs) (q0 : Nat) {a ci : Nat} {fs : List Value} (he : ws[q0]? = some (a, .inr (ci, fs))) {Cn : String} {T : u_T} {N : Nat} (hc : vwCl[ci]? = some (Cn, T, N)) (hin : ∀ w ∈ u_ws Cn T N, w ∈ Ts) (ty0 : Nat → FieldType) (hty : ∀ k, k < N → parseFieldDescriptor (T k).2.2.1 = some (ty0 k)) (hnm : ∀ a, a < N → ∀ b, b < N → a ≠ b → (T a).2.1 ≠ (T b).2.1) (k : Nat) (hk : k < N) {index : Nat} {ref  : String} (hlink : Cond.fieldLink own index ref (T k).2.1 (T k).2.2.1 ∈ Ts) (hsame : (T k).1 = ref) (hfin : (T k).2.2.2 = true) (hin2 : meth.name = "<init>") (hdecl : (T k).1 = own) {v : Value} (hn : narrow (ty0 k) v = v) (hfit : fits (ty0 k) v = true) (hl : k < fs.length) (hdg : decode cc pc = .ok (.putfield index, 3)) (kk : ∀ (H1 : Heap) (locs1 : List Loc), gS G A s (ws.set q0 (a, .inr (ci, fs.set k v))) H1 locs1 → W p l e R s m args below meth c H1 locs1 cells slots Q (F0 m (pc + 3) ls rest)) : W p l e R s m args below meth c H locs cells slots Q (F0 m pc ls (v :: .ref a :: rest)) :=
  va_putF C.1.1.1 C.1.1.2.1 C.1.1.2.2.2.2 hin ty0 hty hnm C.1.1.2.2.2.1 C.1.2.1 h.1 h.2.1 h.2.2 q0 he hc k hk (C.1.1.2.2.2.2 _ hlink) (fun _ h9 => hsame ▸ h9) hfin hin2 hdecl (hty k hk) hn hfit hl hdg (fun H1 locs1 a1 a2 a3 => kk H1 locs1 ⟨a1, a2, a3⟩)
theorem r_bald (C : gC p m c cc nL s args Ts own G A) (h : gS G A s ws H locs) (q0 : Nat) {a n : Nat} {f : Nat → Int32} (ha : ws[q0]? = some (a, .inl (G.2.2 0, n, .inl f))) {i : Int32} (hin : vp_in i n) (hdg : decode cc pc = .ok (.baload, 1)) (kk : W p l e R s m args below meth c H locs cells slots Q (F0 m (pc + 1) ls (.int (f i.toNatClampNeg) :: rest))) : W p l e R s m args below meth c H locs cells slots Q (F0 m pc ls (.int i :: .ref a :: rest)) :=
  va_bald C.1.1.1 C.1.1.2.1 C.1.2.1 h.1 q0 0 ha rfl hin hdg kk
theorem r_bast (C : gC p m c cc nL s args Ts own G A) (h : gS G A s ws H locs) (q0 : Nat) {a n : Nat} {f : Nat → Int32} (ha : ws[q0]? = some (a, .inl (G.2.2 0, n, .inl f))) {i : Int32} {x : Int32} (hin : vp_in i n) (hdg : decode cc pc = .ok (.bastore, 1)) (kk : ∀ (H1 : Heap) (locs1 : List Loc), gS G A s (ws.set q0 (a, .inl (G.2.2 0, n, .inl (upd f i.toNatClampNeg (vp_nar .byte x))))) H1 locs1 → W p l e R s m args below meth c H1 locs1 cells slots Q (F0 m (pc + 1) ls rest)) : W p l e R s m args below meth c H locs cells slots Q (F0 m pc ls (.int x :: .int i :: .ref a :: rest)) :=
  va_bast C.1.1.1 C.1.1.2.1 C.1.2.1 h.1 h.2.1 h.2.2 q0 0 ha rfl hin hdg (fun H1 locs1 a1 a2 a3 => kk H1 locs1 ⟨a1, a2, a3⟩)
theorem r_iald (C : gC p m c cc nL s args Ts own G A) (h : gS G A s ws H locs) (q0 : Nat) {a n : Nat} {f : Nat → Int32} (ha : ws[q0]? = some (a, .inl (G.2.2 1, n, .inl f))) {i : Int32} (hin : vp_in i n) (hdg : decode cc pc = .ok (.iaload, 1)) (kk : W p l e R s m args below meth c H locs cells slots Q (F0 m (pc + 1) ls (.int (f i.toNatClampNeg) :: rest))) : W p l e R s m args below meth c H locs cells slots Q (F0 m pc ls (.int i :: .ref a :: rest)) :=
  va_iald C.1.1.1 C.1.1.2.1 C.1.2.1 h.1 q0 1 ha rfl hin hdg kk
theorem r_iast (C : gC p m c cc nL s args Ts own G A) (h : gS G A s ws H locs) (q0 : Nat) {a n : Nat} {f : Nat → Int32} (ha : ws[q0]? = some (a, .inl (G.2.2 1, n, .inl f))) {i : Int32} {x : Int32} (hin : vp_in i n) (hdg : decode cc pc = .ok (.iastore, 1)) (kk : ∀ (H1 : Heap) (locs1 : List Loc), gS G A s (ws.set q0 (a, .inl (G.2.2 1, n, .inl (upd f i.toNatClampNeg x)))) H1 locs1 → W p l e R s m args below meth c H1 locs1 cells slots Q (F0 m (pc + 1) ls rest)) : W p l e R s m args below meth c H locs cells slots Q (F0 m pc ls (.int x :: .int i :: .ref a :: rest)) :=
  va_iast C.1.1.1 C.1.1.2.1 C.1.2.1 h.1 h.2.1 h.2.2 q0 1 ha rfl hin hdg (fun H1 locs1 a1 a2 a3 => kk H1 locs1 ⟨a1, a2, a3⟩)
theorem r_lald (C : gC p m c cc nL s args Ts own G A) (h : gS G A s ws H locs) (q0 : Nat) {a n : Nat} {f : Nat → Int64} (ha : ws[q0]? = some (a, .inl (G.2.2 2, n, .inr (.inl f)))) {i : Int32} (hin : vp_in i n) (hdg : decode cc pc = .ok (.laload, 1)) (kk : W p l e R s m args below meth c H locs cells slots Q (F0 m (pc + 1) ls (.long (f i.toNatClampNeg) :: rest))) : W p l e R s m args below meth c H locs cells slots Q (F0 m pc ls (.int i :: .ref a :: rest)) :=
  va_lald C.1.1.1 C.1.1.2.1 C.1.2.1 h.1 q0 2 ha rfl hin hdg kk
theorem r_last (C : gC p m c cc nL s args Ts own G A) (h : gS G A s ws H locs) (q0 : Nat) {a n : Nat} {f : Nat → Int64} (ha : ws[q0]? = some (a, .inl (G.2.2 2, n, .inr (.inl f)))) {i : Int32} {x : Int64} (hin : vp_in i n) (hdg : decode cc pc = .ok (.lastore, 1)) (kk : ∀ (H1 : Heap) (locs1 : List Loc), gS G A s (ws.set q0 (a, .inl (G.2.2 2, n, .inr (.inl (vp_updL f i.toNatClampNeg x))))) H1 locs1 → W p l e R s m args below meth c H1 locs1 cells slots Q (F0 m (pc + 1) ls rest)) : W p l e R s m args below meth c H locs cells slots Q (F0 m pc ls (.long x :: .int i :: .ref a :: rest)) :=
  va_last C.1.1.1 C.1.1.2.1 C.1.2.1 h.1 h.2.1 h.2.2 q0 2 ha rfl hin hdg (fun H1 locs1 a1 a2 a3 => kk H1 locs1 ⟨a1, a2, a3⟩)
theorem r_zald (C : gC p m c cc nL s args Ts own G A) (h : gS G A s ws H locs) (q0 : Nat) {a n : Nat} {f : Nat → Int32} (ha : ws[q0]? = some (a, .inl (G.2.2 3, n, .inl f))) {i : Int32} (hin : vp_in i n) (hdg : decode cc pc = .ok (.baload, 1)) (kk : W p l e R s m args below meth c H locs cells slots Q (F0 m (pc + 1) ls (.int (f i.toNatClampNeg) :: rest))) : W p l e R s m args below meth c H locs cells slots Q (F0 m pc ls (.int i :: .ref a :: rest)) :=
  va_zald C.1.1.1 C.1.1.2.1 C.1.2.1 h.1 q0 3 ha rfl hin hdg kk
theorem r_zast (C : gC p m c cc nL s args Ts own G A) (h : gS G A s ws H locs) (q0 : Nat) {a n : Nat} {f : Nat → Int32} (ha : ws[q0]? = some (a, .inl (G.2.2 3, n, .inl f))) {i : Int32} {x : Int32} (hin : vp_in i n) (hdg : decode cc pc = .ok (.bastore, 1)) (kk : ∀ (H1 : Heap) (locs1 : List Loc), gS G A s (ws.set q0 (a, .inl (G.2.2 3, n, .inl (upd f i.toNatClampNeg (vp_nar .boolean x))))) H1 locs1 → W p l e R s m args below meth c H1 locs1 cells slots Q (F0 m (pc + 1) ls rest)) : W p l e R s m args below meth c H locs cells slots Q (F0 m pc ls (.int x :: .int i :: .ref a :: rest)) :=
  va_zast C.1.1.1 C.1.1.2.1 C.1.2.1 h.1 h.2.1 h.2.2 q0 3 ha rfl hin hdg (fun H1 locs1 a1 a2 a3 => kk H1 locs1 ⟨a1, a2, a3⟩)
theorem r_alen (C : gC p m c cc nL s args Ts own G A) (h : gS G A s ws H locs) (q0 t0 : Nat) {a : Nat} {cA : ClassId} {x : vp_A} (ha : ws[q0]? = some (a, .inl (cA, x))) {ty : FieldType} (ht : (gT G)[t0]? = some (cA, ty)) (hdg : decode cc pc = .ok (.arraylength, 1)) (kk : W p l e R s m args below meth c H locs cells slots Q (F0 m (pc + 1) ls (.int (nI x.1) :: rest))) : W p l e R s m args below meth c H locs cells slots Q (F0 m pc ls (.ref a :: rest)) :=
  va_alen C.1.1.1 C.1.1.2.1 C.1.2.1 h.1 q0 t0 ha ht rfl hdg kk
theorem r_newa (C : gC p m c cc nL s args Ts own G A) (h : gS G A s ws H locs) {atype : ArrayType} {ty : FieldType} (hty : newarray.typeOf atype = ty) (t0 : Nat) {cA : ClassId} (ht : (gT G)[t0]? = some (cA, ty)) (hnm : va_RA s cA ty → s.vm.findClass ("[" ++ ty.toString) = some cA) (harr : Cond.arrayClass ty ∈ Ts) {n : Int32} {N' : Nat} {a0 : vp_A} (ha : ∀ cA : ClassId, vp_cell cA a0 = arrV cA N' (fun _ => defaultValue ty)) (hn : ¬ n < 0) (hN : n.toNatClampNeg = N') (hbytes : N' * componentBytes ty ≤ 536870912) (hcells : cells + 1 ≤ R.cells) (hslots : slots + N' ≤ R.slots) (hdg : decode cc pc = .ok (.newarray atype, 2))
    (kk : ∀ (q : Nat) (H1 : Heap), gS G A s (ws ++ [(q, .inl (cA, a0))]) H1 locs → W p l e R s m args below meth c H1 locs (cells + 1) (slots + N') Q (F0 m (pc + 2) ls (.ref q :: rest))) : W p l e R s m args below meth c H locs cells slots Q (F0 m pc ls (.int n :: rest)) :=
  by
  have h0 := (C.1.2.1.2 t0 _ ht).2
  subst hty
  refine va_newa C.1.1.1 C.1.1.2.1 (C.1.1.2.2.2.2 _ harr) rfl C.1.2.1 h.1 h.2.1 h.2.2 C.2 ha hn hN hbytes hcells hslots hdg (fun q cB H1 b1 b2 b3 b4 => ?_)
  have h1 := (b1.2 6 (cB, newarray.typeOf atype) rfl).2
  have e : cB = cA := by
    have x0 := hnm h0
    have x1 : s.vm.findClass ("[" ++ (newarray.typeOf atype).toString) = some cB := by cases atype <;> exact h1
    exact Option.some.inj (x1.symm.trans x0)
  subst e
  exact kk q H1 ⟨b2, b3, b4⟩
theorem r_new (C : gC p m c cc nL s args Ts own G A) (h : gS G A s ws H locs) {Cn : String} {T : u_T} {N ci index : Nat} (hin : ∀ w ∈ u_ws Cn T N, w ∈ Ts) (ty : Nat → FieldType) (hty : ∀ k, k < N → parseFieldDescriptor (T k).2.2.1 = some (ty k)) (hcl : Cond.classLink own index Cn ∈ Ts) (hinst : Cond.instantiable Cn N ∈ Ts) (hini : Cond.initialized Cn ∈ Ts) (hc : vwCl[ci]? = some (Cn, T, N)) {fs : List Value} (hfs : ∀ j, j < N → defaultValue (ty j) = vp_V fs j) (hcells : cells + 1 ≤ R.cells) (hslots : slots + N ≤ R.slots) (hdg : decode cc pc = .ok (.new index, 3))
    (kk : ∀ (q : Nat) (H1 : Heap), gS G A s (ws ++ [(q, .inr (ci, fs))]) H1 locs → W p l e R s m args below meth c H1 locs (cells + 1) (slots + N) Q (F0 m (pc + 3) ls (.ref q :: rest))) : W p l e R s m args below meth c H locs cells slots Q (F0 m pc ls rest) :=
  va_new C.1.1.1 C.1.1.2.1 C.1.1.2.2.2.2 hin ty hty C.1.1.2.2.2.1 (C.1.1.2.2.2.2 _ hcl) (C.1.1.2.2.2.2 _ hinst) (C.1.1.2.2.2.2 _ hini) C.1.2.1 h.1 h.2.1 h.2.2 C.2 hc hfs hcells hslots hdg (fun q H1 b1 b2 b3 => kk q H1 ⟨b1, b2, b3⟩)
theorem r_ldc (C : gC p m c cc nL s args Ts own G A) {index : Nat} {v : Int32} (hk : Cond.constant own index v ∈ Ts) (hdg : decode cc pc = .ok (.ldc index, 2)) (kk : W p l e R s m args below meth c H locs cells slots Q (F0 m (pc + 2) ls (.int v :: rest))) : W p l e R s m args below meth c H locs cells slots Q (F0 m pc ls rest) :=
  lv_ldc C.1.1.1 C.1.1.2.1 C.1.1.2.2.2.1 (C.1.1.2.2.2.2 _ hk) hdg kk
theorem r_ldc2 (C : gC p m c cc nL s args Ts own G A) {index : Nat} {v : Int64} (hk : Cond.constantLong own index v ∈ Ts) (hdg : decode cc pc = .ok (.ldc2_w index, 3)) (kk : W p l e R s m args below meth c H locs cells slots Q (F0 m (pc + 3) ls (.long v :: rest))) : W p l e R s m args below meth c H locs cells slots Q (F0 m pc ls rest) :=
  lv_ldc2 C.1.1.1 C.1.1.2.1 C.1.1.2.2.2.1 (C.1.1.2.2.2.2 _ hk) hdg kk
theorem r_objInit (C : gC p m c cc nL s args Ts own G A) {idx : Nat} (h1 : Cond.methodLink own idx objectInit ∈ Ts) (h2 : Cond.instanceMethod objectInit ∈ Ts) (h3 : Cond.code objectInit ⟨#[0xb1]⟩ 1 none ∈ Ts) {a : Nat} (hsz : ls.size = nL) (hdg : decode cc pc = .ok (.invokespecial idx, 3)) (hfr : 1 ≤ R.frames) (hlo : 2 * (F0 m pc ls (.ref a :: rest)).monitorRoom + (rest.map fun v => v.category).sum + 12 ≤ R.locals) (kk : W p l e R s m args below meth c H locs cells slots Q (F0 m (pc + 3) ls rest)) : W p l e R s m args below meth c H locs cells slots Q (F0 m pc ls (.ref a :: rest)) :=
  W.objInit C.1.1.1 C.1.1.2.1 C.1.1.2.2.2.1 (C.1.1.2.2.2.2 _ h1) (C.1.1.2.2.2.2 _ h2) (C.1.1.2.2.2.2 _ h3) rfl (by rw [C.1.1.2.2.1]; exact hsz) rfl hdg hfr hlo kk
theorem r_iret (C : gC p m c cc nL s args Ts own G A) (h : gS G A s ws H locs) {S : Type} {post : Int32 → S → Prop} {ws' : S → va_W} {mc ms : Nat} (hr : meth.sig.returnType = some .int) (hlk : meth.locks = false) (hc : cells ≤ mc) (hs : slots ≤ ms) {v : Int32} (u : S) (hp : post v u) (hw : ws = ws' u) (hdg : decode cc pc = .ok (.ireturn, 1)) : W p l e R s m args below meth c H locs cells slots (MQ below (qI G post ws' A) args s mc ms A) (F0 m pc ls [.int v]) :=
  W.widen hc hs (W.iret C.1.1.1 C.1.1.2.1 hr (fun t ht hW => ⟨⟨v, u, rfl, hp, by rw [ht, ← hw]; exact h.1, by rw [← hw]; exact h.2.1⟩, h.2.2.F ht⟩) h.2.2.2.2 hdg hlk)
theorem r_lret (C : gC p m c cc nL s args Ts own G A) (h : gS G A s ws H locs) {S : Type} {post : Int64 → S → Prop} {ws' : S → va_W} {mc ms : Nat} (hr : meth.sig.returnType = some .long) (hlk : meth.locks = false) (hc : cells ≤ mc) (hs : slots ≤ ms) {v : Int64} (u : S) (hp : post v u) (hw : ws = ws' u) (hdg : decode cc pc = .ok (.lreturn, 1)) : W p l e R s m args below meth c H locs cells slots (MQ below (qL G post ws' A) args s mc ms A) (F0 m pc ls [.long v]) :=
  W.widen hc hs (W.lret C.1.1.1 C.1.1.2.1 hr (fun t ht hW => ⟨⟨v, u, rfl, hp, by rw [ht, ← hw]; exact h.1, by rw [← hw]; exact h.2.1⟩, h.2.2.F ht⟩) h.2.2.2.2 hdg hlk)
theorem r_vret (C : gC p m c cc nL s args Ts own G A) (h : gS G A s ws H locs) {S : Type} {post : S → Prop} {ws' : S → va_W} {mc ms : Nat} (hr : meth.sig.returnType = none) (hlk : meth.locks = false) (hc : cells ≤ mc) (hs : slots ≤ ms) (u : S) (hp : post u) (hw : ws = ws' u) (hdg : decode cc pc = .ok (.return_, 1)) : W p l e R s m args below meth c H locs cells slots (MQ below (qV G post ws' A) args s mc ms A) (F0 m pc ls []) :=
  W.widen hc hs (W.vret C.1.1.1 C.1.1.2.1 hr (fun t ht hW => ⟨⟨u, rfl, hp, by rw [ht, ← hw]; exact h.1, by rw [← hw]; exact h.2.1⟩, h.2.2.F ht⟩) h.2.2.2.2 hdg hlk)
theorem r_zret (C : gC p m c cc nL s args Ts own G A) (h : gS G A s ws H locs) {S : Type} {post : Int32 → S → Prop} {ws' : S → va_W} {mc ms : Nat} (hr : meth.sig.returnType = some .boolean) (hlk : meth.locks = false) (hc : cells ≤ mc) (hs : slots ≤ ms) {v : Int32} (hv : v = 0 ∨ v = 1) (u : S) (hp : post v u) (hw : ws = ws' u) (hdg : decode cc pc = .ok (.ireturn, 1)) : W p l e R s m args below meth c H locs cells slots (MQ below (qI G post ws' A) args s mc ms A) (F0 m pc ls [.int v]) :=
  W.widen hc hs (W.zret C.1.1.1 C.1.1.2.1 hr (by rcases hv with rfl | rfl <;> rfl) (fun t ht hW => ⟨⟨v, u, rfl, hp, by rw [ht, ← hw]; exact h.1, by rw [← hw]; exact h.2.1⟩, h.2.2.F ht⟩) h.2.2.2.2 hdg hlk)
theorem r_aret (C : gC p m c cc nL s args Ts own G A) (h : gS G A s ws H locs) {S : Type} {post : S → Prop} {ws' : S → Nat → va_W} {mc ms : Nat} {rt : FieldType} (hr : meth.sig.returnType = some rt) (hrt : (∃ n, rt = .object n) ∨ ∃ t, rt = .array t) (hlk : meth.locks = false) (hc : cells ≤ mc) (hs : slots ≤ ms) {v : Nat} (u : S) (hp : post u) (hw : ws = ws' u v) (hdg : decode cc pc = .ok (.areturn, 1)) : W p l e R s m args below meth c H locs cells slots (MQ below (qR G post ws' A) args s mc ms A) (F0 m pc ls [.ref v]) :=
  W.widen hc hs (W.aret C.1.1.1 C.1.1.2.1 hr hrt (Or.inr ⟨v, rfl⟩) (fun t ht hW => ⟨⟨u, v, rfl, hp, by rw [ht, ← hw]; exact h.1, by rw [← hw]; exact h.2.1⟩, h.2.2.F ht⟩) h.2.2.2.2 hdg hlk)
theorem gS.cut {wc wr : va_W} (C : gC p m c cc nL s args Ts own G A) (h : gS G A s ws H locs) (hp : ws.Perm (wc ++ wr)) : va_P (gD G) vwCl wc H ∧ va_D A wc ∧ ∀ q, va_A wc H.size q → A q := by
  obtain ⟨h1, h2, h3⟩ := h.perm hp
  have e : ∀ (k : Nat) (q : Nat × va_E), wc[k]? = some q → (wc ++ wr)[k]? = some q := fun k q hk => by
    rw [List.getElem?_append_left (List.getElem?_eq_some_iff.mp hk).1]; exact hk
  refine ⟨fun k q hk => h1 k q (e k q hk), ⟨fun i j x y hi hj he => h2.1 i j x y (e i x hi) (e j y hj) he, fun k q hk => h2.2 k q (e k q hk)⟩, ?_⟩
  intro q hq
  rcases hq with ⟨k, e0, hk⟩ | hq
  · exact h2.2 k _ (e k _ hk)
  · exact C.2 q (Nat.le_trans h3.1 hq)
theorem gS.join {wc wr w1 : va_W} {H1 : Heap} {locs1 : List Loc} (h : gS G A s ws H locs) (hp : ws.Perm (wc ++ wr)) (hF : ∀ q, va_A wc H.size q → A q) (hk : ∀ q : Nat, q < H.size → ¬ va_A wc H.size q → H1[q]? = H[q]?) (hP1 : va_P (gD G) vwCl w1 H1) (hD1 : va_D (va_A wc H.size) w1) (hS : va_S A s.heap H1 locs1) : gS G A s (w1 ++ wr) H1 locs1 := by
  obtain ⟨h1, h2, h3⟩ := h.perm hp
  have er : ∀ (k : Nat) (q : Nat × va_E), wr[k]? = some q → (wc ++ wr)[wc.length + k]? = some q := fun k q hk => by
    rw [List.getElem?_append_right (Nat.le_add_right _ _), Nat.add_sub_cancel_left]; exact hk
  have ap : ∀ (k : Nat) (q : Nat × va_E), wr[k]? = some q → q.1 < H.size ∧ ¬ va_A wc H.size q.1 := fun k q hq => by
    have hl := (h1 _ q (er k q hq)).lt
    refine ⟨hl, fun z => ?_⟩
    rcases z with ⟨k2, e0, z⟩ | z
    · have z1 := (List.getElem?_eq_some_iff.mp z).1
      have z2 : (wc ++ wr)[k2]? = some (q.1, e0) := by rw [List.getElem?_append_left z1]; exact z
      have := h2.1 _ _ _ _ (er k q hq) z2 rfl
      omega
    · omega
  refine ⟨va_P.app hP1 (fun k q hq => (h1 _ q (er k q hq)).kept (hk _ (ap k q hq).1 (ap k q hq).2)), va_D.app (hD1.weaken (fun _ q _ z => hF q.1 z)) ⟨fun i j x y hi hj he => ?_, fun k q hq => h2.2 _ q (er k q hq)⟩ (fun i j x y hx hy hxy => ?_), hS⟩
  · have := h2.1 _ _ _ _ (er i x hi) (er j y hj) he
    omega
  · exact (ap j y hy).2 (by rw [← hxy]; exact hD1.2 i x hx)
variable {y : MethodName} {bytes : ByteArray} {maxL index n fr lo mc ms : Nat} {ret : Option FieldType} {wsC : List Cond} {wc wr : va_W} {As : List Value} {b : Nat} {Qc : (Nat → Prop) → Array Value → State → Outcome → State → Prop}
theorem r_runV (C : gC p m c cc nL s args Ts own G A) (h : gS G A s ws H locs) (hp : ws.Perm (wc ++ wr)) {Cn : String} {T : u_T} {N ci : Nat} (q0 : Nat) {fs : List Value} (hq : wc[q0]? = some (b, .inr (ci, fs))) (hc : vwCl[ci]? = some (Cn, T, N)) (hM : cM l y wsC fr lo mc ms G (.ref b :: As) wc Qc) (cw : CallW R s args own Cn index y bytes maxL ret wsC (gR fr lo mc ms) mc ms n) (hn : As.length = n) (hsz : ls.size = nL) (hst : (rest.map fun v => v.category).sum ≤ 8) (hdg : decode cc pc = .ok (.invokevirtual index, 3)) (hf : cells + mc ≤ R.cells ∧ slots + ms ≤ R.slots) :
    va_Run p l e R s m args below meth c H locs cells slots mc ms (F0 m pc ls (As.reverse ++ .ref b :: rest)) rest (Qc (va_A wc H.size) (Value.ref b :: As).toArray) (va_A wc H.size) := by
  obtain ⟨h1, h2, h3⟩ := h.cut C hp
  exact va_runV C.1.1 (hM H.size) cw ⟨gB_blind, va_recv C.1.2.1 h1 hc hq, fun U hU hW => ⟨rfl, by rw [hU], by rw [hU]; exact h1, h2.weaken (fun _ _ _ _ => trivial), C.1.2.warm hW⟩⟩ rfl hn hsz rfl (lv_room hst) hdg hf
theorem r_runS (C : gC p m c cc nL s args Ts own G A) (h : gS G A s ws H locs) (hp : ws.Perm (wc ++ wr)) (hM : cM l y wsC fr lo mc ms G As wc Qc) (cw : CallB R s args own index y bytes maxL ret wsC (gR fr lo mc ms) mc ms n ∧ (Cond.static y).before args s = true) (hn : As.length = n) (hsz : ls.size = nL) (hst : (rest.map fun v => v.category).sum ≤ 8) (hdg : decode cc pc = .ok (.invokestatic index, 3)) (hf : cells + mc ≤ R.cells ∧ slots + ms ≤ R.slots) :
    va_Run p l e R s m args below meth c H locs cells slots mc ms (F0 m pc ls (As.reverse ++ rest)) rest (Qc (va_A wc H.size) As.toArray) (va_A wc H.size) := by
  obtain ⟨h1, h2, h3⟩ := h.cut C hp
  exact va_runS C.1.1 (hM H.size) cw ⟨gB_blind, fun U hU hW => ⟨rfl, by rw [hU], by rw [hU]; exact h1, h2.weaken (fun _ _ _ _ => trivial), C.1.2.warm hW⟩⟩ rfl hn hsz rfl (lv_room hst) hdg hf
theorem r_runI (C : gC p m c cc nL s args Ts own G A) (h : gS G A s ws H locs) (hp : ws.Perm (wc ++ wr)) (hM : cM l y wsC fr lo mc ms G (.ref b :: As) wc Qc) (cw : CallB R s args own index y bytes maxL none wsC (gR fr lo mc ms) mc ms n ∧ y.name = "<init>" ∧ (Cond.instanceMethod y).before args s = true) (hn : As.length = n) (hsz : ls.size = nL) (hst : (rest.map fun v => v.category).sum ≤ 8) (hdg : decode cc pc = .ok (.invokespecial index, 3)) (hf : cells + mc ≤ R.cells ∧ slots + ms ≤ R.slots) :
    va_Run p l e R s m args below meth c H locs cells slots mc ms (F0 m pc ls (As.reverse ++ .ref b :: rest)) rest (Qc (va_A wc H.size) (Value.ref b :: As).toArray) (va_A wc H.size) := by
  obtain ⟨h1, h2, h3⟩ := h.cut C hp
  exact va_runI C.1.1 (hM H.size) cw ⟨gB_blind, fun U hU hW => ⟨rfl, by rw [hU], by rw [hU]; exact h1, h2.weaken (fun _ _ _ _ => trivial), C.1.2.warm hW⟩⟩ rfl hn hsz rfl (lv_room hst) hdg hf
theorem r_runIN (C : gC p m c cc nL s args Ts own G A) (h : gS G A s ws H locs) (hp : ws.Perm (wc ++ wr)) {host : String} (hM : cM l y wsC fr lo mc ms G (.ref b :: As) wc Qc) (cw : va_CN R s args own index y host bytes maxL none wsC (gR fr lo mc ms) mc ms n ∧ y.name = "<init>" ∧ (Cond.instanceMethod y).before args s = true) (hn : As.length = n) (hsz : ls.size = nL) (hst : (rest.map fun v => v.category).sum ≤ 8) (hdg : decode cc pc = .ok (.invokespecial index, 3)) (hf : cells + mc ≤ R.cells ∧ slots + ms ≤ R.slots) :
    va_Run p l e R s m args below meth c H locs cells slots mc ms (F0 m pc ls (As.reverse ++ .ref b :: rest)) rest (Qc (va_A wc H.size) (Value.ref b :: As).toArray) (va_A wc H.size) := by
  obtain ⟨h1, h2, h3⟩ := h.cut C hp
  exact va_runIN C.1.1 (hM H.size) cw ⟨gB_blind, fun U hU hW => ⟨rfl, by rw [hU], by rw [hU]; exact h1, h2.weaken (fun _ _ _ _ => trivial), C.1.2.warm hW⟩⟩ rfl hn hsz rfl (lv_room hst) hdg hf
theorem k_i {S : Type} {post : Int32 → S → Prop} {ws' : S → va_W} {st0 : List Value} {a : Array Value} (C : gC p m c cc nL s args Ts own G A) (h : gS G A s ws H locs) (hp : ws.Perm (wc ++ wr)) (hr : va_Run p l e R s m args below meth c H locs cells slots mc ms (F0 m pc ls st0) rest (qI G post ws' (va_A wc H.size) a) (va_A wc H.size))
    (kk : ∀ (r : Int32) (u : S) (H1 : Heap) (locs1 : List Loc), post r u → gS G A s (ws' u ++ wr) H1 locs1 → W p l e R s m args below meth c H1 locs1 (cells + mc) (slots + ms) Q (F0 m (pc + 3) ls (.int r :: rest))) : W p l e R s m args below meth c H locs cells slots Q (F0 m pc ls st0) := by
  obtain ⟨h1, h2, h3⟩ := h.cut C hp
  refine va_calli hr h.2.2 (fun q _ z => h3 q z) h3 (fun r u t H1 locs1 ht hvm hw hB hz1 hk1 hS => ?_)
  obtain ⟨b1, b2⟩ := hB
  rw [ht] at b1
  exact kk r u H1 locs1 hw (h.join hp h3 hk1 b1 b2 hS)
theorem k_l {S : Type} {post : Int64 → S → Prop} {ws' : S → va_W} {st0 : List Value} {a : Array Value} (C : gC p m c cc nL s args Ts own G A) (h : gS G A s ws H locs) (hp : ws.Perm (wc ++ wr)) (hr : va_Run p l e R s m args below meth c H locs cells slots mc ms (F0 m pc ls st0) rest (qL G post ws' (va_A wc H.size) a) (va_A wc H.size))
    (kk : ∀ (r : Int64) (u : S) (H1 : Heap) (locs1 : List Loc), post r u → gS G A s (ws' u ++ wr) H1 locs1 → W p l e R s m args below meth c H1 locs1 (cells + mc) (slots + ms) Q (F0 m (pc + 3) ls (.long r :: rest))) : W p l e R s m args below meth c H locs cells slots Q (F0 m pc ls st0) := by
  obtain ⟨h1, h2, h3⟩ := h.cut C hp
  refine va_calll hr h.2.2 (fun q _ z => h3 q z) h3 (fun r u t H1 locs1 ht hvm hw hB hz1 hk1 hS => ?_)
  obtain ⟨b1, b2⟩ := hB
  rw [ht] at b1
  exact kk r u H1 locs1 hw (h.join hp h3 hk1 b1 b2 hS)
theorem k_v {S : Type} {post : S → Prop} {ws' : S → va_W} {st0 : List Value} {a : Array Value} (C : gC p m c cc nL s args Ts own G A) (h : gS G A s ws H locs) (hp : ws.Perm (wc ++ wr)) (hr : va_Run p l e R s m args below meth c H locs cells slots mc ms (F0 m pc ls st0) rest (qV G post ws' (va_A wc H.size) a) (va_A wc H.size))
    (kk : ∀ (u : S) (H1 : Heap) (locs1 : List Loc), post u → gS G A s (ws' u ++ wr) H1 locs1 → W p l e R s m args below meth c H1 locs1 (cells + mc) (slots + ms) Q (F0 m (pc + 3) ls rest)) : W p l e R s m args below meth c H locs cells slots Q (F0 m pc ls st0) := by
  obtain ⟨h1, h2, h3⟩ := h.cut C hp
  refine va_callv hr h.2.2 (fun q _ z => h3 q z) h3 (fun u t H1 locs1 ht hvm hw hB hz1 hk1 hS => ?_)
  obtain ⟨b1, b2⟩ := hB
  rw [ht] at b1
  exact kk u H1 locs1 hw (h.join hp h3 hk1 b1 b2 hS)
theorem k_r {S : Type} {post : S → Prop} {ws' : S → Nat → va_W} {st0 : List Value} {a : Array Value} (C : gC p m c cc nL s args Ts own G A) (h : gS G A s ws H locs) (hp : ws.Perm (wc ++ wr)) (hr : va_Run p l e R s m args below meth c H locs cells slots mc ms (F0 m pc ls st0) rest (qR G post ws' (va_A wc H.size) a) (va_A wc H.size))
    (kk : ∀ (u : S) (q : Nat) (H1 : Heap) (locs1 : List Loc), post u → gS G A s (ws' u q ++ wr) H1 locs1 → W p l e R s m args below meth c H1 locs1 (cells + mc) (slots + ms) Q (F0 m (pc + 3) ls (.ref q :: rest))) : W p l e R s m args below meth c H locs cells slots Q (F0 m pc ls st0) := by
  obtain ⟨h1, h2, h3⟩ := h.cut C hp
  refine va_callr hr h.2.2 (fun q _ z => h3 q z) h3 (fun u q t H1 locs1 ht hvm hw hB hz1 hk1 hS => ?_)
  obtain ⟨b1, b2⟩ := hB
  rw [ht] at b1
  exact kk u q H1 locs1 hw (h.join hp h3 hk1 b1 b2 hS)
/-- a contract out of a walk -/
theorem o_M {wsC' : List Cond} {av : List Value} (hy : plainName y.cls = true) (hw : wsC = Cond.code y cc maxL ret :: wsC') (hown : y.cls = own) (hlen : (lg_sl av).length ≤ maxL)
    (body : ∀ (p : Program) (e : Env) (s : State) (m : MethodId) (below : List Frame) (meth : Method) (c : Code) (A : Nat → Prop) (ls : Array Slot) (H : Heap) (locs : List Loc), A = va_A ws s.heap.size → gC p m c cc maxL s av.toArray wsC own G A → gS G A s ws H locs → meth.sig.returnType = ret → meth.locks = false → meth.name = y.name → lv_has ls maxL (lv_args 0 av) →
      W p l e (gR fr lo mc ms) s m av.toArray below meth c H locs 0 0 (MQ below (Qc A) av.toArray s mc ms A) (F0 m 0 ls [])) : cM l y wsC fr lo mc ms G av ws Qc := by
  intro sz
  refine Met.ofW (cc := cc) (maxL := maxL) (ret := ret) hy hw ?_
  intro p e s m args below meth c s₁ B hml hv
  obtain ⟨rfl, hsz, hP, hD0, hK⟩ := hv
  subst hsz
  subst hown
  have hl := lv_entry av (n := maxL) hlen
  rw [lg_entry_eq]
  generalize (lg_sl av ++ List.replicate (maxL - (lg_sl av).length) Slot.unset).toArray = ls at hl ⊢
  exact body p e s m below meth c (va_A ws s.heap.size) ls s.heap [] rfl ⟨⟨⟨B.exec, B.bytes, hml, findClass_of_methodNamed B.named, atoms_spec (ws := wsC) B.pre⟩, hK⟩, fun q z => Or.inr z⟩ ⟨hP, hD0.self, va_S.rf⟩ B.returns B.notSynchronized (name_of_methodNamed B.named B.method).1 hl
end GR
end
section
/-! plain facts on numbers and arrays, to paste: each family by itself; over the kit's rows on nI and upd -/
/-! ===== order of ints, in all its forms, and through longs ===== -/
theorem fa_lt (a b : Int32) : a < b ↔ a.toInt < b.toInt := Int32.lt_iff_toInt_lt
theorem fa_le (a b : Int32) : a ≤ b ↔ a.toInt ≤ b.toInt := Int32.le_iff_toInt_le
theorem fa_eq (a b : Int32) : a = b ↔ a.toInt = b.toInt := Int32.toInt_inj.symm
theorem fa_lt64 (a b : Int64) : a < b ↔ a.toInt < b.toInt := Int64.lt_iff_toInt_lt
theorem fa_le64 (a b : Int64) : a ≤ b ↔ a.toInt ≤ b.toInt := Int64.le_iff_toInt_le
theorem fa_eq64 (a b : Int64) : a = b ↔ a.toInt = b.toInt := Int64.toInt_inj.symm
/-- a comparison of two ints taken as longs -/
theorem fa_wide_lt (a b : Int32) : a.toInt64 < b.toInt64 ↔ a < b := by rw [fa_lt64, fa_lt, Int32.toInt_toInt64, Int32.toInt_toInt64]
theorem fa_wide_le (a b : Int32) : a.toInt64 ≤ b.toInt64 ↔ a ≤ b := by rw [fa_le64, fa_le, Int32.toInt_toInt64, Int32.toInt_toInt64]
theorem fa_wide_eq (a b : Int32) : a.toInt64 = b.toInt64 ↔ a = b := by rw [fa_eq64, fa_eq, Int32.toInt_toInt64, Int32.toInt_toInt64]
/-- one strict comparison gives all the others -/
theorem fa_of_lt {a b : Int32} (h : a < b) : a ≤ b ∧ ¬ b ≤ a ∧ ¬ b < a ∧ a ≠ b ∧ b ≠ a := by
  rw [fa_lt] at h
  refine ⟨?_, ?_, ?_, ?_, ?_⟩
  · rw [fa_le]; omega
  · rw [fa_le]; omega
  · rw [fa_lt]; omega
  · intro e; rw [fa_eq] at e; omega
  · intro e; rw [fa_eq] at e; omega
theorem fa_of_nlt {a b : Int32} (h : ¬ a < b) : b ≤ a := by
  rw [fa_lt] at h
  rw [fa_le]
  omega
theorem fa_of_nle {a b : Int32} (h : ¬ a ≤ b) : b < a := by
  rw [fa_le] at h
  rw [fa_lt]
  omega
theorem fa_le_ne {a b : Int32} (h : a ≤ b) (h2 : a ≠ b) : a < b := by
  rw [fa_le] at h
  rw [fa_lt]
  have h3 : a.toInt ≠ b.toInt := fun e => h2 ((fa_eq a b).mpr e)
  omega
theorem fa_three (a b : Int32) : a < b ∨ a = b ∨ b < a := by
  rw [fa_lt, fa_lt, fa_eq]
  omega
theorem fa_trans {a b c : Int32} (h : a < b) (h2 : b ≤ c) : a < c := by
  rw [fa_lt] at *
  rw [fa_le] at h2
  omega
/-! ===== small literals as numbers ===== -/
theorem fa_lit (n : Nat) : (OfNat.ofNat n : Int32) = nI n := rfl
theorem fa_litL (n : Nat) : (OfNat.ofNat n : Int64) = lN n := rfl
/-! ===== bits of a number: 'or', masks, one bit ===== -/
theorem fa_and (a b : Nat) : nI a &&& nI b = nI (a &&& b) := by
  apply Int32.toBitVec_inj.1
  show BitVec.ofNat 32 a &&& BitVec.ofNat 32 b = BitVec.ofNat 32 (a &&& b)
  apply BitVec.eq_of_getLsbD_eq
  intro i hi
  simp [hi]
theorem fa_or (a b : Nat) : nI a ||| nI b = nI (a ||| b) := by
  apply Int32.toBitVec_inj.1
  show BitVec.ofNat 32 a ||| BitVec.ofNat 32 b = BitVec.ofNat 32 (a ||| b)
  apply BitVec.eq_of_getLsbD_eq
  intro i hi
  simp [hi]
/-- a remainder by a power of two, as a mask -/
theorem fa_mask (n k : Nat) : nI n &&& nI (2 ^ k - 1) = nI (n % 2 ^ k) := by rw [fa_and, Nat.and_two_pow_sub_one_eq_mod]
/-- 'or' of a high part and a low one that don't meet is their sum -/
theorem fa_or_sum {a k : Nat} (b : Nat) (h : a < 2 ^ k) : nI (2 ^ k * b) ||| nI a = nI (2 ^ k * b + a) := by rw [fa_or, Nat.two_pow_add_eq_or_of_lt h]
/-- one bit, by 'and' with a power of two -/
theorem fa_bit {n j : Nat} (hj : j < 31) : nI n &&& nI (2 ^ j) = 0 ↔ n.testBit j = false := by
  have h2 : (2 : Nat) ^ j < 2 ^ 31 := Nat.pow_lt_pow_right (by decide) hj
  have hle : n &&& 2 ^ j ≤ 2 ^ j := Nat.and_le_right
  have e : n &&& 2 ^ j = 0 ↔ n.testBit j = false := by
    constructor
    · intro h
      have h1 : (n &&& 2 ^ j).testBit j = false := by rw [h]; simp
      rw [Nat.testBit_and] at h1
      first | simpa using h1 | simpa [Nat.testBit_two_pow_self] using h1 | simpa [Nat.testBit_two_pow] using h1
    · intro h
      apply Nat.eq_of_testBit_eq
      intro i
      rw [Nat.testBit_and]
      by_cases hi : j = i
      · subst hi; simp [h]
      · first | (simp [Nat.testBit_two_pow, hi]; done) | (simp [Nat.testBit_two_pow_of_ne hi]; done)
  rw [fa_and]
  constructor
  · intro h
    apply e.mp
    rcases Nat.eq_zero_or_pos (n &&& 2 ^ j) with z | z
    · exact z
    · exact absurd h (nI_ne0 z (Nat.lt_of_le_of_lt hle h2))
  · intro h
    rw [e.mpr h]; exact nI_0
/-- a remainder by a power of two of a number that isn't negative, as Java divides -/
theorem fa_rem {a k : Nat} (ha : a < 2 ^ 31) (hk : k < 31) : nI a - nI a / nI (2 ^ k) * nI (2 ^ k) = nI (a % 2 ^ k) := pk_rem ha (Nat.two_pow_pos k) (Nat.pow_lt_pow_right (by decide) hk)
/-! ===== cuts to a byte, a short ===== -/
theorem fa_byte_xor (x y : Int32) : (x ^^^ y).toInt8 = x.toInt8 ^^^ y.toInt8 := by
  apply Int8.toBitVec_inj.1
  apply BitVec.eq_of_getLsbD_eq
  intro i hi
  first | (simp [hi]; done) | (simp [hi, BitVec.getLsbD_setWidth, BitVec.getLsbD_signExtend]; done)
theorem fa_short_xor (x y : Int32) : (x ^^^ y).toInt16 = x.toInt16 ^^^ y.toInt16 := by
  apply Int16.toBitVec_inj.1
  apply BitVec.eq_of_getLsbD_eq
  intro i hi
  first | (simp [hi]; done) | (simp [hi, BitVec.getLsbD_setWidth, BitVec.getLsbD_signExtend]; done)
/-- the cut to a byte sees the low byte alone -/
theorem fa_byte_low (x : Int32) : (x &&& 255).toInt8 = x.toInt8 := by
  apply Int8.toBitVec_inj.1
  apply BitVec.eq_of_getLsbD_eq
  intro i hi
  have h2 : (255 : Int32).toBitVec.getLsbD i = true := by
    have : ∀ j : Fin 8, (255 : Int32).toBitVec.getLsbD j.val = true := by decide +kernel
    exact this ⟨i, hi⟩
  have h4 : (x &&& 255).toBitVec.getLsbD i = x.toBitVec.getLsbD i := by
    show (x.toBitVec &&& (255 : Int32).toBitVec).getLsbD i = _
    rw [BitVec.getLsbD_and, h2, Bool.and_true]
  have h3 : i < 32 := by omega
  first
    | (show (((x &&& 255).toBitVec).signExtend 8).getLsbD i = (x.toBitVec.signExtend 8).getLsbD i; rw [BitVec.getLsbD_signExtend, BitVec.getLsbD_signExtend, if_pos h3, if_pos h3, h4])
    | (show (((x &&& 255).toBitVec).setWidth 8).getLsbD i = (x.toBitVec.setWidth 8).getLsbD i; rw [BitVec.getLsbD_setWidth, BitVec.getLsbD_setWidth, h4])
    | (simp [hi, h3, h4]; done)
theorem fa_short_low (x : Int32) : (x &&& 65535).toInt16 = x.toInt16 := by
  apply Int16.toBitVec_inj.1
  apply BitVec.eq_of_getLsbD_eq
  intro i hi
  have h2 : (65535 : Int32).toBitVec.getLsbD i = true := by
    have : ∀ j : Fin 16, (65535 : Int32).toBitVec.getLsbD j.val = true := by decide +kernel
    exact this ⟨i, hi⟩
  have h4 : (x &&& 65535).toBitVec.getLsbD i = x.toBitVec.getLsbD i := by
    show (x.toBitVec &&& (65535 : Int32).toBitVec).getLsbD i = _
    rw [BitVec.getLsbD_and, h2, Bool.and_true]
  have h3 : i < 32 := by omega
  first
    | (show (((x &&& 65535).toBitVec).signExtend 16).getLsbD i = (x.toBitVec.signExtend 16).getLsbD i; rw [BitVec.getLsbD_signExtend, BitVec.getLsbD_signExtend, if_pos h3, if_pos h3, h4])
    | (show (((x &&& 65535).toBitVec).setWidth 16).getLsbD i = (x.toBitVec.setWidth 16).getLsbD i; rw [BitVec.getLsbD_setWidth, BitVec.getLsbD_setWidth, h4])
    | (simp [hi, h3, h4]; done)
/-- a small number is its own byte, its own short -/
theorem fa_byte_small {n : Nat} (h : n < 128) : (nI n).toInt8.toInt32 = nI n := by
  have : ∀ j : Fin 128, (nI j.val).toInt8.toInt32 = nI j.val := by decide +kernel
  exact this ⟨n, h⟩
/-! ===== absolute difference ===== -/
theorem fa_absdiff {a b : Nat} (ha : a < 2 ^ 31) (hb : b < 2 ^ 31) : (if nI a < nI b then nI b - nI a else nI a - nI b) = nI (if a < b then b - a else a - b) := by
  by_cases h : a < b
  · rw [if_pos (nI_lt h hb), if_pos h]
    exact pk_sub (Nat.le_of_lt h)
  · rw [if_neg (nI_nlt (Nat.le_of_not_lt h) ha), if_neg h]
    exact pk_sub (Nat.le_of_not_lt h)
/-! ===== an array behind i stores, a conditional store, a row copied ===== -/
/-- f where k < i, what stood there else -/
def fa_fill {α : Type} (f g : Nat → α) (i : Nat) : Nat → α := fun k => if k < i then f k else g k
theorem fa_fill_0 {α : Type} (f g : Nat → α) : fa_fill f g 0 = g := funext fun k => if_neg (Nat.not_lt_zero k)
theorem fa_fill_in {α : Type} {f g : Nat → α} {i k : Nat} (h : k < i) : fa_fill f g i k = f k := if_pos h
theorem fa_fill_out {α : Type} {f g : Nat → α} {i k : Nat} (h : i ≤ k) : fa_fill f g i k = g k := if_neg (Nat.not_lt.mpr h)
theorem fa_fill_succ (f g : Nat → Int32) (i : Nat) : upd (fa_fill f g i) i (f i) = fa_fill f g (i + 1) := by
  funext k
  by_cases e : k = i
  · subst e
    rw [pk_us]
    exact (if_pos (Nat.lt_succ_self k)).symm
  · rw [pk_un e]
    by_cases h : k < i
    · rw [fa_fill_in h, fa_fill_in (Nat.lt_succ_of_lt h)]
    · rw [fa_fill_out (Nat.le_of_not_lt h), fa_fill_out (by omega)]
/-- a store that changes nothing -/
theorem fa_upd_same {f : Nat → Int32} {i : Nat} {x : Int32} (h : f i = x) : upd f i x = f := by
  funext k
  by_cases e : k = i
  · subst e
    rw [pk_us, h]
  · rw [pk_un e]
/-- a store under a condition, told as one -/
theorem fa_upd_if (c : Prop) [Decidable c] (f : Nat → Int32) (i : Nat) (x : Int32) : (if c then upd f i x else f) = upd f i (if c then x else f i) := by
  by_cases h : c
  · rw [if_pos h, if_pos h]
  · rw [if_neg h, if_neg h, fa_upd_same rfl]
/-- two stores at one place, at two -/
theorem fa_upd_twice (f : Nat → Int32) (i : Nat) (x y : Int32) : upd (upd f i x) i y = upd f i y := by
  funext k
  by_cases e : k = i
  · subst e
    rw [pk_us, pk_us]
  · rw [pk_un e, pk_un e, pk_un e]
theorem fa_upd_swap (f : Nat → Int32) {i j : Nat} (h : i ≠ j) (x y : Int32) : upd (upd f i x) j y = upd (upd f j y) i x := by
  funext k
  by_cases e : k = i
  · subst e
    rw [pk_un h, pk_us, pk_us]
  · by_cases e2 : k = j
    · subst e2
      rw [pk_us, pk_un e, pk_us]
    · rw [pk_un e2, pk_un e, pk_un e, pk_un e2]
/-! ===== the first index with a property; a count ===== -/
/-- the first k < n with p k, n if there is none -/
def fa_first (p : Nat → Bool) : Nat → Nat
  | 0 => 0
  | n + 1 => if fa_first p n < n then fa_first p n else if p n then n else n + 1
theorem fa_first_le (p : Nat → Bool) : ∀ n, fa_first p n ≤ n
  | 0 => Nat.le_refl 0
  | n + 1 => by
    have ih := fa_first_le p n
    unfold fa_first
    split
    · omega
    · split
      · omega
      · omega
theorem fa_first_no (p : Nat → Bool) : ∀ n k, k < fa_first p n → p k = false
  | 0, k, h => absurd h (Nat.not_lt_zero k)
  | n + 1, k, h => by
    have ih := fa_first_no p n
    have hl := fa_first_le p n
    unfold fa_first at h
    split at h
    · exact ih k h
    · rename_i h1
      split at h
      · exact ih k (by omega)
      · rename_i h2
        by_cases e : k = n
        · subst e
          exact Bool.eq_false_iff.mpr h2
        · exact ih k (by omega)
theorem fa_first_yes (p : Nat → Bool) : ∀ n, fa_first p n < n → p (fa_first p n) = true
  | 0, h => absurd h (Nat.not_lt_zero _)
  | n + 1, h => by
    have ih := fa_first_yes p n
    have hl := fa_first_le p n
    unfold fa_first at h ⊢
    split at h
    · rename_i h1
      rw [if_pos h1]
      exact ih h1
    · rename_i h1
      rw [if_neg h1]
      split at h
      · rename_i h2
        rw [if_pos h2]
        exact h2
      · omega
/-- how many k < n have p k -/
def fa_cnt (p : Nat → Bool) : Nat → Nat
  | 0 => 0
  | n + 1 => fa_cnt p n + if p n then 1 else 0
theorem fa_cnt_le (p : Nat → Bool) : ∀ n, fa_cnt p n ≤ n
  | 0 => Nat.le_refl 0
  | n + 1 => by
    have ih := fa_cnt_le p n
    unfold fa_cnt
    split
    · omega
    · omega
theorem fa_cnt_yes {p : Nat → Bool} {n : Nat} (h : p n = true) : fa_cnt p (n + 1) = fa_cnt p n + 1 := by rw [fa_cnt, if_pos h]
theorem fa_cnt_no {p : Nat → Bool} {n : Nat} (h : p n = false) : fa_cnt p (n + 1) = fa_cnt p n := by rw [fa_cnt, if_neg (by rw [h]; decide)]; rfl
theorem fa_cnt_cong {p q : Nat → Bool} : ∀ {n : Nat}, (∀ k, k < n → p k = q k) → fa_cnt p n = fa_cnt q n
  | 0, _ => rfl
  | n + 1, h => by rw [fa_cnt, fa_cnt, fa_cnt_cong (fun k hk => h k (Nat.lt_succ_of_lt hk)), h n (Nat.lt_succ_self n)]
/-! ===== an answer carried into a post; a branch on a boolean answer ===== -/
theorem fa_post {α : Type} {P : α → Prop} {x y : α} (h : x = y) (hp : P y) : P x := h ▸ hp
theorem fa_post2 {α β : Type} {P : α → β → Prop} {x y : α} {u v : β} (h : x = y) (h2 : u = v) (hp : P y v) : P x u := h ▸ h2 ▸ hp
theorem fa_bool {r : Int32} {b : Bool} (h : r = if b then 1 else 0) : (r = 0 ↔ b = false) ∧ (¬ r = 0 ↔ b = true) := by
  subst h
  cases b
  · exact ⟨⟨fun _ => rfl, fun _ => rfl⟩, ⟨fun h => absurd rfl h, fun h => absurd h (by decide)⟩⟩
  · exact ⟨⟨fun h => absurd h (by decide), fun h => absurd h (by decide)⟩, ⟨fun _ => rfl, fun _ => by decide⟩⟩
/-- a boolean's narrowing changes nothing -/
theorem fa_bool_and {r : Int32} (h : r = 0 ∨ r = 1) : r &&& 1 = r := by
  rcases h with rfl | rfl
  · decide
  · decide
theorem fa_bool_prop {c : Prop} [Decidable c] {r : Int32} (h : r = if c then 1 else 0) : (r = 0 ↔ ¬ c) ∧ (¬ r = 0 ↔ c) := by
  subst h
  by_cases hc : c
  · rw [if_pos hc]
    exact ⟨⟨fun h => absurd h (by decide), fun h => absurd hc h⟩, ⟨fun _ => hc, fun _ => by decide⟩⟩
  · rw [if_neg hc]
    exact ⟨⟨fun _ => hc, fun _ => rfl⟩, ⟨fun h => absurd rfl h, fun h => absurd h hc⟩⟩

/-! plain facts to paste, each family by itself; over the kit's nI, lN and upd -/
/-! ===== drawers: more things than places ===== -/
theorem fb_holes : ∀ (m n : Nat) (f : Nat → Nat), (∀ i, i < n → f i < m) → (∀ i j, i < j → j < n → f i ≠ f j) → n ≤ m := by
  intro m
  induction m with
  | zero =>
    intro n f h1 _
    rcases Nat.eq_zero_or_pos n with h | h
    · omega
    · exact absurd (h1 0 h) (Nat.not_lt_zero _)
  | succ m ih =>
    intro n f h1 h2
    by_cases hx : ∃ i, i < n ∧ f i = m
    · obtain ⟨a, ha, hfa⟩ := hx
      have hg := ih (n - 1) (fun i => if i < a then f i else f (i + 1)) (by
        intro i hi
        by_cases q : i < a
        · simp only [if_pos q]
          have b1 := h1 i (by omega)
          have b2 := h2 i a q ha
          omega
        · simp only [if_neg q]
          have b1 := h1 (i + 1) (by omega)
          have b2 := h2 a (i + 1) (by omega) (by omega)
          omega) (by
        intro i j hij hj
        by_cases q : i < a
        · by_cases r : j < a
          · simp only [if_pos q, if_pos r]
            exact h2 i j hij (by omega)
          · simp only [if_pos q, if_neg r]
            exact h2 i (j + 1) (by omega) (by omega)
        · have r : ¬ j < a := by omega
          simp only [if_neg q, if_neg r]
          exact h2 (i + 1) (j + 1) (by omega) (by omega))
      omega
    · have hg := ih n f (fun i hi => by
        have b1 := h1 i hi
        have b2 : f i ≠ m := fun e => hx ⟨i, hi, e⟩
        omega) h2
      omega
/-- two of them in one place -/
theorem fb_twice {m n : Nat} {f : Nat → Nat} (h : ∀ i, i < n → f i < m) (hm : m < n) : ∃ i j, i < j ∧ j < n ∧ f i = f j := by
  refine Classical.byContradiction fun hx => ?_
  have := fb_holes m n f h (fun i j hij hj e => hx ⟨i, j, hij, hj, e⟩)
  omega
/-- as many as places, none twice: each place is taken -/
theorem fb_onto {n : Nat} {f : Nat → Nat} (h : ∀ i, i < n → f i < n) (h2 : ∀ i j, i < j → j < n → f i ≠ f j) {y : Nat} (hy : y < n) : ∃ i, i < n ∧ f i = y := by
  refine Classical.byContradiction fun hx => ?_
  have hne : ∀ i, i < n → f i ≠ y := fun i hi e => hx ⟨i, hi, e⟩
  have := fb_holes (n - 1) n (fun i => if f i < y then f i else f i - 1) (by
    intro i hi
    have b1 := h i hi
    have b2 := hne i hi
    by_cases q : f i < y
    · simp only [if_pos q]; omega
    · simp only [if_neg q]; omega) (by
    intro i j hij hj
    have b1 := hne i (by omega)
    have b2 := hne j hj
    have b3 := h2 i j hij hj
    by_cases q : f i < y
    · by_cases r : f j < y
      · simp only [if_pos q, if_pos r]; exact b3
      · simp only [if_pos q, if_neg r]; omega
    · by_cases r : f j < y
      · simp only [if_neg q, if_pos r]; omega
      · simp only [if_neg q, if_neg r]; omega)
  omega
/-! ===== how many places have a property ===== -/
def fb_ct (p : Nat → Bool) : Nat → Nat
  | 0 => 0
  | n + 1 => fb_ct p n + (if p n then 1 else 0)
theorem fb_ct_succ (p : Nat → Bool) (n : Nat) : fb_ct p (n + 1) = fb_ct p n + (if p n then 1 else 0) := rfl
theorem fb_ct_le (p : Nat → Bool) : ∀ n, fb_ct p n ≤ n
  | 0 => Nat.le_refl _
  | n + 1 => by
    have h := fb_ct_le p n
    rw [fb_ct_succ]
    split <;> omega
theorem fb_ct_step (p : Nat → Bool) (m : Nat) : ∀ n, fb_ct p m ≤ fb_ct p (m + n)
  | 0 => Nat.le_refl _
  | n + 1 => by
    have h := fb_ct_step p m n
    show fb_ct p m ≤ fb_ct p (m + n + 1)
    rw [fb_ct_succ]
    omega
theorem fb_ct_mono (p : Nat → Bool) {m n : Nat} (h : m ≤ n) : fb_ct p m ≤ fb_ct p n := by
  have := fb_ct_step p m (n - m)
  rwa [Nat.add_sub_cancel' h] at this
theorem fb_ct_cong {p q : Nat → Bool} : ∀ {n : Nat}, (∀ k, k < n → p k = q k) → fb_ct p n = fb_ct q n
  | 0, _ => rfl
  | n + 1, h => by
    rw [fb_ct_succ, fb_ct_succ, fb_ct_cong (fun k hk => h k (by omega)), h n (by omega)]
/-- one place changed -/
theorem fb_ct_out (p : Nat → Bool) (b : Bool) {i n : Nat} (h : n ≤ i) : fb_ct (fun k => if k = i then b else p k) n = fb_ct p n :=
  fb_ct_cong fun k hk => if_neg (by omega)
theorem fb_ct_upd (p : Nat → Bool) (b : Bool) {i : Nat} : ∀ {n : Nat}, i < n → fb_ct (fun k => if k = i then b else p k) n + (if p i then 1 else 0) = fb_ct p n + (if b then 1 else 0)
  | 0, h => absurd h (Nat.not_lt_zero i)
  | n + 1, h => by
    rw [fb_ct_succ, fb_ct_succ]
    rcases Nat.lt_or_ge i n with q | q
    · have := fb_ct_upd p b q
      have e : (if n = i then b else p n) = p n := if_neg (by omega)
      rw [e]
      omega
    · have e : i = n := by omega
      subst e
      rw [fb_ct_out p b (Nat.le_refl _)]
      simp only [if_true]
      omega
theorem fb_ct_sub {p q : Nat → Bool} : ∀ {n : Nat}, (∀ k, k < n → p k = true → q k = true) → fb_ct p n ≤ fb_ct q n
  | 0, _ => Nat.le_refl _
  | n + 1, h => by
    have h1 := fb_ct_sub (n := n) (p := p) (q := q) (fun k hk => h k (by omega))
    have h2 := h n (by omega)
    rw [fb_ct_succ, fb_ct_succ]
    cases hp : p n <;> cases hq : q n <;> simp_all <;> omega
theorem fb_ct_or {p q : Nat → Bool} : ∀ {n : Nat}, (∀ k, k < n → ¬ (p k = true ∧ q k = true)) → fb_ct (fun k => p k || q k) n = fb_ct p n + fb_ct q n
  | 0, _ => rfl
  | n + 1, h => by
    have h1 := fb_ct_or (n := n) (p := p) (q := q) (fun k hk => h k (by omega))
    have h2 := h n (by omega)
    rw [fb_ct_succ, fb_ct_succ, fb_ct_succ, h1]
    cases hp : p n <;> cases hq : q n <;> simp_all <;> omega
theorem fb_ct_not (p : Nat → Bool) : ∀ n, fb_ct p n + fb_ct (fun k => !p k) n = n
  | 0 => rfl
  | n + 1 => by
    have h := fb_ct_not p n
    rw [fb_ct_succ, fb_ct_succ]
    cases p n <;> simp <;> omega
theorem fb_ct_split (p : Nat → Bool) (m : Nat) : ∀ n, fb_ct p (m + n) = fb_ct p m + fb_ct (fun k => p (m + k)) n
  | 0 => rfl
  | n + 1 => by
    have h := fb_ct_split p m n
    show fb_ct p (m + n + 1) = _
    rw [fb_ct_succ, fb_ct_succ, h, Nat.add_assoc]
theorem fb_ct_zero {p : Nat → Bool} : ∀ {n : Nat}, fb_ct p n = 0 ↔ ∀ k, k < n → p k = false
  | 0 => ⟨fun _ k hk => absurd hk (Nat.not_lt_zero k), fun _ => rfl⟩
  | n + 1 => by
    have h := fb_ct_zero (p := p) (n := n)
    rw [fb_ct_succ]
    constructor
    · intro e k hk
      have e1 : fb_ct p n = 0 := by omega
      rcases Nat.lt_or_ge k n with q | q
      · exact h.mp e1 k q
      · have ek : k = n := by omega
        subst ek
        cases hp : p k
        · rfl
        · simp [hp] at e
    · intro a
      rw [h.mpr (fun k hk => a k (by omega)), a n (by omega)]
      rfl
theorem fb_ct_pos {p : Nat → Bool} {n : Nat} : 0 < fb_ct p n ↔ ∃ k, k < n ∧ p k = true := by
  constructor
  · intro h
    refine Classical.byContradiction fun hx => ?_
    have := fb_ct_zero.mpr (fun k hk => by
      cases hp : p k
      · rfl
      · exact absurd ⟨k, hk, hp⟩ hx : ∀ k, k < n → p k = false)
    omega
  · rintro ⟨k, hk, hp⟩
    rcases Nat.eq_zero_or_pos (fb_ct p n) with e | e
    · have := fb_ct_zero.mp e k hk
      rw [this] at hp
      cases hp
    · exact e
theorem fb_ct_all {p : Nat → Bool} {n : Nat} : fb_ct p n = n ↔ ∀ k, k < n → p k = true := by
  have h := fb_ct_not p n
  constructor
  · intro e k hk
    have z : fb_ct (fun k => !p k) n = 0 := by omega
    have := fb_ct_zero.mp z k hk
    cases hp : p k
    · simp [hp] at this
    · rfl
  · intro a
    have z : fb_ct (fun k => !p k) n = 0 := fb_ct_zero.mpr (fun k hk => by simp [a k hk])
    omega
/-- the k-th place with the property -/
theorem fb_ct_kth {p : Nat → Bool} {k : Nat} : ∀ {n : Nat}, k < fb_ct p n → ∃ i, i < n ∧ p i = true ∧ fb_ct p i = k
  | 0, h => absurd h (Nat.not_lt_zero k)
  | n + 1, h => by
    rcases Nat.lt_or_ge k (fb_ct p n) with q | q
    · obtain ⟨i, h1, h2⟩ := fb_ct_kth q
      exact ⟨i, by omega, h2⟩
    · rw [fb_ct_succ] at h
      cases hp : p n
      · simp [hp] at h; omega
      · simp [hp] at h
        exact ⟨n, by omega, hp, by omega⟩
theorem fb_ct_kth_one {p : Nat → Bool} {i j : Nat} (hi : p i = true) (hj : p j = true) (e : fb_ct p i = fb_ct p j) : i = j := by
  have key : ∀ a b : Nat, a < b → p a = true → fb_ct p a < fb_ct p b := by
    intro a b hab ha
    have h := fb_ct_mono p (show a + 1 ≤ b from hab)
    rw [fb_ct_succ, ha] at h
    simp at h
    omega
  rcases Nat.lt_trichotomy i j with q | q | q
  · have := key i j q hi; omega
  · exact q
  · have := key j i q hj; omega
/-! ===== sums over a range: one place changed, parts, bounds ===== -/
def fb_sm (f : Nat → Nat) : Nat → Nat
  | 0 => 0
  | n + 1 => fb_sm f n + f n
theorem fb_sm_succ (f : Nat → Nat) (n : Nat) : fb_sm f (n + 1) = fb_sm f n + f n := rfl
theorem fb_sm_cong {f g : Nat → Nat} : ∀ {n : Nat}, (∀ k, k < n → f k = g k) → fb_sm f n = fb_sm g n
  | 0, _ => rfl
  | n + 1, h => by rw [fb_sm_succ, fb_sm_succ, fb_sm_cong (fun k hk => h k (by omega)), h n (by omega)]
theorem fb_sm_out (f : Nat → Nat) (v : Nat) {i n : Nat} (h : n ≤ i) : fb_sm (fun k => if k = i then v else f k) n = fb_sm f n :=
  fb_sm_cong fun k hk => if_neg (by omega)
theorem fb_sm_upd (f : Nat → Nat) (v : Nat) {i : Nat} : ∀ {n : Nat}, i < n → fb_sm (fun k => if k = i then v else f k) n + f i = fb_sm f n + v
  | 0, h => absurd h (Nat.not_lt_zero i)
  | n + 1, h => by
    rw [fb_sm_succ, fb_sm_succ]
    rcases Nat.lt_or_ge i n with q | q
    · have := fb_sm_upd f v q
      have e : (if n = i then v else f n) = f n := if_neg (by omega)
      rw [e]
      omega
    · have e : i = n := by omega
      subst e
      rw [fb_sm_out f v (Nat.le_refl _)]
      simp only [if_true]
      omega
theorem fb_sm_add (f g : Nat → Nat) : ∀ n, fb_sm (fun k => f k + g k) n = fb_sm f n + fb_sm g n
  | 0 => rfl
  | n + 1 => by
    have h := fb_sm_add f g n
    rw [fb_sm_succ, fb_sm_succ, fb_sm_succ, h]
    omega
theorem fb_sm_le {f g : Nat → Nat} : ∀ {n : Nat}, (∀ k, k < n → f k ≤ g k) → fb_sm f n ≤ fb_sm g n
  | 0, _ => Nat.le_refl _
  | n + 1, h => by
    have h1 := fb_sm_le (n := n) (f := f) (g := g) (fun k hk => h k (by omega))
    have h2 := h n (by omega)
    rw [fb_sm_succ, fb_sm_succ]
    omega
theorem fb_sm_const (c : Nat) : ∀ n, fb_sm (fun _ => c) n = n * c
  | 0 => by rw [Nat.zero_mul]; rfl
  | n + 1 => by rw [fb_sm_succ, fb_sm_const c n, Nat.succ_mul]
theorem fb_sm_bound {f : Nat → Nat} {c n : Nat} (h : ∀ k, k < n → f k ≤ c) : fb_sm f n ≤ n * c := by
  rw [← fb_sm_const c n]
  exact fb_sm_le h
theorem fb_sm_mono (f : Nat → Nat) (m : Nat) : ∀ n, fb_sm f m ≤ fb_sm f (m + n)
  | 0 => Nat.le_refl _
  | n + 1 => by
    have h := fb_sm_mono f m n
    show fb_sm f m ≤ fb_sm f (m + n + 1)
    rw [fb_sm_succ]
    omega
theorem fb_sm_part (f : Nat → Nat) {i n : Nat} (h : i < n) : fb_sm f i + f i ≤ fb_sm f n := by
  have := fb_sm_mono f (i + 1) (n - (i + 1))
  rw [fb_sm_succ, show i + 1 + (n - (i + 1)) = n by omega] at this
  exact this
theorem fb_sm_split (f : Nat → Nat) (m : Nat) : ∀ n, fb_sm f (m + n) = fb_sm f m + fb_sm (fun k => f (m + k)) n
  | 0 => rfl
  | n + 1 => by
    have h := fb_sm_split f m n
    show fb_sm f (m + n + 1) = _
    rw [fb_sm_succ, fb_sm_succ, h, Nat.add_assoc]
theorem fb_sm_zero {f : Nat → Nat} {n : Nat} (h : fb_sm f n = 0) : ∀ k, k < n → f k = 0 := fun k hk => by
  have := fb_sm_part f hk
  omega
/-- the same over whole numbers -/
def fb_si (f : Nat → Int) : Nat → Int
  | 0 => 0
  | n + 1 => fb_si f n + f n
theorem fb_si_succ (f : Nat → Int) (n : Nat) : fb_si f (n + 1) = fb_si f n + f n := rfl
theorem fb_si_cong {f g : Nat → Int} : ∀ {n : Nat}, (∀ k, k < n → f k = g k) → fb_si f n = fb_si g n
  | 0, _ => rfl
  | n + 1, h => by rw [fb_si_succ, fb_si_succ, fb_si_cong (fun k hk => h k (by omega)), h n (by omega)]
theorem fb_si_out (f : Nat → Int) (v : Int) {i n : Nat} (h : n ≤ i) : fb_si (fun k => if k = i then v else f k) n = fb_si f n :=
  fb_si_cong fun k hk => if_neg (by omega)
theorem fb_si_upd (f : Nat → Int) (v : Int) {i : Nat} : ∀ {n : Nat}, i < n → fb_si (fun k => if k = i then v else f k) n = fb_si f n - f i + v
  | 0, h => absurd h (Nat.not_lt_zero i)
  | n + 1, h => by
    rw [fb_si_succ, fb_si_succ]
    rcases Nat.lt_or_ge i n with q | q
    · have := fb_si_upd f v q
      have e : (if n = i then v else f n) = f n := if_neg (by omega)
      rw [e]
      omega
    · have e : i = n := by omega
      subst e
      rw [fb_si_out f v (Nat.le_refl _)]
      simp only [if_true]
      omega
theorem fb_si_add (f g : Nat → Int) : ∀ n, fb_si (fun k => f k + g k) n = fb_si f n + fb_si g n
  | 0 => rfl
  | n + 1 => by
    have h := fb_si_add f g n
    rw [fb_si_succ, fb_si_succ, fb_si_succ, h]
    omega
theorem fb_si_sub (f g : Nat → Int) : ∀ n, fb_si (fun k => f k - g k) n = fb_si f n - fb_si g n
  | 0 => rfl
  | n + 1 => by
    have h := fb_si_sub f g n
    rw [fb_si_succ, fb_si_succ, fb_si_succ, h]
    omega
theorem fb_si_mul (c : Int) (f : Nat → Int) : ∀ n, fb_si (fun k => c * f k) n = c * fb_si f n
  | 0 => (Int.mul_zero c).symm
  | n + 1 => by
    have h := fb_si_mul c f n
    rw [fb_si_succ, fb_si_succ, h, Int.mul_add]
theorem fb_si_split (f : Nat → Int) (m : Nat) : ∀ n, fb_si f (m + n) = fb_si f m + fb_si (fun k => f (m + k)) n
  | 0 => (Int.add_zero _).symm
  | n + 1 => by
    have h := fb_si_split f m n
    show fb_si f (m + n + 1) = _
    rw [fb_si_succ, fb_si_succ, h, Int.add_assoc]
theorem fb_si_nat (f : Nat → Nat) : ∀ n, fb_si (fun k => (f k : Int)) n = (fb_sm f n : Int)
  | 0 => rfl
  | n + 1 => by
    have h := fb_si_nat f n
    rw [fb_si_succ, fb_sm_succ, h]
    omega
theorem fb_si_bound {f : Nat → Int} {c : Int} (hc : 0 ≤ c) : ∀ {n : Nat}, (∀ k, k < n → -c ≤ f k ∧ f k ≤ c) → -(n * c) ≤ fb_si f n ∧ fb_si f n ≤ n * c
  | 0, _ => by simp [fb_si]
  | n + 1, h => by
    have h1 := fb_si_bound (n := n) (f := f) hc (fun k hk => h k (by omega))
    have h2 := h n (by omega)
    have e : ((n + 1 : Nat) : Int) * c = n * c + c := by rw [Int.natCast_add, Int.add_mul]; simp
    rw [fb_si_succ, e]
    omega
/-! ===== bits of a long that isn't negative ===== -/
theorem fb_andL (a b : Nat) : lN a &&& lN b = lN (a &&& b) := by
  apply Int64.toBitVec_inj.1
  show BitVec.ofNat 64 a &&& BitVec.ofNat 64 b = BitVec.ofNat 64 (a &&& b)
  apply BitVec.eq_of_getLsbD_eq
  intro i hi
  simp [hi]
theorem fb_orL (a b : Nat) : lN a ||| lN b = lN (a ||| b) := by
  apply Int64.toBitVec_inj.1
  show BitVec.ofNat 64 a ||| BitVec.ofNat 64 b = BitVec.ofNat 64 (a ||| b)
  apply BitVec.eq_of_getLsbD_eq
  intro i hi
  simp [hi]
theorem fb_xorL (a b : Nat) : lN a ^^^ lN b = lN (a ^^^ b) := by
  apply Int64.toBitVec_inj.1
  show BitVec.ofNat 64 a ^^^ BitVec.ofNat 64 b = BitVec.ofNat 64 (a ^^^ b)
  apply BitVec.eq_of_getLsbD_eq
  intro i hi
  simp [hi]
theorem fb_xorI (a b : Nat) : nI a ^^^ nI b = nI (a ^^^ b) := by
  apply Int32.toBitVec_inj.1
  show BitVec.ofNat 32 a ^^^ BitVec.ofNat 32 b = BitVec.ofNat 32 (a ^^^ b)
  apply BitVec.eq_of_getLsbD_eq
  intro i hi
  simp [hi]
theorem fb_maskL (n k : Nat) : lN n &&& lN (2 ^ k - 1) = lN (n % 2 ^ k) := by rw [fb_andL, Nat.and_two_pow_sub_one_eq_mod]
theorem fb_or_sumL {a k : Nat} (b : Nat) (h : a < 2 ^ k) : lN (2 ^ k * b) ||| lN a = lN (2 ^ k * b + a) := by rw [fb_orL, Nat.two_pow_add_eq_or_of_lt h]
theorem fb_lN_inj {a b : Nat} (ha : a < 2 ^ 63) (hb : b < 2 ^ 63) : lN a = lN b ↔ a = b := by
  constructor
  · intro h
    have h1 : (BitVec.ofNat 64 a).toNat = (BitVec.ofNat 64 b).toNat := congrArg (fun x : Int64 => x.toBitVec.toNat) h
    rw [BitVec.toNat_ofNat, BitVec.toNat_ofNat, Nat.mod_eq_of_lt (by omega), Nat.mod_eq_of_lt (by omega)] at h1
    exact h1
  · rintro rfl; rfl
theorem fb_bit_nat (n j : Nat) : n &&& 2 ^ j = 0 ↔ n.testBit j = false := by
  constructor
  · intro h
    have h1 : (n &&& 2 ^ j).testBit j = false := by rw [h]; simp
    rw [Nat.testBit_and] at h1
    simpa using h1
  · intro h
    apply Nat.eq_of_testBit_eq
    intro i
    rw [Nat.testBit_and]
    by_cases hi : j = i
    · subst hi; simp [h]
    · first | (simp [Nat.testBit_two_pow, hi]; done) | (simp [Nat.testBit_two_pow_of_ne hi]; done)
/-- one bit of a long -/
theorem fb_bitL {n j : Nat} (hj : j < 63) : lN n &&& lN (2 ^ j) = 0 ↔ n.testBit j = false := by
  have h2 : (2 : Nat) ^ j < 2 ^ 63 := Nat.pow_lt_pow_right (by decide) hj
  have hle : n &&& 2 ^ j ≤ 2 ^ j := Nat.and_le_right
  rw [fb_andL, ← fb_bit_nat, show (0 : Int64) = lN 0 from rfl]
  exact fb_lN_inj (by omega) (by decide)
/-- a bit set, a bit taken off -/
theorem fb_bit_set (n j i : Nat) : (n ||| 2 ^ j).testBit i = (n.testBit i || decide (i = j)) := by
  rw [Nat.testBit_or]
  by_cases h : j = i
  · subst h; simp
  · have h2 : ¬ i = j := fun e => h e.symm
    first | (simp [Nat.testBit_two_pow, h, h2]; done) | (simp [Nat.testBit_two_pow_of_ne h, h2]; done)
theorem fb_bit_flip (n j i : Nat) : (n ^^^ 2 ^ j).testBit i = (n.testBit i ^^ decide (i = j)) := by
  rw [Nat.testBit_xor]
  by_cases h : j = i
  · subst h; simp
  · have h2 : ¬ i = j := fun e => h e.symm
    first | (simp [Nat.testBit_two_pow, h, h2]; done) | (simp [Nat.testBit_two_pow_of_ne h, h2]; done)
/-! ===== a stretch of an array written over by a function ===== -/
def fb_put {α : Type} (f g : Nat → α) (a n : Nat) : Nat → α := fun k => if a ≤ k ∧ k < a + n then g (k - a) else f k
theorem fb_put_0 {α : Type} (f g : Nat → α) (a : Nat) : fb_put f g a 0 = f := funext fun k => if_neg (by omega)
theorem fb_put_in {α : Type} {f g : Nat → α} {a n k : Nat} (h1 : a ≤ k) (h2 : k < a + n) : fb_put f g a n k = g (k - a) := if_pos ⟨h1, h2⟩
theorem fb_put_out {α : Type} {f g : Nat → α} {a n k : Nat} (h : k < a ∨ a + n ≤ k) : fb_put f g a n k = f k := if_neg (by omega)
theorem fb_put_succ (f g : Nat → Int32) (a n : Nat) : upd (fb_put f g a n) (a + n) (g n) = fb_put f g a (n + 1) := by
  funext k
  by_cases h : k = a + n
  · subst h
    simp [upd, fb_put]
  · by_cases h1 : a ≤ k ∧ k < a + n
    · have h2 : a ≤ k ∧ k < a + (n + 1) := by omega
      simp only [upd, fb_put, if_neg h, if_pos h1, if_pos h2]
    · have h2 : ¬ (a ≤ k ∧ k < a + (n + 1)) := by omega
      simp only [upd, fb_put, if_neg h, if_neg h1, if_neg h2]
/-- .. from the far end down -/
theorem fb_put_down (f g : Nat → Int32) {a n m : Nat} (h : m < n) : upd (fb_put f (fun k => g (k + (m + 1))) (a + (m + 1)) (n - (m + 1))) (a + m) (g m) = fb_put f (fun k => g (k + m)) (a + m) (n - m) := by
  funext k
  by_cases h0 : k = a + m
  · subst h0
    simp only [upd, if_true]
    rw [fb_put_in (by omega) (by omega)]
    exact congrArg g (by omega)
  · simp only [upd, if_neg h0]
    by_cases h1 : a + (m + 1) ≤ k ∧ k < a + (m + 1) + (n - (m + 1))
    · rw [fb_put_in h1.1 h1.2, fb_put_in (by omega) (by omega)]
      exact congrArg g (by omega)
    · rw [fb_put_out (by omega), fb_put_out (by omega)]
theorem fb_put_cong {α : Type} {f f2 g g2 : Nat → α} {a n : Nat} (hf : ∀ k, (k < a ∨ a + n ≤ k) → f k = f2 k) (hg : ∀ k, k < n → g k = g2 k) : fb_put f g a n = fb_put f2 g2 a n := by
  funext k
  by_cases h : a ≤ k ∧ k < a + n
  · rw [fb_put_in h.1 h.2, fb_put_in h.1 h.2, hg _ (by omega)]
  · rw [fb_put_out (by omega), fb_put_out (by omega), hf _ (by omega)]
/-! ===== the least, the first, the best so far; that there is one alone ===== -/
theorem fb_first {p : Nat → Prop} [DecidablePred p] : ∀ {n : Nat}, (∃ i, i < n ∧ p i) → ∃ i, i < n ∧ p i ∧ ∀ j, j < i → ¬ p j
  | 0, h => by obtain ⟨i, hi, -⟩ := h; exact absurd hi (Nat.not_lt_zero i)
  | n + 1, h => by
    by_cases q : ∃ i, i < n ∧ p i
    · obtain ⟨i, h1, h2⟩ := fb_first q
      exact ⟨i, by omega, h2⟩
    · obtain ⟨i, h1, h2⟩ := h
      have e : i = n := by
        rcases Nat.lt_or_ge i n with r | r
        · exact absurd ⟨i, r, h2⟩ q
        · omega
      subst e
      exact ⟨i, by omega, h2, fun j hj hp => q ⟨j, hj, hp⟩⟩
theorem fb_first_one {p : Nat → Prop} {i j : Nat} (hi : p i) (hi2 : ∀ k, k < i → ¬ p k) (hj : p j) (hj2 : ∀ k, k < j → ¬ p k) : i = j := by
  rcases Nat.lt_trichotomy i j with q | q | q
  · exact absurd hi (hj2 i q)
  · exact q
  · exact absurd hj (hi2 j q)
theorem fb_last {p : Nat → Prop} [DecidablePred p] : ∀ {n : Nat}, (∃ i, i < n ∧ p i) → ∃ i, i < n ∧ p i ∧ ∀ j, i < j → j < n → ¬ p j
  | 0, h => by obtain ⟨i, hi, -⟩ := h; exact absurd hi (Nat.not_lt_zero i)
  | n + 1, h => by
    by_cases q : p n
    · exact ⟨n, by omega, q, fun j h1 h2 => by omega⟩
    · obtain ⟨i, h1, h2⟩ := h
      have hi : i < n := by
        rcases Nat.lt_or_ge i n with r | r
        · exact r
        · have e : i = n := by omega
          subst e
          exact absurd h2 q
      obtain ⟨i2, a1, a2, a3⟩ := fb_last (n := n) ⟨i, hi, h2⟩
      refine ⟨i2, by omega, a2, fun j b1 b2 => ?_⟩
      rcases Nat.lt_or_ge j n with r | r
      · exact a3 j b1 r
      · have e : j = n := by omega
        subst e
        exact q
/-- the first greatest -/
theorem fb_best (f : Nat → Int) : ∀ {n : Nat}, 0 < n → ∃ i, i < n ∧ (∀ j, j < n → f j ≤ f i) ∧ ∀ j, j < i → f j < f i
  | 0, h => absurd h (Nat.lt_irrefl 0)
  | 1, _ => ⟨0, by omega, fun j hj => by have e : j = 0 := by omega
                                         subst e; exact Int.le_refl _, fun j hj => absurd hj (Nat.not_lt_zero j)⟩
  | n + 2, _ => by
    obtain ⟨i, h1, h2, h3⟩ := fb_best f (n := n + 1) (by omega)
    by_cases q : f i < f (n + 1)
    · refine ⟨n + 1, by omega, fun j hj => ?_, fun j hj => ?_⟩
      · rcases Nat.lt_or_ge j (n + 1) with r | r
        · have := h2 j r; omega
        · have e : j = n + 1 := by omega
          subst e; exact Int.le_refl _
      · have := h2 j hj; omega
    · refine ⟨i, by omega, fun j hj => ?_, h3⟩
      rcases Nat.lt_or_ge j (n + 1) with r | r
      · exact h2 j r
      · have e : j = n + 1 := by omega
        subst e; omega
theorem fb_best_one {f : Nat → Int} {n i j : Nat} (hi : i < n) (hi2 : ∀ k, k < n → f k ≤ f i) (hi3 : ∀ k, k < i → f k < f i) (hj : j < n) (hj2 : ∀ k, k < n → f k ≤ f j) (hj3 : ∀ k, k < j → f k < f j) : i = j := by
  rcases Nat.lt_trichotomy i j with q | q | q
  · have a := hj3 i q
    have b := hi2 j hj
    omega
  · exact q
  · have a := hi3 j q
    have b := hj2 i hi
    omega
/-- the first least -/
theorem fb_low (f : Nat → Int) {n : Nat} (h : 0 < n) : ∃ i, i < n ∧ (∀ j, j < n → f i ≤ f j) ∧ ∀ j, j < i → f i < f j := by
  obtain ⟨i, h1, h2, h3⟩ := fb_best (fun k => -f k) h
  exact ⟨i, h1, fun j hj => by have := h2 j hj; omega, fun j hj => by have := h3 j hj; omega⟩
/-! ===== signed ints as whole numbers, within bounds ===== -/
theorem fb_rng (x : Int32) : -2147483648 ≤ x.toInt ∧ x.toInt < 2147483648 := by
  have h1 := Int32.le_toInt x
  have h2 := Int32.toInt_lt x
  omega
theorem fb_bmod {z : Int} (h1 : -2147483648 ≤ z) (h2 : z < 2147483648) : z.bmod (2 ^ 32) = z := by
  rw [Int.bmod_eq_of_le (by omega) (by omega)]
theorem fb_addI {x y : Int32} (h1 : -2147483648 ≤ x.toInt + y.toInt) (h2 : x.toInt + y.toInt < 2147483648) : (x + y).toInt = x.toInt + y.toInt := by
  rw [Int32.toInt_add, fb_bmod h1 h2]
theorem fb_subI {x y : Int32} (h1 : -2147483648 ≤ x.toInt - y.toInt) (h2 : x.toInt - y.toInt < 2147483648) : (x - y).toInt = x.toInt - y.toInt := by
  rw [Int32.toInt_sub, fb_bmod h1 h2]
theorem fb_mulI {x y : Int32} (h1 : -2147483648 ≤ x.toInt * y.toInt) (h2 : x.toInt * y.toInt < 2147483648) : (x * y).toInt = x.toInt * y.toInt := by
  rw [Int32.toInt_mul, fb_bmod h1 h2]
theorem fb_negI {x : Int32} (h : x.toInt ≠ -2147483648) : (-x).toInt = -x.toInt := by
  have := fb_rng x
  rw [Int32.toInt_neg, fb_bmod (by omega) (by omega)]
theorem fb_ofI {z : Int} (h1 : -2147483648 ≤ z) (h2 : z < 2147483648) : (Int32.ofInt z).toInt = z := by
  rw [Int32.toInt_ofInt, fb_bmod h1 h2]
theorem fb_asI (x : Int32) : Int32.ofInt x.toInt = x := Int32.ofInt_toInt x
theorem fb_rngL (x : Int64) : -9223372036854775808 ≤ x.toInt ∧ x.toInt < 9223372036854775808 := by
  have h1 := Int64.le_toInt x
  have h2 := Int64.toInt_lt x
  omega
theorem fb_bmodL {z : Int} (h1 : -9223372036854775808 ≤ z) (h2 : z < 9223372036854775808) : z.bmod (2 ^ 64) = z := by
  rw [Int.bmod_eq_of_le (by omega) (by omega)]
theorem fb_addL {x y : Int64} (h1 : -9223372036854775808 ≤ x.toInt + y.toInt) (h2 : x.toInt + y.toInt < 9223372036854775808) : (x + y).toInt = x.toInt + y.toInt := by
  rw [Int64.toInt_add, fb_bmodL h1 h2]
theorem fb_subL {x y : Int64} (h1 : -9223372036854775808 ≤ x.toInt - y.toInt) (h2 : x.toInt - y.toInt < 9223372036854775808) : (x - y).toInt = x.toInt - y.toInt := by
  rw [Int64.toInt_sub, fb_bmodL h1 h2]
theorem fb_mulL {x y : Int64} (h1 : -9223372036854775808 ≤ x.toInt * y.toInt) (h2 : x.toInt * y.toInt < 9223372036854775808) : (x * y).toInt = x.toInt * y.toInt := by
  rw [Int64.toInt_mul, fb_bmodL h1 h2]
/-! ===== cuts of what is narrow already ===== -/
theorem fb_byte {x : Int32} (h1 : -128 ≤ x.toInt) (h2 : x.toInt < 128) : x.toInt8.toInt32 = x := by
  apply Int32.toInt_inj.1
  rw [Int8.toInt_toInt32, Int32.toInt_toInt8, Int.bmod_eq_of_le (by omega) (by omega)]
theorem fb_short {x : Int32} (h1 : -32768 ≤ x.toInt) (h2 : x.toInt < 32768) : x.toInt16.toInt32 = x := by
  apply Int32.toInt_inj.1
  rw [Int16.toInt_toInt32, Int32.toInt_toInt16, Int.bmod_eq_of_le (by omega) (by omega)]
theorem fb_byte_rng (x : Int32) : -128 ≤ x.toInt8.toInt32.toInt ∧ x.toInt8.toInt32.toInt < 128 := by
  rw [Int8.toInt_toInt32]
  have h1 := Int8.le_toInt x.toInt8
  have h2 := Int8.toInt_lt x.toInt8
  omega
theorem fb_short_rng (x : Int32) : -32768 ≤ x.toInt16.toInt32.toInt ∧ x.toInt16.toInt32.toInt < 32768 := by
  rw [Int16.toInt_toInt32]
  have h1 := Int16.le_toInt x.toInt16
  have h2 := Int16.toInt_lt x.toInt16
  omega
theorem fb_byte_twice (x : Int32) : x.toInt8.toInt32.toInt8.toInt32 = x.toInt8.toInt32 := fb_byte (fb_byte_rng x).1 (fb_byte_rng x).2
theorem fb_short_twice (x : Int32) : x.toInt16.toInt32.toInt16.toInt32 = x.toInt16.toInt32 := fb_short (fb_short_rng x).1 (fb_short_rng x).2
theorem fb_char {n : Nat} (h : n < 65536) : (nI n).toUInt32.toUInt16.toUInt32.toInt32 = nI n := by
  apply Int32.toBitVec_inj.1
  apply BitVec.eq_of_toNat_eq
  have e1 : (nI n).toBitVec.toNat = n := by
    show (BitVec.ofNat 32 n).toNat = n
    rw [BitVec.toNat_ofNat, Nat.mod_eq_of_lt (by omega)]
  have e2 : ((nI n).toUInt32.toUInt16.toUInt32).toNat = n := by
    rw [UInt16.toNat_toUInt32, UInt32.toNat_toUInt16]
    show (nI n).toBitVec.toNat % 2 ^ 16 = n
    rw [e1, Nat.mod_eq_of_lt (by omega)]
  rw [e1]
  exact e2

theorem lv_cgi {p : Program} {l : Launch} {e : Env} {R : Room} {s : State} {m : MethodId} {args : Array Value} {below : List Frame} {meth : Method} {c : Code} {H : Heap} {locs : List Loc} {cells slots : Nat} {Q : State → Prop} {pc : Nat} {ls : Array Slot} {rest : List Value} {x y : Int32} (h : x = y) (k : W p l e R s m args below meth c H locs cells slots Q (F0 m pc ls (.int y :: rest))) : W p l e R s m args below meth c H locs cells slots Q (F0 m pc ls (.int x :: rest)) := h ▸ k
theorem lv_cgl {p : Program} {l : Launch} {e : Env} {R : Room} {s : State} {m : MethodId} {args : Array Value} {below : List Frame} {meth : Method} {c : Code} {H : Heap} {locs : List Loc} {cells slots : Nat} {Q : State → Prop} {pc : Nat} {ls : Array Slot} {rest : List Value} {x y : Int64} (h : x = y) (k : W p l e R s m args below meth c H locs cells slots Q (F0 m pc ls (.long y :: rest))) : W p l e R s m args below meth c H locs cells slots Q (F0 m pc ls (.long x :: rest)) := h ▸ k
theorem nn_lt {a b : Nat} (h : ¬ nI b ≤ nI a) (ha : a < 2 ^ 31) : a < b := by
  rcases Nat.lt_or_ge a b with q | q
  · exact q
  · exact absurd (nI_le q ha) h
theorem nn_ge {a b : Nat} (h : nI b ≤ nI a) (ha : a < 2 ^ 31) (hb : b < 2 ^ 31) : b ≤ a := (nI_leI hb ha).mp h
theorem nn_at (f : Nat → Int32) {n : Nat} (h : n < 2 ^ 31) : f (nI n).toNatClampNeg = f n := by rw [nI_clamp h]
theorem nn_up (f : Nat → Int32) {n : Nat} (h : n < 2 ^ 31) (x : Int32) : upd f (nI n).toNatClampNeg x = upd f n x := by rw [nI_clamp h]
end
section
/-! ===== ScaleHouse$Tape: what its methods answer ===== -/
/-- the byte at a shift -/
def tB (v x : Int32) : Int32 := (v.toUInt32 >>> (x.toUInt32 &&& Int32.toUInt32 31)).toInt32 &&& 255
def tIn (v : Int32) : Nat → Int32 → Int32
  | 0, a => a
  | k + 1, a => tIn v k (if tB v (nI (8 * k)) = 0 then a else a + 1)
def tAp (v : Int32) : Nat → (Nat → Int32) → Nat → (Nat → Int32) × Nat
  | 0, f, n => (f, n)
  | k + 1, f, n => if tB v (nI (8 * k)) = 0 then tAp v k f n else if n < 120 then tAp v k (upd f n (tB v (nI (8 * k)))) (n + 1) else tAp v k f n
theorem tAp_le (v : Int32) : ∀ (k : Nat) (f : Nat → Int32) (n : Nat), n ≤ 120 → (tAp v k f n).2 ≤ 120
  | 0, _, _, h => h
  | k + 1, f, n, h => by
    unfold tAp
    split
    · exact tAp_le v k f n h
    · split
      · exact tAp_le v k _ _ (by omega)
      · exact tAp_le v k f n h
def tDig (x : Int32) : Int32 := if x < 48 then 0 else if 57 < x then 0 else 1
def tFits (x w d : Int32) : Int32 := if x = 40 then (if w = 0 then 0 else if 8 ≤ d then 0 else 1) else if x = 41 then (if w = 0 then (if d ≤ 0 then 0 else 1) else 0) else if x = 42 then (if w = 0 then 1 else 0) else if x = 43 then (if w = 0 then 1 else 0) else if x = 45 then (if w = 0 then 1 else 0) else if x = 47 then (if w = 0 then 1 else 0) else if x = 100 then w else if x = 108 then w else 0
def tFf (f : Nat → Int32) (n : Nat) : Nat → Nat → Int32 → Int32 → Int32 → Int32
  | 0, _, w, d, _ => if w = 0 then (if d ≤ 0 then -1 else nI n) else nI n
  | r + 1, i, w, d, g => if tDig (f i) = 0 then (if f i = 32 then tFf f n r (i + 1) w d 0 else if tFits (f i) w d = 0 then nI i else if f i = 40 then tFf f n r (i + 1) w (d + 1) 0 else if f i = 41 then tFf f n r (i + 1) w (d + (-1)) 0 else if w = 0 then tFf f n r (i + 1) 1 d 0 else tFf f n r (i + 1) 0 d 0)
    else if w = 0 then (if g = 0 then nI i else if g = 5 then nI i else tFf f n r (i + 1) 0 d (g + 1)) else tFf f n r (i + 1) 0 d (g + 1)
/-- the shift at the head of a loop from k bytes down -/
theorem sh_neg {x : Int32} (h : x = nI (8 * 0) - 8) : x < 0 := by rw [h]; decide
theorem sh_pos {x : Int32} {k : Nat} (hk : k + 1 ≤ 4) (h : x = nI (8 * (k + 1)) - 8) : x = nI (8 * k) ∧ ¬ x < 0 := by
  have e : x = nI (8 * k) := by rw [h, show (8 : Int32) = nI 8 from rfl, pk_sub (by omega), show 8 * (k + 1) - 8 = 8 * k by omega]
  exact ⟨e, by rw [e]; exact nI_pos (by omega)⟩
theorem sh_dn {k : Nat} : nI (8 * k) + (-8) = nI (8 * k) - 8 := by rw [Int32.sub_eq_add_neg]

set_option maxHeartbeats 4000000 in
set_option maxRecDepth 100000 in
theorem t_isDigit (l : Launch) (G : gG) (x : Int32) : cM l yX8_isDigit wsX8_isDigit 0 0 0 0 G [.int x] ([]) (qI G (S := Unit) (fun r _ => r = tDig x) (fun _ => [])) := by
  refine o_M (cc := cX8_isDigit) (maxL := 1) (ret := (some .boolean)) (own := RX8) (by decide +kernel) rfl rfl (Nat.le_of_ble_eq_true rfl) ?_
  intro p e s m below meth c A ls H locs hA C h hr hlk hnm hl
  have hx := C.1.1.1
  have hb := C.1.1.2.1
  have hl : lv_has ls 1 [(0, .int x)] := hl
  refine lv_iload_n hx hb dX8_isDigit_0 rfl (lv_at hl 0 rfl) ?_
  refine lv_bipush (v := 48) hx hb dX8_isDigit_1 (by decide) ?_
  refine lv_icmp_lt (tgt := 16) hx hb dX8_isDigit_3 (by decide) (fun c_3 => ?_) (fun c_3 => ?_)
  · refine lv_iconst (v := 0) hx hb dX8_isDigit_16 (by decide) ?_
    exact r_zret C h hr hlk (Nat.zero_le _) (Nat.zero_le _) (Or.inl rfl) () (by simp only [tDig, if_pos c_3]) (rfl) dX8_isDigit_17
  · refine lv_iload_n hx hb dX8_isDigit_6 rfl (lv_at hl 0 rfl) ?_
    refine lv_bipush (v := 57) hx hb dX8_isDigit_7 (by decide) ?_
    refine lv_icmp_gt (tgt := 16) hx hb dX8_isDigit_9 (by decide) (fun c_9 => ?_) (fun c_9 => ?_)
    · refine lv_iconst (v := 0) hx hb dX8_isDigit_16 (by decide) ?_
      exact r_zret C h hr hlk (Nat.zero_le _) (Nat.zero_le _) (Or.inl rfl) () (by simp only [tDig, if_neg c_3, if_pos c_9]) (rfl) dX8_isDigit_17
    · refine lv_iconst (v := 1) hx hb dX8_isDigit_12 (by decide) ?_
      refine lv_goto (tgt := 17) hx hb dX8_isDigit_13 (by decide) ?_
      exact r_zret C h hr hlk (Nat.zero_le _) (Nat.zero_le _) (Or.inr rfl) () (by simp only [tDig, if_neg c_3, if_neg c_9]) (rfl) dX8_isDigit_17

set_option maxHeartbeats 4000000 in
set_option maxRecDepth 100000 in
theorem t_fits (l : Launch) (G : gG) (x w d : Int32) (hw : w = 0 ∨ w = 1) : cM l yX8_fits wsX8_fits 0 0 0 0 G [.int x, .int w, .int d] ([]) (qI G (S := Unit) (fun r _ => r = tFits x w d) (fun _ => [])) := by
  refine o_M (cc := cX8_fits) (maxL := 3) (ret := (some .boolean)) (own := RX8) (by decide +kernel) rfl rfl (Nat.le_of_ble_eq_true rfl) ?_
  intro p e s m below meth c A ls H locs hA C h hr hlk hnm hl
  have hx := C.1.1.1
  have hb := C.1.1.2.1
  have hl : lv_has ls 3 [(0, .int x), (1, .int w), (2, .int d)] := hl
  refine lv_iload_n hx hb dX8_fits_0 rfl (lv_at hl 0 rfl) ?_
  by_cases c_1_40 : x = 40
  · refine lv_lookup (off := 77) (tgt := 78) hx hb dX8_fits_1 (by decide) (by rw [c_1_40]; decide) (by decide) ?_
    refine lv_iload_n hx hb dX8_fits_78 rfl (lv_at hl 1 rfl) ?_
    refine lv_if_eq (tgt := 92) hx hb dX8_fits_79 (by decide) (fun c_79 => ?_) (fun c_79 => ?_)
    · refine lv_iconst (v := 0) hx hb dX8_fits_92 (by decide) ?_
      exact r_zret C h hr hlk (Nat.zero_le _) (Nat.zero_le _) (Or.inl rfl) () (by simp only [tFits, if_pos c_1_40, if_pos c_79]) (rfl) dX8_fits_93
    · refine lv_iload_n hx hb dX8_fits_82 rfl (lv_at hl 2 rfl) ?_
      refine lv_bipush (v := 8) hx hb dX8_fits_83 (by decide) ?_
      refine lv_icmp_ge (tgt := 92) hx hb dX8_fits_85 (by decide) (fun c_85 => ?_) (fun c_85 => ?_)
      · refine lv_iconst (v := 0) hx hb dX8_fits_92 (by decide) ?_
        exact r_zret C h hr hlk (Nat.zero_le _) (Nat.zero_le _) (Or.inl rfl) () (by simp only [tFits, if_pos c_1_40, if_neg c_79, if_pos c_85]) (rfl) dX8_fits_93
      · refine lv_iconst (v := 1) hx hb dX8_fits_88 (by decide) ?_
        refine lv_goto (tgt := 93) hx hb dX8_fits_89 (by decide) ?_
        exact r_zret C h hr hlk (Nat.zero_le _) (Nat.zero_le _) (Or.inr rfl) () (by simp only [tFits, if_pos c_1_40, if_neg c_79, if_neg c_85]) (rfl) dX8_fits_93
  by_cases c_1_41 : x = 41
  · refine lv_lookup (off := 93) (tgt := 94) hx hb dX8_fits_1 (by decide) (by rw [c_1_41]; decide) (by decide) ?_
    refine lv_iload_n hx hb dX8_fits_94 rfl (lv_at hl 1 rfl) ?_
    refine lv_if_ne (tgt := 106) hx hb dX8_fits_95 (by decide) (fun c_95 => ?_) (fun c_95 => ?_)
    · refine lv_iconst (v := 0) hx hb dX8_fits_106 (by decide) ?_
      exact r_zret C h hr hlk (Nat.zero_le _) (Nat.zero_le _) (Or.inl rfl) () (by simp only [tFits, if_neg c_1_40, if_pos c_1_41, if_neg c_95]) (rfl) dX8_fits_107
    · refine lv_iload_n hx hb dX8_fits_98 rfl (lv_at hl 2 rfl) ?_
      refine lv_if_le (tgt := 106) hx hb dX8_fits_99 (by decide) (fun c_99 => ?_) (fun c_99 => ?_)
      · refine lv_iconst (v := 0) hx hb dX8_fits_106 (by decide) ?_
        exact r_zret C h hr hlk (Nat.zero_le _) (Nat.zero_le _) (Or.inl rfl) () (by simp only [tFits, if_neg c_1_40, if_pos c_1_41, if_pos c_95, if_pos c_99]) (rfl) dX8_fits_107
      · refine lv_iconst (v := 1) hx hb dX8_fits_102 (by decide) ?_
        refine lv_goto (tgt := 107) hx hb dX8_fits_103 (by decide) ?_
        exact r_zret C h hr hlk (Nat.zero_le _) (Nat.zero_le _) (Or.inr rfl) () (by simp only [tFits, if_neg c_1_40, if_pos c_1_41, if_pos c_95, if_neg c_99]) (rfl) dX8_fits_107
  by_cases c_1_42 : x = 42
  · refine lv_lookup (off := 107) (tgt := 108) hx hb dX8_fits_1 (by decide) (by rw [c_1_42]; decide) (by decide) ?_
    refine lv_iload_n hx hb dX8_fits_108 rfl (lv_at hl 1 rfl) ?_
    refine lv_if_ne (tgt := 116) hx hb dX8_fits_109 (by decide) (fun c_109 => ?_) (fun c_109 => ?_)
    · refine lv_iconst (v := 0) hx hb dX8_fits_116 (by decide) ?_
      exact r_zret C h hr hlk (Nat.zero_le _) (Nat.zero_le _) (Or.inl rfl) () (by simp only [tFits, if_neg c_1_40, if_neg c_1_41, if_pos c_1_42, if_neg c_109]) (rfl) dX8_fits_117
    · refine lv_iconst (v := 1) hx hb dX8_fits_112 (by decide) ?_
      refine lv_goto (tgt := 117) hx hb dX8_fits_113 (by decide) ?_
      exact r_zret C h hr hlk (Nat.zero_le _) (Nat.zero_le _) (Or.inr rfl) () (by simp only [tFits, if_neg c_1_40, if_neg c_1_41, if_pos c_1_42, if_pos c_109]) (rfl) dX8_fits_117
  by_cases c_1_43 : x = 43
  · refine lv_lookup (off := 107) (tgt := 108) hx hb dX8_fits_1 (by decide) (by rw [c_1_43]; decide) (by decide) ?_
    refine lv_iload_n hx hb dX8_fits_108 rfl (lv_at hl 1 rfl) ?_
    refine lv_if_ne (tgt := 116) hx hb dX8_fits_109 (by decide) (fun c_109 => ?_) (fun c_109 => ?_)
    · refine lv_iconst (v := 0) hx hb dX8_fits_116 (by decide) ?_
      exact r_zret C h hr hlk (Nat.zero_le _) (Nat.zero_le _) (Or.inl rfl) () (by simp only [tFits, if_neg c_1_40, if_neg c_1_41, if_neg c_1_42, if_pos c_1_43, if_neg c_109]) (rfl) dX8_fits_117
    · refine lv_iconst (v := 1) hx hb dX8_fits_112 (by decide) ?_
      refine lv_goto (tgt := 117) hx hb dX8_fits_113 (by decide) ?_
      exact r_zret C h hr hlk (Nat.zero_le _) (Nat.zero_le _) (Or.inr rfl) () (by simp only [tFits, if_neg c_1_40, if_neg c_1_41, if_neg c_1_42, if_pos c_1_43, if_pos c_109]) (rfl) dX8_fits_117
  by_cases c_1_45 : x = 45
  · refine lv_lookup (off := 107) (tgt := 108) hx hb dX8_fits_1 (by decide) (by rw [c_1_45]; decide) (by decide) ?_
    refine lv_iload_n hx hb dX8_fits_108 rfl (lv_at hl 1 rfl) ?_
    refine lv_if_ne (tgt := 116) hx hb dX8_fits_109 (by decide) (fun c_109 => ?_) (fun c_109 => ?_)
    · refine lv_iconst (v := 0) hx hb dX8_fits_116 (by decide) ?_
      exact r_zret C h hr hlk (Nat.zero_le _) (Nat.zero_le _) (Or.inl rfl) () (by simp only [tFits, if_neg c_1_40, if_neg c_1_41, if_neg c_1_42, if_neg c_1_43, if_pos c_1_45, if_neg c_109]) (rfl) dX8_fits_117
    · refine lv_iconst (v := 1) hx hb dX8_fits_112 (by decide) ?_
      refine lv_goto (tgt := 117) hx hb dX8_fits_113 (by decide) ?_
      exact r_zret C h hr hlk (Nat.zero_le _) (Nat.zero_le _) (Or.inr rfl) () (by simp only [tFits, if_neg c_1_40, if_neg c_1_41, if_neg c_1_42, if_neg c_1_43, if_pos c_1_45, if_pos c_109]) (rfl) dX8_fits_117
  by_cases c_1_47 : x = 47
  · refine lv_lookup (off := 107) (tgt := 108) hx hb dX8_fits_1 (by decide) (by rw [c_1_47]; decide) (by decide) ?_
    refine lv_iload_n hx hb dX8_fits_108 rfl (lv_at hl 1 rfl) ?_
    refine lv_if_ne (tgt := 116) hx hb dX8_fits_109 (by decide) (fun c_109 => ?_) (fun c_109 => ?_)
    · refine lv_iconst (v := 0) hx hb dX8_fits_116 (by decide) ?_
      exact r_zret C h hr hlk (Nat.zero_le _) (Nat.zero_le _) (Or.inl rfl) () (by simp only [tFits, if_neg c_1_40, if_neg c_1_41, if_neg c_1_42, if_neg c_1_43, if_neg c_1_45, if_pos c_1_47, if_neg c_109]) (rfl) dX8_fits_117
    · refine lv_iconst (v := 1) hx hb dX8_fits_112 (by decide) ?_
      refine lv_goto (tgt := 117) hx hb dX8_fits_113 (by decide) ?_
      exact r_zret C h hr hlk (Nat.zero_le _) (Nat.zero_le _) (Or.inr rfl) () (by simp only [tFits, if_neg c_1_40, if_neg c_1_41, if_neg c_1_42, if_neg c_1_43, if_neg c_1_45, if_pos c_1_47, if_pos c_109]) (rfl) dX8_fits_117
  by_cases c_1_100 : x = 100
  · refine lv_lookup (off := 75) (tgt := 76) hx hb dX8_fits_1 (by decide) (by rw [c_1_100]; decide) (by decide) ?_
    refine lv_iload_n hx hb dX8_fits_76 rfl (lv_at hl 1 rfl) ?_
    exact r_zret C h hr hlk (Nat.zero_le _) (Nat.zero_le _) (by assumption) () (by simp only [tFits, if_neg c_1_40, if_neg c_1_41, if_neg c_1_42, if_neg c_1_43, if_neg c_1_45, if_neg c_1_47, if_pos c_1_100]) (rfl) dX8_fits_77
  by_cases c_1_108 : x = 108
  · refine lv_lookup (off := 75) (tgt := 76) hx hb dX8_fits_1 (by decide) (by rw [c_1_108]; decide) (by decide) ?_
    refine lv_iload_n hx hb dX8_fits_76 rfl (lv_at hl 1 rfl) ?_
    exact r_zret C h hr hlk (Nat.zero_le _) (Nat.zero_le _) (by assumption) () (by simp only [tFits, if_neg c_1_40, if_neg c_1_41, if_neg c_1_42, if_neg c_1_43, if_neg c_1_45, if_neg c_1_47, if_neg c_1_100, if_pos c_1_108]) (rfl) dX8_fits_77
  refine lv_lookup (off := 117) (tgt := 118) hx hb dX8_fits_1 (by decide) (by rw [show (#[(40, 77), (41, 93), (42, 107), (43, 107), (45, 107), (47, 107), (100, 75), (108, 75)] : Array (Int × Int)).toList = [(40, 77), (41, 93), (42, 107), (43, 107), (45, 107), (47, 107), (100, 75), (108, 75)] from rfl, lv_osw (a := 40) c_1_40 (by decide), lv_osw (a := 41) c_1_41 (by decide), lv_osw (a := 42) c_1_42 (by decide), lv_osw (a := 43) c_1_43 (by decide), lv_osw (a := 45) c_1_45 (by decide), lv_osw (a := 47) c_1_47 (by decide), lv_osw (a := 100) c_1_100 (by decide), lv_osw (a := 108) c_1_108 (by decide)]; rfl) (by decide) ?_
  refine lv_iconst (v := 0) hx hb dX8_fits_118 (by decide) ?_
  exact r_zret C h hr hlk (Nat.zero_le _) (Nat.zero_le _) (Or.inl rfl) () (by simp only [tFits, if_neg c_1_40, if_neg c_1_41, if_neg c_1_42, if_neg c_1_43, if_neg c_1_45, if_neg c_1_47, if_neg c_1_100, if_neg c_1_108]) (rfl) dX8_fits_119

set_option maxHeartbeats 4000000 in
set_option maxRecDepth 100000 in
theorem lp_X8_bytesIn {p : Program} {l : Launch} {e : Env} {R : Room} {s : State} {m : MethodId} {args : Array Value} {below : List Frame} {meth : Method} {c : Code} {cells slots : Nat} {Q : State → Prop} {G : gG} {A : Nat → Prop} (C : gC p m c cX8_bytesIn 3 s args wsX8_bytesIn RX8 G A) (v z : Int32) (kx : ∀ (H : Heap) (locs : List Loc) (ls : Array Slot), gS G A s [] H locs → lv_has ls 3 [(0, .int v), (1, .int z)] → W p l e R s m args below meth c H locs cells slots Q (F0 m 28 ls [])) :
    ∀ (k : Nat) (a x : Int32) (H : Heap) (locs : List Loc) (ls : Array Slot), (k ≤ 4) → (x = nI (8 * k) - 8) → (tIn v k a = z) →  gS G A s ([]) H locs → lv_has ls 3 [(0, .int v), (1, .int a), (2, .int x)] → W p l e R s m args below meth c H locs cells slots Q (F0 m 5 ls []) := by
  have hx := C.1.1.1
  have hb := C.1.1.2.1
  intro k
  induction k with
  | zero =>
    intro a x H locs ls hk ex hz h hl
    refine lv_iload_n hx hb dX8_bytesIn_5 rfl (lv_at hl 2 rfl) ?_
    refine lv_if_lt (tgt := 28) hx hb dX8_bytesIn_6 (by decide) (fun c_6 => ?_) (fun c_6 => ?_)
    · subst hz
      exact kx _ _ ls h (lv_sub hl [0, 1] rfl)
    · exact absurd (sh_neg ex) c_6
  | succ k ih =>
    intro a x H locs ls hk ex hz h hl
    obtain ⟨ex, hpos⟩ := sh_pos hk ex
    subst ex
    refine lv_iload_n hx hb dX8_bytesIn_5 rfl (lv_at hl 2 rfl) ?_
    refine lv_if_lt (tgt := 28) hx hb dX8_bytesIn_6 (by decide) (fun c_6 => ?_) (fun c_6 => ?_)
    · exact absurd c_6 hpos
    · refine lv_iload_n hx hb dX8_bytesIn_9 rfl (lv_at hl 0 rfl) ?_
      refine lv_iload_n hx hb dX8_bytesIn_10 rfl (lv_at hl 2 rfl) ?_
      refine lv_iushr hx hb dX8_bytesIn_11 rfl ?_
      refine lv_sipush (v := 255) hx hb dX8_bytesIn_12 (by decide) ?_
      refine lv_iand hx hb dX8_bytesIn_15 ?_
      refine lv_cgi (y := (tB v (nI (8 * k)))) (rfl) ?_
      refine lv_if_eq (tgt := 22) hx hb dX8_bytesIn_16 (by decide) (fun c_16 => ?_) (fun c_16 => ?_)
      · obtain ⟨x_1, ex_1⟩ : ∃ y : Int32, y = (nI (8 * k)) + (-8) := ⟨_, rfl⟩
        refine lv_iinc (v := x_1) (lv' := [(2, .int x_1), (0, .int v), (1, .int a)]) hx hb dX8_bytesIn_22 hl (k := 2) rfl (by rw [ex_1]; rfl) (by decide) rfl (fun ls hl => ?_)
        refine lv_goto (tgt := 5) hx hb dX8_bytesIn_25 (by decide) ?_
        exact ih a x_1 _ _ ls (by omega) (by rw [ex_1]; exact sh_dn) (by rw [← hz, tIn]; simp only [if_pos c_16]) h (lv_sub hl [1, 2, 0] rfl)
      · obtain ⟨x_2, ex_2⟩ : ∃ y : Int32, y = a + 1 := ⟨_, rfl⟩
        refine lv_iinc (v := x_2) (lv' := [(1, .int x_2), (0, .int v), (2, .int (nI (8 * k)))]) hx hb dX8_bytesIn_19 hl (k := 1) rfl (by rw [ex_2]; rfl) (by decide) rfl (fun ls hl => ?_)
        obtain ⟨x_3, ex_3⟩ : ∃ y : Int32, y = (nI (8 * k)) + (-8) := ⟨_, rfl⟩
        refine lv_iinc (v := x_3) (lv' := [(2, .int x_3), (1, .int x_2), (0, .int v)]) hx hb dX8_bytesIn_22 hl (k := 2) rfl (by rw [ex_3]; rfl) (by decide) rfl (fun ls hl => ?_)
        refine lv_goto (tgt := 5) hx hb dX8_bytesIn_25 (by decide) ?_
        exact ih x_2 x_3 _ _ ls (by omega) (by rw [ex_3]; exact sh_dn) (by rw [← hz, tIn]; simp only [if_neg c_16, ex_2]) h (lv_sub hl [2, 1, 0] rfl)

set_option maxHeartbeats 4000000 in
set_option maxRecDepth 100000 in
theorem t_bytesIn (l : Launch) (G : gG) (v : Int32) : cM l yX8_bytesIn wsX8_bytesIn 0 0 0 0 G [.int v] ([]) (qI G (S := Unit) (fun r _ => r = tIn v 4 0) (fun _ => [])) := by
  refine o_M (cc := cX8_bytesIn) (maxL := 3) (ret := (some .int)) (own := RX8) (by decide +kernel) rfl rfl (Nat.le_of_ble_eq_true rfl) ?_
  intro p e s m below meth c A ls H locs hA C h hr hlk hnm hl
  have hx := C.1.1.1
  have hb := C.1.1.2.1
  have hl : lv_has ls 3 [(0, .int v)] := hl
  refine lv_iconst (v := 0) hx hb dX8_bytesIn_0 (by decide) ?_
  refine lv_istore_n (lv' := [(1, .int 0), (0, .int v)]) hx hb dX8_bytesIn_1 rfl hl (by decide) rfl (fun ls hl => ?_)
  refine lv_bipush (v := 24) hx hb dX8_bytesIn_2 (by decide) ?_
  refine lv_istore_n (lv' := [(2, .int 24), (1, .int 0), (0, .int v)]) hx hb dX8_bytesIn_4 rfl hl (by decide) rfl (fun ls hl => ?_)
  refine lp_X8_bytesIn C v (tIn v 4 0) (fun H locs ls h hl => ?_) 4 0 24 _ _ ls (by decide) (by decide) rfl h (lv_sub hl [2, 1, 0] rfl)
  refine lv_iload_n hx hb dX8_bytesIn_28 rfl (lv_at hl 1 rfl) ?_
  exact r_iret C h hr hlk (Nat.zero_le _) (Nat.zero_le _) () (rfl) (rfl) dX8_bytesIn_29

set_option maxHeartbeats 4000000 in
set_option maxRecDepth 100000 in
theorem lp_X8_append {p : Program} {l : Launch} {e : Env} {R : Room} {s : State} {m : MethodId} {args : Array Value} {below : List Frame} {meth : Method} {c : Code} {cells slots : Nat} {Q : State → Prop} {G : gG} {A : Nat → Prop} (C : gC p m c cX8_append 4 s args wsX8_append RX8 G A) (h0 h1 : Nat) (v : Int32) (f' : Nat → Int32) (n' : Nat) (kx : ∀ (H : Heap) (locs : List Loc) (ls : Array Slot), gS G A s ([(h0, .inr (8, [.ref h1, .int (nI n')])), (h1, .inl (G.2.2 1, 120, .inl f'))]) H locs → lv_has ls 4 [(0, .ref h0)] → W p l e R s m args below meth c H locs cells slots Q (F0 m 54 ls [])) :
    ∀ (k : Nat) (n : Nat) (f : Nat → Int32) (x : Int32) (H : Heap) (locs : List Loc) (ls : Array Slot), (k ≤ 4) → (x = nI (8 * k) - 8) → (n ≤ 120) → (tAp v k f n = (f', n')) →  gS G A s ([(h0, .inr (8, [.ref h1, .int (nI n)])), (h1, .inl (G.2.2 1, 120, .inl f))]) H locs → lv_has ls 4 [(0, .ref h0), (1, .int v), (2, .int x)] → W p l e R s m args below meth c H locs cells slots Q (F0 m 3 ls []) := by
  have hx := C.1.1.1
  have hb := C.1.1.2.1
  have wd0 : Cond.fieldLink RX8 15 "ScaleHouse$Tape" "size" "I" ∈ wsX8_append := by decide +kernel
  have hinX8 : ∀ w ∈ wsX80, w ∈ wsX8_append := by decide +kernel
  have wd1 : Cond.fieldLink RX8 9 "ScaleHouse$Tape" "bytes" "[I" ∈ wsX8_append := by decide +kernel
  intro k
  induction k with
  | zero =>
    intro n f x H locs ls hk ex hn hz h hl
    refine lv_iload_n hx hb dX8_append_3 rfl (lv_at hl 2 rfl) ?_
    refine lv_if_lt (tgt := 54) hx hb dX8_append_4 (by decide) (fun c_4 => ?_) (fun c_4 => ?_)
    · cases hz
      exact kx _ _ ls h (lv_sub hl [0] rfl)
    · exact absurd (sh_neg ex) c_4
  | succ k ih =>
    intro n f x H locs ls hk ex hn hz h hl
    obtain ⟨ex, hpos⟩ := sh_pos hk ex
    subst ex
    refine lv_iload_n hx hb dX8_append_3 rfl (lv_at hl 2 rfl) ?_
    refine lv_if_lt (tgt := 54) hx hb dX8_append_4 (by decide) (fun c_4 => ?_) (fun c_4 => ?_)
    · exact absurd c_4 hpos
    · refine lv_iload_n hx hb dX8_append_7 rfl (lv_at hl 1 rfl) ?_
      refine lv_iload_n hx hb dX8_append_8 rfl (lv_at hl 2 rfl) ?_
      refine lv_iushr hx hb dX8_append_9 rfl ?_
      refine lv_sipush (v := 255) hx hb dX8_append_10 (by decide) ?_
      refine lv_iand hx hb dX8_append_13 ?_
      refine lv_cgi (y := (tB v (nI (8 * k)))) (rfl) ?_
      refine lv_istore_n (lv' := [(3, .int (tB v (nI (8 * k)))), (0, .ref h0), (1, .int v), (2, .int (nI (8 * k)))]) hx hb dX8_append_14 rfl hl (by decide) rfl (fun ls hl => ?_)
      refine lv_iload_n hx hb dX8_append_15 rfl (lv_at hl 0 rfl) ?_
      refine lv_if_eq (tgt := 48) hx hb dX8_append_16 (by decide) (fun c_16 => ?_) (fun c_16 => ?_)
      · obtain ⟨x_1, ex_1⟩ : ∃ y : Int32, y = (nI (8 * k)) + (-8) := ⟨_, rfl⟩
        refine lv_iinc (v := x_1) (lv' := [(2, .int x_1), (3, .int (tB v (nI (8 * k)))), (0, .ref h0), (1, .int v)]) hx hb dX8_append_48 hl (k := 3) rfl (by rw [ex_1]; rfl) (by decide) rfl (fun ls hl => ?_)
        refine lv_goto (tgt := 3) hx hb dX8_append_51 (by decide) ?_
        exact ih n f x_1 _ _ ls (by omega) (by rw [ex_1]; exact sh_dn) hn (by rw [← hz, tAp, if_pos c_16]) h (lv_sub hl [2, 3, 0] rfl)
      · refine lv_aload_n hx hb dX8_append_19 rfl (lv_at hl 1 rfl) ?_
        refine r_get C h 0 rfl (Cn := RX8) (T := TX8) (N := 2) rfl hinX8 1 (by decide) (index := 15) (ref := "ScaleHouse$Tape") wd0 rfl (v := .int (nI n)) rfl dX8_append_20 ?_
        refine lv_bipush (v := 120) hx hb dX8_append_23 (by decide) ?_
        refine lv_icmp_ge (tgt := 48) hx hb dX8_append_25 (by decide) (fun c_25 => ?_) (fun c_25 => ?_)
        · have hge : ¬ n < 120 := fun z => absurd c_25 (nI_ge (b := 120) z (by decide))
          obtain ⟨x_2, ex_2⟩ : ∃ y : Int32, y = (nI (8 * k)) + (-8) := ⟨_, rfl⟩
          refine lv_iinc (v := x_2) (lv' := [(2, .int x_2), (3, .int (tB v (nI (8 * k)))), (0, .ref h0), (1, .int v)]) hx hb dX8_append_48 hl (k := 3) rfl (by rw [ex_2]; rfl) (by decide) rfl (fun ls hl => ?_)
          refine lv_goto (tgt := 3) hx hb dX8_append_51 (by decide) ?_
          exact ih n f x_2 _ _ ls (by omega) (by rw [ex_2]; exact sh_dn) hn (by rw [← hz, tAp, if_neg c_16, if_neg hge]) h (lv_sub hl [2, 3, 0] rfl)
        · have hlt : n < 120 := nn_lt (b := 120) c_25 (by omega)
          refine lv_aload_n hx hb dX8_append_28 rfl (lv_at hl 1 rfl) ?_
          refine r_get C h 0 rfl (Cn := RX8) (T := TX8) (N := 2) rfl hinX8 0 (by decide) (index := 9) (ref := "ScaleHouse$Tape") wd1 rfl (v := .ref h1) rfl dX8_append_29 ?_
          refine lv_aload_n hx hb dX8_append_32 rfl (lv_at hl 1 rfl) ?_
          refine r_get C h 0 rfl (Cn := RX8) (T := TX8) (N := 2) rfl hinX8 1 (by decide) (index := 15) (ref := "ScaleHouse$Tape") wd0 rfl (v := .int (nI n)) rfl dX8_append_33 ?_
          refine lv_iload_n hx hb dX8_append_36 rfl (lv_at hl 0 rfl) ?_
          refine r_iast C h 1 rfl (i := (nI n)) (vp_in_nI hlt (by decide)) dX8_append_37 (fun H locs h => ?_)
          have h : gS G A s ([(h0, .inr (8, [.ref h1, .int (nI n)])), (h1, .inl (G.2.2 1, 120, .inl (upd f (nI n).toNatClampNeg (tB v (nI (8 * k))))))]) H locs := h
          rw [show (upd f (nI n).toNatClampNeg (tB v (nI (8 * k)))) = (upd f n (tB v (nI (8 * k)))) from by rw [nI_clamp (by omega)]] at h
          have h : gS G A s ([(h0, .inr (8, [.ref h1, .int (nI n)])), (h1, .inl (G.2.2 1, 120, .inl (upd f n (tB v (nI (8 * k))))))]) H locs := h
          refine lv_aload_n hx hb dX8_append_38 rfl (lv_at hl 1 rfl) ?_
          refine lv_dup hx hb dX8_append_39 rfl ?_
          refine r_get C h 0 rfl (Cn := RX8) (T := TX8) (N := 2) rfl hinX8 1 (by decide) (index := 15) (ref := "ScaleHouse$Tape") wd0 rfl (v := .int (nI n)) rfl dX8_append_40 ?_
          refine lv_iconst (v := 1) hx hb dX8_append_43 (by decide) ?_
          refine lv_iadd hx hb dX8_append_44 ?_
          refine r_put C h 0 rfl (Cn := RX8) (T := TX8) (N := 2) rfl hinX8 tyX8 tyX8_ok nmX8 1 (by decide) (index := 15) (ref := "ScaleHouse$Tape") wd0 rfl rfl (v := .int ((nI n) + 1)) rfl rfl (show 1 < 2 by decide) dX8_append_45 (fun H locs h => ?_)
          have h : gS G A s ([(h0, .inr (8, [.ref h1, .int ((nI n) + 1)])), (h1, .inl (G.2.2 1, 120, .inl (upd f n (tB v (nI (8 * k))))))]) H locs := h
          obtain ⟨x_3, ex_3⟩ : ∃ y : Int32, y = (nI (8 * k)) + (-8) := ⟨_, rfl⟩
          refine lv_iinc (v := x_3) (lv' := [(2, .int x_3), (3, .int (tB v (nI (8 * k)))), (0, .ref h0), (1, .int v)]) hx hb dX8_append_48 hl (k := 3) rfl (by rw [ex_3]; rfl) (by decide) rfl (fun ls hl => ?_)
          refine lv_goto (tgt := 3) hx hb dX8_append_51 (by decide) ?_
          exact ih (n + 1) (upd f n (tB v (nI (8 * k)))) x_3 _ _ ls (by omega) (by rw [ex_3]; exact sh_dn) (by omega) (by rw [← hz, tAp, if_neg c_16, if_pos hlt]) (by rw [← nI_1]; exact h) (lv_sub hl [2, 3, 0] rfl)

set_option maxHeartbeats 4000000 in
set_option maxRecDepth 100000 in
theorem t_append (l : Launch) (G : gG) (h0 h1 : Nat) (v : Int32) (n : Nat) (f : Nat → Int32) (hn : n ≤ 120) : cM l yX8_append wsX8_append 0 0 0 0 G [.ref h0, .int v] ([(h0, .inr (8, [.ref h1, .int (nI n)])), (h1, .inl (G.2.2 1, 120, .inl f))]) (qV G (S := Unit) (fun _ => True) (fun _ => [(h0, .inr (8, [.ref h1, .int (nI (tAp v 4 f n).2)])), (h1, .inl (G.2.2 1, 120, .inl ((tAp v 4 f n).1)))])) := by
  refine o_M (cc := cX8_append) (maxL := 4) (ret := none) (own := RX8) (by decide +kernel) rfl rfl (Nat.le_of_ble_eq_true rfl) ?_
  intro p e s m below meth c A ls H locs hA C h hr hlk hnm hl
  have hx := C.1.1.1
  have hb := C.1.1.2.1
  have hl : lv_has ls 4 [(0, .ref h0), (1, .int v)] := hl
  refine lv_bipush (v := 24) hx hb dX8_append_0 (by decide) ?_
  refine lv_istore_n (lv' := [(2, .int 24), (0, .ref h0), (1, .int v)]) hx hb dX8_append_2 rfl hl (by decide) rfl (fun ls hl => ?_)
  refine lp_X8_append C h0 h1 v (tAp v 4 f n).1 (tAp v 4 f n).2 (fun H locs ls h hl => ?_) 4 n f 24 _ _ ls (by decide) (by decide) hn rfl h (lv_sub hl [1, 2, 0] rfl)
  exact r_vret C h hr hlk (Nat.zero_le _) (Nat.zero_le _) () trivial rfl dX8_append_54

set_option maxHeartbeats 4000000 in
set_option maxRecDepth 100000 in
theorem lp_X8_firstFault {p : Program} {l : Launch} {e : Env} {s : State} {m : MethodId} {args : Array Value} {below : List Frame} {meth : Method} {c : Code} {Q : State → Prop} {G : gG} {A : Nat → Prop} (C : gC p m c cX8_firstFault 6 s args wsX8_firstFault RX8 G A) (h0 h1 : Nat) (n : Nat) (f : Nat → Int32) (z : Int32) (hn : n ≤ 120) (k1 : ∀ (H : Heap) (locs : List Loc) (ls : Array Slot), gS G A s ([(h0, .inr (8, [.ref h1, .int (nI n)])), (h1, .inl (G.2.2 1, 120, .inl f))]) H locs → W p l e (gR 1 22 0 0) s m args below meth c H locs 0 0 Q (F0 m 50 ls [.int z])) (k2 : ∀ (H : Heap) (locs : List Loc) (ls : Array Slot), gS G A s ([(h0, .inr (8, [.ref h1, .int (nI n)])), (h1, .inl (G.2.2 1, 120, .inl f))]) H locs → W p l e (gR 1 22 0 0) s m args below meth c H locs 0 0 Q (F0 m 83 ls [.int z])) (k3 : ∀ (H : Heap) (locs : List Loc) (ls : Array Slot), gS G A s ([(h0, .inr (8, [.ref h1, .int (nI n)])), (h1, .inl (G.2.2 1, 120, .inl f))]) H locs → W p l e (gR 1 22 0 0) s m args below meth c H locs 0 0 Q (F0 m 142 ls [.int z])) :
    ∀ (r : Nat) (i : Nat) (w d g : Int32) (H : Heap) (locs : List Loc) (ls : Array Slot), (i + r = n) → (w = 0 ∨ w = 1) → (tFf f n r i w d g = z) →  gS G A s ([(h0, .inr (8, [.ref h1, .int (nI n)])), (h1, .inl (G.2.2 1, 120, .inl f))]) H locs → lv_has ls 6 [(0, .ref h0), (1, .int w), (2, .int d), (3, .int g), (4, .int (nI i))] → W p l e (gR 1 22 0 0) s m args below meth c H locs 0 0 Q (F0 m 9 ls []) := by
  have hx := C.1.1.1
  have hb := C.1.1.2.1
  have wd0 : Cond.fieldLink RX8 15 "ScaleHouse$Tape" "size" "I" ∈ wsX8_firstFault := by decide +kernel
  have hinX8 : ∀ w ∈ wsX80, w ∈ wsX8_firstFault := by decide +kernel
  have wd1 : Cond.fieldLink RX8 9 "ScaleHouse$Tape" "bytes" "[I" ∈ wsX8_firstFault := by decide +kernel
  intro r
  induction r with
  | zero =>
    intro i w d g H locs ls hi hw hz h hl
    refine lv_iload hx hb dX8_firstFault_9 (lv_at hl 4 rfl) ?_
    refine lv_aload_n hx hb dX8_firstFault_11 rfl (lv_at hl 0 rfl) ?_
    refine r_get C h 0 rfl (Cn := RX8) (T := TX8) (N := 2) rfl hinX8 1 (by decide) (index := 15) (ref := "ScaleHouse$Tape") wd0 rfl (v := .int (nI n)) rfl dX8_firstFault_12 ?_
    refine lv_icmp_ge (tgt := 126) hx hb dX8_firstFault_15 (by decide) (fun c_15 => ?_) (fun c_15 => ?_)
    · refine lv_iload_n hx hb dX8_firstFault_126 rfl (lv_at hl 1 rfl) ?_
      refine lv_if_ne (tgt := 134) hx hb dX8_firstFault_127 (by decide) (fun c_127 => ?_) (fun c_127 => ?_)
      · refine lv_aload_n hx hb dX8_firstFault_134 rfl (lv_at hl 0 rfl) ?_
        refine r_get C h 0 rfl (Cn := RX8) (T := TX8) (N := 2) rfl hinX8 1 (by decide) (index := 15) (ref := "ScaleHouse$Tape") wd0 rfl (v := .int (nI n)) rfl dX8_firstFault_135 ?_
        refine lv_goto (tgt := 142) hx hb dX8_firstFault_138 (by decide) ?_
        refine lv_cgi (y := z) (by rw [← hz, tFf]; simp only [if_neg c_127]) ?_
        exact k3 _ _ ls h
      · refine lv_iload_n hx hb dX8_firstFault_130 rfl (lv_at hl 2 rfl) ?_
        refine lv_if_le (tgt := 141) hx hb dX8_firstFault_131 (by decide) (fun c_131 => ?_) (fun c_131 => ?_)
        · refine lv_iconst (v := -1) hx hb dX8_firstFault_141 (by decide) ?_
          refine lv_cgi (y := z) (by rw [← hz, tFf]; simp only [if_pos c_127, if_pos c_131]) ?_
          exact k3 _ _ ls h
        · refine lv_aload_n hx hb dX8_firstFault_134 rfl (lv_at hl 0 rfl) ?_
          refine r_get C h 0 rfl (Cn := RX8) (T := TX8) (N := 2) rfl hinX8 1 (by decide) (index := 15) (ref := "ScaleHouse$Tape") wd0 rfl (v := .int (nI n)) rfl dX8_firstFault_135 ?_
          refine lv_goto (tgt := 142) hx hb dX8_firstFault_138 (by decide) ?_
          refine lv_cgi (y := z) (by rw [← hz, tFf]; simp only [if_pos c_127, if_neg c_131]) ?_
          exact k3 _ _ ls h
    · exact absurd (by rw [show i = n by omega]; exact Int32.le_refl _) c_15
  | succ r ih =>
    intro i w d g H locs ls hi hw hz h hl
    refine lv_iload hx hb dX8_firstFault_9 (lv_at hl 4 rfl) ?_
    refine lv_aload_n hx hb dX8_firstFault_11 rfl (lv_at hl 0 rfl) ?_
    refine r_get C h 0 rfl (Cn := RX8) (T := TX8) (N := 2) rfl hinX8 1 (by decide) (index := 15) (ref := "ScaleHouse$Tape") wd0 rfl (v := .int (nI n)) rfl dX8_firstFault_12 ?_
    refine lv_icmp_ge (tgt := 126) hx hb dX8_firstFault_15 (by decide) (fun c_15 => ?_) (fun c_15 => ?_)
    · exact absurd c_15 (nI_ge (by omega) (by omega))
    · refine lv_aload_n hx hb dX8_firstFault_18 rfl (lv_at hl 0 rfl) ?_
      refine r_get C h 0 rfl (Cn := RX8) (T := TX8) (N := 2) rfl hinX8 0 (by decide) (index := 9) (ref := "ScaleHouse$Tape") wd1 rfl (v := .ref h1) rfl dX8_firstFault_19 ?_
      refine lv_iload hx hb dX8_firstFault_22 (lv_at hl 4 rfl) ?_
      refine r_iald C h 1 rfl (i := (nI i)) (vp_in_nI (by omega) (by decide)) dX8_firstFault_24 ?_
      refine lv_cgi (nn_at f (by omega)) ?_
      refine lv_istore (lv' := [(5, .int (f i)), (0, .ref h0), (1, .int w), (2, .int d), (3, .int g), (4, .int (nI i))]) hx hb dX8_firstFault_25 hl (by decide) rfl (fun ls hl => ?_)
      refine lv_iload hx hb dX8_firstFault_27 (lv_at hl 0 rfl) ?_
      have hp : List.Perm ([(h0, .inr (8, [.ref h1, .int (nI n)])), (h1, .inl (G.2.2 1, 120, .inl f))] : va_W) ([] ++ ([(h0, .inr (8, [.ref h1, .int (nI n)])), (h1, .inl (G.2.2 1, 120, .inl f))])) := List.Perm.refl _
      refine k_i C h hp (r_runS C h hp (As := [.int (f i)]) (rest := []) (t_isDigit l G (f i)) (va_cwS 1 C.1.1.2.2.2.2 gX8_firstFault_X8_isDigit rfl rfl rfl (by decide +kernel) ⟨Nat.le_of_ble_eq_true rfl, Nat.le_of_ble_eq_true rfl⟩) rfl hl.1 (by decide) dX8_firstFault_29 ⟨Nat.le_of_ble_eq_true rfl, Nat.le_of_ble_eq_true rfl⟩) (fun r_1 u_2 H locs hw_3 h => ?_)
      have h : gS G A s ([(h0, .inr (8, [.ref h1, .int (nI n)])), (h1, .inl (G.2.2 1, 120, .inl f))]) H locs := h
      refine W.widen (k := 0) (n := 0) (Nat.le_of_ble_eq_true rfl) (Nat.le_of_ble_eq_true rfl) ?_
      subst hw_3
      refine lv_if_eq (tgt := 59) hx hb dX8_firstFault_32 (by decide) (fun c_32 => ?_) (fun c_32 => ?_)
      · refine lv_iconst (v := 0) hx hb dX8_firstFault_59 (by decide) ?_
        refine lv_istore_n (lv' := [(3, .int 0), (5, .int (f i)), (0, .ref h0), (1, .int w), (2, .int d), (4, .int (nI i))]) hx hb dX8_firstFault_60 rfl hl (by decide) rfl (fun ls hl => ?_)
        refine lv_iload hx hb dX8_firstFault_61 (lv_at hl 1 rfl) ?_
        refine lv_bipush (v := 32) hx hb dX8_firstFault_63 (by decide) ?_
        refine lv_icmp_ne (tgt := 71) hx hb dX8_firstFault_65 (by decide) (fun c_65 => ?_) (fun c_65 => ?_)
        · refine lv_iload hx hb dX8_firstFault_71 (lv_at hl 1 rfl) ?_
          refine lv_iload_n hx hb dX8_firstFault_73 rfl (lv_at hl 3 rfl) ?_
          refine lv_iload_n hx hb dX8_firstFault_74 rfl (lv_at hl 4 rfl) ?_
          have hp : List.Perm ([(h0, .inr (8, [.ref h1, .int (nI n)])), (h1, .inl (G.2.2 1, 120, .inl f))] : va_W) ([] ++ ([(h0, .inr (8, [.ref h1, .int (nI n)])), (h1, .inl (G.2.2 1, 120, .inl f))])) := List.Perm.refl _
          refine k_i C h hp (r_runS C h hp (As := [.int (f i), .int w, .int d]) (rest := []) (t_fits l G (f i) w d hw) (va_cwS 3 C.1.1.2.2.2.2 gX8_firstFault_X8_fits rfl rfl rfl (by decide +kernel) ⟨Nat.le_of_ble_eq_true rfl, Nat.le_of_ble_eq_true rfl⟩) rfl hl.1 (by decide) dX8_firstFault_75 ⟨Nat.le_of_ble_eq_true rfl, Nat.le_of_ble_eq_true rfl⟩) (fun r_4 u_5 H locs hw_6 h => ?_)
          have h : gS G A s ([(h0, .inr (8, [.ref h1, .int (nI n)])), (h1, .inl (G.2.2 1, 120, .inl f))]) H locs := h
          refine W.widen (k := 0) (n := 0) (Nat.le_of_ble_eq_true rfl) (Nat.le_of_ble_eq_true rfl) ?_
          subst hw_6
          refine lv_if_ne (tgt := 84) hx hb dX8_firstFault_78 (by decide) (fun c_78 => ?_) (fun c_78 => ?_)
          · refine lv_iload hx hb dX8_firstFault_84 (lv_at hl 1 rfl) ?_
            refine lv_bipush (v := 40) hx hb dX8_firstFault_86 (by decide) ?_
            refine lv_icmp_ne (tgt := 97) hx hb dX8_firstFault_88 (by decide) (fun c_88 => ?_) (fun c_88 => ?_)
            · refine lv_iload hx hb dX8_firstFault_97 (lv_at hl 1 rfl) ?_
              refine lv_bipush (v := 41) hx hb dX8_firstFault_99 (by decide) ?_
              refine lv_icmp_ne (tgt := 110) hx hb dX8_firstFault_101 (by decide) (fun c_101 => ?_) (fun c_101 => ?_)
              · refine lv_iload_n hx hb dX8_firstFault_110 rfl (lv_at hl 3 rfl) ?_
                refine lv_if_ne (tgt := 118) hx hb dX8_firstFault_111 (by decide) (fun c_111 => ?_) (fun c_111 => ?_)
                · refine lv_iconst (v := 0) hx hb dX8_firstFault_118 (by decide) ?_
                  refine lv_istore_n (lv' := [(1, .int 0), (3, .int 0), (5, .int (f i)), (0, .ref h0), (2, .int d), (4, .int (nI i))]) hx hb dX8_firstFault_119 rfl hl (by decide) rfl (fun ls hl => ?_)
                  obtain ⟨x_7, ex_7⟩ : ∃ y : Int32, y = (nI i) + 1 := ⟨_, rfl⟩
                  refine lv_iinc (v := x_7) (lv' := [(4, .int x_7), (1, .int 0), (3, .int 0), (5, .int (f i)), (0, .ref h0), (2, .int d)]) hx hb dX8_firstFault_120 hl (k := 5) rfl (by rw [ex_7]; rfl) (by decide) rfl (fun ls hl => ?_)
                  refine lv_goto (tgt := 9) hx hb dX8_firstFault_123 (by decide) ?_
                  exact ih (i + 1) 0 d 0 _ _ ls (by omega) (by decide) (by rw [← hz, tFf]; simp only [if_pos c_32, if_neg c_65, if_neg c_78, if_neg c_88, if_neg c_101, if_neg c_111]) h (by rw [← nI_1, ← ex_7]; exact lv_sub hl [4, 1, 5, 2, 0] rfl)
                · refine lv_iconst (v := 1) hx hb dX8_firstFault_114 (by decide) ?_
                  refine lv_goto (tgt := 119) hx hb dX8_firstFault_115 (by decide) ?_
                  refine lv_istore_n (lv' := [(1, .int 1), (3, .int 0), (5, .int (f i)), (0, .ref h0), (2, .int d), (4, .int (nI i))]) hx hb dX8_firstFault_119 rfl hl (by decide) rfl (fun ls hl => ?_)
                  obtain ⟨x_8, ex_8⟩ : ∃ y : Int32, y = (nI i) + 1 := ⟨_, rfl⟩
                  refine lv_iinc (v := x_8) (lv' := [(4, .int x_8), (1, .int 1), (3, .int 0), (5, .int (f i)), (0, .ref h0), (2, .int d)]) hx hb dX8_firstFault_120 hl (k := 5) rfl (by rw [ex_8]; rfl) (by decide) rfl (fun ls hl => ?_)
                  refine lv_goto (tgt := 9) hx hb dX8_firstFault_123 (by decide) ?_
                  exact ih (i + 1) 1 d 0 _ _ ls (by omega) (by decide) (by rw [← hz, tFf]; simp only [if_pos c_32, if_neg c_65, if_neg c_78, if_neg c_88, if_neg c_101, if_pos c_111]) h (by rw [← nI_1, ← ex_8]; exact lv_sub hl [4, 1, 5, 2, 0] rfl)
              · obtain ⟨x_9, ex_9⟩ : ∃ y : Int32, y = d + (-1) := ⟨_, rfl⟩
                refine lv_iinc (v := x_9) (lv' := [(2, .int x_9), (3, .int 0), (5, .int (f i)), (0, .ref h0), (1, .int w), (4, .int (nI i))]) hx hb dX8_firstFault_104 hl (k := 4) rfl (by rw [ex_9]; rfl) (by decide) rfl (fun ls hl => ?_)
                refine lv_goto (tgt := 120) hx hb dX8_firstFault_107 (by decide) ?_
                obtain ⟨x_10, ex_10⟩ : ∃ y : Int32, y = (nI i) + 1 := ⟨_, rfl⟩
                refine lv_iinc (v := x_10) (lv' := [(4, .int x_10), (2, .int x_9), (3, .int 0), (5, .int (f i)), (0, .ref h0), (1, .int w)]) hx hb dX8_firstFault_120 hl (k := 5) rfl (by rw [ex_10]; rfl) (by decide) rfl (fun ls hl => ?_)
                refine lv_goto (tgt := 9) hx hb dX8_firstFault_123 (by decide) ?_
                exact ih (i + 1) w x_9 0 _ _ ls (by omega) (by exact hw) (by rw [← hz, tFf]; simp only [ex_9, if_pos c_32, if_neg c_65, if_neg c_78, if_neg c_88, if_pos c_101]) h (by rw [← nI_1, ← ex_10]; exact lv_sub hl [4, 5, 1, 2, 0] rfl)
            · obtain ⟨x_11, ex_11⟩ : ∃ y : Int32, y = d + 1 := ⟨_, rfl⟩
              refine lv_iinc (v := x_11) (lv' := [(2, .int x_11), (3, .int 0), (5, .int (f i)), (0, .ref h0), (1, .int w), (4, .int (nI i))]) hx hb dX8_firstFault_91 hl (k := 4) rfl (by rw [ex_11]; rfl) (by decide) rfl (fun ls hl => ?_)
              refine lv_goto (tgt := 120) hx hb dX8_firstFault_94 (by decide) ?_
              obtain ⟨x_12, ex_12⟩ : ∃ y : Int32, y = (nI i) + 1 := ⟨_, rfl⟩
              refine lv_iinc (v := x_12) (lv' := [(4, .int x_12), (2, .int x_11), (3, .int 0), (5, .int (f i)), (0, .ref h0), (1, .int w)]) hx hb dX8_firstFault_120 hl (k := 5) rfl (by rw [ex_12]; rfl) (by decide) rfl (fun ls hl => ?_)
              refine lv_goto (tgt := 9) hx hb dX8_firstFault_123 (by decide) ?_
              exact ih (i + 1) w x_11 0 _ _ ls (by omega) (by exact hw) (by rw [← hz, tFf]; simp only [ex_11, if_pos c_32, if_neg c_65, if_neg c_78, if_pos c_88]) h (by rw [← nI_1, ← ex_12]; exact lv_sub hl [4, 5, 1, 2, 0] rfl)
          · refine lv_iload hx hb dX8_firstFault_81 (lv_at hl 5 rfl) ?_
            refine lv_cgi (y := z) (by rw [← hz, tFf]; simp only [if_pos c_32, if_neg c_65, if_pos c_78]) ?_
            exact k2 _ _ ls h
        · refine lv_goto (tgt := 120) hx hb dX8_firstFault_68 (by decide) ?_
          obtain ⟨x_13, ex_13⟩ : ∃ y : Int32, y = (nI i) + 1 := ⟨_, rfl⟩
          refine lv_iinc (v := x_13) (lv' := [(4, .int x_13), (3, .int 0), (5, .int (f i)), (0, .ref h0), (1, .int w), (2, .int d)]) hx hb dX8_firstFault_120 hl (k := 5) rfl (by rw [ex_13]; rfl) (by decide) rfl (fun ls hl => ?_)
          refine lv_goto (tgt := 9) hx hb dX8_firstFault_123 (by decide) ?_
          exact ih (i + 1) w d 0 _ _ ls (by omega) (by exact hw) (by rw [← hz, tFf]; simp only [if_pos c_32, if_pos c_65]) h (by rw [← nI_1, ← ex_13]; exact lv_sub hl [3, 4, 5, 1, 0] rfl)
      · refine lv_iload_n hx hb dX8_firstFault_35 rfl (lv_at hl 2 rfl) ?_
        refine lv_if_ne (tgt := 51) hx hb dX8_firstFault_36 (by decide) (fun c_36 => ?_) (fun c_36 => ?_)
        · obtain ⟨x_14, ex_14⟩ : ∃ y : Int32, y = g + 1 := ⟨_, rfl⟩
          refine lv_iinc (v := x_14) (lv' := [(3, .int x_14), (5, .int (f i)), (0, .ref h0), (1, .int w), (2, .int d), (4, .int (nI i))]) hx hb dX8_firstFault_51 hl (k := 4) rfl (by rw [ex_14]; rfl) (by decide) rfl (fun ls hl => ?_)
          refine lv_iconst (v := 0) hx hb dX8_firstFault_54 (by decide) ?_
          refine lv_istore_n (lv' := [(1, .int 0), (3, .int x_14), (5, .int (f i)), (0, .ref h0), (2, .int d), (4, .int (nI i))]) hx hb dX8_firstFault_55 rfl hl (by decide) rfl (fun ls hl => ?_)
          refine lv_goto (tgt := 120) hx hb dX8_firstFault_56 (by decide) ?_
          obtain ⟨x_15, ex_15⟩ : ∃ y : Int32, y = (nI i) + 1 := ⟨_, rfl⟩
          refine lv_iinc (v := x_15) (lv' := [(4, .int x_15), (1, .int 0), (3, .int x_14), (5, .int (f i)), (0, .ref h0), (2, .int d)]) hx hb dX8_firstFault_120 hl (k := 5) rfl (by rw [ex_15]; rfl) (by decide) rfl (fun ls hl => ?_)
          refine lv_goto (tgt := 9) hx hb dX8_firstFault_123 (by decide) ?_
          exact ih (i + 1) 0 d x_14 _ _ ls (by omega) (by decide) (by rw [← hz, tFf]; simp only [ex_14, if_neg c_32, if_neg c_36]) h (by rw [← nI_1, ← ex_15]; exact lv_sub hl [4, 1, 5, 2, 0] rfl)
        · refine lv_iload_n hx hb dX8_firstFault_39 rfl (lv_at hl 4 rfl) ?_
          refine lv_if_eq (tgt := 48) hx hb dX8_firstFault_40 (by decide) (fun c_40 => ?_) (fun c_40 => ?_)
          · refine lv_iload hx hb dX8_firstFault_48 (lv_at hl 5 rfl) ?_
            refine lv_cgi (y := z) (by rw [← hz, tFf]; simp only [if_neg c_32, if_pos c_36, if_pos c_40]) ?_
            exact k1 _ _ ls h
          · refine lv_iload_n hx hb dX8_firstFault_43 rfl (lv_at hl 4 rfl) ?_
            refine lv_iconst (v := 5) hx hb dX8_firstFault_44 (by decide) ?_
            refine lv_icmp_ne (tgt := 51) hx hb dX8_firstFault_45 (by decide) (fun c_45 => ?_) (fun c_45 => ?_)
            · obtain ⟨x_16, ex_16⟩ : ∃ y : Int32, y = g + 1 := ⟨_, rfl⟩
              refine lv_iinc (v := x_16) (lv' := [(3, .int x_16), (5, .int (f i)), (0, .ref h0), (1, .int w), (2, .int d), (4, .int (nI i))]) hx hb dX8_firstFault_51 hl (k := 4) rfl (by rw [ex_16]; rfl) (by decide) rfl (fun ls hl => ?_)
              refine lv_iconst (v := 0) hx hb dX8_firstFault_54 (by decide) ?_
              refine lv_istore_n (lv' := [(1, .int 0), (3, .int x_16), (5, .int (f i)), (0, .ref h0), (2, .int d), (4, .int (nI i))]) hx hb dX8_firstFault_55 rfl hl (by decide) rfl (fun ls hl => ?_)
              refine lv_goto (tgt := 120) hx hb dX8_firstFault_56 (by decide) ?_
              obtain ⟨x_17, ex_17⟩ : ∃ y : Int32, y = (nI i) + 1 := ⟨_, rfl⟩
              refine lv_iinc (v := x_17) (lv' := [(4, .int x_17), (1, .int 0), (3, .int x_16), (5, .int (f i)), (0, .ref h0), (2, .int d)]) hx hb dX8_firstFault_120 hl (k := 5) rfl (by rw [ex_17]; rfl) (by decide) rfl (fun ls hl => ?_)
              refine lv_goto (tgt := 9) hx hb dX8_firstFault_123 (by decide) ?_
              exact ih (i + 1) 0 d x_16 _ _ ls (by omega) (by decide) (by rw [← hz, tFf]; simp only [ex_16, if_neg c_32, if_pos c_36, if_neg c_40, if_neg c_45]) h (by rw [← nI_1, ← ex_17]; exact lv_sub hl [4, 1, 5, 2, 0] rfl)
            · refine lv_iload hx hb dX8_firstFault_48 (lv_at hl 5 rfl) ?_
              refine lv_cgi (y := z) (by rw [← hz, tFf]; simp only [if_neg c_32, if_pos c_36, if_neg c_40, if_pos c_45]) ?_
              exact k1 _ _ ls h

set_option maxHeartbeats 4000000 in
set_option maxRecDepth 100000 in
theorem t_firstFault (l : Launch) (G : gG) (h0 h1 : Nat) (n : Nat) (f : Nat → Int32) (hn : n ≤ 120) : cM l yX8_firstFault wsX8_firstFault 1 22 0 0 G [.ref h0] ([(h0, .inr (8, [.ref h1, .int (nI n)])), (h1, .inl (G.2.2 1, 120, .inl f))]) (qI G (S := Unit) (fun r _ => r = tFf f n n 0 1 0 0) (fun _ => [(h0, .inr (8, [.ref h1, .int (nI n)])), (h1, .inl (G.2.2 1, 120, .inl f))])) := by
  refine o_M (cc := cX8_firstFault) (maxL := 6) (ret := (some .int)) (own := RX8) (by decide +kernel) rfl rfl (Nat.le_of_ble_eq_true rfl) ?_
  intro p e s m below meth c A ls H locs hA C h hr hlk hnm hl
  have hx := C.1.1.1
  have hb := C.1.1.2.1
  have hl : lv_has ls 6 [(0, .ref h0)] := hl
  refine lv_iconst (v := 1) hx hb dX8_firstFault_0 (by decide) ?_
  refine lv_istore_n (lv' := [(1, .int 1), (0, .ref h0)]) hx hb dX8_firstFault_1 rfl hl (by decide) rfl (fun ls hl => ?_)
  refine lv_iconst (v := 0) hx hb dX8_firstFault_2 (by decide) ?_
  refine lv_istore_n (lv' := [(2, .int 0), (1, .int 1), (0, .ref h0)]) hx hb dX8_firstFault_3 rfl hl (by decide) rfl (fun ls hl => ?_)
  refine lv_iconst (v := 0) hx hb dX8_firstFault_4 (by decide) ?_
  refine lv_istore_n (lv' := [(3, .int 0), (2, .int 0), (1, .int 1), (0, .ref h0)]) hx hb dX8_firstFault_5 rfl hl (by decide) rfl (fun ls hl => ?_)
  refine lv_iconst (v := 0) hx hb dX8_firstFault_6 (by decide) ?_
  refine lv_istore (lv' := [(4, .int 0), (3, .int 0), (2, .int 0), (1, .int 1), (0, .ref h0)]) hx hb dX8_firstFault_7 hl (by decide) rfl (fun ls hl => ?_)
  refine lp_X8_firstFault C h0 h1 n f (tFf f n n 0 1 0 0) hn (fun H locs ls h => ?_) (fun H locs ls h => ?_) (fun H locs ls h => ?_) n 0 1 0 0 _ _ ls (by omega) (by decide) rfl h (lv_sub hl [4, 3, 2, 1, 0] rfl)
  · exact r_iret C h hr hlk (Nat.zero_le _) (Nat.zero_le _) () rfl rfl dX8_firstFault_50
  · exact r_iret C h hr hlk (Nat.zero_le _) (Nat.zero_le _) () rfl rfl dX8_firstFault_83
  · exact r_iret C h hr hlk (Nat.zero_le _) (Nat.zero_le _) () rfl rfl dX8_firstFault_142

set_option maxHeartbeats 4000000 in
set_option maxRecDepth 100000 in
theorem t_init (l : Launch) (G : gG) (h0 : Nat) : cM l yX8_init wsX8_init 1 20 1 120 G [.ref h0] ([(h0, .inr (8, [.null, .int 0]))]) (qV G (S := Nat) (fun _ => True) (fun q => [(h0, .inr (8, [.ref q, .int (nI 0)])), (q, .inl (G.2.2 1, 120, .inl (fun _ => 0)))])) := by
  refine o_M (cc := cX8_init) (maxL := 1) (ret := none) (own := RX8) (by decide +kernel) rfl rfl (Nat.le_of_ble_eq_true rfl) ?_
  intro p e s m below meth c A ls H locs hA C h hr hlk hnm hl
  have hx := C.1.1.1
  have hb := C.1.1.2.1
  have hl : lv_has ls 1 [(0, .ref h0)] := hl
  have wd0 : Cond.methodLink RX8 3 objectInit ∈ wsX8_init := by decide +kernel
  have wd1 : Cond.instanceMethod objectInit ∈ wsX8_init := by decide +kernel
  have wd2 : Cond.code objectInit ⟨#[0xb1]⟩ 1 none ∈ wsX8_init := by decide +kernel
  have wd3 : Cond.arrayClass .int ∈ wsX8_init := by decide +kernel
  have wd4 : Cond.fieldLink RX8 9 "ScaleHouse$Tape" "bytes" "[I" ∈ wsX8_init := by decide +kernel
  have hinX8 : ∀ w ∈ wsX80, w ∈ wsX8_init := by decide +kernel
  have wd5 : Cond.fieldLink RX8 15 "ScaleHouse$Tape" "size" "I" ∈ wsX8_init := by decide +kernel
  refine lv_aload_n hx hb dX8_init_0 rfl (lv_at hl 0 rfl) ?_
  refine r_objInit C wd0 wd1 wd2 hl.1 dX8_init_1 (Nat.le_of_ble_eq_true rfl) (Nat.le_of_ble_eq_true rfl) ?_
  refine lv_aload_n hx hb dX8_init_4 rfl (lv_at hl 0 rfl) ?_
  refine lv_bipush (v := 120) hx hb dX8_init_5 (by decide) ?_
  refine r_newa C h (ty := .int) rfl 1 (cA := G.2.2 1) rfl (fun z => z) wd3 (n := 120) (N' := 120) (a0 := (120, .inl (fun _ => 0))) (fun _ => rfl) (by decide) (rfl) (by decide) (Nat.le_of_ble_eq_true rfl) (Nat.le_of_ble_eq_true rfl) dX8_init_7 (fun q H h => ?_)
  refine W.widen (k := 1) (n := 120) (Nat.le_of_ble_eq_true rfl) (Nat.le_of_ble_eq_true rfl) ?_
  have h : gS G A s ([(h0, .inr (8, [.null, .int 0])), (q, .inl (G.2.2 1, 120, .inl (fun _ => 0)))]) H locs := h
  refine r_putF C h 0 rfl (Cn := RX8) (T := TX8) (N := 2) rfl hinX8 tyX8 tyX8_ok nmX8 0 (by decide) (index := 9) (ref := "ScaleHouse$Tape") wd4 rfl rfl hnm rfl (v := .ref q) rfl rfl (show 0 < 2 by decide) dX8_init_9 (fun H locs h => ?_)
  have h : gS G A s ([(h0, .inr (8, [.ref q, .int 0])), (q, .inl (G.2.2 1, 120, .inl (fun _ => 0)))]) H locs := h
  refine lv_aload_n hx hb dX8_init_12 rfl (lv_at hl 0 rfl) ?_
  refine lv_iconst (v := 0) hx hb dX8_init_13 (by decide) ?_
  refine r_put C h 0 rfl (Cn := RX8) (T := TX8) (N := 2) rfl hinX8 tyX8 tyX8_ok nmX8 1 (by decide) (index := 15) (ref := "ScaleHouse$Tape") wd5 rfl rfl (v := .int 0) rfl rfl (show 1 < 2 by decide) dX8_init_14 (fun H locs h => ?_)
  have h : gS G A s ([(h0, .inr (8, [.ref q, .int 0])), (q, .inl (G.2.2 1, 120, .inl (fun _ => 0)))]) H locs := h
  exact r_vret C h hr hlk (Nat.le_refl _) (Nat.le_refl _) q (trivial) (rfl) dX8_init_17
end
section
/-! ===== ScaleHouse$Register ===== -/
def rgF (nm fr td : Nat → Int32) (name day q : Int32) : Nat → Nat → Int32 → Int32
  | 0, _, b => b
  | r + 1, i, b => rgF nm fr td name day q r (i + 1) (if nm i = name then (if q < td i then b else if day < fr i then b else if b = -1 then nI i else if fr i < fr b.toNatClampNeg then b else nI i) else b)

set_option maxHeartbeats 4000000 in
set_option maxRecDepth 100000 in
theorem g_init (l : Launch) (G : gG) (h0 N : Nat) (hN : N ≤ 100) : cM l yX6_init wsX6_init 1 20 3 300 G [.ref h0, .int (nI N)] ([(h0, .inr (6, [.null, .null, .null, .int 0]))]) (qV G (S := Nat × Nat × Nat) (fun _ => True) (fun u => [(h0, .inr (6, [.ref u.1, .ref u.2.1, .ref u.2.2, .int (nI 0)])), (u.1, .inl (G.2.2 1, N, .inl (fun _ => 0))), (u.2.1, .inl (G.2.2 1, N, .inl (fun _ => 0))), (u.2.2, .inl (G.2.2 1, N, .inl (fun _ => 0)))])) := by
  refine o_M (cc := cX6_init) (maxL := 2) (ret := none) (own := RX6) (by decide +kernel) rfl rfl (Nat.le_of_ble_eq_true rfl) ?_
  intro p e s m below meth c A ls H locs hA C h hr hlk hnm hl
  have hx := C.1.1.1
  have hb := C.1.1.2.1
  have hl : lv_has ls 2 [(0, .ref h0), (1, .int (nI N))] := hl
  have wd0 : Cond.methodLink RX6 3 objectInit ∈ wsX6_init := by decide +kernel
  have wd1 : Cond.instanceMethod objectInit ∈ wsX6_init := by decide +kernel
  have wd2 : Cond.code objectInit ⟨#[0xb1]⟩ 1 none ∈ wsX6_init := by decide +kernel
  have wd3 : Cond.fieldLink RX6 9 "ScaleHouse$Register" "size" "I" ∈ wsX6_init := by decide +kernel
  have hinX6 : ∀ w ∈ wsX60, w ∈ wsX6_init := by decide +kernel
  have wd4 : Cond.arrayClass .int ∈ wsX6_init := by decide +kernel
  have wd5 : Cond.fieldLink RX6 15 "ScaleHouse$Register" "names" "[I" ∈ wsX6_init := by decide +kernel
  have wd6 : Cond.fieldLink RX6 19 "ScaleHouse$Register" "froms" "[I" ∈ wsX6_init := by decide +kernel
  have wd7 : Cond.fieldLink RX6 22 "ScaleHouse$Register" "tolds" "[I" ∈ wsX6_init := by decide +kernel
  refine lv_aload_n hx hb dX6_init_0 rfl (lv_at hl 0 rfl) ?_
  refine r_objInit C wd0 wd1 wd2 hl.1 dX6_init_1 (Nat.le_of_ble_eq_true rfl) (Nat.le_of_ble_eq_true rfl) ?_
  refine lv_aload_n hx hb dX6_init_4 rfl (lv_at hl 0 rfl) ?_
  refine lv_iconst (v := 0) hx hb dX6_init_5 (by decide) ?_
  refine r_put C h 0 rfl (Cn := RX6) (T := TX6) (N := 4) rfl hinX6 tyX6 tyX6_ok nmX6 3 (by decide) (index := 9) (ref := "ScaleHouse$Register") wd3 rfl rfl (v := .int 0) rfl rfl (show 3 < 4 by decide) dX6_init_6 (fun H locs h => ?_)
  have h : gS G A s ([(h0, .inr (6, [.null, .null, .null, .int 0]))]) H locs := h
  refine lv_aload_n hx hb dX6_init_9 rfl (lv_at hl 0 rfl) ?_
  refine lv_iload_n hx hb dX6_init_10 rfl (lv_at hl 1 rfl) ?_
  refine r_newa C h (ty := .int) rfl 1 (cA := G.2.2 1) rfl (fun z => z) wd4 (n := (nI N)) (N' := N) (a0 := (N, .inl (fun _ => 0))) (fun _ => rfl) (nI_pos (by omega)) (nI_clamp (by omega)) (by show N * 4 ≤ _; omega) (by decide) (by show _ ≤ 300; omega) dX6_init_11 (fun q11 H h => ?_)
  have h : gS G A s ([(h0, .inr (6, [.null, .null, .null, .int 0])), (q11, .inl (G.2.2 1, N, .inl (fun _ => 0)))]) H locs := h
  refine r_putF C h 0 rfl (Cn := RX6) (T := TX6) (N := 4) rfl hinX6 tyX6 tyX6_ok nmX6 0 (by decide) (index := 15) (ref := "ScaleHouse$Register") wd5 rfl rfl hnm rfl (v := .ref q11) rfl rfl (show 0 < 4 by decide) dX6_init_13 (fun H locs h => ?_)
  have h : gS G A s ([(h0, .inr (6, [.ref q11, .null, .null, .int 0])), (q11, .inl (G.2.2 1, N, .inl (fun _ => 0)))]) H locs := h
  refine lv_aload_n hx hb dX6_init_16 rfl (lv_at hl 0 rfl) ?_
  refine lv_iload_n hx hb dX6_init_17 rfl (lv_at hl 1 rfl) ?_
  refine r_newa C h (ty := .int) rfl 1 (cA := G.2.2 1) rfl (fun z => z) wd4 (n := (nI N)) (N' := N) (a0 := (N, .inl (fun _ => 0))) (fun _ => rfl) (nI_pos (by omega)) (nI_clamp (by omega)) (by show N * 4 ≤ _; omega) (by decide) (by show _ ≤ 300; omega) dX6_init_18 (fun q18 H h => ?_)
  have h : gS G A s ([(h0, .inr (6, [.ref q11, .null, .null, .int 0])), (q11, .inl (G.2.2 1, N, .inl (fun _ => 0))), (q18, .inl (G.2.2 1, N, .inl (fun _ => 0)))]) H locs := h
  refine r_putF C h 0 rfl (Cn := RX6) (T := TX6) (N := 4) rfl hinX6 tyX6 tyX6_ok nmX6 1 (by decide) (index := 19) (ref := "ScaleHouse$Register") wd6 rfl rfl hnm rfl (v := .ref q18) rfl rfl (show 1 < 4 by decide) dX6_init_20 (fun H locs h => ?_)
  have h : gS G A s ([(h0, .inr (6, [.ref q11, .ref q18, .null, .int 0])), (q11, .inl (G.2.2 1, N, .inl (fun _ => 0))), (q18, .inl (G.2.2 1, N, .inl (fun _ => 0)))]) H locs := h
  refine lv_aload_n hx hb dX6_init_23 rfl (lv_at hl 0 rfl) ?_
  refine lv_iload_n hx hb dX6_init_24 rfl (lv_at hl 1 rfl) ?_
  refine r_newa C h (ty := .int) rfl 1 (cA := G.2.2 1) rfl (fun z => z) wd4 (n := (nI N)) (N' := N) (a0 := (N, .inl (fun _ => 0))) (fun _ => rfl) (nI_pos (by omega)) (nI_clamp (by omega)) (by show N * 4 ≤ _; omega) (by decide) (by show _ ≤ 300; omega) dX6_init_25 (fun q25 H h => ?_)
  have h : gS G A s ([(h0, .inr (6, [.ref q11, .ref q18, .null, .int 0])), (q11, .inl (G.2.2 1, N, .inl (fun _ => 0))), (q18, .inl (G.2.2 1, N, .inl (fun _ => 0))), (q25, .inl (G.2.2 1, N, .inl (fun _ => 0)))]) H locs := h
  refine r_putF C h 0 rfl (Cn := RX6) (T := TX6) (N := 4) rfl hinX6 tyX6 tyX6_ok nmX6 2 (by decide) (index := 22) (ref := "ScaleHouse$Register") wd7 rfl rfl hnm rfl (v := .ref q25) rfl rfl (show 2 < 4 by decide) dX6_init_27 (fun H locs h => ?_)
  have h : gS G A s ([(h0, .inr (6, [.ref q11, .ref q18, .ref q25, .int 0])), (q11, .inl (G.2.2 1, N, .inl (fun _ => 0))), (q18, .inl (G.2.2 1, N, .inl (fun _ => 0))), (q25, .inl (G.2.2 1, N, .inl (fun _ => 0)))]) H locs := h
  exact r_vret C h hr hlk (by decide) (by omega) (q11, q18, q25) (trivial) (rfl) dX6_init_30

set_option maxHeartbeats 4000000 in
set_option maxRecDepth 100000 in
theorem g_isFull (l : Launch) (G : gG) (h0 h1 h2 h3 N n : Nat) (a b d : Nat → Int32) : cM l yX6_isFull wsX6_isFull 0 0 0 0 G [.ref h0] ([(h0, .inr (6, [.ref h1, .ref h2, .ref h3, .int (nI n)])), (h1, .inl (G.2.2 1, N, .inl a)), (h2, .inl (G.2.2 1, N, .inl b)), (h3, .inl (G.2.2 1, N, .inl d))]) (qI G (S := Unit) (fun r _ => r = if nI n < nI N then 0 else 1) (fun _ => [(h0, .inr (6, [.ref h1, .ref h2, .ref h3, .int (nI n)])), (h1, .inl (G.2.2 1, N, .inl a)), (h2, .inl (G.2.2 1, N, .inl b)), (h3, .inl (G.2.2 1, N, .inl d))])) := by
  refine o_M (cc := cX6_isFull) (maxL := 1) (ret := (some .boolean)) (own := RX6) (by decide +kernel) rfl rfl (Nat.le_of_ble_eq_true rfl) ?_
  intro p e s m below meth c A ls H locs hA C h hr hlk hnm hl
  have hx := C.1.1.1
  have hb := C.1.1.2.1
  have hl : lv_has ls 1 [(0, .ref h0)] := hl
  have wd0 : Cond.fieldLink RX6 9 "ScaleHouse$Register" "size" "I" ∈ wsX6_isFull := by decide +kernel
  have hinX6 : ∀ w ∈ wsX60, w ∈ wsX6_isFull := by decide +kernel
  have wd1 : Cond.fieldLink RX6 15 "ScaleHouse$Register" "names" "[I" ∈ wsX6_isFull := by decide +kernel
  refine lv_aload_n hx hb dX6_isFull_0 rfl (lv_at hl 0 rfl) ?_
  refine r_get C h 0 rfl (Cn := RX6) (T := TX6) (N := 4) rfl hinX6 3 (by decide) (index := 9) (ref := "ScaleHouse$Register") wd0 rfl (v := .int (nI n)) rfl dX6_isFull_1 ?_
  refine lv_aload_n hx hb dX6_isFull_4 rfl (lv_at hl 0 rfl) ?_
  refine r_get C h 0 rfl (Cn := RX6) (T := TX6) (N := 4) rfl hinX6 0 (by decide) (index := 15) (ref := "ScaleHouse$Register") wd1 rfl (v := .ref h1) rfl dX6_isFull_5 ?_
  refine r_alen C h 1 1 rfl rfl dX6_isFull_8 ?_
  refine lv_icmp_lt (tgt := 16) hx hb dX6_isFull_9 (by decide) (fun c_9 => ?_) (fun c_9 => ?_)
  · refine lv_iconst (v := 0) hx hb dX6_isFull_16 (by decide) ?_
    exact r_zret C h hr hlk (Nat.zero_le _) (Nat.zero_le _) (Or.inl rfl) () (by simp only [if_pos c_9]) (rfl) dX6_isFull_17
  · refine lv_iconst (v := 1) hx hb dX6_isFull_12 (by decide) ?_
    refine lv_goto (tgt := 17) hx hb dX6_isFull_13 (by decide) ?_
    exact r_zret C h hr hlk (Nat.zero_le _) (Nat.zero_le _) (Or.inr rfl) () (by simp only [if_neg c_9]) (rfl) dX6_isFull_17

set_option maxHeartbeats 4000000 in
set_option maxRecDepth 100000 in
theorem g_enter (l : Launch) (G : gG) (h0 h1 h2 h3 N n : Nat) (a b d : Nat → Int32) (name from_ told : Int32) (hn : n < N) (hN : N < 2 ^ 31) : cM l yX6_enter wsX6_enter 0 0 0 0 G [.ref h0, .int name, .int from_, .int told] ([(h0, .inr (6, [.ref h1, .ref h2, .ref h3, .int (nI n)])), (h1, .inl (G.2.2 1, N, .inl a)), (h2, .inl (G.2.2 1, N, .inl b)), (h3, .inl (G.2.2 1, N, .inl d))]) (qI G (S := Unit) (fun r _ => r = nI n) (fun _ => [(h0, .inr (6, [.ref h1, .ref h2, .ref h3, .int (nI (n + 1))])), (h1, .inl (G.2.2 1, N, .inl (upd a n name))), (h2, .inl (G.2.2 1, N, .inl (upd b n from_))), (h3, .inl (G.2.2 1, N, .inl (upd d n told)))])) := by
  refine o_M (cc := cX6_enter) (maxL := 4) (ret := (some .int)) (own := RX6) (by decide +kernel) rfl rfl (Nat.le_of_ble_eq_true rfl) ?_
  intro p e s m below meth c A ls H locs hA C h hr hlk hnm hl
  have hx := C.1.1.1
  have hb := C.1.1.2.1
  have hl : lv_has ls 4 [(0, .ref h0), (1, .int name), (2, .int from_), (3, .int told)] := hl
  have wd0 : Cond.fieldLink RX6 15 "ScaleHouse$Register" "names" "[I" ∈ wsX6_enter := by decide +kernel
  have hinX6 : ∀ w ∈ wsX60, w ∈ wsX6_enter := by decide +kernel
  have wd1 : Cond.fieldLink RX6 9 "ScaleHouse$Register" "size" "I" ∈ wsX6_enter := by decide +kernel
  have wd2 : Cond.fieldLink RX6 19 "ScaleHouse$Register" "froms" "[I" ∈ wsX6_enter := by decide +kernel
  have wd3 : Cond.fieldLink RX6 22 "ScaleHouse$Register" "tolds" "[I" ∈ wsX6_enter := by decide +kernel
  refine lv_aload_n hx hb dX6_enter_0 rfl (lv_at hl 0 rfl) ?_
  refine r_get C h 0 rfl (Cn := RX6) (T := TX6) (N := 4) rfl hinX6 0 (by decide) (index := 15) (ref := "ScaleHouse$Register") wd0 rfl (v := .ref h1) rfl dX6_enter_1 ?_
  refine lv_aload_n hx hb dX6_enter_4 rfl (lv_at hl 0 rfl) ?_
  refine r_get C h 0 rfl (Cn := RX6) (T := TX6) (N := 4) rfl hinX6 3 (by decide) (index := 9) (ref := "ScaleHouse$Register") wd1 rfl (v := .int (nI n)) rfl dX6_enter_5 ?_
  refine lv_iload_n hx hb dX6_enter_8 rfl (lv_at hl 1 rfl) ?_
  refine r_iast C h 1 rfl (i := (nI n)) (vp_in_nI hn hN) dX6_enter_9 (fun H locs h => ?_)
  have h : gS G A s ([(h0, .inr (6, [.ref h1, .ref h2, .ref h3, .int (nI n)])), (h1, .inl (G.2.2 1, N, .inl (upd a (nI n).toNatClampNeg name))), (h2, .inl (G.2.2 1, N, .inl b)), (h3, .inl (G.2.2 1, N, .inl d))]) H locs := h
  rw [show (upd a (nI n).toNatClampNeg name) = (upd a n name) from nn_up a (by omega) _] at h
  have h : gS G A s ([(h0, .inr (6, [.ref h1, .ref h2, .ref h3, .int (nI n)])), (h1, .inl (G.2.2 1, N, .inl (upd a n name))), (h2, .inl (G.2.2 1, N, .inl b)), (h3, .inl (G.2.2 1, N, .inl d))]) H locs := h
  refine lv_aload_n hx hb dX6_enter_10 rfl (lv_at hl 0 rfl) ?_
  refine r_get C h 0 rfl (Cn := RX6) (T := TX6) (N := 4) rfl hinX6 1 (by decide) (index := 19) (ref := "ScaleHouse$Register") wd2 rfl (v := .ref h2) rfl dX6_enter_11 ?_
  refine lv_aload_n hx hb dX6_enter_14 rfl (lv_at hl 0 rfl) ?_
  refine r_get C h 0 rfl (Cn := RX6) (T := TX6) (N := 4) rfl hinX6 3 (by decide) (index := 9) (ref := "ScaleHouse$Register") wd1 rfl (v := .int (nI n)) rfl dX6_enter_15 ?_
  refine lv_iload_n hx hb dX6_enter_18 rfl (lv_at hl 2 rfl) ?_
  refine r_iast C h 2 rfl (i := (nI n)) (vp_in_nI hn hN) dX6_enter_19 (fun H locs h => ?_)
  have h : gS G A s ([(h0, .inr (6, [.ref h1, .ref h2, .ref h3, .int (nI n)])), (h1, .inl (G.2.2 1, N, .inl (upd a n name))), (h2, .inl (G.2.2 1, N, .inl (upd b (nI n).toNatClampNeg from_))), (h3, .inl (G.2.2 1, N, .inl d))]) H locs := h
  rw [show (upd b (nI n).toNatClampNeg from_) = (upd b n from_) from nn_up b (by omega) _] at h
  have h : gS G A s ([(h0, .inr (6, [.ref h1, .ref h2, .ref h3, .int (nI n)])), (h1, .inl (G.2.2 1, N, .inl (upd a n name))), (h2, .inl (G.2.2 1, N, .inl (upd b n from_))), (h3, .inl (G.2.2 1, N, .inl d))]) H locs := h
  refine lv_aload_n hx hb dX6_enter_20 rfl (lv_at hl 0 rfl) ?_
  refine r_get C h 0 rfl (Cn := RX6) (T := TX6) (N := 4) rfl hinX6 2 (by decide) (index := 22) (ref := "ScaleHouse$Register") wd3 rfl (v := .ref h3) rfl dX6_enter_21 ?_
  refine lv_aload_n hx hb dX6_enter_24 rfl (lv_at hl 0 rfl) ?_
  refine r_get C h 0 rfl (Cn := RX6) (T := TX6) (N := 4) rfl hinX6 3 (by decide) (index := 9) (ref := "ScaleHouse$Register") wd1 rfl (v := .int (nI n)) rfl dX6_enter_25 ?_
  refine lv_iload_n hx hb dX6_enter_28 rfl (lv_at hl 3 rfl) ?_
  refine r_iast C h 3 rfl (i := (nI n)) (vp_in_nI hn hN) dX6_enter_29 (fun H locs h => ?_)
  have h : gS G A s ([(h0, .inr (6, [.ref h1, .ref h2, .ref h3, .int (nI n)])), (h1, .inl (G.2.2 1, N, .inl (upd a n name))), (h2, .inl (G.2.2 1, N, .inl (upd b n from_))), (h3, .inl (G.2.2 1, N, .inl (upd d (nI n).toNatClampNeg told)))]) H locs := h
  rw [show (upd d (nI n).toNatClampNeg told) = (upd d n told) from nn_up d (by omega) _] at h
  have h : gS G A s ([(h0, .inr (6, [.ref h1, .ref h2, .ref h3, .int (nI n)])), (h1, .inl (G.2.2 1, N, .inl (upd a n name))), (h2, .inl (G.2.2 1, N, .inl (upd b n from_))), (h3, .inl (G.2.2 1, N, .inl (upd d n told)))]) H locs := h
  refine lv_aload_n hx hb dX6_enter_30 rfl (lv_at hl 0 rfl) ?_
  refine lv_dup hx hb dX6_enter_31 rfl ?_
  refine r_get C h 0 rfl (Cn := RX6) (T := TX6) (N := 4) rfl hinX6 3 (by decide) (index := 9) (ref := "ScaleHouse$Register") wd1 rfl (v := .int (nI n)) rfl dX6_enter_32 ?_
  refine lv_dup_x1 hx hb dX6_enter_35 rfl rfl ?_
  refine lv_iconst (v := 1) hx hb dX6_enter_36 (by decide) ?_
  refine lv_iadd hx hb dX6_enter_37 ?_
  refine r_put C h 0 rfl (Cn := RX6) (T := TX6) (N := 4) rfl hinX6 tyX6 tyX6_ok nmX6 3 (by decide) (index := 9) (ref := "ScaleHouse$Register") wd1 rfl rfl (v := .int ((nI n) + 1)) rfl rfl (show 3 < 4 by decide) dX6_enter_38 (fun H locs h => ?_)
  have h : gS G A s ([(h0, .inr (6, [.ref h1, .ref h2, .ref h3, .int ((nI n) + 1)])), (h1, .inl (G.2.2 1, N, .inl (upd a n name))), (h2, .inl (G.2.2 1, N, .inl (upd b n from_))), (h3, .inl (G.2.2 1, N, .inl (upd d n told)))]) H locs := h
  exact r_iret C h hr hlk (Nat.zero_le _) (Nat.zero_le _) () (rfl) (by rw [← nI_1]) dX6_enter_41

set_option maxHeartbeats 4000000 in
set_option maxRecDepth 100000 in
theorem lp_X6_inForce {p : Program} {l : Launch} {e : Env} {R : Room} {s : State} {m : MethodId} {args : Array Value} {below : List Frame} {meth : Method} {c : Code} {cells slots : Nat} {Q : State → Prop} {G : gG} {A : Nat → Prop} (C : gC p m c cX6_inForce 7 s args wsX6_inForce RX6 G A) (h0 h1 h2 h3 N n : Nat) (a b d : Nat → Int32) (name day q z : Int32) (hn : n ≤ N) (hN : N < 2 ^ 30) (kx : ∀ (H : Heap) (locs : List Loc) (ls : Array Slot), gS G A s ([(h0, .inr (6, [.ref h1, .ref h2, .ref h3, .int (nI n)])), (h1, .inl (G.2.2 1, N, .inl a)), (h2, .inl (G.2.2 1, N, .inl b)), (h3, .inl (G.2.2 1, N, .inl d))]) H locs → lv_has ls 7 [(4, .int z)] → W p l e R s m args below meth c H locs cells slots Q (F0 m 93 ls [])) :
    ∀ (r : Nat) (i : Nat) (t : Int32) (H : Heap) (locs : List Loc) (ls : Array Slot), (i + r = n) → (t = -1 ∨ ∃ j, j < i ∧ t = nI j) → (rgF a b d name day q r i t = z) →  gS G A s ([(h0, .inr (6, [.ref h1, .ref h2, .ref h3, .int (nI n)])), (h1, .inl (G.2.2 1, N, .inl a)), (h2, .inl (G.2.2 1, N, .inl b)), (h3, .inl (G.2.2 1, N, .inl d))]) H locs → lv_has ls 7 [(0, .ref h0), (1, .int name), (2, .int day), (3, .int q), (4, .int t), (5, .int (nI i))] → W p l e R s m args below meth c H locs cells slots Q (F0 m 6 ls []) := by
  have hx := C.1.1.1
  have hb := C.1.1.2.1
  have wd0 : Cond.fieldLink RX6 9 "ScaleHouse$Register" "size" "I" ∈ wsX6_inForce := by decide +kernel
  have hinX6 : ∀ w ∈ wsX60, w ∈ wsX6_inForce := by decide +kernel
  have wd1 : Cond.fieldLink RX6 15 "ScaleHouse$Register" "names" "[I" ∈ wsX6_inForce := by decide +kernel
  have wd2 : Cond.fieldLink RX6 22 "ScaleHouse$Register" "tolds" "[I" ∈ wsX6_inForce := by decide +kernel
  have wd3 : Cond.fieldLink RX6 19 "ScaleHouse$Register" "froms" "[I" ∈ wsX6_inForce := by decide +kernel
  intro r
  induction r with
  | zero =>
    intro i t H locs ls hi ht hz h hl
    refine lv_iload hx hb dX6_inForce_6 (lv_at hl 5 rfl) ?_
    refine lv_aload_n hx hb dX6_inForce_8 rfl (lv_at hl 0 rfl) ?_
    refine r_get C h 0 rfl (Cn := RX6) (T := TX6) (N := 4) rfl hinX6 3 (by decide) (index := 9) (ref := "ScaleHouse$Register") wd0 rfl (v := .int (nI n)) rfl dX6_inForce_9 ?_
    refine lv_icmp_ge (tgt := 93) hx hb dX6_inForce_12 (by decide) (fun c_12 => ?_) (fun c_12 => ?_)
    · cases hz
      exact kx _ _ ls h (lv_sub hl [4] rfl)
    · exact absurd (by rw [show i = n by omega]; exact Int32.le_refl _) c_12
  | succ r ih =>
    intro i t H locs ls hi ht hz h hl
    refine lv_iload hx hb dX6_inForce_6 (lv_at hl 5 rfl) ?_
    refine lv_aload_n hx hb dX6_inForce_8 rfl (lv_at hl 0 rfl) ?_
    refine r_get C h 0 rfl (Cn := RX6) (T := TX6) (N := 4) rfl hinX6 3 (by decide) (index := 9) (ref := "ScaleHouse$Register") wd0 rfl (v := .int (nI n)) rfl dX6_inForce_9 ?_
    refine lv_icmp_ge (tgt := 93) hx hb dX6_inForce_12 (by decide) (fun c_12 => ?_) (fun c_12 => ?_)
    · exact absurd c_12 (nI_ge (by omega) (by omega))
    · refine lv_aload_n hx hb dX6_inForce_15 rfl (lv_at hl 0 rfl) ?_
      refine r_get C h 0 rfl (Cn := RX6) (T := TX6) (N := 4) rfl hinX6 0 (by decide) (index := 15) (ref := "ScaleHouse$Register") wd1 rfl (v := .ref h1) rfl dX6_inForce_16 ?_
      refine lv_iload hx hb dX6_inForce_19 (lv_at hl 5 rfl) ?_
      refine r_iald C h 1 rfl (i := (nI i)) (vp_in_nI (by omega) (by omega)) dX6_inForce_21 ?_
      refine lv_cgi (nn_at a (by omega)) ?_
      refine lv_iload_n hx hb dX6_inForce_22 rfl (lv_at hl 1 rfl) ?_
      refine lv_icmp_ne (tgt := 52) hx hb dX6_inForce_23 (by decide) (fun c_23 => ?_) (fun c_23 => ?_)
      · refine lv_iconst (v := 0) hx hb dX6_inForce_52 (by decide) ?_
        refine lv_istore (lv' := [(6, .int 0), (0, .ref h0), (1, .int name), (2, .int day), (3, .int q), (4, .int t), (5, .int (nI i))]) hx hb dX6_inForce_53 hl (by decide) rfl (fun ls hl => ?_)
        refine lv_iload hx hb dX6_inForce_55 (lv_at hl 0 rfl) ?_
        refine lv_if_eq (tgt := 87) hx hb dX6_inForce_57 (by decide) (fun c_57 => ?_) (fun c_57 => ?_)
        · obtain ⟨x_1, ex_1⟩ : ∃ y : Int32, y = (nI i) + 1 := ⟨_, rfl⟩
          refine lv_iinc (v := x_1) (lv' := [(5, .int x_1), (6, .int 0), (0, .ref h0), (1, .int name), (2, .int day), (3, .int q), (4, .int t)]) hx hb dX6_inForce_87 hl (k := 6) rfl (by rw [ex_1]; rfl) (by decide) rfl (fun ls hl => ?_)
          refine lv_goto (tgt := 6) hx hb dX6_inForce_90 (by decide) ?_
          exact ih (i + 1) t _ _ ls (by omega) (ht.elim Or.inl (fun ⟨j, hj, e⟩ => Or.inr ⟨j, by omega, e⟩)) (by rw [← hz, rgF]; simp only [if_neg c_23]) h (by rw [← nI_1, ← ex_1]; exact lv_sub hl [2, 3, 4, 5, 6, 0] rfl)
        · exact absurd c_57 (by decide)
      · refine lv_aload_n hx hb dX6_inForce_26 rfl (lv_at hl 0 rfl) ?_
        refine r_get C h 0 rfl (Cn := RX6) (T := TX6) (N := 4) rfl hinX6 2 (by decide) (index := 22) (ref := "ScaleHouse$Register") wd2 rfl (v := .ref h3) rfl dX6_inForce_27 ?_
        refine lv_iload hx hb dX6_inForce_30 (lv_at hl 5 rfl) ?_
        refine r_iald C h 3 rfl (i := (nI i)) (vp_in_nI (by omega) (by omega)) dX6_inForce_32 ?_
        refine lv_cgi (nn_at d (by omega)) ?_
        refine lv_iload_n hx hb dX6_inForce_33 rfl (lv_at hl 3 rfl) ?_
        refine lv_icmp_gt (tgt := 52) hx hb dX6_inForce_34 (by decide) (fun c_34 => ?_) (fun c_34 => ?_)
        · refine lv_iconst (v := 0) hx hb dX6_inForce_52 (by decide) ?_
          refine lv_istore (lv' := [(6, .int 0), (0, .ref h0), (1, .int name), (2, .int day), (3, .int q), (4, .int t), (5, .int (nI i))]) hx hb dX6_inForce_53 hl (by decide) rfl (fun ls hl => ?_)
          refine lv_iload hx hb dX6_inForce_55 (lv_at hl 0 rfl) ?_
          refine lv_if_eq (tgt := 87) hx hb dX6_inForce_57 (by decide) (fun c_57 => ?_) (fun c_57 => ?_)
          · obtain ⟨x_2, ex_2⟩ : ∃ y : Int32, y = (nI i) + 1 := ⟨_, rfl⟩
            refine lv_iinc (v := x_2) (lv' := [(5, .int x_2), (6, .int 0), (0, .ref h0), (1, .int name), (2, .int day), (3, .int q), (4, .int t)]) hx hb dX6_inForce_87 hl (k := 6) rfl (by rw [ex_2]; rfl) (by decide) rfl (fun ls hl => ?_)
            refine lv_goto (tgt := 6) hx hb dX6_inForce_90 (by decide) ?_
            exact ih (i + 1) t _ _ ls (by omega) (ht.elim Or.inl (fun ⟨j, hj, e⟩ => Or.inr ⟨j, by omega, e⟩)) (by rw [← hz, rgF]; simp only [if_pos c_23, if_pos c_34]) h (by rw [← nI_1, ← ex_2]; exact lv_sub hl [2, 3, 4, 5, 6, 0] rfl)
          · exact absurd c_57 (by decide)
        · refine lv_aload_n hx hb dX6_inForce_37 rfl (lv_at hl 0 rfl) ?_
          refine r_get C h 0 rfl (Cn := RX6) (T := TX6) (N := 4) rfl hinX6 1 (by decide) (index := 19) (ref := "ScaleHouse$Register") wd3 rfl (v := .ref h2) rfl dX6_inForce_38 ?_
          refine lv_iload hx hb dX6_inForce_41 (lv_at hl 5 rfl) ?_
          refine r_iald C h 2 rfl (i := (nI i)) (vp_in_nI (by omega) (by omega)) dX6_inForce_43 ?_
          refine lv_cgi (nn_at b (by omega)) ?_
          refine lv_iload_n hx hb dX6_inForce_44 rfl (lv_at hl 2 rfl) ?_
          refine lv_icmp_gt (tgt := 52) hx hb dX6_inForce_45 (by decide) (fun c_45 => ?_) (fun c_45 => ?_)
          · refine lv_iconst (v := 0) hx hb dX6_inForce_52 (by decide) ?_
            refine lv_istore (lv' := [(6, .int 0), (0, .ref h0), (1, .int name), (2, .int day), (3, .int q), (4, .int t), (5, .int (nI i))]) hx hb dX6_inForce_53 hl (by decide) rfl (fun ls hl => ?_)
            refine lv_iload hx hb dX6_inForce_55 (lv_at hl 0 rfl) ?_
            refine lv_if_eq (tgt := 87) hx hb dX6_inForce_57 (by decide) (fun c_57 => ?_) (fun c_57 => ?_)
            · obtain ⟨x_3, ex_3⟩ : ∃ y : Int32, y = (nI i) + 1 := ⟨_, rfl⟩
              refine lv_iinc (v := x_3) (lv' := [(5, .int x_3), (6, .int 0), (0, .ref h0), (1, .int name), (2, .int day), (3, .int q), (4, .int t)]) hx hb dX6_inForce_87 hl (k := 6) rfl (by rw [ex_3]; rfl) (by decide) rfl (fun ls hl => ?_)
              refine lv_goto (tgt := 6) hx hb dX6_inForce_90 (by decide) ?_
              exact ih (i + 1) t _ _ ls (by omega) (ht.elim Or.inl (fun ⟨j, hj, e⟩ => Or.inr ⟨j, by omega, e⟩)) (by rw [← hz, rgF]; simp only [if_pos c_23, if_neg c_34, if_pos c_45]) h (by rw [← nI_1, ← ex_3]; exact lv_sub hl [2, 3, 4, 5, 6, 0] rfl)
            · exact absurd c_57 (by decide)
          · refine lv_iconst (v := 1) hx hb dX6_inForce_48 (by decide) ?_
            refine lv_goto (tgt := 53) hx hb dX6_inForce_49 (by decide) ?_
            refine lv_istore (lv' := [(6, .int 1), (0, .ref h0), (1, .int name), (2, .int day), (3, .int q), (4, .int t), (5, .int (nI i))]) hx hb dX6_inForce_53 hl (by decide) rfl (fun ls hl => ?_)
            refine lv_iload hx hb dX6_inForce_55 (lv_at hl 0 rfl) ?_
            refine lv_if_eq (tgt := 87) hx hb dX6_inForce_57 (by decide) (fun c_57 => ?_) (fun c_57 => ?_)
            · exact absurd c_57 (by decide)
            · refine lv_iload hx hb dX6_inForce_60 (lv_at hl 5 rfl) ?_
              refine lv_iconst (v := -1) hx hb dX6_inForce_62 (by decide) ?_
              refine lv_icmp_eq (tgt := 83) hx hb dX6_inForce_63 (by decide) (fun c_63 => ?_) (fun c_63 => ?_)
              · refine lv_iload hx hb dX6_inForce_83 (lv_at hl 6 rfl) ?_
                refine lv_istore (lv' := [(4, .int (nI i)), (6, .int 1), (0, .ref h0), (1, .int name), (2, .int day), (3, .int q), (5, .int (nI i))]) hx hb dX6_inForce_85 hl (by decide) rfl (fun ls hl => ?_)
                obtain ⟨x_4, ex_4⟩ : ∃ y : Int32, y = (nI i) + 1 := ⟨_, rfl⟩
                refine lv_iinc (v := x_4) (lv' := [(5, .int x_4), (4, .int (nI i)), (6, .int 1), (0, .ref h0), (1, .int name), (2, .int day), (3, .int q)]) hx hb dX6_inForce_87 hl (k := 6) rfl (by rw [ex_4]; rfl) (by decide) rfl (fun ls hl => ?_)
                refine lv_goto (tgt := 6) hx hb dX6_inForce_90 (by decide) ?_
                exact ih (i + 1) (nI i) _ _ ls (by omega) (Or.inr ⟨i, by omega, rfl⟩) (by rw [← hz, rgF]; simp only [if_pos c_23, if_neg c_34, if_neg c_45, if_pos c_63]) h (by rw [← nI_1, ← ex_4]; exact lv_sub hl [3, 4, 5, 6, 1, 0] rfl)
              · refine lv_aload_n hx hb dX6_inForce_66 rfl (lv_at hl 1 rfl) ?_
                refine r_get C h 0 rfl (Cn := RX6) (T := TX6) (N := 4) rfl hinX6 1 (by decide) (index := 19) (ref := "ScaleHouse$Register") wd3 rfl (v := .ref h2) rfl dX6_inForce_67 ?_
                refine lv_iload hx hb dX6_inForce_70 (lv_at hl 6 rfl) ?_
                refine r_iald C h 2 rfl (i := (nI i)) (vp_in_nI (by omega) (by omega)) dX6_inForce_72 ?_
                refine lv_cgi (nn_at b (by omega)) ?_
                refine lv_aload_n hx hb dX6_inForce_73 rfl (lv_at hl 1 rfl) ?_
                refine r_get C h 0 rfl (Cn := RX6) (T := TX6) (N := 4) rfl hinX6 1 (by decide) (index := 19) (ref := "ScaleHouse$Register") wd3 rfl (v := .ref h2) rfl dX6_inForce_74 ?_
                refine lv_iload hx hb dX6_inForce_77 (lv_at hl 5 rfl) ?_
                refine r_iald C h 2 rfl (i := t) (by obtain ⟨j, hj, rfl⟩ := ht.resolve_left c_63; exact vp_in_nI (by omega) (by omega)) dX6_inForce_79 ?_
                refine lv_icmp_lt (tgt := 87) hx hb dX6_inForce_80 (by decide) (fun c_80 => ?_) (fun c_80 => ?_)
                · obtain ⟨x_5, ex_5⟩ : ∃ y : Int32, y = (nI i) + 1 := ⟨_, rfl⟩
                  refine lv_iinc (v := x_5) (lv' := [(5, .int x_5), (6, .int 1), (0, .ref h0), (1, .int name), (2, .int day), (3, .int q), (4, .int t)]) hx hb dX6_inForce_87 hl (k := 6) rfl (by rw [ex_5]; rfl) (by decide) rfl (fun ls hl => ?_)
                  refine lv_goto (tgt := 6) hx hb dX6_inForce_90 (by decide) ?_
                  exact ih (i + 1) t _ _ ls (by omega) (ht.elim Or.inl (fun ⟨j, hj, e⟩ => Or.inr ⟨j, by omega, e⟩)) (by rw [← hz, rgF]; simp only [if_pos c_23, if_neg c_34, if_neg c_45, if_neg c_63, if_pos c_80]) h (by rw [← nI_1, ← ex_5]; exact lv_sub hl [2, 3, 4, 5, 6, 0] rfl)
                · refine lv_iload hx hb dX6_inForce_83 (lv_at hl 6 rfl) ?_
                  refine lv_istore (lv' := [(4, .int (nI i)), (6, .int 1), (0, .ref h0), (1, .int name), (2, .int day), (3, .int q), (5, .int (nI i))]) hx hb dX6_inForce_85 hl (by decide) rfl (fun ls hl => ?_)
                  obtain ⟨x_6, ex_6⟩ : ∃ y : Int32, y = (nI i) + 1 := ⟨_, rfl⟩
                  refine lv_iinc (v := x_6) (lv' := [(5, .int x_6), (4, .int (nI i)), (6, .int 1), (0, .ref h0), (1, .int name), (2, .int day), (3, .int q)]) hx hb dX6_inForce_87 hl (k := 6) rfl (by rw [ex_6]; rfl) (by decide) rfl (fun ls hl => ?_)
                  refine lv_goto (tgt := 6) hx hb dX6_inForce_90 (by decide) ?_
                  exact ih (i + 1) (nI i) _ _ ls (by omega) (Or.inr ⟨i, by omega, rfl⟩) (by rw [← hz, rgF]; simp only [if_pos c_23, if_neg c_34, if_neg c_45, if_neg c_63, if_neg c_80]) h (by rw [← nI_1, ← ex_6]; exact lv_sub hl [3, 4, 5, 6, 1, 0] rfl)

set_option maxHeartbeats 4000000 in
set_option maxRecDepth 100000 in
theorem g_inForce (l : Launch) (G : gG) (h0 h1 h2 h3 N n : Nat) (a b d : Nat → Int32) (name day q : Int32) (hn : n ≤ N) (hN : N < 2 ^ 30) : cM l yX6_inForce wsX6_inForce 0 0 0 0 G [.ref h0, .int name, .int day, .int q] ([(h0, .inr (6, [.ref h1, .ref h2, .ref h3, .int (nI n)])), (h1, .inl (G.2.2 1, N, .inl a)), (h2, .inl (G.2.2 1, N, .inl b)), (h3, .inl (G.2.2 1, N, .inl d))]) (qI G (S := Unit) (fun r _ => r = rgF a b d name day q n 0 (-1)) (fun _ => [(h0, .inr (6, [.ref h1, .ref h2, .ref h3, .int (nI n)])), (h1, .inl (G.2.2 1, N, .inl a)), (h2, .inl (G.2.2 1, N, .inl b)), (h3, .inl (G.2.2 1, N, .inl d))])) := by
  refine o_M (cc := cX6_inForce) (maxL := 7) (ret := (some .int)) (own := RX6) (by decide +kernel) rfl rfl (Nat.le_of_ble_eq_true rfl) ?_
  intro p e s m below meth c A ls H locs hA C h hr hlk hnm hl
  have hx := C.1.1.1
  have hb := C.1.1.2.1
  have hl : lv_has ls 7 [(0, .ref h0), (1, .int name), (2, .int day), (3, .int q)] := hl
  refine lv_iconst (v := -1) hx hb dX6_inForce_0 (by decide) ?_
  refine lv_istore (lv' := [(4, .int (-1)), (0, .ref h0), (1, .int name), (2, .int day), (3, .int q)]) hx hb dX6_inForce_1 hl (by decide) rfl (fun ls hl => ?_)
  refine lv_iconst (v := 0) hx hb dX6_inForce_3 (by decide) ?_
  refine lv_istore (lv' := [(5, .int 0), (4, .int (-1)), (0, .ref h0), (1, .int name), (2, .int day), (3, .int q)]) hx hb dX6_inForce_4 hl (by decide) rfl (fun ls hl => ?_)
  refine lp_X6_inForce C h0 h1 h2 h3 N n a b d name day q (rgF a b d name day q n 0 (-1)) hn hN (fun H locs ls h hl => ?_) n 0 (-1) _ _ ls (by omega) (Or.inl rfl) rfl h (lv_sub hl [2, 3, 4, 5, 1, 0] rfl)
  refine lv_iload hx hb dX6_inForce_93 (lv_at hl 0 rfl) ?_
  exact r_iret C h hr hlk (Nat.zero_le _) (Nat.zero_le _) () rfl rfl dX6_inForce_95
end
section
/-! ===== ScaleHouse$Court ===== -/
def crN (x t al : Int32) : Int32 := if t * al < (if 0 ≤ x - t then x - t else 0 - (x - t)) * 100 then 0 else 1
theorem crN_01 (x t al : Int32) : crN x t al = 0 ∨ crN x t al = 1 := (Decidable.em (t * al < (if 0 ≤ x - t then x - t else 0 - (x - t)) * 100)).elim (fun h => Or.inl (if_pos h)) (fun h => Or.inr (if_neg h))

set_option maxHeartbeats 4000000 in
set_option maxRecDepth 100000 in
theorem k_init (l : Launch) (G : gG) (h0 : Nat) : cM l yX0_init wsX0_init 1 20 0 0 G [.ref h0] ([(h0, .inr (0, [.int 0, .int 0, .int 0, .int 0]))]) (qV G (S := Unit) (fun _ => True) (fun _ => [(h0, .inr (0, [.int 3, .int (-1), .int 0, .int 0]))])) := by
  refine o_M (cc := cX0_init) (maxL := 1) (ret := none) (own := RX0) (by decide +kernel) rfl rfl (Nat.le_of_ble_eq_true rfl) ?_
  intro p e s m below meth c A ls H locs hA C h hr hlk hnm hl
  have hx := C.1.1.1
  have hb := C.1.1.2.1
  have hl : lv_has ls 1 [(0, .ref h0)] := hl
  have wd0 : Cond.methodLink RX0 3 objectInit ∈ wsX0_init := by decide +kernel
  have wd1 : Cond.instanceMethod objectInit ∈ wsX0_init := by decide +kernel
  have wd2 : Cond.code objectInit ⟨#[0xb1]⟩ 1 none ∈ wsX0_init := by decide +kernel
  have wd3 : Cond.fieldLink RX0 9 "ScaleHouse$Court" "allowance" "I" ∈ wsX0_init := by decide +kernel
  have hinX0 : ∀ w ∈ wsX00, w ∈ wsX0_init := by decide +kernel
  have wd4 : Cond.fieldLink RX0 15 "ScaleHouse$Court" "stood" "I" ∈ wsX0_init := by decide +kernel
  have wd5 : Cond.fieldLink RX0 18 "ScaleHouse$Court" "buyerOff" "I" ∈ wsX0_init := by decide +kernel
  have wd6 : Cond.fieldLink RX0 21 "ScaleHouse$Court" "sellerOff" "I" ∈ wsX0_init := by decide +kernel
  refine lv_aload_n hx hb dX0_init_0 rfl (lv_at hl 0 rfl) ?_
  refine r_objInit C wd0 wd1 wd2 hl.1 dX0_init_1 (Nat.le_of_ble_eq_true rfl) (Nat.le_of_ble_eq_true rfl) ?_
  refine lv_aload_n hx hb dX0_init_4 rfl (lv_at hl 0 rfl) ?_
  refine lv_iconst (v := 3) hx hb dX0_init_5 (by decide) ?_
  refine r_put C h 0 rfl (Cn := RX0) (T := TX0) (N := 4) rfl hinX0 tyX0 tyX0_ok nmX0 0 (by decide) (index := 9) (ref := "ScaleHouse$Court") wd3 rfl rfl (v := .int 3) rfl rfl (show 0 < 4 by decide) dX0_init_6 (fun H locs h => ?_)
  have h : gS G A s ([(h0, .inr (0, [.int 3, .int 0, .int 0, .int 0]))]) H locs := h
  refine lv_aload_n hx hb dX0_init_9 rfl (lv_at hl 0 rfl) ?_
  refine lv_iconst (v := -1) hx hb dX0_init_10 (by decide) ?_
  refine r_put C h 0 rfl (Cn := RX0) (T := TX0) (N := 4) rfl hinX0 tyX0 tyX0_ok nmX0 1 (by decide) (index := 15) (ref := "ScaleHouse$Court") wd4 rfl rfl (v := .int (-1)) rfl rfl (show 1 < 4 by decide) dX0_init_11 (fun H locs h => ?_)
  have h : gS G A s ([(h0, .inr (0, [.int 3, .int (-1), .int 0, .int 0]))]) H locs := h
  refine lv_aload_n hx hb dX0_init_14 rfl (lv_at hl 0 rfl) ?_
  refine lv_iconst (v := 0) hx hb dX0_init_15 (by decide) ?_
  refine r_put C h 0 rfl (Cn := RX0) (T := TX0) (N := 4) rfl hinX0 tyX0 tyX0_ok nmX0 2 (by decide) (index := 18) (ref := "ScaleHouse$Court") wd5 rfl rfl (v := .int 0) rfl rfl (show 2 < 4 by decide) dX0_init_16 (fun H locs h => ?_)
  have h : gS G A s ([(h0, .inr (0, [.int 3, .int (-1), .int 0, .int 0]))]) H locs := h
  refine lv_aload_n hx hb dX0_init_19 rfl (lv_at hl 0 rfl) ?_
  refine lv_iconst (v := 0) hx hb dX0_init_20 (by decide) ?_
  refine r_put C h 0 rfl (Cn := RX0) (T := TX0) (N := 4) rfl hinX0 tyX0 tyX0_ok nmX0 3 (by decide) (index := 21) (ref := "ScaleHouse$Court") wd6 rfl rfl (v := .int 0) rfl rfl (show 3 < 4 by decide) dX0_init_21 (fun H locs h => ?_)
  have h : gS G A s ([(h0, .inr (0, [.int 3, .int (-1), .int 0, .int 0]))]) H locs := h
  exact r_vret C h hr hlk (Nat.zero_le _) (Nat.zero_le _) () (trivial) (rfl) dX0_init_24

set_option maxHeartbeats 4000000 in
set_option maxRecDepth 100000 in
theorem k_isNear (l : Launch) (G : gG) (h0 : Nat) (al st bo so x t : Int32) : cM l yX0_isNear wsX0_isNear 1 30 0 0 G [.ref h0, .int x, .int t] ([(h0, .inr (0, [.int al, .int st, .int bo, .int so]))]) (qI G (S := Unit) (fun r _ => r = crN x t al) (fun _ => [(h0, .inr (0, [.int al, .int st, .int bo, .int so]))])) := by
  refine o_M (cc := cX0_isNear) (maxL := 3) (ret := (some .boolean)) (own := RX0) (by decide +kernel) rfl rfl (Nat.le_of_ble_eq_true rfl) ?_
  intro p e s m below meth c A ls H locs hA C h hr hlk hnm hl
  have hx := C.1.1.1
  have hb := C.1.1.2.1
  have hl : lv_has ls 3 [(0, .ref h0), (1, .int x), (2, .int t)] := hl
  have wd0 : Cond.methodLink RX0 28 Lib.Math.abs.name ∈ wsX0_isNear := by decide +kernel
  have wd1 : Cond.static Lib.Math.abs.name ∈ wsX0_isNear := by decide +kernel
  have wd2 : Cond.initialized "java/lang/Math" ∈ wsX0_isNear := by decide +kernel
  have wd3 : Cond.code Lib.Math.abs.name Lib.Math.abs.code 1 (some .int) ∈ wsX0_isNear := by decide +kernel
  have wd4 : Cond.fieldLink RX0 9 "ScaleHouse$Court" "allowance" "I" ∈ wsX0_isNear := by decide +kernel
  have hinX0 : ∀ w ∈ wsX00, w ∈ wsX0_isNear := by decide +kernel
  refine lv_iload_n hx hb dX0_isNear_0 rfl (lv_at hl 1 rfl) ?_
  refine lv_iload_n hx hb dX0_isNear_1 rfl (lv_at hl 2 rfl) ?_
  refine lv_isub hx hb dX0_isNear_2 ?_
  refine va_mabs hx hb (C.1.1.2.2.1.trans hl.1.symm) C.1.1.2.2.2.1 (C.1.1.2.2.2.2 _ wd0) (C.1.1.2.2.2.2 _ wd1) (C.1.1.2.2.2.2 _ wd2) (C.1.1.2.2.2.2 _ wd3) (Nat.le_of_ble_eq_true rfl) (Nat.le_of_ble_eq_true rfl) (Nat.zero_le _) (Nat.zero_le _) dX0_isNear_3 ?_
  refine lv_bipush (v := 100) hx hb dX0_isNear_6 (by decide) ?_
  refine lv_imul hx hb dX0_isNear_8 ?_
  refine lv_iload_n hx hb dX0_isNear_9 rfl (lv_at hl 2 rfl) ?_
  refine lv_aload_n hx hb dX0_isNear_10 rfl (lv_at hl 0 rfl) ?_
  refine r_get C h 0 rfl (Cn := RX0) (T := TX0) (N := 4) rfl hinX0 0 (by decide) (index := 9) (ref := "ScaleHouse$Court") wd4 rfl (v := .int al) rfl dX0_isNear_11 ?_
  refine lv_imul hx hb dX0_isNear_14 ?_
  refine lv_icmp_gt (tgt := 22) hx hb dX0_isNear_15 (by decide) (fun c_15 => ?_) (fun c_15 => ?_)
  · refine lv_iconst (v := 0) hx hb dX0_isNear_22 (by decide) ?_
    exact r_zret C h hr hlk (Nat.zero_le _) (Nat.zero_le _) (Or.inl rfl) () (by simp only [crN, if_pos c_15]) (rfl) dX0_isNear_23
  · refine lv_iconst (v := 1) hx hb dX0_isNear_18 (by decide) ?_
    refine lv_goto (tgt := 23) hx hb dX0_isNear_19 (by decide) ?_
    exact r_zret C h hr hlk (Nat.zero_le _) (Nat.zero_le _) (Or.inr rfl) () (by simp only [crN, if_neg c_15]) (rfl) dX0_isNear_23

def crD (x y t al : Int32) : Int32 := if crN x t al = crN y t al then (if crN x t al = 0 then 3 else 0) else if crN y t al = 0 then 2 else 1
def crSt (x y t al : Int32) : Int32 := if crN x t al = crN y t al then t else if crN y t al = 0 then x else y

set_option maxHeartbeats 4000000 in
set_option maxRecDepth 100000 in
theorem k_decide (l : Launch) (G : gG) (h0 : Nat) (al st bo so x y t : Int32) : cM l yX0_decide wsX0_decide 2 60 0 0 G [.ref h0, .int x, .int y, .int t] ([(h0, .inr (0, [.int al, .int st, .int bo, .int so]))]) (qI G (S := Unit) (fun r _ => r = crD x y t al) (fun _ => [(h0, .inr (0, [.int al, .int (crSt x y t al), .int (if crN x t al = 0 then bo + 1 else bo), .int (if crN y t al = 0 then so + 1 else so)]))])) := by
  refine o_M (cc := cX0_decide) (maxL := 6) (ret := (some .int)) (own := RX0) (by decide +kernel) rfl rfl (Nat.le_of_ble_eq_true rfl) ?_
  intro p e s m below meth c A ls H locs hA C h hr hlk hnm hl
  have hx := C.1.1.1
  have hb := C.1.1.2.1
  have hl : lv_has ls 6 [(0, .ref h0), (1, .int x), (2, .int y), (3, .int t)] := hl
  have wd0 : Cond.fieldLink RX0 15 "ScaleHouse$Court" "stood" "I" ∈ wsX0_decide := by decide +kernel
  have hinX0 : ∀ w ∈ wsX00, w ∈ wsX0_decide := by decide +kernel
  have wd1 : Cond.fieldLink RX0 21 "ScaleHouse$Court" "sellerOff" "I" ∈ wsX0_decide := by decide +kernel
  have wd2 : Cond.fieldLink RX0 18 "ScaleHouse$Court" "buyerOff" "I" ∈ wsX0_decide := by decide +kernel
  refine lv_aload_n hx hb dX0_decide_0 rfl (lv_at hl 0 rfl) ?_
  refine lv_iload_n hx hb dX0_decide_1 rfl (lv_at hl 1 rfl) ?_
  refine lv_iload_n hx hb dX0_decide_2 rfl (lv_at hl 3 rfl) ?_
  have hp : List.Perm ([(h0, .inr (0, [.int al, .int st, .int bo, .int so]))] : va_W) ([(h0, .inr (0, [.int al, .int st, .int bo, .int so]))] ++ []) := pm 1 rfl [0] (by decide +kernel) rfl
  refine k_i C h hp (r_runV C h hp 0 rfl rfl (As := [.int x, .int t]) (rest := []) (k_isNear l G h0 al st bo so x t) (cwV 2 C.1.1.2.2.2.2 gX0_decide_X0_isNear rfl rfl rfl (by decide +kernel) ⟨Nat.le_of_ble_eq_true rfl, Nat.le_of_ble_eq_true rfl⟩) rfl hl.1 (by decide) dX0_decide_3 ⟨Nat.le_of_ble_eq_true rfl, Nat.le_of_ble_eq_true rfl⟩) (fun r_1 u_2 H locs hw_3 h => ?_)
  have h : gS G A s ([(h0, .inr (0, [.int al, .int st, .int bo, .int so]))]) H locs := h
  refine W.widen (k := 0) (n := 0) (Nat.le_of_ble_eq_true rfl) (Nat.le_of_ble_eq_true rfl) ?_
  subst hw_3
  refine lv_istore (lv' := [(4, .int (crN x t al)), (0, .ref h0), (1, .int x), (2, .int y), (3, .int t)]) hx hb dX0_decide_6 hl (by decide) rfl (fun ls hl => ?_)
  refine lv_aload_n hx hb dX0_decide_8 rfl (lv_at hl 1 rfl) ?_
  refine lv_iload_n hx hb dX0_decide_9 rfl (lv_at hl 3 rfl) ?_
  refine lv_iload_n hx hb dX0_decide_10 rfl (lv_at hl 4 rfl) ?_
  have hp : List.Perm ([(h0, .inr (0, [.int al, .int st, .int bo, .int so]))] : va_W) ([(h0, .inr (0, [.int al, .int st, .int bo, .int so]))] ++ []) := pm 1 rfl [0] (by decide +kernel) rfl
  refine k_i C h hp (r_runV C h hp 0 rfl rfl (As := [.int y, .int t]) (rest := []) (k_isNear l G h0 al st bo so y t) (cwV 2 C.1.1.2.2.2.2 gX0_decide_X0_isNear rfl rfl rfl (by decide +kernel) ⟨Nat.le_of_ble_eq_true rfl, Nat.le_of_ble_eq_true rfl⟩) rfl hl.1 (by decide) dX0_decide_11 ⟨Nat.le_of_ble_eq_true rfl, Nat.le_of_ble_eq_true rfl⟩) (fun r_4 u_5 H locs hw_6 h => ?_)
  have h : gS G A s ([(h0, .inr (0, [.int al, .int st, .int bo, .int so]))]) H locs := h
  refine W.widen (k := 0) (n := 0) (Nat.le_of_ble_eq_true rfl) (Nat.le_of_ble_eq_true rfl) ?_
  subst hw_6
  refine lv_istore (lv' := [(5, .int (crN y t al)), (4, .int (crN x t al)), (0, .ref h0), (1, .int x), (2, .int y), (3, .int t)]) hx hb dX0_decide_14 hl (by decide) rfl (fun ls hl => ?_)
  refine lv_iload hx hb dX0_decide_16 (lv_at hl 1 rfl) ?_
  refine lv_if_ne (tgt := 31) hx hb dX0_decide_18 (by decide) (fun c_18 => ?_) (fun c_18 => ?_)
  · refine lv_iload hx hb dX0_decide_31 (lv_at hl 0 rfl) ?_
    refine lv_if_ne (tgt := 46) hx hb dX0_decide_33 (by decide) (fun c_33 => ?_) (fun c_33 => ?_)
    · refine lv_iload hx hb dX0_decide_46 (lv_at hl 1 rfl) ?_
      refine lv_iload hx hb dX0_decide_48 (lv_at hl 0 rfl) ?_
      refine lv_icmp_ne (tgt := 69) hx hb dX0_decide_50 (by decide) (fun c_50 => ?_) (fun c_50 => ?_)
      · refine lv_aload_n hx hb dX0_decide_69 rfl (lv_at hl 2 rfl) ?_
        refine lv_iload hx hb dX0_decide_70 (lv_at hl 0 rfl) ?_
        refine lv_if_eq (tgt := 79) hx hb dX0_decide_72 (by decide) (fun c_72 => ?_) (fun c_72 => ?_)
        · refine lv_iload_n hx hb dX0_decide_79 rfl (lv_at hl 3 rfl) ?_
          refine r_put C h 0 rfl (Cn := RX0) (T := TX0) (N := 4) rfl hinX0 tyX0 tyX0_ok nmX0 1 (by decide) (index := 15) (ref := "ScaleHouse$Court") wd0 rfl rfl (v := .int x) rfl rfl (show 1 < 4 by decide) dX0_decide_80 (fun H locs h => ?_)
          have h : gS G A s ([(h0, .inr (0, [.int al, .int x, .int bo, .int so]))]) H locs := h
          refine lv_iload hx hb dX0_decide_83 (lv_at hl 0 rfl) ?_
          refine lv_if_eq (tgt := 92) hx hb dX0_decide_85 (by decide) (fun c_85 => ?_) (fun c_85 => ?_)
          · refine lv_iconst (v := 2) hx hb dX0_decide_92 (by decide) ?_
            exact r_iret C h hr hlk (Nat.zero_le _) (Nat.zero_le _) () (by first | (simp only [crD, if_neg c_18, if_neg c_33, if_neg c_50, if_pos c_72, if_pos c_85]; done) | (simp_all [crD]; done)) (by first | (simp only [crSt, if_neg c_18, if_neg c_33, if_neg c_50, if_pos c_72, if_pos c_85]; done) | (simp_all [crSt]; done)) dX0_decide_93
          · refine lv_iconst (v := 1) hx hb dX0_decide_88 (by decide) ?_
            refine lv_goto (tgt := 93) hx hb dX0_decide_89 (by decide) ?_
            exact r_iret C h hr hlk (Nat.zero_le _) (Nat.zero_le _) () (by first | (simp only [crD, if_neg c_18, if_neg c_33, if_neg c_50, if_pos c_72, if_neg c_85]; done) | (simp_all [crD]; done)) (by first | (simp only [crSt, if_neg c_18, if_neg c_33, if_neg c_50, if_pos c_72, if_neg c_85]; done) | (simp_all [crSt]; done)) dX0_decide_93
        · refine lv_iload_n hx hb dX0_decide_75 rfl (lv_at hl 4 rfl) ?_
          refine lv_goto (tgt := 80) hx hb dX0_decide_76 (by decide) ?_
          refine r_put C h 0 rfl (Cn := RX0) (T := TX0) (N := 4) rfl hinX0 tyX0 tyX0_ok nmX0 1 (by decide) (index := 15) (ref := "ScaleHouse$Court") wd0 rfl rfl (v := .int y) rfl rfl (show 1 < 4 by decide) dX0_decide_80 (fun H locs h => ?_)
          have h : gS G A s ([(h0, .inr (0, [.int al, .int y, .int bo, .int so]))]) H locs := h
          refine lv_iload hx hb dX0_decide_83 (lv_at hl 0 rfl) ?_
          refine lv_if_eq (tgt := 92) hx hb dX0_decide_85 (by decide) (fun c_85 => ?_) (fun c_85 => ?_)
          · refine lv_iconst (v := 2) hx hb dX0_decide_92 (by decide) ?_
            exact r_iret C h hr hlk (Nat.zero_le _) (Nat.zero_le _) () (by first | (simp only [crD, if_neg c_18, if_neg c_33, if_neg c_50, if_neg c_72, if_pos c_85]; done) | (simp_all [crD]; done)) (by first | (simp only [crSt, if_neg c_18, if_neg c_33, if_neg c_50, if_neg c_72, if_pos c_85]; done) | (simp_all [crSt]; done)) dX0_decide_93
          · refine lv_iconst (v := 1) hx hb dX0_decide_88 (by decide) ?_
            refine lv_goto (tgt := 93) hx hb dX0_decide_89 (by decide) ?_
            exact r_iret C h hr hlk (Nat.zero_le _) (Nat.zero_le _) () (by first | (simp only [crD, if_neg c_18, if_neg c_33, if_neg c_50, if_neg c_72, if_neg c_85]; done) | (simp_all [crD]; done)) (by first | (simp only [crSt, if_neg c_18, if_neg c_33, if_neg c_50, if_neg c_72, if_neg c_85]; done) | (simp_all [crSt]; done)) dX0_decide_93
      · refine lv_aload_n hx hb dX0_decide_53 rfl (lv_at hl 2 rfl) ?_
        refine lv_iload_n hx hb dX0_decide_54 rfl (lv_at hl 5 rfl) ?_
        refine r_put C h 0 rfl (Cn := RX0) (T := TX0) (N := 4) rfl hinX0 tyX0 tyX0_ok nmX0 1 (by decide) (index := 15) (ref := "ScaleHouse$Court") wd0 rfl rfl (v := .int t) rfl rfl (show 1 < 4 by decide) dX0_decide_55 (fun H locs h => ?_)
        have h : gS G A s ([(h0, .inr (0, [.int al, .int t, .int bo, .int so]))]) H locs := h
        refine lv_iload hx hb dX0_decide_58 (lv_at hl 1 rfl) ?_
        refine lv_if_eq (tgt := 67) hx hb dX0_decide_60 (by decide) (fun c_60 => ?_) (fun c_60 => ?_)
        · refine lv_iconst (v := 3) hx hb dX0_decide_67 (by decide) ?_
          exact r_iret C h hr hlk (Nat.zero_le _) (Nat.zero_le _) () (by first | (simp only [crD, if_neg c_18, if_neg c_33, if_pos c_50, if_pos c_60]; done) | (simp_all [crD]; done)) (by first | (simp only [crSt, if_neg c_18, if_neg c_33, if_pos c_50, if_pos c_60]; done) | (simp_all [crSt]; done)) dX0_decide_68
        · refine lv_iconst (v := 0) hx hb dX0_decide_63 (by decide) ?_
          refine lv_goto (tgt := 68) hx hb dX0_decide_64 (by decide) ?_
          exact r_iret C h hr hlk (Nat.zero_le _) (Nat.zero_le _) () (by first | (simp only [crD, if_neg c_18, if_neg c_33, if_pos c_50, if_neg c_60]; done) | (simp_all [crD]; done)) (by first | (simp only [crSt, if_neg c_18, if_neg c_33, if_pos c_50, if_neg c_60]; done) | (simp_all [crSt]; done)) dX0_decide_68
    · refine lv_aload_n hx hb dX0_decide_36 rfl (lv_at hl 2 rfl) ?_
      refine lv_dup hx hb dX0_decide_37 rfl ?_
      refine r_get C h 0 rfl (Cn := RX0) (T := TX0) (N := 4) rfl hinX0 3 (by decide) (index := 21) (ref := "ScaleHouse$Court") wd1 rfl (v := .int so) rfl dX0_decide_38 ?_
      refine lv_iconst (v := 1) hx hb dX0_decide_41 (by decide) ?_
      refine lv_iadd hx hb dX0_decide_42 ?_
      refine r_put C h 0 rfl (Cn := RX0) (T := TX0) (N := 4) rfl hinX0 tyX0 tyX0_ok nmX0 3 (by decide) (index := 21) (ref := "ScaleHouse$Court") wd1 rfl rfl (v := .int (so + 1)) rfl rfl (show 3 < 4 by decide) dX0_decide_43 (fun H locs h => ?_)
      have h : gS G A s ([(h0, .inr (0, [.int al, .int st, .int bo, .int (so + 1)]))]) H locs := h
      refine lv_iload hx hb dX0_decide_46 (lv_at hl 1 rfl) ?_
      refine lv_iload hx hb dX0_decide_48 (lv_at hl 0 rfl) ?_
      refine lv_icmp_ne (tgt := 69) hx hb dX0_decide_50 (by decide) (fun c_50 => ?_) (fun c_50 => ?_)
      · refine lv_aload_n hx hb dX0_decide_69 rfl (lv_at hl 2 rfl) ?_
        refine lv_iload hx hb dX0_decide_70 (lv_at hl 0 rfl) ?_
        refine lv_if_eq (tgt := 79) hx hb dX0_decide_72 (by decide) (fun c_72 => ?_) (fun c_72 => ?_)
        · refine lv_iload_n hx hb dX0_decide_79 rfl (lv_at hl 3 rfl) ?_
          refine r_put C h 0 rfl (Cn := RX0) (T := TX0) (N := 4) rfl hinX0 tyX0 tyX0_ok nmX0 1 (by decide) (index := 15) (ref := "ScaleHouse$Court") wd0 rfl rfl (v := .int x) rfl rfl (show 1 < 4 by decide) dX0_decide_80 (fun H locs h => ?_)
          have h : gS G A s ([(h0, .inr (0, [.int al, .int x, .int bo, .int (so + 1)]))]) H locs := h
          refine lv_iload hx hb dX0_decide_83 (lv_at hl 0 rfl) ?_
          refine lv_if_eq (tgt := 92) hx hb dX0_decide_85 (by decide) (fun c_85 => ?_) (fun c_85 => ?_)
          · refine lv_iconst (v := 2) hx hb dX0_decide_92 (by decide) ?_
            exact r_iret C h hr hlk (Nat.zero_le _) (Nat.zero_le _) () (by first | (simp only [crD, if_neg c_18, if_pos c_33, if_neg c_50, if_pos c_72, if_pos c_85]; done) | (simp_all [crD]; done)) (by first | (simp only [crSt, if_neg c_18, if_pos c_33, if_neg c_50, if_pos c_72, if_pos c_85]; done) | (simp_all [crSt]; done)) dX0_decide_93
          · refine lv_iconst (v := 1) hx hb dX0_decide_88 (by decide) ?_
            refine lv_goto (tgt := 93) hx hb dX0_decide_89 (by decide) ?_
            exact r_iret C h hr hlk (Nat.zero_le _) (Nat.zero_le _) () (by first | (simp only [crD, if_neg c_18, if_pos c_33, if_neg c_50, if_pos c_72, if_neg c_85]; done) | (simp_all [crD]; done)) (by first | (simp only [crSt, if_neg c_18, if_pos c_33, if_neg c_50, if_pos c_72, if_neg c_85]; done) | (simp_all [crSt]; done)) dX0_decide_93
        · refine lv_iload_n hx hb dX0_decide_75 rfl (lv_at hl 4 rfl) ?_
          refine lv_goto (tgt := 80) hx hb dX0_decide_76 (by decide) ?_
          refine r_put C h 0 rfl (Cn := RX0) (T := TX0) (N := 4) rfl hinX0 tyX0 tyX0_ok nmX0 1 (by decide) (index := 15) (ref := "ScaleHouse$Court") wd0 rfl rfl (v := .int y) rfl rfl (show 1 < 4 by decide) dX0_decide_80 (fun H locs h => ?_)
          have h : gS G A s ([(h0, .inr (0, [.int al, .int y, .int bo, .int (so + 1)]))]) H locs := h
          refine lv_iload hx hb dX0_decide_83 (lv_at hl 0 rfl) ?_
          refine lv_if_eq (tgt := 92) hx hb dX0_decide_85 (by decide) (fun c_85 => ?_) (fun c_85 => ?_)
          · refine lv_iconst (v := 2) hx hb dX0_decide_92 (by decide) ?_
            exact r_iret C h hr hlk (Nat.zero_le _) (Nat.zero_le _) () (by first | (simp only [crD, if_neg c_18, if_pos c_33, if_neg c_50, if_neg c_72, if_pos c_85]; done) | (simp_all [crD]; done)) (by first | (simp only [crSt, if_neg c_18, if_pos c_33, if_neg c_50, if_neg c_72, if_pos c_85]; done) | (simp_all [crSt]; done)) dX0_decide_93
          · refine lv_iconst (v := 1) hx hb dX0_decide_88 (by decide) ?_
            refine lv_goto (tgt := 93) hx hb dX0_decide_89 (by decide) ?_
            exact r_iret C h hr hlk (Nat.zero_le _) (Nat.zero_le _) () (by first | (simp only [crD, if_neg c_18, if_pos c_33, if_neg c_50, if_neg c_72, if_neg c_85]; done) | (simp_all [crD]; done)) (by first | (simp only [crSt, if_neg c_18, if_pos c_33, if_neg c_50, if_neg c_72, if_neg c_85]; done) | (simp_all [crSt]; done)) dX0_decide_93
      · refine lv_aload_n hx hb dX0_decide_53 rfl (lv_at hl 2 rfl) ?_
        refine lv_iload_n hx hb dX0_decide_54 rfl (lv_at hl 5 rfl) ?_
        refine r_put C h 0 rfl (Cn := RX0) (T := TX0) (N := 4) rfl hinX0 tyX0 tyX0_ok nmX0 1 (by decide) (index := 15) (ref := "ScaleHouse$Court") wd0 rfl rfl (v := .int t) rfl rfl (show 1 < 4 by decide) dX0_decide_55 (fun H locs h => ?_)
        have h : gS G A s ([(h0, .inr (0, [.int al, .int t, .int bo, .int (so + 1)]))]) H locs := h
        refine lv_iload hx hb dX0_decide_58 (lv_at hl 1 rfl) ?_
        refine lv_if_eq (tgt := 67) hx hb dX0_decide_60 (by decide) (fun c_60 => ?_) (fun c_60 => ?_)
        · refine lv_iconst (v := 3) hx hb dX0_decide_67 (by decide) ?_
          exact r_iret C h hr hlk (Nat.zero_le _) (Nat.zero_le _) () (by first | (simp only [crD, if_neg c_18, if_pos c_33, if_pos c_50, if_pos c_60]; done) | (simp_all [crD]; done)) (by first | (simp only [crSt, if_neg c_18, if_pos c_33, if_pos c_50, if_pos c_60]; done) | (simp_all [crSt]; done)) dX0_decide_68
        · refine lv_iconst (v := 0) hx hb dX0_decide_63 (by decide) ?_
          refine lv_goto (tgt := 68) hx hb dX0_decide_64 (by decide) ?_
          exact r_iret C h hr hlk (Nat.zero_le _) (Nat.zero_le _) () (by first | (simp only [crD, if_neg c_18, if_pos c_33, if_pos c_50, if_neg c_60]; done) | (simp_all [crD]; done)) (by first | (simp only [crSt, if_neg c_18, if_pos c_33, if_pos c_50, if_neg c_60]; done) | (simp_all [crSt]; done)) dX0_decide_68
  · refine lv_aload_n hx hb dX0_decide_21 rfl (lv_at hl 2 rfl) ?_
    refine lv_dup hx hb dX0_decide_22 rfl ?_
    refine r_get C h 0 rfl (Cn := RX0) (T := TX0) (N := 4) rfl hinX0 2 (by decide) (index := 18) (ref := "ScaleHouse$Court") wd2 rfl (v := .int bo) rfl dX0_decide_23 ?_
    refine lv_iconst (v := 1) hx hb dX0_decide_26 (by decide) ?_
    refine lv_iadd hx hb dX0_decide_27 ?_
    refine r_put C h 0 rfl (Cn := RX0) (T := TX0) (N := 4) rfl hinX0 tyX0 tyX0_ok nmX0 2 (by decide) (index := 18) (ref := "ScaleHouse$Court") wd2 rfl rfl (v := .int (bo + 1)) rfl rfl (show 2 < 4 by decide) dX0_decide_28 (fun H locs h => ?_)
    have h : gS G A s ([(h0, .inr (0, [.int al, .int st, .int (bo + 1), .int so]))]) H locs := h
    refine lv_iload hx hb dX0_decide_31 (lv_at hl 0 rfl) ?_
    refine lv_if_ne (tgt := 46) hx hb dX0_decide_33 (by decide) (fun c_33 => ?_) (fun c_33 => ?_)
    · refine lv_iload hx hb dX0_decide_46 (lv_at hl 1 rfl) ?_
      refine lv_iload hx hb dX0_decide_48 (lv_at hl 0 rfl) ?_
      refine lv_icmp_ne (tgt := 69) hx hb dX0_decide_50 (by decide) (fun c_50 => ?_) (fun c_50 => ?_)
      · refine lv_aload_n hx hb dX0_decide_69 rfl (lv_at hl 2 rfl) ?_
        refine lv_iload hx hb dX0_decide_70 (lv_at hl 0 rfl) ?_
        refine lv_if_eq (tgt := 79) hx hb dX0_decide_72 (by decide) (fun c_72 => ?_) (fun c_72 => ?_)
        · refine lv_iload_n hx hb dX0_decide_79 rfl (lv_at hl 3 rfl) ?_
          refine r_put C h 0 rfl (Cn := RX0) (T := TX0) (N := 4) rfl hinX0 tyX0 tyX0_ok nmX0 1 (by decide) (index := 15) (ref := "ScaleHouse$Court") wd0 rfl rfl (v := .int x) rfl rfl (show 1 < 4 by decide) dX0_decide_80 (fun H locs h => ?_)
          have h : gS G A s ([(h0, .inr (0, [.int al, .int x, .int (bo + 1), .int so]))]) H locs := h
          refine lv_iload hx hb dX0_decide_83 (lv_at hl 0 rfl) ?_
          refine lv_if_eq (tgt := 92) hx hb dX0_decide_85 (by decide) (fun c_85 => ?_) (fun c_85 => ?_)
          · refine lv_iconst (v := 2) hx hb dX0_decide_92 (by decide) ?_
            exact r_iret C h hr hlk (Nat.zero_le _) (Nat.zero_le _) () (by first | (simp only [crD, if_pos c_18, if_neg c_33, if_neg c_50, if_pos c_72, if_pos c_85]; done) | (simp_all [crD]; done)) (by first | (simp only [crSt, if_pos c_18, if_neg c_33, if_neg c_50, if_pos c_72, if_pos c_85]; done) | (simp_all [crSt]; done)) dX0_decide_93
          · refine lv_iconst (v := 1) hx hb dX0_decide_88 (by decide) ?_
            refine lv_goto (tgt := 93) hx hb dX0_decide_89 (by decide) ?_
            exact r_iret C h hr hlk (Nat.zero_le _) (Nat.zero_le _) () (by first | (simp only [crD, if_pos c_18, if_neg c_33, if_neg c_50, if_pos c_72, if_neg c_85]; done) | (simp_all [crD]; done)) (by first | (simp only [crSt, if_pos c_18, if_neg c_33, if_neg c_50, if_pos c_72, if_neg c_85]; done) | (simp_all [crSt]; done)) dX0_decide_93
        · refine lv_iload_n hx hb dX0_decide_75 rfl (lv_at hl 4 rfl) ?_
          refine lv_goto (tgt := 80) hx hb dX0_decide_76 (by decide) ?_
          refine r_put C h 0 rfl (Cn := RX0) (T := TX0) (N := 4) rfl hinX0 tyX0 tyX0_ok nmX0 1 (by decide) (index := 15) (ref := "ScaleHouse$Court") wd0 rfl rfl (v := .int y) rfl rfl (show 1 < 4 by decide) dX0_decide_80 (fun H locs h => ?_)
          have h : gS G A s ([(h0, .inr (0, [.int al, .int y, .int (bo + 1), .int so]))]) H locs := h
          refine lv_iload hx hb dX0_decide_83 (lv_at hl 0 rfl) ?_
          refine lv_if_eq (tgt := 92) hx hb dX0_decide_85 (by decide) (fun c_85 => ?_) (fun c_85 => ?_)
          · refine lv_iconst (v := 2) hx hb dX0_decide_92 (by decide) ?_
            exact r_iret C h hr hlk (Nat.zero_le _) (Nat.zero_le _) () (by first | (simp only [crD, if_pos c_18, if_neg c_33, if_neg c_50, if_neg c_72, if_pos c_85]; done) | (simp_all [crD]; done)) (by first | (simp only [crSt, if_pos c_18, if_neg c_33, if_neg c_50, if_neg c_72, if_pos c_85]; done) | (simp_all [crSt]; done)) dX0_decide_93
          · refine lv_iconst (v := 1) hx hb dX0_decide_88 (by decide) ?_
            refine lv_goto (tgt := 93) hx hb dX0_decide_89 (by decide) ?_
            exact r_iret C h hr hlk (Nat.zero_le _) (Nat.zero_le _) () (by first | (simp only [crD, if_pos c_18, if_neg c_33, if_neg c_50, if_neg c_72, if_neg c_85]; done) | (simp_all [crD]; done)) (by first | (simp only [crSt, if_pos c_18, if_neg c_33, if_neg c_50, if_neg c_72, if_neg c_85]; done) | (simp_all [crSt]; done)) dX0_decide_93
      · refine lv_aload_n hx hb dX0_decide_53 rfl (lv_at hl 2 rfl) ?_
        refine lv_iload_n hx hb dX0_decide_54 rfl (lv_at hl 5 rfl) ?_
        refine r_put C h 0 rfl (Cn := RX0) (T := TX0) (N := 4) rfl hinX0 tyX0 tyX0_ok nmX0 1 (by decide) (index := 15) (ref := "ScaleHouse$Court") wd0 rfl rfl (v := .int t) rfl rfl (show 1 < 4 by decide) dX0_decide_55 (fun H locs h => ?_)
        have h : gS G A s ([(h0, .inr (0, [.int al, .int t, .int (bo + 1), .int so]))]) H locs := h
        refine lv_iload hx hb dX0_decide_58 (lv_at hl 1 rfl) ?_
        refine lv_if_eq (tgt := 67) hx hb dX0_decide_60 (by decide) (fun c_60 => ?_) (fun c_60 => ?_)
        · refine lv_iconst (v := 3) hx hb dX0_decide_67 (by decide) ?_
          exact r_iret C h hr hlk (Nat.zero_le _) (Nat.zero_le _) () (by first | (simp only [crD, if_pos c_18, if_neg c_33, if_pos c_50, if_pos c_60]; done) | (simp_all [crD]; done)) (by first | (simp only [crSt, if_pos c_18, if_neg c_33, if_pos c_50, if_pos c_60]; done) | (simp_all [crSt]; done)) dX0_decide_68
        · refine lv_iconst (v := 0) hx hb dX0_decide_63 (by decide) ?_
          refine lv_goto (tgt := 68) hx hb dX0_decide_64 (by decide) ?_
          exact r_iret C h hr hlk (Nat.zero_le _) (Nat.zero_le _) () (by first | (simp only [crD, if_pos c_18, if_neg c_33, if_pos c_50, if_neg c_60]; done) | (simp_all [crD]; done)) (by first | (simp only [crSt, if_pos c_18, if_neg c_33, if_pos c_50, if_neg c_60]; done) | (simp_all [crSt]; done)) dX0_decide_68
    · refine lv_aload_n hx hb dX0_decide_36 rfl (lv_at hl 2 rfl) ?_
      refine lv_dup hx hb dX0_decide_37 rfl ?_
      refine r_get C h 0 rfl (Cn := RX0) (T := TX0) (N := 4) rfl hinX0 3 (by decide) (index := 21) (ref := "ScaleHouse$Court") wd1 rfl (v := .int so) rfl dX0_decide_38 ?_
      refine lv_iconst (v := 1) hx hb dX0_decide_41 (by decide) ?_
      refine lv_iadd hx hb dX0_decide_42 ?_
      refine r_put C h 0 rfl (Cn := RX0) (T := TX0) (N := 4) rfl hinX0 tyX0 tyX0_ok nmX0 3 (by decide) (index := 21) (ref := "ScaleHouse$Court") wd1 rfl rfl (v := .int (so + 1)) rfl rfl (show 3 < 4 by decide) dX0_decide_43 (fun H locs h => ?_)
      have h : gS G A s ([(h0, .inr (0, [.int al, .int st, .int (bo + 1), .int (so + 1)]))]) H locs := h
      refine lv_iload hx hb dX0_decide_46 (lv_at hl 1 rfl) ?_
      refine lv_iload hx hb dX0_decide_48 (lv_at hl 0 rfl) ?_
      refine lv_icmp_ne (tgt := 69) hx hb dX0_decide_50 (by decide) (fun c_50 => ?_) (fun c_50 => ?_)
      · refine lv_aload_n hx hb dX0_decide_69 rfl (lv_at hl 2 rfl) ?_
        refine lv_iload hx hb dX0_decide_70 (lv_at hl 0 rfl) ?_
        refine lv_if_eq (tgt := 79) hx hb dX0_decide_72 (by decide) (fun c_72 => ?_) (fun c_72 => ?_)
        · refine lv_iload_n hx hb dX0_decide_79 rfl (lv_at hl 3 rfl) ?_
          refine r_put C h 0 rfl (Cn := RX0) (T := TX0) (N := 4) rfl hinX0 tyX0 tyX0_ok nmX0 1 (by decide) (index := 15) (ref := "ScaleHouse$Court") wd0 rfl rfl (v := .int x) rfl rfl (show 1 < 4 by decide) dX0_decide_80 (fun H locs h => ?_)
          have h : gS G A s ([(h0, .inr (0, [.int al, .int x, .int (bo + 1), .int (so + 1)]))]) H locs := h
          refine lv_iload hx hb dX0_decide_83 (lv_at hl 0 rfl) ?_
          refine lv_if_eq (tgt := 92) hx hb dX0_decide_85 (by decide) (fun c_85 => ?_) (fun c_85 => ?_)
          · refine lv_iconst (v := 2) hx hb dX0_decide_92 (by decide) ?_
            exact r_iret C h hr hlk (Nat.zero_le _) (Nat.zero_le _) () (by first | (simp only [crD, if_pos c_18, if_pos c_33, if_neg c_50, if_pos c_72, if_pos c_85]; done) | (simp_all [crD]; done)) (by first | (simp only [crSt, if_pos c_18, if_pos c_33, if_neg c_50, if_pos c_72, if_pos c_85]; done) | (simp_all [crSt]; done)) dX0_decide_93
          · refine lv_iconst (v := 1) hx hb dX0_decide_88 (by decide) ?_
            refine lv_goto (tgt := 93) hx hb dX0_decide_89 (by decide) ?_
            exact r_iret C h hr hlk (Nat.zero_le _) (Nat.zero_le _) () (by first | (simp only [crD, if_pos c_18, if_pos c_33, if_neg c_50, if_pos c_72, if_neg c_85]; done) | (simp_all [crD]; done)) (by first | (simp only [crSt, if_pos c_18, if_pos c_33, if_neg c_50, if_pos c_72, if_neg c_85]; done) | (simp_all [crSt]; done)) dX0_decide_93
        · refine lv_iload_n hx hb dX0_decide_75 rfl (lv_at hl 4 rfl) ?_
          refine lv_goto (tgt := 80) hx hb dX0_decide_76 (by decide) ?_
          refine r_put C h 0 rfl (Cn := RX0) (T := TX0) (N := 4) rfl hinX0 tyX0 tyX0_ok nmX0 1 (by decide) (index := 15) (ref := "ScaleHouse$Court") wd0 rfl rfl (v := .int y) rfl rfl (show 1 < 4 by decide) dX0_decide_80 (fun H locs h => ?_)
          have h : gS G A s ([(h0, .inr (0, [.int al, .int y, .int (bo + 1), .int (so + 1)]))]) H locs := h
          refine lv_iload hx hb dX0_decide_83 (lv_at hl 0 rfl) ?_
          refine lv_if_eq (tgt := 92) hx hb dX0_decide_85 (by decide) (fun c_85 => ?_) (fun c_85 => ?_)
          · refine lv_iconst (v := 2) hx hb dX0_decide_92 (by decide) ?_
            exact r_iret C h hr hlk (Nat.zero_le _) (Nat.zero_le _) () (by first | (simp only [crD, if_pos c_18, if_pos c_33, if_neg c_50, if_neg c_72, if_pos c_85]; done) | (simp_all [crD]; done)) (by first | (simp only [crSt, if_pos c_18, if_pos c_33, if_neg c_50, if_neg c_72, if_pos c_85]; done) | (simp_all [crSt]; done)) dX0_decide_93
          · refine lv_iconst (v := 1) hx hb dX0_decide_88 (by decide) ?_
            refine lv_goto (tgt := 93) hx hb dX0_decide_89 (by decide) ?_
            exact r_iret C h hr hlk (Nat.zero_le _) (Nat.zero_le _) () (by first | (simp only [crD, if_pos c_18, if_pos c_33, if_neg c_50, if_neg c_72, if_neg c_85]; done) | (simp_all [crD]; done)) (by first | (simp only [crSt, if_pos c_18, if_pos c_33, if_neg c_50, if_neg c_72, if_neg c_85]; done) | (simp_all [crSt]; done)) dX0_decide_93
      · refine lv_aload_n hx hb dX0_decide_53 rfl (lv_at hl 2 rfl) ?_
        refine lv_iload_n hx hb dX0_decide_54 rfl (lv_at hl 5 rfl) ?_
        refine r_put C h 0 rfl (Cn := RX0) (T := TX0) (N := 4) rfl hinX0 tyX0 tyX0_ok nmX0 1 (by decide) (index := 15) (ref := "ScaleHouse$Court") wd0 rfl rfl (v := .int t) rfl rfl (show 1 < 4 by decide) dX0_decide_55 (fun H locs h => ?_)
        have h : gS G A s ([(h0, .inr (0, [.int al, .int t, .int (bo + 1), .int (so + 1)]))]) H locs := h
        refine lv_iload hx hb dX0_decide_58 (lv_at hl 1 rfl) ?_
        refine lv_if_eq (tgt := 67) hx hb dX0_decide_60 (by decide) (fun c_60 => ?_) (fun c_60 => ?_)
        · refine lv_iconst (v := 3) hx hb dX0_decide_67 (by decide) ?_
          exact r_iret C h hr hlk (Nat.zero_le _) (Nat.zero_le _) () (by first | (simp only [crD, if_pos c_18, if_pos c_33, if_pos c_50, if_pos c_60]; done) | (simp_all [crD]; done)) (by first | (simp only [crSt, if_pos c_18, if_pos c_33, if_pos c_50, if_pos c_60]; done) | (simp_all [crSt]; done)) dX0_decide_68
        · refine lv_iconst (v := 0) hx hb dX0_decide_63 (by decide) ?_
          refine lv_goto (tgt := 68) hx hb dX0_decide_64 (by decide) ?_
          exact r_iret C h hr hlk (Nat.zero_le _) (Nat.zero_le _) () (by first | (simp only [crD, if_pos c_18, if_pos c_33, if_pos c_50, if_neg c_60]; done) | (simp_all [crD]; done)) (by first | (simp only [crSt, if_pos c_18, if_pos c_33, if_pos c_50, if_neg c_60]; done) | (simp_all [crSt]; done)) dX0_decide_68
end
section
theorem i_vc : Claimed_1_1 ∧ Claimed_1_2 := sorry
end
