theorem dX0_init_0 : decode cX0_init 0 = .ok (.aload_n 0, 1) := by decide +kernel
theorem dX0_init_1 : decode cX0_init 1 = .ok (.iload_n 1, 1) := by decide +kernel
theorem dX0_init_2 : decode cX0_init 2 = .ok (.invokespecial 3, 3) := by decide +kernel
theorem dX0_init_5 : decode cX0_init 5 = .ok (.return_, 1) := by decide +kernel
theorem dX0_heaviness_0 : decode cX0_heaviness 0 = .ok (.aload_n 0, 1) := by decide +kernel
theorem dX0_heaviness_1 : decode cX0_heaviness 1 = .ok (.invokespecial 9, 3) := by decide +kernel
theorem dX0_heaviness_4 : decode cX0_heaviness 4 = .ok (.aload_n 0, 1) := by decide +kernel
theorem dX0_heaviness_5 : decode cX0_heaviness 5 = .ok (.getfield 13, 3) := by decide +kernel
theorem dX0_heaviness_8 : decode cX0_heaviness 8 = .ok (.iadd, 1) := by decide +kernel
theorem dX0_heaviness_9 : decode cX0_heaviness 9 = .ok (.ireturn, 1) := by decide +kernel
theorem dX0_asksOnComing_0 : decode cX0_asksOnComing 0 = .ok (.ldc2_w 19, 3) := by decide +kernel
theorem dX0_asksOnComing_3 : decode cX0_asksOnComing 3 = .ok (.aload_n 1, 1) := by decide +kernel
theorem dX0_asksOnComing_4 : decode cX0_asksOnComing 4 = .ok (.getfield 21, 3) := by decide +kernel
theorem dX0_asksOnComing_7 : decode cX0_asksOnComing 7 = .ok (.aload_n 1, 1) := by decide +kernel
theorem dX0_asksOnComing_8 : decode cX0_asksOnComing 8 = .ok (.invokevirtual 27, 3) := by decide +kernel
theorem dX0_asksOnComing_11 : decode cX0_asksOnComing 11 = .ok (.laload, 1) := by decide +kernel
theorem dX0_asksOnComing_12 : decode cX0_asksOnComing 12 = .ok (.lmul, 1) := by decide +kernel
theorem dX0_asksOnComing_13 : decode cX0_asksOnComing 13 = .ok (.aload_n 0, 1) := by decide +kernel
theorem dX0_asksOnComing_14 : decode cX0_asksOnComing 14 = .ok (.getfield 13, 3) := by decide +kernel
theorem dX0_asksOnComing_17 : decode cX0_asksOnComing 17 = .ok (.i2l, 1) := by decide +kernel
theorem dX0_asksOnComing_18 : decode cX0_asksOnComing 18 = .ok (.aload_n 1, 1) := by decide +kernel
theorem dX0_asksOnComing_19 : decode cX0_asksOnComing 19 = .ok (.invokevirtual 30, 3) := by decide +kernel
theorem dX0_asksOnComing_22 : decode cX0_asksOnComing 22 = .ok (.lmul, 1) := by decide +kernel
theorem dX0_asksOnComing_23 : decode cX0_asksOnComing 23 = .ok (.lcmp, 1) := by decide +kernel
theorem dX0_asksOnComing_24 : decode cX0_asksOnComing 24 = .ok (.ifCond .ge 7, 3) := by decide +kernel
theorem dX0_asksOnComing_27 : decode cX0_asksOnComing 27 = .ok (.iconst 1, 1) := by decide +kernel
theorem dX0_asksOnComing_28 : decode cX0_asksOnComing 28 = .ok (.goto 4, 3) := by decide +kernel
theorem dX0_asksOnComing_31 : decode cX0_asksOnComing 31 = .ok (.iconst 0, 1) := by decide +kernel
theorem dX0_asksOnComing_32 : decode cX0_asksOnComing 32 = .ok (.ireturn, 1) := by decide +kernel
theorem dX0_fail_0 : decode cX0_fail 0 = .ok (.aload_n 0, 1) := by decide +kernel
theorem dX0_fail_1 : decode cX0_fail 1 = .ok (.getfield 13, 3) := by decide +kernel
theorem dX0_fail_4 : decode cX0_fail 4 = .ok (.ifCond .le 13, 3) := by decide +kernel
theorem dX0_fail_7 : decode cX0_fail 7 = .ok (.new 34, 3) := by decide +kernel
theorem dX0_fail_10 : decode cX0_fail 10 = .ok (.dup, 1) := by decide +kernel
theorem dX0_fail_11 : decode cX0_fail 11 = .ok (.ldc 36, 2) := by decide +kernel
theorem dX0_fail_13 : decode cX0_fail 13 = .ok (.invokespecial 38, 3) := by decide +kernel
theorem dX0_fail_16 : decode cX0_fail 16 = .ok (.athrow, 1) := by decide +kernel
theorem dX0_fail_17 : decode cX0_fail 17 = .ok (.return_, 1) := by decide +kernel
theorem dX1_init_0 : decode cX1_init 0 = .ok (.aload_n 0, 1) := by decide +kernel
theorem dX1_init_1 : decode cX1_init 1 = .ok (.iload_n 1, 1) := by decide +kernel
theorem dX1_init_2 : decode cX1_init 2 = .ok (.invokespecial 1, 3) := by decide +kernel
theorem dX1_init_5 : decode cX1_init 5 = .ok (.return_, 1) := by decide +kernel
theorem dX1_heaviness_0 : decode cX1_heaviness 0 = .ok (.aload_n 0, 1) := by decide +kernel
theorem dX1_heaviness_1 : decode cX1_heaviness 1 = .ok (.invokespecial 7, 3) := by decide +kernel
theorem dX1_heaviness_4 : decode cX1_heaviness 4 = .ok (.iconst 1, 1) := by decide +kernel
theorem dX1_heaviness_5 : decode cX1_heaviness 5 = .ok (.iadd, 1) := by decide +kernel
theorem dX1_heaviness_6 : decode cX1_heaviness 6 = .ok (.ireturn, 1) := by decide +kernel
theorem dX1_asksAtStart_0 : decode cX1_asksAtStart 0 = .ok (.iconst 1, 1) := by decide +kernel
theorem dX1_asksAtStart_1 : decode cX1_asksAtStart 1 = .ok (.ireturn, 1) := by decide +kernel
theorem dX1_hasSecondThoughts_0 : decode cX1_hasSecondThoughts 0 = .ok (.iconst 1, 1) := by decide +kernel
theorem dX1_hasSecondThoughts_1 : decode cX1_hasSecondThoughts 1 = .ok (.ireturn, 1) := by decide +kernel
theorem dX2_init_0 : decode cX2_init 0 = .ok (.aload_n 0, 1) := by decide +kernel
theorem dX2_init_1 : decode cX2_init 1 = .ok (.invokespecial 3, 3) := by decide +kernel
theorem dX2_init_4 : decode cX2_init 4 = .ok (.aload_n 0, 1) := by decide +kernel
theorem dX2_init_5 : decode cX2_init 5 = .ok (.iconst 0, 1) := by decide +kernel
theorem dX2_init_6 : decode cX2_init 6 = .ok (.putfield 9, 3) := by decide +kernel
theorem dX2_init_9 : decode cX2_init 9 = .ok (.aload_n 0, 1) := by decide +kernel
theorem dX2_init_10 : decode cX2_init 10 = .ok (.bipush 16, 2) := by decide +kernel
theorem dX2_init_12 : decode cX2_init 12 = .ok (.newarray .int, 2) := by decide +kernel
theorem dX2_init_14 : decode cX2_init 14 = .ok (.putfield 15, 3) := by decide +kernel
theorem dX2_init_17 : decode cX2_init 17 = .ok (.aload_n 0, 1) := by decide +kernel
theorem dX2_init_18 : decode cX2_init 18 = .ok (.bipush 16, 2) := by decide +kernel
theorem dX2_init_20 : decode cX2_init 20 = .ok (.newarray .int, 2) := by decide +kernel
theorem dX2_init_22 : decode cX2_init 22 = .ok (.putfield 19, 3) := by decide +kernel
theorem dX2_init_25 : decode cX2_init 25 = .ok (.aload_n 0, 1) := by decide +kernel
theorem dX2_init_26 : decode cX2_init 26 = .ok (.bipush 16, 2) := by decide +kernel
theorem dX2_init_28 : decode cX2_init 28 = .ok (.newarray .int, 2) := by decide +kernel
theorem dX2_init_30 : decode cX2_init 30 = .ok (.putfield 22, 3) := by decide +kernel
theorem dX2_init_33 : decode cX2_init 33 = .ok (.aload_n 0, 1) := by decide +kernel
theorem dX2_init_34 : decode cX2_init 34 = .ok (.iconst 0, 1) := by decide +kernel
theorem dX2_init_35 : decode cX2_init 35 = .ok (.putfield 25, 3) := by decide +kernel
theorem dX2_init_38 : decode cX2_init 38 = .ok (.aload_n 0, 1) := by decide +kernel
theorem dX2_init_39 : decode cX2_init 39 = .ok (.iconst 5, 1) := by decide +kernel
theorem dX2_init_40 : decode cX2_init 40 = .ok (.newarray .int, 2) := by decide +kernel
theorem dX2_init_42 : decode cX2_init 42 = .ok (.putfield 28, 3) := by decide +kernel
theorem dX2_init_45 : decode cX2_init 45 = .ok (.aload_n 0, 1) := by decide +kernel
theorem dX2_init_46 : decode cX2_init 46 = .ok (.iconst 5, 1) := by decide +kernel
theorem dX2_init_47 : decode cX2_init 47 = .ok (.newarray .int, 2) := by decide +kernel
theorem dX2_init_49 : decode cX2_init 49 = .ok (.putfield 31, 3) := by decide +kernel
theorem dX2_init_52 : decode cX2_init 52 = .ok (.aload_n 0, 1) := by decide +kernel
theorem dX2_init_53 : decode cX2_init 53 = .ok (.iconst 5, 1) := by decide +kernel
theorem dX2_init_54 : decode cX2_init 54 = .ok (.newarray .int, 2) := by decide +kernel
theorem dX2_init_56 : decode cX2_init 56 = .ok (.putfield 34, 3) := by decide +kernel
theorem dX2_init_59 : decode cX2_init 59 = .ok (.aload_n 0, 1) := by decide +kernel
theorem dX2_init_60 : decode cX2_init 60 = .ok (.iconst 0, 1) := by decide +kernel
theorem dX2_init_61 : decode cX2_init 61 = .ok (.putfield 37, 3) := by decide +kernel
theorem dX2_init_64 : decode cX2_init 64 = .ok (.aload_n 0, 1) := by decide +kernel
theorem dX2_init_65 : decode cX2_init 65 = .ok (.bipush 6, 2) := by decide +kernel
theorem dX2_init_67 : decode cX2_init 67 = .ok (.newarray .int, 2) := by decide +kernel
theorem dX2_init_69 : decode cX2_init 69 = .ok (.putfield 40, 3) := by decide +kernel
theorem dX2_init_72 : decode cX2_init 72 = .ok (.aload_n 0, 1) := by decide +kernel
theorem dX2_init_73 : decode cX2_init 73 = .ok (.bipush 6, 2) := by decide +kernel
theorem dX2_init_75 : decode cX2_init 75 = .ok (.newarray .int, 2) := by decide +kernel
theorem dX2_init_77 : decode cX2_init 77 = .ok (.putfield 43, 3) := by decide +kernel
theorem dX2_init_80 : decode cX2_init 80 = .ok (.aload_n 0, 1) := by decide +kernel
theorem dX2_init_81 : decode cX2_init 81 = .ok (.bipush 8, 2) := by decide +kernel
theorem dX2_init_83 : decode cX2_init 83 = .ok (.bipush 6, 2) := by decide +kernel
theorem dX2_init_85 : decode cX2_init 85 = .ok (.multianewarray 46 2, 4) := by decide +kernel
theorem dX2_init_89 : decode cX2_init 89 = .ok (.putfield 48, 3) := by decide +kernel
theorem dX2_init_92 : decode cX2_init 92 = .ok (.aload_n 0, 1) := by decide +kernel
theorem dX2_init_93 : decode cX2_init 93 = .ok (.iconst 0, 1) := by decide +kernel
theorem dX2_init_94 : decode cX2_init 94 = .ok (.putfield 51, 3) := by decide +kernel
theorem dX2_init_97 : decode cX2_init 97 = .ok (.aload_n 0, 1) := by decide +kernel
theorem dX2_init_98 : decode cX2_init 98 = .ok (.iconst 2, 1) := by decide +kernel
theorem dX2_init_99 : decode cX2_init 99 = .ok (.putfield 54, 3) := by decide +kernel
theorem dX2_init_102 : decode cX2_init 102 = .ok (.aload_n 0, 1) := by decide +kernel
theorem dX2_init_103 : decode cX2_init 103 = .ok (.iconst 5, 1) := by decide +kernel
theorem dX2_init_104 : decode cX2_init 104 = .ok (.bipush 8, 2) := by decide +kernel
theorem dX2_init_106 : decode cX2_init 106 = .ok (.multianewarray 46 2, 4) := by decide +kernel
theorem dX2_init_110 : decode cX2_init 110 = .ok (.putfield 57, 3) := by decide +kernel
theorem dX2_init_113 : decode cX2_init 113 = .ok (.aload_n 0, 1) := by decide +kernel
theorem dX2_init_114 : decode cX2_init 114 = .ok (.iconst 5, 1) := by decide +kernel
theorem dX2_init_115 : decode cX2_init 115 = .ok (.bipush 8, 2) := by decide +kernel
theorem dX2_init_117 : decode cX2_init 117 = .ok (.multianewarray 46 2, 4) := by decide +kernel
theorem dX2_init_121 : decode cX2_init 121 = .ok (.putfield 60, 3) := by decide +kernel
theorem dX2_init_124 : decode cX2_init 124 = .ok (.aload_n 0, 1) := by decide +kernel
theorem dX2_init_125 : decode cX2_init 125 = .ok (.bipush 8, 2) := by decide +kernel
theorem dX2_init_127 : decode cX2_init 127 = .ok (.newarray .int, 2) := by decide +kernel
theorem dX2_init_129 : decode cX2_init 129 = .ok (.putfield 63, 3) := by decide +kernel
theorem dX2_init_132 : decode cX2_init 132 = .ok (.aload_n 0, 1) := by decide +kernel
theorem dX2_init_133 : decode cX2_init 133 = .ok (.bipush 48, 2) := by decide +kernel
theorem dX2_init_135 : decode cX2_init 135 = .ok (.iconst 5, 1) := by decide +kernel
theorem dX2_init_136 : decode cX2_init 136 = .ok (.multianewarray 46 2, 4) := by decide +kernel
theorem dX2_init_140 : decode cX2_init 140 = .ok (.putfield 66, 3) := by decide +kernel
theorem dX2_init_143 : decode cX2_init 143 = .ok (.return_, 1) := by decide +kernel
theorem dX2_hasRoad_0 : decode cX2_hasRoad 0 = .ok (.iload_n 1, 1) := by decide +kernel
theorem dX2_hasRoad_1 : decode cX2_hasRoad 1 = .ok (.ifCond .lt 15, 3) := by decide +kernel
theorem dX2_hasRoad_4 : decode cX2_hasRoad 4 = .ok (.iload_n 1, 1) := by decide +kernel
theorem dX2_hasRoad_5 : decode cX2_hasRoad 5 = .ok (.aload_n 0, 1) := by decide +kernel
theorem dX2_hasRoad_6 : decode cX2_hasRoad 6 = .ok (.getfield 9, 3) := by decide +kernel
theorem dX2_hasRoad_9 : decode cX2_hasRoad 9 = .ok (.if_icmp .ge 7, 3) := by decide +kernel
theorem dX2_hasRoad_12 : decode cX2_hasRoad 12 = .ok (.iconst 1, 1) := by decide +kernel
theorem dX2_hasRoad_13 : decode cX2_hasRoad 13 = .ok (.goto 4, 3) := by decide +kernel
theorem dX2_hasRoad_16 : decode cX2_hasRoad 16 = .ok (.iconst 0, 1) := by decide +kernel
theorem dX2_hasRoad_17 : decode cX2_hasRoad 17 = .ok (.ireturn, 1) := by decide +kernel
theorem dX2_hasWorld_0 : decode cX2_hasWorld 0 = .ok (.iload_n 1, 1) := by decide +kernel
theorem dX2_hasWorld_1 : decode cX2_hasWorld 1 = .ok (.ifCond .lt 15, 3) := by decide +kernel
theorem dX2_hasWorld_4 : decode cX2_hasWorld 4 = .ok (.iload_n 1, 1) := by decide +kernel
theorem dX2_hasWorld_5 : decode cX2_hasWorld 5 = .ok (.aload_n 0, 1) := by decide +kernel
theorem dX2_hasWorld_6 : decode cX2_hasWorld 6 = .ok (.getfield 25, 3) := by decide +kernel
theorem dX2_hasWorld_9 : decode cX2_hasWorld 9 = .ok (.if_icmp .ge 7, 3) := by decide +kernel
theorem dX2_hasWorld_12 : decode cX2_hasWorld 12 = .ok (.iconst 1, 1) := by decide +kernel
theorem dX2_hasWorld_13 : decode cX2_hasWorld 13 = .ok (.goto 4, 3) := by decide +kernel
theorem dX2_hasWorld_16 : decode cX2_hasWorld 16 = .ok (.iconst 0, 1) := by decide +kernel
theorem dX2_hasWorld_17 : decode cX2_hasWorld 17 = .ok (.ireturn, 1) := by decide +kernel
theorem dX2_hasSort_0 : decode cX2_hasSort 0 = .ok (.iload_n 1, 1) := by decide +kernel
theorem dX2_hasSort_1 : decode cX2_hasSort 1 = .ok (.ifCond .lt 15, 3) := by decide +kernel
theorem dX2_hasSort_4 : decode cX2_hasSort 4 = .ok (.iload_n 1, 1) := by decide +kernel
theorem dX2_hasSort_5 : decode cX2_hasSort 5 = .ok (.aload_n 0, 1) := by decide +kernel
theorem dX2_hasSort_6 : decode cX2_hasSort 6 = .ok (.getfield 37, 3) := by decide +kernel
theorem dX2_hasSort_9 : decode cX2_hasSort 9 = .ok (.if_icmp .ge 7, 3) := by decide +kernel
theorem dX2_hasSort_12 : decode cX2_hasSort 12 = .ok (.iconst 1, 1) := by decide +kernel
theorem dX2_hasSort_13 : decode cX2_hasSort 13 = .ok (.goto 4, 3) := by decide +kernel
theorem dX2_hasSort_16 : decode cX2_hasSort 16 = .ok (.iconst 0, 1) := by decide +kernel
theorem dX2_hasSort_17 : decode cX2_hasSort 17 = .ok (.ireturn, 1) := by decide +kernel
theorem dX2_isReady_0 : decode cX2_isReady 0 = .ok (.aload_n 0, 1) := by decide +kernel
theorem dX2_isReady_1 : decode cX2_isReady 1 = .ok (.invokevirtual 69, 3) := by decide +kernel
theorem dX2_isReady_4 : decode cX2_isReady 4 = .ok (.bipush 100, 2) := by decide +kernel
theorem dX2_isReady_6 : decode cX2_isReady 6 = .ok (.if_icmp .ne 7, 3) := by decide +kernel
theorem dX2_isReady_9 : decode cX2_isReady 9 = .ok (.iconst 1, 1) := by decide +kernel
theorem dX2_isReady_10 : decode cX2_isReady 10 = .ok (.goto 4, 3) := by decide +kernel
theorem dX2_isReady_13 : decode cX2_isReady 13 = .ok (.iconst 0, 1) := by decide +kernel
theorem dX2_isReady_14 : decode cX2_isReady 14 = .ok (.ireturn, 1) := by decide +kernel
theorem dX2_chancesTogether_0 : decode cX2_chancesTogether 0 = .ok (.iconst 0, 1) := by decide +kernel
theorem dX2_chancesTogether_1 : decode cX2_chancesTogether 1 = .ok (.istore_n 1, 1) := by decide +kernel
theorem dX2_chancesTogether_2 : decode cX2_chancesTogether 2 = .ok (.iconst 0, 1) := by decide +kernel
theorem dX2_chancesTogether_3 : decode cX2_chancesTogether 3 = .ok (.istore_n 2, 1) := by decide +kernel
theorem dX2_chancesTogether_4 : decode cX2_chancesTogether 4 = .ok (.iload_n 2, 1) := by decide +kernel
theorem dX2_chancesTogether_5 : decode cX2_chancesTogether 5 = .ok (.aload_n 0, 1) := by decide +kernel
theorem dX2_chancesTogether_6 : decode cX2_chancesTogether 6 = .ok (.getfield 25, 3) := by decide +kernel
theorem dX2_chancesTogether_9 : decode cX2_chancesTogether 9 = .ok (.if_icmp .ge 18, 3) := by decide +kernel
theorem dX2_chancesTogether_12 : decode cX2_chancesTogether 12 = .ok (.iload_n 1, 1) := by decide +kernel
theorem dX2_chancesTogether_13 : decode cX2_chancesTogether 13 = .ok (.aload_n 0, 1) := by decide +kernel
theorem dX2_chancesTogether_14 : decode cX2_chancesTogether 14 = .ok (.getfield 28, 3) := by decide +kernel
theorem dX2_chancesTogether_17 : decode cX2_chancesTogether 17 = .ok (.iload_n 2, 1) := by decide +kernel
theorem dX2_chancesTogether_18 : decode cX2_chancesTogether 18 = .ok (.iaload, 1) := by decide +kernel
theorem dX2_chancesTogether_19 : decode cX2_chancesTogether 19 = .ok (.iadd, 1) := by decide +kernel
theorem dX2_chancesTogether_20 : decode cX2_chancesTogether 20 = .ok (.istore_n 1, 1) := by decide +kernel
theorem dX2_chancesTogether_21 : decode cX2_chancesTogether 21 = .ok (.iinc 2 1, 3) := by decide +kernel
theorem dX2_chancesTogether_24 : decode cX2_chancesTogether 24 = .ok (.goto (-20), 3) := by decide +kernel
theorem dX2_chancesTogether_27 : decode cX2_chancesTogether 27 = .ok (.iload_n 1, 1) := by decide +kernel
theorem dX2_chancesTogether_28 : decode cX2_chancesTogether 28 = .ok (.ireturn, 1) := by decide +kernel
theorem dX2_minutesTogether_0 : decode cX2_minutesTogether 0 = .ok (.iconst 0, 1) := by decide +kernel
theorem dX2_minutesTogether_1 : decode cX2_minutesTogether 1 = .ok (.istore_n 1, 1) := by decide +kernel
theorem dX2_minutesTogether_2 : decode cX2_minutesTogether 2 = .ok (.iconst 0, 1) := by decide +kernel
theorem dX2_minutesTogether_3 : decode cX2_minutesTogether 3 = .ok (.istore_n 2, 1) := by decide +kernel
theorem dX2_minutesTogether_4 : decode cX2_minutesTogether 4 = .ok (.iload_n 2, 1) := by decide +kernel
theorem dX2_minutesTogether_5 : decode cX2_minutesTogether 5 = .ok (.aload_n 0, 1) := by decide +kernel
theorem dX2_minutesTogether_6 : decode cX2_minutesTogether 6 = .ok (.getfield 9, 3) := by decide +kernel
theorem dX2_minutesTogether_9 : decode cX2_minutesTogether 9 = .ok (.if_icmp .ge 18, 3) := by decide +kernel
theorem dX2_minutesTogether_12 : decode cX2_minutesTogether 12 = .ok (.iload_n 1, 1) := by decide +kernel
theorem dX2_minutesTogether_13 : decode cX2_minutesTogether 13 = .ok (.aload_n 0, 1) := by decide +kernel
theorem dX2_minutesTogether_14 : decode cX2_minutesTogether 14 = .ok (.getfield 22, 3) := by decide +kernel
theorem dX2_minutesTogether_17 : decode cX2_minutesTogether 17 = .ok (.iload_n 2, 1) := by decide +kernel
theorem dX2_minutesTogether_18 : decode cX2_minutesTogether 18 = .ok (.iaload, 1) := by decide +kernel
theorem dX2_minutesTogether_19 : decode cX2_minutesTogether 19 = .ok (.iadd, 1) := by decide +kernel
theorem dX2_minutesTogether_20 : decode cX2_minutesTogether 20 = .ok (.istore_n 1, 1) := by decide +kernel
theorem dX2_minutesTogether_21 : decode cX2_minutesTogether 21 = .ok (.iinc 2 1, 3) := by decide +kernel
theorem dX2_minutesTogether_24 : decode cX2_minutesTogether 24 = .ok (.goto (-20), 3) := by decide +kernel
theorem dX2_minutesTogether_27 : decode cX2_minutesTogether 27 = .ok (.iload_n 1, 1) := by decide +kernel
theorem dX2_minutesTogether_28 : decode cX2_minutesTogether 28 = .ok (.ireturn, 1) := by decide +kernel
theorem dX2_becomeLike_0 : decode cX2_becomeLike 0 = .ok (.aload_n 0, 1) := by decide +kernel
theorem dX2_becomeLike_1 : decode cX2_becomeLike 1 = .ok (.aload_n 1, 1) := by decide +kernel
theorem dX2_becomeLike_2 : decode cX2_becomeLike 2 = .ok (.getfield 9, 3) := by decide +kernel
theorem dX2_becomeLike_5 : decode cX2_becomeLike 5 = .ok (.putfield 9, 3) := by decide +kernel
theorem dX2_becomeLike_8 : decode cX2_becomeLike 8 = .ok (.aload_n 1, 1) := by decide +kernel
theorem dX2_becomeLike_9 : decode cX2_becomeLike 9 = .ok (.getfield 15, 3) := by decide +kernel
theorem dX2_becomeLike_12 : decode cX2_becomeLike 12 = .ok (.iconst 0, 1) := by decide +kernel
theorem dX2_becomeLike_13 : decode cX2_becomeLike 13 = .ok (.aload_n 0, 1) := by decide +kernel
theorem dX2_becomeLike_14 : decode cX2_becomeLike 14 = .ok (.getfield 15, 3) := by decide +kernel
theorem dX2_becomeLike_17 : decode cX2_becomeLike 17 = .ok (.iconst 0, 1) := by decide +kernel
theorem dX2_becomeLike_18 : decode cX2_becomeLike 18 = .ok (.bipush 16, 2) := by decide +kernel
theorem dX2_becomeLike_20 : decode cX2_becomeLike 20 = .ok (.invokestatic 73, 3) := by decide +kernel
theorem dX2_becomeLike_23 : decode cX2_becomeLike 23 = .ok (.aload_n 1, 1) := by decide +kernel
theorem dX2_becomeLike_24 : decode cX2_becomeLike 24 = .ok (.getfield 19, 3) := by decide +kernel
theorem dX2_becomeLike_27 : decode cX2_becomeLike 27 = .ok (.iconst 0, 1) := by decide +kernel
theorem dX2_becomeLike_28 : decode cX2_becomeLike 28 = .ok (.aload_n 0, 1) := by decide +kernel
theorem dX2_becomeLike_29 : decode cX2_becomeLike 29 = .ok (.getfield 19, 3) := by decide +kernel
theorem dX2_becomeLike_32 : decode cX2_becomeLike 32 = .ok (.iconst 0, 1) := by decide +kernel
theorem dX2_becomeLike_33 : decode cX2_becomeLike 33 = .ok (.bipush 16, 2) := by decide +kernel
theorem dX2_becomeLike_35 : decode cX2_becomeLike 35 = .ok (.invokestatic 73, 3) := by decide +kernel
theorem dX2_becomeLike_38 : decode cX2_becomeLike 38 = .ok (.aload_n 1, 1) := by decide +kernel
theorem dX2_becomeLike_39 : decode cX2_becomeLike 39 = .ok (.getfield 22, 3) := by decide +kernel
theorem dX2_becomeLike_42 : decode cX2_becomeLike 42 = .ok (.iconst 0, 1) := by decide +kernel
theorem dX2_becomeLike_43 : decode cX2_becomeLike 43 = .ok (.aload_n 0, 1) := by decide +kernel
theorem dX2_becomeLike_44 : decode cX2_becomeLike 44 = .ok (.getfield 22, 3) := by decide +kernel
theorem dX2_becomeLike_47 : decode cX2_becomeLike 47 = .ok (.iconst 0, 1) := by decide +kernel
theorem dX2_becomeLike_48 : decode cX2_becomeLike 48 = .ok (.bipush 16, 2) := by decide +kernel
theorem dX2_becomeLike_50 : decode cX2_becomeLike 50 = .ok (.invokestatic 73, 3) := by decide +kernel
theorem dX2_becomeLike_53 : decode cX2_becomeLike 53 = .ok (.aload_n 0, 1) := by decide +kernel
theorem dX2_becomeLike_54 : decode cX2_becomeLike 54 = .ok (.aload_n 1, 1) := by decide +kernel
theorem dX2_becomeLike_55 : decode cX2_becomeLike 55 = .ok (.getfield 25, 3) := by decide +kernel
theorem dX2_becomeLike_58 : decode cX2_becomeLike 58 = .ok (.putfield 25, 3) := by decide +kernel
theorem dX2_becomeLike_61 : decode cX2_becomeLike 61 = .ok (.aload_n 1, 1) := by decide +kernel
theorem dX2_becomeLike_62 : decode cX2_becomeLike 62 = .ok (.getfield 28, 3) := by decide +kernel
theorem dX2_becomeLike_65 : decode cX2_becomeLike 65 = .ok (.iconst 0, 1) := by decide +kernel
theorem dX2_becomeLike_66 : decode cX2_becomeLike 66 = .ok (.aload_n 0, 1) := by decide +kernel
theorem dX2_becomeLike_67 : decode cX2_becomeLike 67 = .ok (.getfield 28, 3) := by decide +kernel
theorem dX2_becomeLike_70 : decode cX2_becomeLike 70 = .ok (.iconst 0, 1) := by decide +kernel
theorem dX2_becomeLike_71 : decode cX2_becomeLike 71 = .ok (.iconst 5, 1) := by decide +kernel
theorem dX2_becomeLike_72 : decode cX2_becomeLike 72 = .ok (.invokestatic 73, 3) := by decide +kernel
theorem dX2_becomeLike_75 : decode cX2_becomeLike 75 = .ok (.aload_n 1, 1) := by decide +kernel
theorem dX2_becomeLike_76 : decode cX2_becomeLike 76 = .ok (.getfield 31, 3) := by decide +kernel
theorem dX2_becomeLike_79 : decode cX2_becomeLike 79 = .ok (.iconst 0, 1) := by decide +kernel
theorem dX2_becomeLike_80 : decode cX2_becomeLike 80 = .ok (.aload_n 0, 1) := by decide +kernel
theorem dX2_becomeLike_81 : decode cX2_becomeLike 81 = .ok (.getfield 31, 3) := by decide +kernel
theorem dX2_becomeLike_84 : decode cX2_becomeLike 84 = .ok (.iconst 0, 1) := by decide +kernel
theorem dX2_becomeLike_85 : decode cX2_becomeLike 85 = .ok (.iconst 5, 1) := by decide +kernel
theorem dX2_becomeLike_86 : decode cX2_becomeLike 86 = .ok (.invokestatic 73, 3) := by decide +kernel
theorem dX2_becomeLike_89 : decode cX2_becomeLike 89 = .ok (.aload_n 1, 1) := by decide +kernel
theorem dX2_becomeLike_90 : decode cX2_becomeLike 90 = .ok (.getfield 34, 3) := by decide +kernel
theorem dX2_becomeLike_93 : decode cX2_becomeLike 93 = .ok (.iconst 0, 1) := by decide +kernel
theorem dX2_becomeLike_94 : decode cX2_becomeLike 94 = .ok (.aload_n 0, 1) := by decide +kernel
theorem dX2_becomeLike_95 : decode cX2_becomeLike 95 = .ok (.getfield 34, 3) := by decide +kernel
theorem dX2_becomeLike_98 : decode cX2_becomeLike 98 = .ok (.iconst 0, 1) := by decide +kernel
theorem dX2_becomeLike_99 : decode cX2_becomeLike 99 = .ok (.iconst 5, 1) := by decide +kernel
theorem dX2_becomeLike_100 : decode cX2_becomeLike 100 = .ok (.invokestatic 73, 3) := by decide +kernel
theorem dX2_becomeLike_103 : decode cX2_becomeLike 103 = .ok (.aload_n 0, 1) := by decide +kernel
theorem dX2_becomeLike_104 : decode cX2_becomeLike 104 = .ok (.aload_n 1, 1) := by decide +kernel
theorem dX2_becomeLike_105 : decode cX2_becomeLike 105 = .ok (.getfield 37, 3) := by decide +kernel
theorem dX2_becomeLike_108 : decode cX2_becomeLike 108 = .ok (.putfield 37, 3) := by decide +kernel
theorem dX2_becomeLike_111 : decode cX2_becomeLike 111 = .ok (.aload_n 1, 1) := by decide +kernel
theorem dX2_becomeLike_112 : decode cX2_becomeLike 112 = .ok (.getfield 40, 3) := by decide +kernel
theorem dX2_becomeLike_115 : decode cX2_becomeLike 115 = .ok (.iconst 0, 1) := by decide +kernel
theorem dX2_becomeLike_116 : decode cX2_becomeLike 116 = .ok (.aload_n 0, 1) := by decide +kernel
theorem dX2_becomeLike_117 : decode cX2_becomeLike 117 = .ok (.getfield 40, 3) := by decide +kernel
theorem dX2_becomeLike_120 : decode cX2_becomeLike 120 = .ok (.iconst 0, 1) := by decide +kernel
theorem dX2_becomeLike_121 : decode cX2_becomeLike 121 = .ok (.bipush 6, 2) := by decide +kernel
theorem dX2_becomeLike_123 : decode cX2_becomeLike 123 = .ok (.invokestatic 73, 3) := by decide +kernel
theorem dX2_becomeLike_126 : decode cX2_becomeLike 126 = .ok (.aload_n 1, 1) := by decide +kernel
theorem dX2_becomeLike_127 : decode cX2_becomeLike 127 = .ok (.getfield 43, 3) := by decide +kernel
theorem dX2_becomeLike_130 : decode cX2_becomeLike 130 = .ok (.iconst 0, 1) := by decide +kernel
theorem dX2_becomeLike_131 : decode cX2_becomeLike 131 = .ok (.aload_n 0, 1) := by decide +kernel
theorem dX2_becomeLike_132 : decode cX2_becomeLike 132 = .ok (.getfield 43, 3) := by decide +kernel
theorem dX2_becomeLike_135 : decode cX2_becomeLike 135 = .ok (.iconst 0, 1) := by decide +kernel
theorem dX2_becomeLike_136 : decode cX2_becomeLike 136 = .ok (.bipush 6, 2) := by decide +kernel
theorem dX2_becomeLike_138 : decode cX2_becomeLike 138 = .ok (.invokestatic 73, 3) := by decide +kernel
theorem dX2_becomeLike_141 : decode cX2_becomeLike 141 = .ok (.iconst 0, 1) := by decide +kernel
theorem dX2_becomeLike_142 : decode cX2_becomeLike 142 = .ok (.istore_n 2, 1) := by decide +kernel
theorem dX2_becomeLike_143 : decode cX2_becomeLike 143 = .ok (.iload_n 2, 1) := by decide +kernel
theorem dX2_becomeLike_144 : decode cX2_becomeLike 144 = .ok (.bipush 8, 2) := by decide +kernel
theorem dX2_becomeLike_146 : decode cX2_becomeLike 146 = .ok (.if_icmp .ge 28, 3) := by decide +kernel
theorem dX2_becomeLike_149 : decode cX2_becomeLike 149 = .ok (.aload_n 1, 1) := by decide +kernel
theorem dX2_becomeLike_150 : decode cX2_becomeLike 150 = .ok (.getfield 48, 3) := by decide +kernel
theorem dX2_becomeLike_153 : decode cX2_becomeLike 153 = .ok (.iload_n 2, 1) := by decide +kernel
theorem dX2_becomeLike_154 : decode cX2_becomeLike 154 = .ok (.aaload, 1) := by decide +kernel
theorem dX2_becomeLike_155 : decode cX2_becomeLike 155 = .ok (.iconst 0, 1) := by decide +kernel
theorem dX2_becomeLike_156 : decode cX2_becomeLike 156 = .ok (.aload_n 0, 1) := by decide +kernel
theorem dX2_becomeLike_157 : decode cX2_becomeLike 157 = .ok (.getfield 48, 3) := by decide +kernel
theorem dX2_becomeLike_160 : decode cX2_becomeLike 160 = .ok (.iload_n 2, 1) := by decide +kernel
theorem dX2_becomeLike_161 : decode cX2_becomeLike 161 = .ok (.aaload, 1) := by decide +kernel
theorem dX2_becomeLike_162 : decode cX2_becomeLike 162 = .ok (.iconst 0, 1) := by decide +kernel
theorem dX2_becomeLike_163 : decode cX2_becomeLike 163 = .ok (.bipush 6, 2) := by decide +kernel
theorem dX2_becomeLike_165 : decode cX2_becomeLike 165 = .ok (.invokestatic 73, 3) := by decide +kernel
theorem dX2_becomeLike_168 : decode cX2_becomeLike 168 = .ok (.iinc 2 1, 3) := by decide +kernel
theorem dX2_becomeLike_171 : decode cX2_becomeLike 171 = .ok (.goto (-28), 3) := by decide +kernel
theorem dX2_becomeLike_174 : decode cX2_becomeLike 174 = .ok (.aload_n 0, 1) := by decide +kernel
theorem dX2_becomeLike_175 : decode cX2_becomeLike 175 = .ok (.aload_n 1, 1) := by decide +kernel
theorem dX2_becomeLike_176 : decode cX2_becomeLike 176 = .ok (.getfield 51, 3) := by decide +kernel
theorem dX2_becomeLike_179 : decode cX2_becomeLike 179 = .ok (.putfield 51, 3) := by decide +kernel
theorem dX2_becomeLike_182 : decode cX2_becomeLike 182 = .ok (.aload_n 0, 1) := by decide +kernel
theorem dX2_becomeLike_183 : decode cX2_becomeLike 183 = .ok (.aload_n 1, 1) := by decide +kernel
theorem dX2_becomeLike_184 : decode cX2_becomeLike 184 = .ok (.getfield 54, 3) := by decide +kernel
theorem dX2_becomeLike_187 : decode cX2_becomeLike 187 = .ok (.putfield 54, 3) := by decide +kernel
theorem dX2_becomeLike_190 : decode cX2_becomeLike 190 = .ok (.return_, 1) := by decide +kernel
theorem dX2_addRoad_0 : decode cX2_addRoad 0 = .ok (.aload_n 0, 1) := by decide +kernel
theorem dX2_addRoad_1 : decode cX2_addRoad 1 = .ok (.getfield 9, 3) := by decide +kernel
theorem dX2_addRoad_4 : decode cX2_addRoad 4 = .ok (.bipush 16, 2) := by decide +kernel
theorem dX2_addRoad_6 : decode cX2_addRoad 6 = .ok (.if_icmp .ge 22, 3) := by decide +kernel
theorem dX2_addRoad_9 : decode cX2_addRoad 9 = .ok (.iload_n 1, 1) := by decide +kernel
theorem dX2_addRoad_10 : decode cX2_addRoad 10 = .ok (.invokestatic 79, 3) := by decide +kernel
theorem dX2_addRoad_13 : decode cX2_addRoad 13 = .ok (.ifCond .eq 15, 3) := by decide +kernel
theorem dX2_addRoad_16 : decode cX2_addRoad 16 = .ok (.iload_n 2, 1) := by decide +kernel
theorem dX2_addRoad_17 : decode cX2_addRoad 17 = .ok (.invokestatic 79, 3) := by decide +kernel
theorem dX2_addRoad_20 : decode cX2_addRoad 20 = .ok (.ifCond .eq 8, 3) := by decide +kernel
theorem dX2_addRoad_23 : decode cX2_addRoad 23 = .ok (.iload_n 1, 1) := by decide +kernel
theorem dX2_addRoad_24 : decode cX2_addRoad 24 = .ok (.iload_n 2, 1) := by decide +kernel
theorem dX2_addRoad_25 : decode cX2_addRoad 25 = .ok (.if_icmp .ne 5, 3) := by decide +kernel
theorem dX2_addRoad_28 : decode cX2_addRoad 28 = .ok (.iconst 0, 1) := by decide +kernel
theorem dX2_addRoad_29 : decode cX2_addRoad 29 = .ok (.ireturn, 1) := by decide +kernel
theorem dX2_addRoad_30 : decode cX2_addRoad 30 = .ok (.iload_n 3, 1) := by decide +kernel
theorem dX2_addRoad_31 : decode cX2_addRoad 31 = .ok (.iconst 1, 1) := by decide +kernel
theorem dX2_addRoad_32 : decode cX2_addRoad 32 = .ok (.if_icmp .lt 9, 3) := by decide +kernel
theorem dX2_addRoad_35 : decode cX2_addRoad 35 = .ok (.iload_n 3, 1) := by decide +kernel
theorem dX2_addRoad_36 : decode cX2_addRoad 36 = .ok (.bipush 60, 2) := by decide +kernel
theorem dX2_addRoad_38 : decode cX2_addRoad 38 = .ok (.if_icmp .le 5, 3) := by decide +kernel
theorem dX2_addRoad_41 : decode cX2_addRoad 41 = .ok (.iconst 0, 1) := by decide +kernel
theorem dX2_addRoad_42 : decode cX2_addRoad 42 = .ok (.ireturn, 1) := by decide +kernel
theorem dX2_addRoad_43 : decode cX2_addRoad 43 = .ok (.aload_n 0, 1) := by decide +kernel
theorem dX2_addRoad_44 : decode cX2_addRoad 44 = .ok (.getfield 15, 3) := by decide +kernel
theorem dX2_addRoad_47 : decode cX2_addRoad 47 = .ok (.aload_n 0, 1) := by decide +kernel
theorem dX2_addRoad_48 : decode cX2_addRoad 48 = .ok (.getfield 9, 3) := by decide +kernel
theorem dX2_addRoad_51 : decode cX2_addRoad 51 = .ok (.iload_n 1, 1) := by decide +kernel
theorem dX2_addRoad_52 : decode cX2_addRoad 52 = .ok (.iastore, 1) := by decide +kernel
theorem dX2_addRoad_53 : decode cX2_addRoad 53 = .ok (.aload_n 0, 1) := by decide +kernel
theorem dX2_addRoad_54 : decode cX2_addRoad 54 = .ok (.getfield 19, 3) := by decide +kernel
theorem dX2_addRoad_57 : decode cX2_addRoad 57 = .ok (.aload_n 0, 1) := by decide +kernel
theorem dX2_addRoad_58 : decode cX2_addRoad 58 = .ok (.getfield 9, 3) := by decide +kernel
theorem dX2_addRoad_61 : decode cX2_addRoad 61 = .ok (.iload_n 2, 1) := by decide +kernel
theorem dX2_addRoad_62 : decode cX2_addRoad 62 = .ok (.iastore, 1) := by decide +kernel
theorem dX2_addRoad_63 : decode cX2_addRoad 63 = .ok (.aload_n 0, 1) := by decide +kernel
theorem dX2_addRoad_64 : decode cX2_addRoad 64 = .ok (.getfield 22, 3) := by decide +kernel
theorem dX2_addRoad_67 : decode cX2_addRoad 67 = .ok (.aload_n 0, 1) := by decide +kernel
theorem dX2_addRoad_68 : decode cX2_addRoad 68 = .ok (.getfield 9, 3) := by decide +kernel
theorem dX2_addRoad_71 : decode cX2_addRoad 71 = .ok (.iload_n 3, 1) := by decide +kernel
theorem dX2_addRoad_72 : decode cX2_addRoad 72 = .ok (.iastore, 1) := by decide +kernel
theorem dX2_addRoad_73 : decode cX2_addRoad 73 = .ok (.aload_n 0, 1) := by decide +kernel
theorem dX2_addRoad_74 : decode cX2_addRoad 74 = .ok (.dup, 1) := by decide +kernel
theorem dX2_addRoad_75 : decode cX2_addRoad 75 = .ok (.getfield 9, 3) := by decide +kernel
theorem dX2_addRoad_78 : decode cX2_addRoad 78 = .ok (.iconst 1, 1) := by decide +kernel
theorem dX2_addRoad_79 : decode cX2_addRoad 79 = .ok (.iadd, 1) := by decide +kernel
theorem dX2_addRoad_80 : decode cX2_addRoad 80 = .ok (.putfield 9, 3) := by decide +kernel
theorem dX2_addRoad_83 : decode cX2_addRoad 83 = .ok (.iconst 1, 1) := by decide +kernel
theorem dX2_addRoad_84 : decode cX2_addRoad 84 = .ok (.ireturn, 1) := by decide +kernel
theorem dX2_addWorld_0 : decode cX2_addWorld 0 = .ok (.aload_n 0, 1) := by decide +kernel
theorem dX2_addWorld_1 : decode cX2_addWorld 1 = .ok (.getfield 25, 3) := by decide +kernel
theorem dX2_addWorld_4 : decode cX2_addWorld 4 = .ok (.iconst 5, 1) := by decide +kernel
theorem dX2_addWorld_5 : decode cX2_addWorld 5 = .ok (.if_icmp .ge 20, 3) := by decide +kernel
theorem dX2_addWorld_8 : decode cX2_addWorld 8 = .ok (.iload_n 2, 1) := by decide +kernel
theorem dX2_addWorld_9 : decode cX2_addWorld 9 = .ok (.invokestatic 79, 3) := by decide +kernel
theorem dX2_addWorld_12 : decode cX2_addWorld 12 = .ok (.ifCond .eq 13, 3) := by decide +kernel
theorem dX2_addWorld_15 : decode cX2_addWorld 15 = .ok (.iload_n 3, 1) := by decide +kernel
theorem dX2_addWorld_16 : decode cX2_addWorld 16 = .ok (.ifCond .lt 9, 3) := by decide +kernel
theorem dX2_addWorld_19 : decode cX2_addWorld 19 = .ok (.iload_n 3, 1) := by decide +kernel
theorem dX2_addWorld_20 : decode cX2_addWorld 20 = .ok (.ldc 83, 2) := by decide +kernel
theorem dX2_addWorld_22 : decode cX2_addWorld 22 = .ok (.if_icmp .le 5, 3) := by decide +kernel
theorem dX2_addWorld_25 : decode cX2_addWorld 25 = .ok (.iconst 0, 1) := by decide +kernel
theorem dX2_addWorld_26 : decode cX2_addWorld 26 = .ok (.ireturn, 1) := by decide +kernel
theorem dX2_addWorld_27 : decode cX2_addWorld 27 = .ok (.iload_n 1, 1) := by decide +kernel
theorem dX2_addWorld_28 : decode cX2_addWorld 28 = .ok (.iconst 1, 1) := by decide +kernel
theorem dX2_addWorld_29 : decode cX2_addWorld 29 = .ok (.if_icmp .lt 14, 3) := by decide +kernel
theorem dX2_addWorld_32 : decode cX2_addWorld 32 = .ok (.iload_n 1, 1) := by decide +kernel
theorem dX2_addWorld_33 : decode cX2_addWorld 33 = .ok (.bipush 100, 2) := by decide +kernel
theorem dX2_addWorld_35 : decode cX2_addWorld 35 = .ok (.aload_n 0, 1) := by decide +kernel
theorem dX2_addWorld_36 : decode cX2_addWorld 36 = .ok (.invokevirtual 69, 3) := by decide +kernel
theorem dX2_addWorld_39 : decode cX2_addWorld 39 = .ok (.isub, 1) := by decide +kernel
theorem dX2_addWorld_40 : decode cX2_addWorld 40 = .ok (.if_icmp .le 5, 3) := by decide +kernel
theorem dX2_addWorld_43 : decode cX2_addWorld 43 = .ok (.iconst 0, 1) := by decide +kernel
theorem dX2_addWorld_44 : decode cX2_addWorld 44 = .ok (.ireturn, 1) := by decide +kernel
theorem dX2_addWorld_45 : decode cX2_addWorld 45 = .ok (.aload_n 0, 1) := by decide +kernel
theorem dX2_addWorld_46 : decode cX2_addWorld 46 = .ok (.getfield 28, 3) := by decide +kernel
theorem dX2_addWorld_49 : decode cX2_addWorld 49 = .ok (.aload_n 0, 1) := by decide +kernel
theorem dX2_addWorld_50 : decode cX2_addWorld 50 = .ok (.getfield 25, 3) := by decide +kernel
theorem dX2_addWorld_53 : decode cX2_addWorld 53 = .ok (.iload_n 1, 1) := by decide +kernel
theorem dX2_addWorld_54 : decode cX2_addWorld 54 = .ok (.iastore, 1) := by decide +kernel
theorem dX2_addWorld_55 : decode cX2_addWorld 55 = .ok (.aload_n 0, 1) := by decide +kernel
theorem dX2_addWorld_56 : decode cX2_addWorld 56 = .ok (.getfield 31, 3) := by decide +kernel
theorem dX2_addWorld_59 : decode cX2_addWorld 59 = .ok (.aload_n 0, 1) := by decide +kernel
theorem dX2_addWorld_60 : decode cX2_addWorld 60 = .ok (.getfield 25, 3) := by decide +kernel
theorem dX2_addWorld_63 : decode cX2_addWorld 63 = .ok (.iload_n 2, 1) := by decide +kernel
theorem dX2_addWorld_64 : decode cX2_addWorld 64 = .ok (.iastore, 1) := by decide +kernel
theorem dX2_addWorld_65 : decode cX2_addWorld 65 = .ok (.aload_n 0, 1) := by decide +kernel
theorem dX2_addWorld_66 : decode cX2_addWorld 66 = .ok (.getfield 34, 3) := by decide +kernel
theorem dX2_addWorld_69 : decode cX2_addWorld 69 = .ok (.aload_n 0, 1) := by decide +kernel
theorem dX2_addWorld_70 : decode cX2_addWorld 70 = .ok (.getfield 25, 3) := by decide +kernel
theorem dX2_addWorld_73 : decode cX2_addWorld 73 = .ok (.iload_n 3, 1) := by decide +kernel
theorem dX2_addWorld_74 : decode cX2_addWorld 74 = .ok (.iastore, 1) := by decide +kernel
theorem dX2_addWorld_75 : decode cX2_addWorld 75 = .ok (.aload_n 0, 1) := by decide +kernel
theorem dX2_addWorld_76 : decode cX2_addWorld 76 = .ok (.dup, 1) := by decide +kernel
theorem dX2_addWorld_77 : decode cX2_addWorld 77 = .ok (.getfield 25, 3) := by decide +kernel
theorem dX2_addWorld_80 : decode cX2_addWorld 80 = .ok (.iconst 1, 1) := by decide +kernel
theorem dX2_addWorld_81 : decode cX2_addWorld 81 = .ok (.iadd, 1) := by decide +kernel
theorem dX2_addWorld_82 : decode cX2_addWorld 82 = .ok (.putfield 25, 3) := by decide +kernel
theorem dX2_addWorld_85 : decode cX2_addWorld 85 = .ok (.iconst 1, 1) := by decide +kernel
theorem dX2_addWorld_86 : decode cX2_addWorld 86 = .ok (.ireturn, 1) := by decide +kernel
theorem dX2_addSort_0 : decode cX2_addSort 0 = .ok (.aload_n 0, 1) := by decide +kernel
theorem dX2_addSort_1 : decode cX2_addSort 1 = .ok (.getfield 37, 3) := by decide +kernel
theorem dX2_addSort_4 : decode cX2_addSort 4 = .ok (.bipush 6, 2) := by decide +kernel
theorem dX2_addSort_6 : decode cX2_addSort 6 = .ok (.if_icmp .ge 19, 3) := by decide +kernel
theorem dX2_addSort_9 : decode cX2_addSort 9 = .ok (.iload_n 1, 1) := by decide +kernel
theorem dX2_addSort_10 : decode cX2_addSort 10 = .ok (.ifCond .lt 15, 3) := by decide +kernel
theorem dX2_addSort_13 : decode cX2_addSort 13 = .ok (.iload_n 1, 1) := by decide +kernel
theorem dX2_addSort_14 : decode cX2_addSort 14 = .ok (.iconst 5, 1) := by decide +kernel
theorem dX2_addSort_15 : decode cX2_addSort 15 = .ok (.if_icmp .ge 10, 3) := by decide +kernel
theorem dX2_addSort_18 : decode cX2_addSort 18 = .ok (.iload_n 2, 1) := by decide +kernel
theorem dX2_addSort_19 : decode cX2_addSort 19 = .ok (.invokestatic 84, 3) := by decide +kernel
theorem dX2_addSort_22 : decode cX2_addSort 22 = .ok (.ifCond .ne 5, 3) := by decide +kernel
theorem dX2_addSort_25 : decode cX2_addSort 25 = .ok (.iconst 0, 1) := by decide +kernel
theorem dX2_addSort_26 : decode cX2_addSort 26 = .ok (.ireturn, 1) := by decide +kernel
theorem dX2_addSort_27 : decode cX2_addSort 27 = .ok (.aload_n 0, 1) := by decide +kernel
theorem dX2_addSort_28 : decode cX2_addSort 28 = .ok (.getfield 40, 3) := by decide +kernel
theorem dX2_addSort_31 : decode cX2_addSort 31 = .ok (.aload_n 0, 1) := by decide +kernel
theorem dX2_addSort_32 : decode cX2_addSort 32 = .ok (.getfield 37, 3) := by decide +kernel
theorem dX2_addSort_35 : decode cX2_addSort 35 = .ok (.iload_n 1, 1) := by decide +kernel
theorem dX2_addSort_36 : decode cX2_addSort 36 = .ok (.iastore, 1) := by decide +kernel
theorem dX2_addSort_37 : decode cX2_addSort 37 = .ok (.aload_n 0, 1) := by decide +kernel
theorem dX2_addSort_38 : decode cX2_addSort 38 = .ok (.getfield 43, 3) := by decide +kernel
theorem dX2_addSort_41 : decode cX2_addSort 41 = .ok (.aload_n 0, 1) := by decide +kernel
theorem dX2_addSort_42 : decode cX2_addSort 42 = .ok (.getfield 37, 3) := by decide +kernel
theorem dX2_addSort_45 : decode cX2_addSort 45 = .ok (.iload_n 2, 1) := by decide +kernel
theorem dX2_addSort_46 : decode cX2_addSort 46 = .ok (.iastore, 1) := by decide +kernel
theorem dX2_addSort_47 : decode cX2_addSort 47 = .ok (.aload_n 0, 1) := by decide +kernel
theorem dX2_addSort_48 : decode cX2_addSort 48 = .ok (.dup, 1) := by decide +kernel
theorem dX2_addSort_49 : decode cX2_addSort 49 = .ok (.getfield 37, 3) := by decide +kernel
theorem dX2_addSort_52 : decode cX2_addSort 52 = .ok (.iconst 1, 1) := by decide +kernel
theorem dX2_addSort_53 : decode cX2_addSort 53 = .ok (.iadd, 1) := by decide +kernel
theorem dX2_addSort_54 : decode cX2_addSort 54 = .ok (.putfield 37, 3) := by decide +kernel
theorem dX2_addSort_57 : decode cX2_addSort 57 = .ok (.iconst 1, 1) := by decide +kernel
theorem dX2_addSort_58 : decode cX2_addSort 58 = .ok (.ireturn, 1) := by decide +kernel
theorem dX2_meet_0 : decode cX2_meet 0 = .ok (.iload_n 1, 1) := by decide +kernel
theorem dX2_meet_1 : decode cX2_meet 1 = .ok (.invokestatic 79, 3) := by decide +kernel
theorem dX2_meet_4 : decode cX2_meet 4 = .ok (.ifCond .eq 15, 3) := by decide +kernel
theorem dX2_meet_7 : decode cX2_meet 7 = .ok (.aload_n 0, 1) := by decide +kernel
theorem dX2_meet_8 : decode cX2_meet 8 = .ok (.iload_n 2, 1) := by decide +kernel
theorem dX2_meet_9 : decode cX2_meet 9 = .ok (.invokevirtual 87, 3) := by decide +kernel
theorem dX2_meet_12 : decode cX2_meet 12 = .ok (.ifCond .eq 7, 3) := by decide +kernel
theorem dX2_meet_15 : decode cX2_meet 15 = .ok (.iload_n 3, 1) := by decide +kernel
theorem dX2_meet_16 : decode cX2_meet 16 = .ok (.ifCond .ge 5, 3) := by decide +kernel
theorem dX2_meet_19 : decode cX2_meet 19 = .ok (.iconst 0, 1) := by decide +kernel
theorem dX2_meet_20 : decode cX2_meet 20 = .ok (.ireturn, 1) := by decide +kernel
theorem dX2_meet_21 : decode cX2_meet 21 = .ok (.iload_n 3, 1) := by decide +kernel
theorem dX2_meet_22 : decode cX2_meet 22 = .ok (.bipush 100, 2) := by decide +kernel
theorem dX2_meet_24 : decode cX2_meet 24 = .ok (.aload_n 0, 1) := by decide +kernel
theorem dX2_meet_25 : decode cX2_meet 25 = .ok (.iload_n 1, 1) := by decide +kernel
theorem dX2_meet_26 : decode cX2_meet 26 = .ok (.invokevirtual 90, 3) := by decide +kernel
theorem dX2_meet_29 : decode cX2_meet 29 = .ok (.isub, 1) := by decide +kernel
theorem dX2_meet_30 : decode cX2_meet 30 = .ok (.aload_n 0, 1) := by decide +kernel
theorem dX2_meet_31 : decode cX2_meet 31 = .ok (.getfield 48, 3) := by decide +kernel
theorem dX2_meet_34 : decode cX2_meet 34 = .ok (.iload_n 1, 1) := by decide +kernel
theorem dX2_meet_35 : decode cX2_meet 35 = .ok (.aaload, 1) := by decide +kernel
theorem dX2_meet_36 : decode cX2_meet 36 = .ok (.iload_n 2, 1) := by decide +kernel
theorem dX2_meet_37 : decode cX2_meet 37 = .ok (.iaload, 1) := by decide +kernel
theorem dX2_meet_38 : decode cX2_meet 38 = .ok (.iadd, 1) := by decide +kernel
theorem dX2_meet_39 : decode cX2_meet 39 = .ok (.if_icmp .le 5, 3) := by decide +kernel
theorem dX2_meet_42 : decode cX2_meet 42 = .ok (.iconst 0, 1) := by decide +kernel
theorem dX2_meet_43 : decode cX2_meet 43 = .ok (.ireturn, 1) := by decide +kernel
theorem dX2_meet_44 : decode cX2_meet 44 = .ok (.aload_n 0, 1) := by decide +kernel
theorem dX2_meet_45 : decode cX2_meet 45 = .ok (.getfield 48, 3) := by decide +kernel
theorem dX2_meet_48 : decode cX2_meet 48 = .ok (.iload_n 1, 1) := by decide +kernel
theorem dX2_meet_49 : decode cX2_meet 49 = .ok (.aaload, 1) := by decide +kernel
theorem dX2_meet_50 : decode cX2_meet 50 = .ok (.iload_n 2, 1) := by decide +kernel
theorem dX2_meet_51 : decode cX2_meet 51 = .ok (.iload_n 3, 1) := by decide +kernel
theorem dX2_meet_52 : decode cX2_meet 52 = .ok (.iastore, 1) := by decide +kernel
theorem dX2_meet_53 : decode cX2_meet 53 = .ok (.iconst 1, 1) := by decide +kernel
theorem dX2_meet_54 : decode cX2_meet 54 = .ok (.ireturn, 1) := by decide +kernel
theorem dX2_metTogether_0 : decode cX2_metTogether 0 = .ok (.iconst 0, 1) := by decide +kernel
theorem dX2_metTogether_1 : decode cX2_metTogether 1 = .ok (.istore_n 2, 1) := by decide +kernel
theorem dX2_metTogether_2 : decode cX2_metTogether 2 = .ok (.iconst 0, 1) := by decide +kernel
theorem dX2_metTogether_3 : decode cX2_metTogether 3 = .ok (.istore_n 3, 1) := by decide +kernel
theorem dX2_metTogether_4 : decode cX2_metTogether 4 = .ok (.iload_n 3, 1) := by decide +kernel
theorem dX2_metTogether_5 : decode cX2_metTogether 5 = .ok (.aload_n 0, 1) := by decide +kernel
theorem dX2_metTogether_6 : decode cX2_metTogether 6 = .ok (.getfield 37, 3) := by decide +kernel
theorem dX2_metTogether_9 : decode cX2_metTogether 9 = .ok (.if_icmp .ge 20, 3) := by decide +kernel
theorem dX2_metTogether_12 : decode cX2_metTogether 12 = .ok (.iload_n 2, 1) := by decide +kernel
theorem dX2_metTogether_13 : decode cX2_metTogether 13 = .ok (.aload_n 0, 1) := by decide +kernel
theorem dX2_metTogether_14 : decode cX2_metTogether 14 = .ok (.getfield 48, 3) := by decide +kernel
theorem dX2_metTogether_17 : decode cX2_metTogether 17 = .ok (.iload_n 1, 1) := by decide +kernel
theorem dX2_metTogether_18 : decode cX2_metTogether 18 = .ok (.aaload, 1) := by decide +kernel
theorem dX2_metTogether_19 : decode cX2_metTogether 19 = .ok (.iload_n 3, 1) := by decide +kernel
theorem dX2_metTogether_20 : decode cX2_metTogether 20 = .ok (.iaload, 1) := by decide +kernel
theorem dX2_metTogether_21 : decode cX2_metTogether 21 = .ok (.iadd, 1) := by decide +kernel
theorem dX2_metTogether_22 : decode cX2_metTogether 22 = .ok (.istore_n 2, 1) := by decide +kernel
theorem dX2_metTogether_23 : decode cX2_metTogether 23 = .ok (.iinc 3 1, 3) := by decide +kernel
theorem dX2_metTogether_26 : decode cX2_metTogether 26 = .ok (.goto (-22), 3) := by decide +kernel
theorem dX2_metTogether_29 : decode cX2_metTogether 29 = .ok (.iload_n 2, 1) := by decide +kernel
theorem dX2_metTogether_30 : decode cX2_metTogether 30 = .ok (.ireturn, 1) := by decide +kernel
theorem dX2_beginAt_0 : decode cX2_beginAt 0 = .ok (.iload_n 1, 1) := by decide +kernel
theorem dX2_beginAt_1 : decode cX2_beginAt 1 = .ok (.invokestatic 79, 3) := by decide +kernel
theorem dX2_beginAt_4 : decode cX2_beginAt 4 = .ok (.ifCond .ne 5, 3) := by decide +kernel
theorem dX2_beginAt_7 : decode cX2_beginAt 7 = .ok (.iconst 0, 1) := by decide +kernel
theorem dX2_beginAt_8 : decode cX2_beginAt 8 = .ok (.ireturn, 1) := by decide +kernel
theorem dX2_beginAt_9 : decode cX2_beginAt 9 = .ok (.aload_n 0, 1) := by decide +kernel
theorem dX2_beginAt_10 : decode cX2_beginAt 10 = .ok (.iload_n 1, 1) := by decide +kernel
theorem dX2_beginAt_11 : decode cX2_beginAt 11 = .ok (.putfield 51, 3) := by decide +kernel
theorem dX2_beginAt_14 : decode cX2_beginAt 14 = .ok (.iconst 1, 1) := by decide +kernel
theorem dX2_beginAt_15 : decode cX2_beginAt 15 = .ok (.ireturn, 1) := by decide +kernel
theorem dX2_askFor_0 : decode cX2_askFor 0 = .ok (.iload_n 1, 1) := by decide +kernel
theorem dX2_askFor_1 : decode cX2_askFor 1 = .ok (.ifCond .lt 9, 3) := by decide +kernel
theorem dX2_askFor_4 : decode cX2_askFor 4 = .ok (.iload_n 1, 1) := by decide +kernel
theorem dX2_askFor_5 : decode cX2_askFor 5 = .ok (.bipush 30, 2) := by decide +kernel
theorem dX2_askFor_7 : decode cX2_askFor 7 = .ok (.if_icmp .le 5, 3) := by decide +kernel
theorem dX2_askFor_10 : decode cX2_askFor 10 = .ok (.iconst 0, 1) := by decide +kernel
theorem dX2_askFor_11 : decode cX2_askFor 11 = .ok (.ireturn, 1) := by decide +kernel
theorem dX2_askFor_12 : decode cX2_askFor 12 = .ok (.aload_n 0, 1) := by decide +kernel
theorem dX2_askFor_13 : decode cX2_askFor 13 = .ok (.iload_n 1, 1) := by decide +kernel
theorem dX2_askFor_14 : decode cX2_askFor 14 = .ok (.putfield 54, 3) := by decide +kernel
theorem dX2_askFor_17 : decode cX2_askFor 17 = .ok (.iconst 1, 1) := by decide +kernel
theorem dX2_askFor_18 : decode cX2_askFor 18 = .ok (.ireturn, 1) := by decide +kernel
theorem dX2_isShut_0 : decode cX2_isShut 0 = .ok (.aload_n 0, 1) := by decide +kernel
theorem dX2_isShut_1 : decode cX2_isShut 1 = .ok (.getfield 34, 3) := by decide +kernel
theorem dX2_isShut_4 : decode cX2_isShut 4 = .ok (.iload_n 1, 1) := by decide +kernel
theorem dX2_isShut_5 : decode cX2_isShut 5 = .ok (.iaload, 1) := by decide +kernel
theorem dX2_isShut_6 : decode cX2_isShut 6 = .ok (.iload_n 2, 1) := by decide +kernel
theorem dX2_isShut_7 : decode cX2_isShut 7 = .ok (.ishr, 1) := by decide +kernel
theorem dX2_isShut_8 : decode cX2_isShut 8 = .ok (.iconst 1, 1) := by decide +kernel
theorem dX2_isShut_9 : decode cX2_isShut 9 = .ok (.iand, 1) := by decide +kernel
theorem dX2_isShut_10 : decode cX2_isShut 10 = .ok (.ifCond .eq 7, 3) := by decide +kernel
theorem dX2_isShut_13 : decode cX2_isShut 13 = .ok (.iconst 1, 1) := by decide +kernel
theorem dX2_isShut_14 : decode cX2_isShut 14 = .ok (.goto 4, 3) := by decide +kernel
theorem dX2_isShut_17 : decode cX2_isShut 17 = .ok (.iconst 0, 1) := by decide +kernel
theorem dX2_isShut_18 : decode cX2_isShut 18 = .ok (.ireturn, 1) := by decide +kernel
theorem dX2_otherEnd_0 : decode cX2_otherEnd 0 = .ok (.aload_n 0, 1) := by decide +kernel
theorem dX2_otherEnd_1 : decode cX2_otherEnd 1 = .ok (.getfield 15, 3) := by decide +kernel
theorem dX2_otherEnd_4 : decode cX2_otherEnd 4 = .ok (.iload_n 1, 1) := by decide +kernel
theorem dX2_otherEnd_5 : decode cX2_otherEnd 5 = .ok (.iaload, 1) := by decide +kernel
theorem dX2_otherEnd_6 : decode cX2_otherEnd 6 = .ok (.iload_n 2, 1) := by decide +kernel
theorem dX2_otherEnd_7 : decode cX2_otherEnd 7 = .ok (.if_icmp .ne 12, 3) := by decide +kernel
theorem dX2_otherEnd_10 : decode cX2_otherEnd 10 = .ok (.aload_n 0, 1) := by decide +kernel
theorem dX2_otherEnd_11 : decode cX2_otherEnd 11 = .ok (.getfield 19, 3) := by decide +kernel
theorem dX2_otherEnd_14 : decode cX2_otherEnd 14 = .ok (.iload_n 1, 1) := by decide +kernel
theorem dX2_otherEnd_15 : decode cX2_otherEnd 15 = .ok (.iaload, 1) := by decide +kernel
theorem dX2_otherEnd_16 : decode cX2_otherEnd 16 = .ok (.goto 9, 3) := by decide +kernel
theorem dX2_otherEnd_19 : decode cX2_otherEnd 19 = .ok (.aload_n 0, 1) := by decide +kernel
theorem dX2_otherEnd_20 : decode cX2_otherEnd 20 = .ok (.getfield 15, 3) := by decide +kernel
theorem dX2_otherEnd_23 : decode cX2_otherEnd 23 = .ok (.iload_n 1, 1) := by decide +kernel
theorem dX2_otherEnd_24 : decode cX2_otherEnd 24 = .ok (.iaload, 1) := by decide +kernel
theorem dX2_otherEnd_25 : decode cX2_otherEnd 25 = .ok (.ireturn, 1) := by decide +kernel
theorem dX2_saidBy_0 : decode cX2_saidBy 0 = .ok (.aload_n 0, 1) := by decide +kernel
theorem dX2_saidBy_1 : decode cX2_saidBy 1 = .ok (.getfield 25, 3) := by decide +kernel
theorem dX2_saidBy_4 : decode cX2_saidBy 4 = .ok (.iconst 1, 1) := by decide +kernel
theorem dX2_saidBy_5 : decode cX2_saidBy 5 = .ok (.isub, 1) := by decide +kernel
theorem dX2_saidBy_6 : decode cX2_saidBy 6 = .ok (.istore 4, 2) := by decide +kernel
theorem dX2_saidBy_8 : decode cX2_saidBy 8 = .ok (.aload_n 0, 1) := by decide +kernel
theorem dX2_saidBy_9 : decode cX2_saidBy 9 = .ok (.getfield 40, 3) := by decide +kernel
theorem dX2_saidBy_12 : decode cX2_saidBy 12 = .ok (.iload_n 1, 1) := by decide +kernel
theorem dX2_saidBy_13 : decode cX2_saidBy 13 = .ok (.iaload, 1) := by decide +kernel
theorem dX2_saidBy_14 : decode cX2_saidBy 14 = .ok (.tableswitch 87 1 4 #[30, 53, 60, 74], 30) := by decide +kernel
theorem dX2_saidBy_44 : decode cX2_saidBy 44 = .ok (.aload_n 0, 1) := by decide +kernel
theorem dX2_saidBy_45 : decode cX2_saidBy 45 = .ok (.getfield 43, 3) := by decide +kernel
theorem dX2_saidBy_48 : decode cX2_saidBy 48 = .ok (.iload_n 1, 1) := by decide +kernel
theorem dX2_saidBy_49 : decode cX2_saidBy 49 = .ok (.iaload, 1) := by decide +kernel
theorem dX2_saidBy_50 : decode cX2_saidBy 50 = .ok (.iload 4, 2) := by decide +kernel
theorem dX2_saidBy_52 : decode cX2_saidBy 52 = .ok (.if_icmp .ge 12, 3) := by decide +kernel
theorem dX2_saidBy_55 : decode cX2_saidBy 55 = .ok (.aload_n 0, 1) := by decide +kernel
theorem dX2_saidBy_56 : decode cX2_saidBy 56 = .ok (.getfield 43, 3) := by decide +kernel
theorem dX2_saidBy_59 : decode cX2_saidBy 59 = .ok (.iload_n 1, 1) := by decide +kernel
theorem dX2_saidBy_60 : decode cX2_saidBy 60 = .ok (.iaload, 1) := by decide +kernel
theorem dX2_saidBy_61 : decode cX2_saidBy 61 = .ok (.goto 5, 3) := by decide +kernel
theorem dX2_saidBy_64 : decode cX2_saidBy 64 = .ok (.iload 4, 2) := by decide +kernel
theorem dX2_saidBy_66 : decode cX2_saidBy 66 = .ok (.ireturn, 1) := by decide +kernel
theorem dX2_saidBy_67 : decode cX2_saidBy 67 = .ok (.aload_n 0, 1) := by decide +kernel
theorem dX2_saidBy_68 : decode cX2_saidBy 68 = .ok (.getfield 63, 3) := by decide +kernel
theorem dX2_saidBy_71 : decode cX2_saidBy 71 = .ok (.iload_n 2, 1) := by decide +kernel
theorem dX2_saidBy_72 : decode cX2_saidBy 72 = .ok (.iaload, 1) := by decide +kernel
theorem dX2_saidBy_73 : decode cX2_saidBy 73 = .ok (.ireturn, 1) := by decide +kernel
theorem dX2_saidBy_74 : decode cX2_saidBy 74 = .ok (.iload_n 3, 1) := by decide +kernel
theorem dX2_saidBy_75 : decode cX2_saidBy 75 = .ok (.iload 4, 2) := by decide +kernel
theorem dX2_saidBy_77 : decode cX2_saidBy 77 = .ok (.if_icmp .ne 7, 3) := by decide +kernel
theorem dX2_saidBy_80 : decode cX2_saidBy 80 = .ok (.iconst 0, 1) := by decide +kernel
theorem dX2_saidBy_81 : decode cX2_saidBy 81 = .ok (.goto 6, 3) := by decide +kernel
theorem dX2_saidBy_84 : decode cX2_saidBy 84 = .ok (.iload_n 3, 1) := by decide +kernel
theorem dX2_saidBy_85 : decode cX2_saidBy 85 = .ok (.iconst 1, 1) := by decide +kernel
theorem dX2_saidBy_86 : decode cX2_saidBy 86 = .ok (.iadd, 1) := by decide +kernel
theorem dX2_saidBy_87 : decode cX2_saidBy 87 = .ok (.ireturn, 1) := by decide +kernel
theorem dX2_saidBy_88 : decode cX2_saidBy 88 = .ok (.iload_n 3, 1) := by decide +kernel
theorem dX2_saidBy_89 : decode cX2_saidBy 89 = .ok (.ifCond .ne 8, 3) := by decide +kernel
theorem dX2_saidBy_92 : decode cX2_saidBy 92 = .ok (.iload 4, 2) := by decide +kernel
theorem dX2_saidBy_94 : decode cX2_saidBy 94 = .ok (.goto 6, 3) := by decide +kernel
theorem dX2_saidBy_97 : decode cX2_saidBy 97 = .ok (.iload_n 3, 1) := by decide +kernel
theorem dX2_saidBy_98 : decode cX2_saidBy 98 = .ok (.iconst 1, 1) := by decide +kernel
theorem dX2_saidBy_99 : decode cX2_saidBy 99 = .ok (.isub, 1) := by decide +kernel
theorem dX2_saidBy_100 : decode cX2_saidBy 100 = .ok (.ireturn, 1) := by decide +kernel
theorem dX2_saidBy_101 : decode cX2_saidBy 101 = .ok (.iload_n 3, 1) := by decide +kernel
theorem dX2_saidBy_102 : decode cX2_saidBy 102 = .ok (.ireturn, 1) := by decide +kernel
theorem dX2_metWith_0 : decode cX2_metWith 0 = .ok (.iconst 0, 1) := by decide +kernel
theorem dX2_metWith_1 : decode cX2_metWith 1 = .ok (.istore_n 3, 1) := by decide +kernel
theorem dX2_metWith_2 : decode cX2_metWith 2 = .ok (.iconst 0, 1) := by decide +kernel
theorem dX2_metWith_3 : decode cX2_metWith 3 = .ok (.istore 4, 2) := by decide +kernel
theorem dX2_metWith_5 : decode cX2_metWith 5 = .ok (.iload 4, 2) := by decide +kernel
theorem dX2_metWith_7 : decode cX2_metWith 7 = .ok (.aload_n 0, 1) := by decide +kernel
theorem dX2_metWith_8 : decode cX2_metWith 8 = .ok (.getfield 37, 3) := by decide +kernel
theorem dX2_metWith_11 : decode cX2_metWith 11 = .ok (.if_icmp .ge 29, 3) := by decide +kernel
theorem dX2_metWith_14 : decode cX2_metWith 14 = .ok (.iload_n 3, 1) := by decide +kernel
theorem dX2_metWith_15 : decode cX2_metWith 15 = .ok (.aload_n 0, 1) := by decide +kernel
theorem dX2_metWith_16 : decode cX2_metWith 16 = .ok (.getfield 48, 3) := by decide +kernel
theorem dX2_metWith_19 : decode cX2_metWith 19 = .ok (.iload_n 1, 1) := by decide +kernel
theorem dX2_metWith_20 : decode cX2_metWith 20 = .ok (.aaload, 1) := by decide +kernel
theorem dX2_metWith_21 : decode cX2_metWith 21 = .ok (.iload 4, 2) := by decide +kernel
theorem dX2_metWith_23 : decode cX2_metWith 23 = .ok (.iaload, 1) := by decide +kernel
theorem dX2_metWith_24 : decode cX2_metWith 24 = .ok (.iadd, 1) := by decide +kernel
theorem dX2_metWith_25 : decode cX2_metWith 25 = .ok (.istore_n 3, 1) := by decide +kernel
theorem dX2_metWith_26 : decode cX2_metWith 26 = .ok (.iload_n 2, 1) := by decide +kernel
theorem dX2_metWith_27 : decode cX2_metWith 27 = .ok (.iload_n 3, 1) := by decide +kernel
theorem dX2_metWith_28 : decode cX2_metWith 28 = .ok (.if_icmp .ge 6, 3) := by decide +kernel
theorem dX2_metWith_31 : decode cX2_metWith 31 = .ok (.iload 4, 2) := by decide +kernel
theorem dX2_metWith_33 : decode cX2_metWith 33 = .ok (.ireturn, 1) := by decide +kernel
theorem dX2_metWith_34 : decode cX2_metWith 34 = .ok (.iinc 4 1, 3) := by decide +kernel
theorem dX2_metWith_37 : decode cX2_metWith 37 = .ok (.goto (-32), 3) := by decide +kernel
theorem dX2_metWith_40 : decode cX2_metWith 40 = .ok (.iconst (-1), 1) := by decide +kernel
theorem dX2_metWith_41 : decode cX2_metWith 41 = .ok (.ireturn, 1) := by decide +kernel
theorem dX2_oddsPlace_0 : decode cX2_oddsPlace 0 = .ok (.iload_n 0, 1) := by decide +kernel
theorem dX2_oddsPlace_1 : decode cX2_oddsPlace 1 = .ok (.bipush 6, 2) := by decide +kernel
theorem dX2_oddsPlace_3 : decode cX2_oddsPlace 3 = .ok (.imul, 1) := by decide +kernel
theorem dX2_oddsPlace_4 : decode cX2_oddsPlace 4 = .ok (.iconst 1, 1) := by decide +kernel
theorem dX2_oddsPlace_5 : decode cX2_oddsPlace 5 = .ok (.iadd, 1) := by decide +kernel
theorem dX2_oddsPlace_6 : decode cX2_oddsPlace 6 = .ok (.iload_n 1, 1) := by decide +kernel
theorem dX2_oddsPlace_7 : decode cX2_oddsPlace 7 = .ok (.iadd, 1) := by decide +kernel
theorem dX2_oddsPlace_8 : decode cX2_oddsPlace 8 = .ok (.ireturn, 1) := by decide +kernel
theorem dX2_workOut_0 : decode cX2_workOut 0 = .ok (.iconst 0, 1) := by decide +kernel
theorem dX2_workOut_1 : decode cX2_workOut 1 = .ok (.istore_n 1, 1) := by decide +kernel
theorem dX2_workOut_2 : decode cX2_workOut 2 = .ok (.iload_n 1, 1) := by decide +kernel
theorem dX2_workOut_3 : decode cX2_workOut 3 = .ok (.aload_n 0, 1) := by decide +kernel
theorem dX2_workOut_4 : decode cX2_workOut 4 = .ok (.getfield 25, 3) := by decide +kernel
theorem dX2_workOut_7 : decode cX2_workOut 7 = .ok (.if_icmp .ge 42, 3) := by decide +kernel
theorem dX2_workOut_10 : decode cX2_workOut 10 = .ok (.aload_n 0, 1) := by decide +kernel
theorem dX2_workOut_11 : decode cX2_workOut 11 = .ok (.iload_n 1, 1) := by decide +kernel
theorem dX2_workOut_12 : decode cX2_workOut 12 = .ok (.invokevirtual 94, 3) := by decide +kernel
theorem dX2_workOut_15 : decode cX2_workOut 15 = .ok (.iconst 0, 1) := by decide +kernel
theorem dX2_workOut_16 : decode cX2_workOut 16 = .ok (.istore_n 2, 1) := by decide +kernel
theorem dX2_workOut_17 : decode cX2_workOut 17 = .ok (.iload_n 2, 1) := by decide +kernel
theorem dX2_workOut_18 : decode cX2_workOut 18 = .ok (.bipush 8, 2) := by decide +kernel
theorem dX2_workOut_20 : decode cX2_workOut 20 = .ok (.if_icmp .ge 23, 3) := by decide +kernel
theorem dX2_workOut_23 : decode cX2_workOut 23 = .ok (.aload_n 0, 1) := by decide +kernel
theorem dX2_workOut_24 : decode cX2_workOut 24 = .ok (.getfield 60, 3) := by decide +kernel
theorem dX2_workOut_27 : decode cX2_workOut 27 = .ok (.iload_n 1, 1) := by decide +kernel
theorem dX2_workOut_28 : decode cX2_workOut 28 = .ok (.aaload, 1) := by decide +kernel
theorem dX2_workOut_29 : decode cX2_workOut 29 = .ok (.iload_n 2, 1) := by decide +kernel
theorem dX2_workOut_30 : decode cX2_workOut 30 = .ok (.aload_n 0, 1) := by decide +kernel
theorem dX2_workOut_31 : decode cX2_workOut 31 = .ok (.iload_n 1, 1) := by decide +kernel
theorem dX2_workOut_32 : decode cX2_workOut 32 = .ok (.iload_n 2, 1) := by decide +kernel
theorem dX2_workOut_33 : decode cX2_workOut 33 = .ok (.invokevirtual 98, 3) := by decide +kernel
theorem dX2_workOut_36 : decode cX2_workOut 36 = .ok (.iastore, 1) := by decide +kernel
theorem dX2_workOut_37 : decode cX2_workOut 37 = .ok (.iinc 2 1, 3) := by decide +kernel
theorem dX2_workOut_40 : decode cX2_workOut 40 = .ok (.goto (-23), 3) := by decide +kernel
theorem dX2_workOut_43 : decode cX2_workOut 43 = .ok (.iinc 1 1, 3) := by decide +kernel
theorem dX2_workOut_46 : decode cX2_workOut 46 = .ok (.goto (-44), 3) := by decide +kernel
theorem dX2_workOut_49 : decode cX2_workOut 49 = .ok (.iconst 0, 1) := by decide +kernel
theorem dX2_workOut_50 : decode cX2_workOut 50 = .ok (.istore_n 1, 1) := by decide +kernel
theorem dX2_workOut_51 : decode cX2_workOut 51 = .ok (.iload_n 1, 1) := by decide +kernel
theorem dX2_workOut_52 : decode cX2_workOut 52 = .ok (.bipush 8, 2) := by decide +kernel
theorem dX2_workOut_54 : decode cX2_workOut 54 = .ok (.if_icmp .ge 20, 3) := by decide +kernel
theorem dX2_workOut_57 : decode cX2_workOut 57 = .ok (.aload_n 0, 1) := by decide +kernel
theorem dX2_workOut_58 : decode cX2_workOut 58 = .ok (.getfield 63, 3) := by decide +kernel
theorem dX2_workOut_61 : decode cX2_workOut 61 = .ok (.iload_n 1, 1) := by decide +kernel
theorem dX2_workOut_62 : decode cX2_workOut 62 = .ok (.aload_n 0, 1) := by decide +kernel
theorem dX2_workOut_63 : decode cX2_workOut 63 = .ok (.iload_n 1, 1) := by decide +kernel
theorem dX2_workOut_64 : decode cX2_workOut 64 = .ok (.invokevirtual 102, 3) := by decide +kernel
theorem dX2_workOut_67 : decode cX2_workOut 67 = .ok (.iastore, 1) := by decide +kernel
theorem dX2_workOut_68 : decode cX2_workOut 68 = .ok (.iinc 1 1, 3) := by decide +kernel
theorem dX2_workOut_71 : decode cX2_workOut 71 = .ok (.goto (-20), 3) := by decide +kernel
theorem dX2_workOut_74 : decode cX2_workOut 74 = .ok (.iconst 0, 1) := by decide +kernel
theorem dX2_workOut_75 : decode cX2_workOut 75 = .ok (.istore_n 1, 1) := by decide +kernel
theorem dX2_workOut_76 : decode cX2_workOut 76 = .ok (.iload_n 1, 1) := by decide +kernel
theorem dX2_workOut_77 : decode cX2_workOut 77 = .ok (.bipush 8, 2) := by decide +kernel
theorem dX2_workOut_79 : decode cX2_workOut 79 = .ok (.if_icmp .ge 14, 3) := by decide +kernel
theorem dX2_workOut_82 : decode cX2_workOut 82 = .ok (.aload_n 0, 1) := by decide +kernel
theorem dX2_workOut_83 : decode cX2_workOut 83 = .ok (.iload_n 1, 1) := by decide +kernel
theorem dX2_workOut_84 : decode cX2_workOut 84 = .ok (.invokevirtual 105, 3) := by decide +kernel
theorem dX2_workOut_87 : decode cX2_workOut 87 = .ok (.iinc 1 1, 3) := by decide +kernel
theorem dX2_workOut_90 : decode cX2_workOut 90 = .ok (.goto (-14), 3) := by decide +kernel
theorem dX2_workOut_93 : decode cX2_workOut 93 = .ok (.return_, 1) := by decide +kernel
theorem dX2_workOutWays_0 : decode cX2_workOutWays 0 = .ok (.aload_n 0, 1) := by decide +kernel
theorem dX2_workOutWays_1 : decode cX2_workOutWays 1 = .ok (.getfield 57, 3) := by decide +kernel
theorem dX2_workOutWays_4 : decode cX2_workOutWays 4 = .ok (.iload_n 1, 1) := by decide +kernel
theorem dX2_workOutWays_5 : decode cX2_workOutWays 5 = .ok (.aaload, 1) := by decide +kernel
theorem dX2_workOutWays_6 : decode cX2_workOutWays 6 = .ok (.astore_n 2, 1) := by decide +kernel
theorem dX2_workOutWays_7 : decode cX2_workOutWays 7 = .ok (.iconst 0, 1) := by decide +kernel
theorem dX2_workOutWays_8 : decode cX2_workOutWays 8 = .ok (.istore_n 3, 1) := by decide +kernel
theorem dX2_workOutWays_9 : decode cX2_workOutWays 9 = .ok (.iload_n 3, 1) := by decide +kernel
theorem dX2_workOutWays_10 : decode cX2_workOutWays 10 = .ok (.bipush 8, 2) := by decide +kernel
theorem dX2_workOutWays_12 : decode cX2_workOutWays 12 = .ok (.if_icmp .ge 14, 3) := by decide +kernel
theorem dX2_workOutWays_15 : decode cX2_workOutWays 15 = .ok (.aload_n 2, 1) := by decide +kernel
theorem dX2_workOutWays_16 : decode cX2_workOutWays 16 = .ok (.iload_n 3, 1) := by decide +kernel
theorem dX2_workOutWays_17 : decode cX2_workOutWays 17 = .ok (.ldc 108, 2) := by decide +kernel
theorem dX2_workOutWays_19 : decode cX2_workOutWays 19 = .ok (.iastore, 1) := by decide +kernel
theorem dX2_workOutWays_20 : decode cX2_workOutWays 20 = .ok (.iinc 3 1, 3) := by decide +kernel
theorem dX2_workOutWays_23 : decode cX2_workOutWays 23 = .ok (.goto (-14), 3) := by decide +kernel
theorem dX2_workOutWays_26 : decode cX2_workOutWays 26 = .ok (.aload_n 2, 1) := by decide +kernel
theorem dX2_workOutWays_27 : decode cX2_workOutWays 27 = .ok (.aload_n 0, 1) := by decide +kernel
theorem dX2_workOutWays_28 : decode cX2_workOutWays 28 = .ok (.getfield 31, 3) := by decide +kernel
theorem dX2_workOutWays_31 : decode cX2_workOutWays 31 = .ok (.iload_n 1, 1) := by decide +kernel
theorem dX2_workOutWays_32 : decode cX2_workOutWays 32 = .ok (.iaload, 1) := by decide +kernel
theorem dX2_workOutWays_33 : decode cX2_workOutWays 33 = .ok (.iconst 0, 1) := by decide +kernel
theorem dX2_workOutWays_34 : decode cX2_workOutWays 34 = .ok (.iastore, 1) := by decide +kernel
theorem dX2_workOutWays_35 : decode cX2_workOutWays 35 = .ok (.iconst 1, 1) := by decide +kernel
theorem dX2_workOutWays_36 : decode cX2_workOutWays 36 = .ok (.istore_n 3, 1) := by decide +kernel
theorem dX2_workOutWays_37 : decode cX2_workOutWays 37 = .ok (.iload_n 3, 1) := by decide +kernel
theorem dX2_workOutWays_38 : decode cX2_workOutWays 38 = .ok (.bipush 8, 2) := by decide +kernel
theorem dX2_workOutWays_40 : decode cX2_workOutWays 40 = .ok (.if_icmp .ge 87, 3) := by decide +kernel
theorem dX2_workOutWays_43 : decode cX2_workOutWays 43 = .ok (.iconst 0, 1) := by decide +kernel
theorem dX2_workOutWays_44 : decode cX2_workOutWays 44 = .ok (.istore 4, 2) := by decide +kernel
theorem dX2_workOutWays_46 : decode cX2_workOutWays 46 = .ok (.iload 4, 2) := by decide +kernel
theorem dX2_workOutWays_48 : decode cX2_workOutWays 48 = .ok (.aload_n 0, 1) := by decide +kernel
theorem dX2_workOutWays_49 : decode cX2_workOutWays 49 = .ok (.getfield 9, 3) := by decide +kernel
theorem dX2_workOutWays_52 : decode cX2_workOutWays 52 = .ok (.if_icmp .ge 69, 3) := by decide +kernel
theorem dX2_workOutWays_55 : decode cX2_workOutWays 55 = .ok (.aload_n 0, 1) := by decide +kernel
theorem dX2_workOutWays_56 : decode cX2_workOutWays 56 = .ok (.iload_n 1, 1) := by decide +kernel
theorem dX2_workOutWays_57 : decode cX2_workOutWays 57 = .ok (.iload 4, 2) := by decide +kernel
theorem dX2_workOutWays_59 : decode cX2_workOutWays 59 = .ok (.invokevirtual 109, 3) := by decide +kernel
theorem dX2_workOutWays_62 : decode cX2_workOutWays 62 = .ok (.ifCond .ne 53, 3) := by decide +kernel
theorem dX2_workOutWays_65 : decode cX2_workOutWays 65 = .ok (.aload_n 2, 1) := by decide +kernel
theorem dX2_workOutWays_66 : decode cX2_workOutWays 66 = .ok (.aload_n 0, 1) := by decide +kernel
theorem dX2_workOutWays_67 : decode cX2_workOutWays 67 = .ok (.getfield 15, 3) := by decide +kernel
theorem dX2_workOutWays_70 : decode cX2_workOutWays 70 = .ok (.iload 4, 2) := by decide +kernel
theorem dX2_workOutWays_72 : decode cX2_workOutWays 72 = .ok (.iaload, 1) := by decide +kernel
theorem dX2_workOutWays_73 : decode cX2_workOutWays 73 = .ok (.aload_n 0, 1) := by decide +kernel
theorem dX2_workOutWays_74 : decode cX2_workOutWays 74 = .ok (.getfield 19, 3) := by decide +kernel
theorem dX2_workOutWays_77 : decode cX2_workOutWays 77 = .ok (.iload 4, 2) := by decide +kernel
theorem dX2_workOutWays_79 : decode cX2_workOutWays 79 = .ok (.iaload, 1) := by decide +kernel
theorem dX2_workOutWays_80 : decode cX2_workOutWays 80 = .ok (.aload_n 0, 1) := by decide +kernel
theorem dX2_workOutWays_81 : decode cX2_workOutWays 81 = .ok (.getfield 22, 3) := by decide +kernel
theorem dX2_workOutWays_84 : decode cX2_workOutWays 84 = .ok (.iload 4, 2) := by decide +kernel
theorem dX2_workOutWays_86 : decode cX2_workOutWays 86 = .ok (.iaload, 1) := by decide +kernel
theorem dX2_workOutWays_87 : decode cX2_workOutWays 87 = .ok (.invokestatic 113, 3) := by decide +kernel
theorem dX2_workOutWays_90 : decode cX2_workOutWays 90 = .ok (.aload_n 2, 1) := by decide +kernel
theorem dX2_workOutWays_91 : decode cX2_workOutWays 91 = .ok (.aload_n 0, 1) := by decide +kernel
theorem dX2_workOutWays_92 : decode cX2_workOutWays 92 = .ok (.getfield 19, 3) := by decide +kernel
theorem dX2_workOutWays_95 : decode cX2_workOutWays 95 = .ok (.iload 4, 2) := by decide +kernel
theorem dX2_workOutWays_97 : decode cX2_workOutWays 97 = .ok (.iaload, 1) := by decide +kernel
theorem dX2_workOutWays_98 : decode cX2_workOutWays 98 = .ok (.aload_n 0, 1) := by decide +kernel
theorem dX2_workOutWays_99 : decode cX2_workOutWays 99 = .ok (.getfield 15, 3) := by decide +kernel
theorem dX2_workOutWays_102 : decode cX2_workOutWays 102 = .ok (.iload 4, 2) := by decide +kernel
theorem dX2_workOutWays_104 : decode cX2_workOutWays 104 = .ok (.iaload, 1) := by decide +kernel
theorem dX2_workOutWays_105 : decode cX2_workOutWays 105 = .ok (.aload_n 0, 1) := by decide +kernel
theorem dX2_workOutWays_106 : decode cX2_workOutWays 106 = .ok (.getfield 22, 3) := by decide +kernel
theorem dX2_workOutWays_109 : decode cX2_workOutWays 109 = .ok (.iload 4, 2) := by decide +kernel
theorem dX2_workOutWays_111 : decode cX2_workOutWays 111 = .ok (.iaload, 1) := by decide +kernel
theorem dX2_workOutWays_112 : decode cX2_workOutWays 112 = .ok (.invokestatic 113, 3) := by decide +kernel
theorem dX2_workOutWays_115 : decode cX2_workOutWays 115 = .ok (.iinc 4 1, 3) := by decide +kernel
theorem dX2_workOutWays_118 : decode cX2_workOutWays 118 = .ok (.goto (-72), 3) := by decide +kernel
theorem dX2_workOutWays_121 : decode cX2_workOutWays 121 = .ok (.iinc 3 1, 3) := by decide +kernel
theorem dX2_workOutWays_124 : decode cX2_workOutWays 124 = .ok (.goto (-87), 3) := by decide +kernel
theorem dX2_workOutWays_127 : decode cX2_workOutWays 127 = .ok (.return_, 1) := by decide +kernel
theorem dX2_shorten_0 : decode cX2_shorten 0 = .ok (.aload_n 0, 1) := by decide +kernel
theorem dX2_shorten_1 : decode cX2_shorten 1 = .ok (.iload_n 2, 1) := by decide +kernel
theorem dX2_shorten_2 : decode cX2_shorten 2 = .ok (.iaload, 1) := by decide +kernel
theorem dX2_shorten_3 : decode cX2_shorten 3 = .ok (.ldc 108, 2) := by decide +kernel
theorem dX2_shorten_5 : decode cX2_shorten 5 = .ok (.if_icmp .ge 22, 3) := by decide +kernel
theorem dX2_shorten_8 : decode cX2_shorten 8 = .ok (.aload_n 0, 1) := by decide +kernel
theorem dX2_shorten_9 : decode cX2_shorten 9 = .ok (.iload_n 2, 1) := by decide +kernel
theorem dX2_shorten_10 : decode cX2_shorten 10 = .ok (.iaload, 1) := by decide +kernel
theorem dX2_shorten_11 : decode cX2_shorten 11 = .ok (.iload_n 3, 1) := by decide +kernel
theorem dX2_shorten_12 : decode cX2_shorten 12 = .ok (.iadd, 1) := by decide +kernel
theorem dX2_shorten_13 : decode cX2_shorten 13 = .ok (.aload_n 0, 1) := by decide +kernel
theorem dX2_shorten_14 : decode cX2_shorten 14 = .ok (.iload_n 1, 1) := by decide +kernel
theorem dX2_shorten_15 : decode cX2_shorten 15 = .ok (.iaload, 1) := by decide +kernel
theorem dX2_shorten_16 : decode cX2_shorten 16 = .ok (.if_icmp .ge 11, 3) := by decide +kernel
theorem dX2_shorten_19 : decode cX2_shorten 19 = .ok (.aload_n 0, 1) := by decide +kernel
theorem dX2_shorten_20 : decode cX2_shorten 20 = .ok (.iload_n 1, 1) := by decide +kernel
theorem dX2_shorten_21 : decode cX2_shorten 21 = .ok (.aload_n 0, 1) := by decide +kernel
theorem dX2_shorten_22 : decode cX2_shorten 22 = .ok (.iload_n 2, 1) := by decide +kernel
theorem dX2_shorten_23 : decode cX2_shorten 23 = .ok (.iaload, 1) := by decide +kernel
theorem dX2_shorten_24 : decode cX2_shorten 24 = .ok (.iload_n 3, 1) := by decide +kernel
theorem dX2_shorten_25 : decode cX2_shorten 25 = .ok (.iadd, 1) := by decide +kernel
theorem dX2_shorten_26 : decode cX2_shorten 26 = .ok (.iastore, 1) := by decide +kernel
theorem dX2_shorten_27 : decode cX2_shorten 27 = .ok (.return_, 1) := by decide +kernel
theorem dX2_searchNext_0 : decode cX2_searchNext 0 = .ok (.aload_n 0, 1) := by decide +kernel
theorem dX2_searchNext_1 : decode cX2_searchNext 1 = .ok (.getfield 57, 3) := by decide +kernel
theorem dX2_searchNext_4 : decode cX2_searchNext 4 = .ok (.iload_n 1, 1) := by decide +kernel
theorem dX2_searchNext_5 : decode cX2_searchNext 5 = .ok (.aaload, 1) := by decide +kernel
theorem dX2_searchNext_6 : decode cX2_searchNext 6 = .ok (.astore_n 3, 1) := by decide +kernel
theorem dX2_searchNext_7 : decode cX2_searchNext 7 = .ok (.iload_n 2, 1) := by decide +kernel
theorem dX2_searchNext_8 : decode cX2_searchNext 8 = .ok (.aload_n 0, 1) := by decide +kernel
theorem dX2_searchNext_9 : decode cX2_searchNext 9 = .ok (.getfield 31, 3) := by decide +kernel
theorem dX2_searchNext_12 : decode cX2_searchNext 12 = .ok (.iload_n 1, 1) := by decide +kernel
theorem dX2_searchNext_13 : decode cX2_searchNext 13 = .ok (.iaload, 1) := by decide +kernel
theorem dX2_searchNext_14 : decode cX2_searchNext 14 = .ok (.if_icmp .eq 11, 3) := by decide +kernel
theorem dX2_searchNext_17 : decode cX2_searchNext 17 = .ok (.aload_n 3, 1) := by decide +kernel
theorem dX2_searchNext_18 : decode cX2_searchNext 18 = .ok (.iload_n 2, 1) := by decide +kernel
theorem dX2_searchNext_19 : decode cX2_searchNext 19 = .ok (.iaload, 1) := by decide +kernel
theorem dX2_searchNext_20 : decode cX2_searchNext 20 = .ok (.ldc 108, 2) := by decide +kernel
theorem dX2_searchNext_22 : decode cX2_searchNext 22 = .ok (.if_icmp .lt 5, 3) := by decide +kernel
theorem dX2_searchNext_25 : decode cX2_searchNext 25 = .ok (.iconst (-1), 1) := by decide +kernel
theorem dX2_searchNext_26 : decode cX2_searchNext 26 = .ok (.ireturn, 1) := by decide +kernel
theorem dX2_searchNext_27 : decode cX2_searchNext 27 = .ok (.iconst 0, 1) := by decide +kernel
theorem dX2_searchNext_28 : decode cX2_searchNext 28 = .ok (.istore 4, 2) := by decide +kernel
theorem dX2_searchNext_30 : decode cX2_searchNext 30 = .ok (.iload 4, 2) := by decide +kernel
theorem dX2_searchNext_32 : decode cX2_searchNext 32 = .ok (.aload_n 0, 1) := by decide +kernel
theorem dX2_searchNext_33 : decode cX2_searchNext 33 = .ok (.getfield 9, 3) := by decide +kernel
theorem dX2_searchNext_36 : decode cX2_searchNext 36 = .ok (.if_icmp .ge 79, 3) := by decide +kernel
theorem dX2_searchNext_39 : decode cX2_searchNext 39 = .ok (.aload_n 0, 1) := by decide +kernel
theorem dX2_searchNext_40 : decode cX2_searchNext 40 = .ok (.getfield 15, 3) := by decide +kernel
theorem dX2_searchNext_43 : decode cX2_searchNext 43 = .ok (.iload 4, 2) := by decide +kernel
theorem dX2_searchNext_45 : decode cX2_searchNext 45 = .ok (.iaload, 1) := by decide +kernel
theorem dX2_searchNext_46 : decode cX2_searchNext 46 = .ok (.iload_n 2, 1) := by decide +kernel
theorem dX2_searchNext_47 : decode cX2_searchNext 47 = .ok (.if_icmp .eq 14, 3) := by decide +kernel
theorem dX2_searchNext_50 : decode cX2_searchNext 50 = .ok (.aload_n 0, 1) := by decide +kernel
theorem dX2_searchNext_51 : decode cX2_searchNext 51 = .ok (.getfield 19, 3) := by decide +kernel
theorem dX2_searchNext_54 : decode cX2_searchNext 54 = .ok (.iload 4, 2) := by decide +kernel
theorem dX2_searchNext_56 : decode cX2_searchNext 56 = .ok (.iaload, 1) := by decide +kernel
theorem dX2_searchNext_57 : decode cX2_searchNext 57 = .ok (.iload_n 2, 1) := by decide +kernel
theorem dX2_searchNext_58 : decode cX2_searchNext 58 = .ok (.if_icmp .ne 7, 3) := by decide +kernel
theorem dX2_searchNext_61 : decode cX2_searchNext 61 = .ok (.iconst 1, 1) := by decide +kernel
theorem dX2_searchNext_62 : decode cX2_searchNext 62 = .ok (.goto 4, 3) := by decide +kernel
theorem dX2_searchNext_65 : decode cX2_searchNext 65 = .ok (.iconst 0, 1) := by decide +kernel
theorem dX2_searchNext_66 : decode cX2_searchNext 66 = .ok (.istore 5, 2) := by decide +kernel
theorem dX2_searchNext_68 : decode cX2_searchNext 68 = .ok (.iload 5, 2) := by decide +kernel
theorem dX2_searchNext_70 : decode cX2_searchNext 70 = .ok (.ifCond .eq 39, 3) := by decide +kernel
theorem dX2_searchNext_73 : decode cX2_searchNext 73 = .ok (.aload_n 0, 1) := by decide +kernel
theorem dX2_searchNext_74 : decode cX2_searchNext 74 = .ok (.iload_n 1, 1) := by decide +kernel
theorem dX2_searchNext_75 : decode cX2_searchNext 75 = .ok (.iload 4, 2) := by decide +kernel
theorem dX2_searchNext_77 : decode cX2_searchNext 77 = .ok (.invokevirtual 109, 3) := by decide +kernel
theorem dX2_searchNext_80 : decode cX2_searchNext 80 = .ok (.ifCond .ne 29, 3) := by decide +kernel
theorem dX2_searchNext_83 : decode cX2_searchNext 83 = .ok (.aload_n 3, 1) := by decide +kernel
theorem dX2_searchNext_84 : decode cX2_searchNext 84 = .ok (.aload_n 0, 1) := by decide +kernel
theorem dX2_searchNext_85 : decode cX2_searchNext 85 = .ok (.iload 4, 2) := by decide +kernel
theorem dX2_searchNext_87 : decode cX2_searchNext 87 = .ok (.iload_n 2, 1) := by decide +kernel
theorem dX2_searchNext_88 : decode cX2_searchNext 88 = .ok (.invokevirtual 117, 3) := by decide +kernel
theorem dX2_searchNext_91 : decode cX2_searchNext 91 = .ok (.iaload, 1) := by decide +kernel
theorem dX2_searchNext_92 : decode cX2_searchNext 92 = .ok (.aload_n 0, 1) := by decide +kernel
theorem dX2_searchNext_93 : decode cX2_searchNext 93 = .ok (.getfield 22, 3) := by decide +kernel
theorem dX2_searchNext_96 : decode cX2_searchNext 96 = .ok (.iload 4, 2) := by decide +kernel
theorem dX2_searchNext_98 : decode cX2_searchNext 98 = .ok (.iaload, 1) := by decide +kernel
theorem dX2_searchNext_99 : decode cX2_searchNext 99 = .ok (.iadd, 1) := by decide +kernel
theorem dX2_searchNext_100 : decode cX2_searchNext 100 = .ok (.aload_n 3, 1) := by decide +kernel
theorem dX2_searchNext_101 : decode cX2_searchNext 101 = .ok (.iload_n 2, 1) := by decide +kernel
theorem dX2_searchNext_102 : decode cX2_searchNext 102 = .ok (.iaload, 1) := by decide +kernel
theorem dX2_searchNext_103 : decode cX2_searchNext 103 = .ok (.if_icmp .ne 6, 3) := by decide +kernel
theorem dX2_searchNext_106 : decode cX2_searchNext 106 = .ok (.iload 4, 2) := by decide +kernel
theorem dX2_searchNext_108 : decode cX2_searchNext 108 = .ok (.ireturn, 1) := by decide +kernel
theorem dX2_searchNext_109 : decode cX2_searchNext 109 = .ok (.iinc 4 1, 3) := by decide +kernel
theorem dX2_searchNext_112 : decode cX2_searchNext 112 = .ok (.goto (-82), 3) := by decide +kernel
theorem dX2_searchNext_115 : decode cX2_searchNext 115 = .ok (.iconst (-1), 1) := by decide +kernel
theorem dX2_searchNext_116 : decode cX2_searchNext 116 = .ok (.ireturn, 1) := by decide +kernel
theorem dX2_searchPleasing_0 : decode cX2_searchPleasing 0 = .ok (.iconst 0, 1) := by decide +kernel
theorem dX2_searchPleasing_1 : decode cX2_searchPleasing 1 = .ok (.istore_n 2, 1) := by decide +kernel
theorem dX2_searchPleasing_2 : decode cX2_searchPleasing 2 = .ok (.iconst 1, 1) := by decide +kernel
theorem dX2_searchPleasing_3 : decode cX2_searchPleasing 3 = .ok (.istore_n 3, 1) := by decide +kernel
theorem dX2_searchPleasing_4 : decode cX2_searchPleasing 4 = .ok (.iload_n 3, 1) := by decide +kernel
theorem dX2_searchPleasing_5 : decode cX2_searchPleasing 5 = .ok (.aload_n 0, 1) := by decide +kernel
theorem dX2_searchPleasing_6 : decode cX2_searchPleasing 6 = .ok (.getfield 25, 3) := by decide +kernel
theorem dX2_searchPleasing_9 : decode cX2_searchPleasing 9 = .ok (.if_icmp .ge 30, 3) := by decide +kernel
theorem dX2_searchPleasing_12 : decode cX2_searchPleasing 12 = .ok (.aload_n 0, 1) := by decide +kernel
theorem dX2_searchPleasing_13 : decode cX2_searchPleasing 13 = .ok (.getfield 57, 3) := by decide +kernel
theorem dX2_searchPleasing_16 : decode cX2_searchPleasing 16 = .ok (.iload_n 3, 1) := by decide +kernel
theorem dX2_searchPleasing_17 : decode cX2_searchPleasing 17 = .ok (.aaload, 1) := by decide +kernel
theorem dX2_searchPleasing_18 : decode cX2_searchPleasing 18 = .ok (.iload_n 1, 1) := by decide +kernel
theorem dX2_searchPleasing_19 : decode cX2_searchPleasing 19 = .ok (.iaload, 1) := by decide +kernel
theorem dX2_searchPleasing_20 : decode cX2_searchPleasing 20 = .ok (.aload_n 0, 1) := by decide +kernel
theorem dX2_searchPleasing_21 : decode cX2_searchPleasing 21 = .ok (.getfield 57, 3) := by decide +kernel
theorem dX2_searchPleasing_24 : decode cX2_searchPleasing 24 = .ok (.iload_n 2, 1) := by decide +kernel
theorem dX2_searchPleasing_25 : decode cX2_searchPleasing 25 = .ok (.aaload, 1) := by decide +kernel
theorem dX2_searchPleasing_26 : decode cX2_searchPleasing 26 = .ok (.iload_n 1, 1) := by decide +kernel
theorem dX2_searchPleasing_27 : decode cX2_searchPleasing 27 = .ok (.iaload, 1) := by decide +kernel
theorem dX2_searchPleasing_28 : decode cX2_searchPleasing 28 = .ok (.if_icmp .ge 5, 3) := by decide +kernel
theorem dX2_searchPleasing_31 : decode cX2_searchPleasing 31 = .ok (.iload_n 3, 1) := by decide +kernel
theorem dX2_searchPleasing_32 : decode cX2_searchPleasing 32 = .ok (.istore_n 2, 1) := by decide +kernel
theorem dX2_searchPleasing_33 : decode cX2_searchPleasing 33 = .ok (.iinc 3 1, 3) := by decide +kernel
theorem dX2_searchPleasing_36 : decode cX2_searchPleasing 36 = .ok (.goto (-32), 3) := by decide +kernel
theorem dX2_searchPleasing_39 : decode cX2_searchPleasing 39 = .ok (.iload_n 2, 1) := by decide +kernel
theorem dX2_searchPleasing_40 : decode cX2_searchPleasing 40 = .ok (.ireturn, 1) := by decide +kernel
theorem dX2_workOutOdds_0 : decode cX2_workOutOdds 0 = .ok (.iconst 0, 1) := by decide +kernel
theorem dX2_workOutOdds_1 : decode cX2_workOutOdds 1 = .ok (.istore_n 2, 1) := by decide +kernel
theorem dX2_workOutOdds_2 : decode cX2_workOutOdds 2 = .ok (.iload_n 2, 1) := by decide +kernel
theorem dX2_workOutOdds_3 : decode cX2_workOutOdds 3 = .ok (.aload_n 0, 1) := by decide +kernel
theorem dX2_workOutOdds_4 : decode cX2_workOutOdds 4 = .ok (.getfield 25, 3) := by decide +kernel
theorem dX2_workOutOdds_7 : decode cX2_workOutOdds 7 = .ok (.if_icmp .ge 100, 3) := by decide +kernel
theorem dX2_workOutOdds_10 : decode cX2_workOutOdds 10 = .ok (.iconst (-1), 1) := by decide +kernel
theorem dX2_workOutOdds_11 : decode cX2_workOutOdds 11 = .ok (.istore_n 3, 1) := by decide +kernel
theorem dX2_workOutOdds_12 : decode cX2_workOutOdds 12 = .ok (.iload_n 3, 1) := by decide +kernel
theorem dX2_workOutOdds_13 : decode cX2_workOutOdds 13 = .ok (.iconst 5, 1) := by decide +kernel
theorem dX2_workOutOdds_14 : decode cX2_workOutOdds 14 = .ok (.if_icmp .ge 22, 3) := by decide +kernel
theorem dX2_workOutOdds_17 : decode cX2_workOutOdds 17 = .ok (.aload_n 0, 1) := by decide +kernel
theorem dX2_workOutOdds_18 : decode cX2_workOutOdds 18 = .ok (.getfield 66, 3) := by decide +kernel
theorem dX2_workOutOdds_21 : decode cX2_workOutOdds 21 = .ok (.iload_n 1, 1) := by decide +kernel
theorem dX2_workOutOdds_22 : decode cX2_workOutOdds 22 = .ok (.iload_n 3, 1) := by decide +kernel
theorem dX2_workOutOdds_23 : decode cX2_workOutOdds 23 = .ok (.invokestatic 120, 3) := by decide +kernel
theorem dX2_workOutOdds_26 : decode cX2_workOutOdds 26 = .ok (.aaload, 1) := by decide +kernel
theorem dX2_workOutOdds_27 : decode cX2_workOutOdds 27 = .ok (.iload_n 2, 1) := by decide +kernel
theorem dX2_workOutOdds_28 : decode cX2_workOutOdds 28 = .ok (.iconst 0, 1) := by decide +kernel
theorem dX2_workOutOdds_29 : decode cX2_workOutOdds 29 = .ok (.iastore, 1) := by decide +kernel
theorem dX2_workOutOdds_30 : decode cX2_workOutOdds 30 = .ok (.iinc 3 1, 3) := by decide +kernel
theorem dX2_workOutOdds_33 : decode cX2_workOutOdds 33 = .ok (.goto (-21), 3) := by decide +kernel
theorem dX2_workOutOdds_36 : decode cX2_workOutOdds 36 = .ok (.aload_n 0, 1) := by decide +kernel
theorem dX2_workOutOdds_37 : decode cX2_workOutOdds 37 = .ok (.getfield 66, 3) := by decide +kernel
theorem dX2_workOutOdds_40 : decode cX2_workOutOdds 40 = .ok (.iload_n 1, 1) := by decide +kernel
theorem dX2_workOutOdds_41 : decode cX2_workOutOdds 41 = .ok (.iconst (-1), 1) := by decide +kernel
theorem dX2_workOutOdds_42 : decode cX2_workOutOdds 42 = .ok (.invokestatic 120, 3) := by decide +kernel
theorem dX2_workOutOdds_45 : decode cX2_workOutOdds 45 = .ok (.aaload, 1) := by decide +kernel
theorem dX2_workOutOdds_46 : decode cX2_workOutOdds 46 = .ok (.iload_n 2, 1) := by decide +kernel
theorem dX2_workOutOdds_47 : decode cX2_workOutOdds 47 = .ok (.bipush 100, 2) := by decide +kernel
theorem dX2_workOutOdds_49 : decode cX2_workOutOdds 49 = .ok (.aload_n 0, 1) := by decide +kernel
theorem dX2_workOutOdds_50 : decode cX2_workOutOdds 50 = .ok (.iload_n 1, 1) := by decide +kernel
theorem dX2_workOutOdds_51 : decode cX2_workOutOdds 51 = .ok (.invokevirtual 90, 3) := by decide +kernel
theorem dX2_workOutOdds_54 : decode cX2_workOutOdds 54 = .ok (.isub, 1) := by decide +kernel
theorem dX2_workOutOdds_55 : decode cX2_workOutOdds 55 = .ok (.iastore, 1) := by decide +kernel
theorem dX2_workOutOdds_56 : decode cX2_workOutOdds 56 = .ok (.iconst 0, 1) := by decide +kernel
theorem dX2_workOutOdds_57 : decode cX2_workOutOdds 57 = .ok (.istore_n 3, 1) := by decide +kernel
theorem dX2_workOutOdds_58 : decode cX2_workOutOdds 58 = .ok (.iload_n 3, 1) := by decide +kernel
theorem dX2_workOutOdds_59 : decode cX2_workOutOdds 59 = .ok (.aload_n 0, 1) := by decide +kernel
theorem dX2_workOutOdds_60 : decode cX2_workOutOdds 60 = .ok (.getfield 37, 3) := by decide +kernel
theorem dX2_workOutOdds_63 : decode cX2_workOutOdds 63 = .ok (.if_icmp .ge 38, 3) := by decide +kernel
theorem dX2_workOutOdds_66 : decode cX2_workOutOdds 66 = .ok (.aload_n 0, 1) := by decide +kernel
theorem dX2_workOutOdds_67 : decode cX2_workOutOdds 67 = .ok (.getfield 66, 3) := by decide +kernel
theorem dX2_workOutOdds_70 : decode cX2_workOutOdds 70 = .ok (.iload_n 1, 1) := by decide +kernel
theorem dX2_workOutOdds_71 : decode cX2_workOutOdds 71 = .ok (.aload_n 0, 1) := by decide +kernel
theorem dX2_workOutOdds_72 : decode cX2_workOutOdds 72 = .ok (.iload_n 3, 1) := by decide +kernel
theorem dX2_workOutOdds_73 : decode cX2_workOutOdds 73 = .ok (.iload_n 1, 1) := by decide +kernel
theorem dX2_workOutOdds_74 : decode cX2_workOutOdds 74 = .ok (.iload_n 2, 1) := by decide +kernel
theorem dX2_workOutOdds_75 : decode cX2_workOutOdds 75 = .ok (.invokevirtual 123, 3) := by decide +kernel
theorem dX2_workOutOdds_78 : decode cX2_workOutOdds 78 = .ok (.invokestatic 120, 3) := by decide +kernel
theorem dX2_workOutOdds_81 : decode cX2_workOutOdds 81 = .ok (.aaload, 1) := by decide +kernel
theorem dX2_workOutOdds_82 : decode cX2_workOutOdds 82 = .ok (.iload_n 2, 1) := by decide +kernel
theorem dX2_workOutOdds_83 : decode cX2_workOutOdds 83 = .ok (.dup2, 1) := by decide +kernel
theorem dX2_workOutOdds_84 : decode cX2_workOutOdds 84 = .ok (.iaload, 1) := by decide +kernel
theorem dX2_workOutOdds_85 : decode cX2_workOutOdds 85 = .ok (.aload_n 0, 1) := by decide +kernel
theorem dX2_workOutOdds_86 : decode cX2_workOutOdds 86 = .ok (.getfield 48, 3) := by decide +kernel
theorem dX2_workOutOdds_89 : decode cX2_workOutOdds 89 = .ok (.iload_n 1, 1) := by decide +kernel
theorem dX2_workOutOdds_90 : decode cX2_workOutOdds 90 = .ok (.aaload, 1) := by decide +kernel
theorem dX2_workOutOdds_91 : decode cX2_workOutOdds 91 = .ok (.iload_n 3, 1) := by decide +kernel
theorem dX2_workOutOdds_92 : decode cX2_workOutOdds 92 = .ok (.iaload, 1) := by decide +kernel
theorem dX2_workOutOdds_93 : decode cX2_workOutOdds 93 = .ok (.iadd, 1) := by decide +kernel
theorem dX2_workOutOdds_94 : decode cX2_workOutOdds 94 = .ok (.iastore, 1) := by decide +kernel
theorem dX2_workOutOdds_95 : decode cX2_workOutOdds 95 = .ok (.iinc 3 1, 3) := by decide +kernel
theorem dX2_workOutOdds_98 : decode cX2_workOutOdds 98 = .ok (.goto (-40), 3) := by decide +kernel
theorem dX2_workOutOdds_101 : decode cX2_workOutOdds 101 = .ok (.iinc 2 1, 3) := by decide +kernel
theorem dX2_workOutOdds_104 : decode cX2_workOutOdds 104 = .ok (.goto (-102), 3) := by decide +kernel
theorem dX2_workOutOdds_107 : decode cX2_workOutOdds 107 = .ok (.return_, 1) := by decide +kernel
theorem dX3_init_0 : decode cX3_init 0 = .ok (.aload_n 0, 1) := by decide +kernel
theorem dX3_init_1 : decode cX3_init 1 = .ok (.iload_n 1, 1) := by decide +kernel
theorem dX3_init_2 : decode cX3_init 2 = .ok (.invokespecial 1, 3) := by decide +kernel
theorem dX3_init_5 : decode cX3_init 5 = .ok (.return_, 1) := by decide +kernel
theorem dX3_heaviness_0 : decode cX3_heaviness 0 = .ok (.aload_n 0, 1) := by decide +kernel
theorem dX3_heaviness_1 : decode cX3_heaviness 1 = .ok (.invokespecial 7, 3) := by decide +kernel
theorem dX3_heaviness_4 : decode cX3_heaviness 4 = .ok (.aload_n 0, 1) := by decide +kernel
theorem dX3_heaviness_5 : decode cX3_heaviness 5 = .ok (.getfield 11, 3) := by decide +kernel
theorem dX3_heaviness_8 : decode cX3_heaviness 8 = .ok (.iadd, 1) := by decide +kernel
theorem dX3_heaviness_9 : decode cX3_heaviness 9 = .ok (.ireturn, 1) := by decide +kernel
theorem dX3_asksAtStart_0 : decode cX3_asksAtStart 0 = .ok (.aload_n 0, 1) := by decide +kernel
theorem dX3_asksAtStart_1 : decode cX3_asksAtStart 1 = .ok (.getfield 11, 3) := by decide +kernel
theorem dX3_asksAtStart_4 : decode cX3_asksAtStart 4 = .ok (.ireturn, 1) := by decide +kernel
theorem dX3_fail_0 : decode cX3_fail 0 = .ok (.aload_n 0, 1) := by decide +kernel
theorem dX3_fail_1 : decode cX3_fail 1 = .ok (.getfield 11, 3) := by decide +kernel
theorem dX3_fail_4 : decode cX3_fail 4 = .ok (.ifCond .le 13, 3) := by decide +kernel
theorem dX3_fail_7 : decode cX3_fail 7 = .ok (.new 17, 3) := by decide +kernel
theorem dX3_fail_10 : decode cX3_fail 10 = .ok (.dup, 1) := by decide +kernel
theorem dX3_fail_11 : decode cX3_fail 11 = .ok (.ldc 19, 2) := by decide +kernel
theorem dX3_fail_13 : decode cX3_fail 13 = .ok (.invokespecial 21, 3) := by decide +kernel
theorem dX3_fail_16 : decode cX3_fail 16 = .ok (.athrow, 1) := by decide +kernel
theorem dX3_fail_17 : decode cX3_fail 17 = .ok (.return_, 1) := by decide +kernel
theorem dX4_init_0 : decode cX4_init 0 = .ok (.aload_n 0, 1) := by decide +kernel
theorem dX4_init_1 : decode cX4_init 1 = .ok (.invokespecial 3, 3) := by decide +kernel
theorem dX4_init_4 : decode cX4_init 4 = .ok (.aload_n 0, 1) := by decide +kernel
theorem dX4_init_5 : decode cX4_init 5 = .ok (.iconst 0, 1) := by decide +kernel
theorem dX4_init_6 : decode cX4_init 6 = .ok (.newarray .int, 2) := by decide +kernel
theorem dX4_init_8 : decode cX4_init 8 = .ok (.putfield 9, 3) := by decide +kernel
theorem dX4_init_11 : decode cX4_init 11 = .ok (.aload_n 0, 1) := by decide +kernel
theorem dX4_init_12 : decode cX4_init 12 = .ok (.iconst 3, 1) := by decide +kernel
theorem dX4_init_13 : decode cX4_init 13 = .ok (.newarray .int, 2) := by decide +kernel
theorem dX4_init_15 : decode cX4_init 15 = .ok (.putfield 15, 3) := by decide +kernel
theorem dX4_init_18 : decode cX4_init 18 = .ok (.return_, 1) := by decide +kernel
theorem dX4_readInto_0 : decode cX4_readInto 0 = .ok (.aload_n 0, 1) := by decide +kernel
theorem dX4_readInto_1 : decode cX4_readInto 1 = .ok (.aload_n 1, 1) := by decide +kernel
theorem dX4_readInto_2 : decode cX4_readInto 2 = .ok (.getfield 18, 3) := by decide +kernel
theorem dX4_readInto_5 : decode cX4_readInto 5 = .ok (.putfield 9, 3) := by decide +kernel
theorem dX4_readInto_8 : decode cX4_readInto 8 = .ok (.aload_n 0, 1) := by decide +kernel
theorem dX4_readInto_9 : decode cX4_readInto 9 = .ok (.invokevirtual 23, 3) := by decide +kernel
theorem dX4_readInto_12 : decode cX4_readInto 12 = .ok (.istore_n 3, 1) := by decide +kernel
theorem dX4_readInto_13 : decode cX4_readInto 13 = .ok (.iload_n 3, 1) := by decide +kernel
theorem dX4_readInto_14 : decode cX4_readInto 14 = .ok (.ifCond .ge 7, 3) := by decide +kernel
theorem dX4_readInto_17 : decode cX4_readInto 17 = .ok (.iload_n 3, 1) := by decide +kernel
theorem dX4_readInto_18 : decode cX4_readInto 18 = .ok (.goto 9, 3) := by decide +kernel
theorem dX4_readInto_21 : decode cX4_readInto 21 = .ok (.aload_n 0, 1) := by decide +kernel
theorem dX4_readInto_22 : decode cX4_readInto 22 = .ok (.aload_n 2, 1) := by decide +kernel
theorem dX4_readInto_23 : decode cX4_readInto 23 = .ok (.iload_n 3, 1) := by decide +kernel
theorem dX4_readInto_24 : decode cX4_readInto 24 = .ok (.invokevirtual 27, 3) := by decide +kernel
theorem dX4_readInto_27 : decode cX4_readInto 27 = .ok (.ireturn, 1) := by decide +kernel
theorem dX4_statementsInForm_0 : decode cX4_statementsInForm 0 = .ok (.iconst 0, 1) := by decide +kernel
theorem dX4_statementsInForm_1 : decode cX4_statementsInForm 1 = .ok (.istore_n 1, 1) := by decide +kernel
theorem dX4_statementsInForm_2 : decode cX4_statementsInForm 2 = .ok (.iconst 0, 1) := by decide +kernel
theorem dX4_statementsInForm_3 : decode cX4_statementsInForm 3 = .ok (.istore_n 2, 1) := by decide +kernel
theorem dX4_statementsInForm_4 : decode cX4_statementsInForm 4 = .ok (.iload_n 2, 1) := by decide +kernel
theorem dX4_statementsInForm_5 : decode cX4_statementsInForm 5 = .ok (.bipush 100, 2) := by decide +kernel
theorem dX4_statementsInForm_7 : decode cX4_statementsInForm 7 = .ok (.if_icmp .ge 42, 3) := by decide +kernel
theorem dX4_statementsInForm_10 : decode cX4_statementsInForm 10 = .ok (.iload_n 2, 1) := by decide +kernel
theorem dX4_statementsInForm_11 : decode cX4_statementsInForm 11 = .ok (.ifCond .eq 12, 3) := by decide +kernel
theorem dX4_statementsInForm_14 : decode cX4_statementsInForm 14 = .ok (.iload_n 1, 1) := by decide +kernel
theorem dX4_statementsInForm_15 : decode cX4_statementsInForm 15 = .ok (.aload_n 0, 1) := by decide +kernel
theorem dX4_statementsInForm_16 : decode cX4_statementsInForm 16 = .ok (.getfield 9, 3) := by decide +kernel
theorem dX4_statementsInForm_19 : decode cX4_statementsInForm 19 = .ok (.arraylength, 1) := by decide +kernel
