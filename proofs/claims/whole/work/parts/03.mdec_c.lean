theorem dX12_ask_10 : decode cX12_ask 10 = .ok (.putfield 267, 3) := by decide +kernel
theorem dX12_ask_13 : decode cX12_ask 13 = .ok (.aload_n 0, 1) := by decide +kernel
theorem dX12_ask_14 : decode cX12_ask 14 = .ok (.dup, 1) := by decide +kernel
theorem dX12_ask_15 : decode cX12_ask 15 = .ok (.getfield 270, 3) := by decide +kernel
theorem dX12_ask_18 : decode cX12_ask 18 = .ok (.iconst 1, 1) := by decide +kernel
theorem dX12_ask_19 : decode cX12_ask 19 = .ok (.iadd, 1) := by decide +kernel
theorem dX12_ask_20 : decode cX12_ask 20 = .ok (.putfield 270, 3) := by decide +kernel
theorem dX12_ask_23 : decode cX12_ask 23 = .ok (.aload_n 0, 1) := by decide +kernel
theorem dX12_ask_24 : decode cX12_ask 24 = .ok (.aload_n 0, 1) := by decide +kernel
theorem dX12_ask_25 : decode cX12_ask 25 = .ok (.getfield 273, 3) := by decide +kernel
theorem dX12_ask_28 : decode cX12_ask 28 = .ok (.ldc_w 276, 3) := by decide +kernel
theorem dX12_ask_31 : decode cX12_ask 31 = .ok (.imul, 1) := by decide +kernel
theorem dX12_ask_32 : decode cX12_ask 32 = .ok (.sipush 12345, 3) := by decide +kernel
theorem dX12_ask_35 : decode cX12_ask 35 = .ok (.iadd, 1) := by decide +kernel
theorem dX12_ask_36 : decode cX12_ask 36 = .ok (.putfield 273, 3) := by decide +kernel
theorem dX12_ask_39 : decode cX12_ask 39 = .ok (.aload_n 0, 1) := by decide +kernel
theorem dX12_ask_40 : decode cX12_ask 40 = .ok (.getfield 273, 3) := by decide +kernel
theorem dX12_ask_43 : decode cX12_ask 43 = .ok (.ldc_w 277, 3) := by decide +kernel
theorem dX12_ask_46 : decode cX12_ask 46 = .ok (.iand, 1) := by decide +kernel
theorem dX12_ask_47 : decode cX12_ask 47 = .ok (.ldc_w 278, 3) := by decide +kernel
theorem dX12_ask_50 : decode cX12_ask 50 = .ok (.idiv, 1) := by decide +kernel
theorem dX12_ask_51 : decode cX12_ask 51 = .ok (.bipush 100, 2) := by decide +kernel
theorem dX12_ask_53 : decode cX12_ask 53 = .ok (.irem, 1) := by decide +kernel
theorem dX12_ask_54 : decode cX12_ask 54 = .ok (.istore_n 3, 1) := by decide +kernel
theorem dX12_ask_55 : decode cX12_ask 55 = .ok (.iload_n 1, 1) := by decide +kernel
theorem dX12_ask_56 : decode cX12_ask 56 = .ok (.aload_n 0, 1) := by decide +kernel
theorem dX12_ask_57 : decode cX12_ask 57 = .ok (.getfield 66, 3) := by decide +kernel
theorem dX12_ask_60 : decode cX12_ask 60 = .ok (.if_icmp .ne 5, 3) := by decide +kernel
theorem dX12_ask_63 : decode cX12_ask 63 = .ok (.iload_n 2, 1) := by decide +kernel
theorem dX12_ask_64 : decode cX12_ask 64 = .ok (.ireturn, 1) := by decide +kernel
theorem dX12_ask_65 : decode cX12_ask 65 = .ok (.iconst 0, 1) := by decide +kernel
theorem dX12_ask_66 : decode cX12_ask 66 = .ok (.istore 4, 2) := by decide +kernel
theorem dX12_ask_68 : decode cX12_ask 68 = .ok (.iconst 0, 1) := by decide +kernel
theorem dX12_ask_69 : decode cX12_ask 69 = .ok (.istore 5, 2) := by decide +kernel
theorem dX12_ask_71 : decode cX12_ask 71 = .ok (.iload 5, 2) := by decide +kernel
theorem dX12_ask_73 : decode cX12_ask 73 = .ok (.aload_n 0, 1) := by decide +kernel
theorem dX12_ask_74 : decode cX12_ask 74 = .ok (.getfield 159, 3) := by decide +kernel
theorem dX12_ask_77 : decode cX12_ask 77 = .ok (.if_icmp .ge 41, 3) := by decide +kernel
theorem dX12_ask_80 : decode cX12_ask 80 = .ok (.iload 4, 2) := by decide +kernel
theorem dX12_ask_82 : decode cX12_ask 82 = .ok (.aload_n 0, 1) := by decide +kernel
theorem dX12_ask_83 : decode cX12_ask 83 = .ok (.getfield 34, 3) := by decide +kernel
theorem dX12_ask_86 : decode cX12_ask 86 = .ok (.bipush 6, 2) := by decide +kernel
theorem dX12_ask_88 : decode cX12_ask 88 = .ok (.iload_n 1, 1) := by decide +kernel
theorem dX12_ask_89 : decode cX12_ask 89 = .ok (.imul, 1) := by decide +kernel
theorem dX12_ask_90 : decode cX12_ask 90 = .ok (.iload 5, 2) := by decide +kernel
theorem dX12_ask_92 : decode cX12_ask 92 = .ok (.iadd, 1) := by decide +kernel
theorem dX12_ask_93 : decode cX12_ask 93 = .ok (.iaload, 1) := by decide +kernel
theorem dX12_ask_94 : decode cX12_ask 94 = .ok (.iadd, 1) := by decide +kernel
theorem dX12_ask_95 : decode cX12_ask 95 = .ok (.istore 4, 2) := by decide +kernel
theorem dX12_ask_97 : decode cX12_ask 97 = .ok (.iload_n 3, 1) := by decide +kernel
theorem dX12_ask_98 : decode cX12_ask 98 = .ok (.iload 4, 2) := by decide +kernel
theorem dX12_ask_100 : decode cX12_ask 100 = .ok (.if_icmp .ge 12, 3) := by decide +kernel
theorem dX12_ask_103 : decode cX12_ask 103 = .ok (.aload_n 0, 1) := by decide +kernel
theorem dX12_ask_104 : decode cX12_ask 104 = .ok (.iload 5, 2) := by decide +kernel
theorem dX12_ask_106 : decode cX12_ask 106 = .ok (.iload_n 1, 1) := by decide +kernel
theorem dX12_ask_107 : decode cX12_ask 107 = .ok (.iload_n 2, 1) := by decide +kernel
theorem dX12_ask_108 : decode cX12_ask 108 = .ok (.invokevirtual 211, 3) := by decide +kernel
theorem dX12_ask_111 : decode cX12_ask 111 = .ok (.ireturn, 1) := by decide +kernel
theorem dX12_ask_112 : decode cX12_ask 112 = .ok (.iinc 5 1, 3) := by decide +kernel
theorem dX12_ask_115 : decode cX12_ask 115 = .ok (.goto (-44), 3) := by decide +kernel
theorem dX12_ask_118 : decode cX12_ask 118 = .ok (.iconst (-1), 1) := by decide +kernel
theorem dX12_ask_119 : decode cX12_ask 119 = .ok (.ireturn, 1) := by decide +kernel
theorem dX12_believe_0 : decode cX12_believe 0 = .ok (.iconst 0, 1) := by decide +kernel
theorem dX12_believe_1 : decode cX12_believe 1 = .ok (.istore_n 2, 1) := by decide +kernel
theorem dX12_believe_2 : decode cX12_believe 2 = .ok (.iload_n 2, 1) := by decide +kernel
theorem dX12_believe_3 : decode cX12_believe 3 = .ok (.aload_n 0, 1) := by decide +kernel
theorem dX12_believe_4 : decode cX12_believe 4 = .ok (.getfield 111, 3) := by decide +kernel
theorem dX12_believe_7 : decode cX12_believe 7 = .ok (.if_icmp .ge 30, 3) := by decide +kernel
theorem dX12_believe_10 : decode cX12_believe 10 = .ok (.aload_n 0, 1) := by decide +kernel
theorem dX12_believe_11 : decode cX12_believe 11 = .ok (.getfield 69, 3) := by decide +kernel
theorem dX12_believe_14 : decode cX12_believe 14 = .ok (.iload_n 2, 1) := by decide +kernel
theorem dX12_believe_15 : decode cX12_believe 15 = .ok (.iload_n 2, 1) := by decide +kernel
theorem dX12_believe_16 : decode cX12_believe 16 = .ok (.iload_n 1, 1) := by decide +kernel
theorem dX12_believe_17 : decode cX12_believe 17 = .ok (.if_icmp .ne 12, 3) := by decide +kernel
theorem dX12_believe_20 : decode cX12_believe 20 = .ok (.aload_n 0, 1) := by decide +kernel
theorem dX12_believe_21 : decode cX12_believe 21 = .ok (.getfield 69, 3) := by decide +kernel
theorem dX12_believe_24 : decode cX12_believe 24 = .ok (.iload_n 2, 1) := by decide +kernel
theorem dX12_believe_25 : decode cX12_believe 25 = .ok (.laload, 1) := by decide +kernel
theorem dX12_believe_26 : decode cX12_believe 26 = .ok (.goto 4, 3) := by decide +kernel
theorem dX12_believe_29 : decode cX12_believe 29 = .ok (.lconst 0, 1) := by decide +kernel
theorem dX12_believe_30 : decode cX12_believe 30 = .ok (.lastore, 1) := by decide +kernel
theorem dX12_believe_31 : decode cX12_believe 31 = .ok (.iinc 2 1, 3) := by decide +kernel
theorem dX12_believe_34 : decode cX12_believe 34 = .ok (.goto (-32), 3) := by decide +kernel
theorem dX12_believe_37 : decode cX12_believe 37 = .ok (.return_, 1) := by decide +kernel
theorem dX12_begin_0 : decode cX12_begin 0 = .ok (.iconst (-1), 1) := by decide +kernel
theorem dX12_begin_1 : decode cX12_begin 1 = .ok (.istore 5, 2) := by decide +kernel
theorem dX12_begin_3 : decode cX12_begin 3 = .ok (.iload_n 3, 1) := by decide +kernel
theorem dX12_begin_4 : decode cX12_begin 4 = .ok (.iconst 1, 1) := by decide +kernel
theorem dX12_begin_5 : decode cX12_begin 5 = .ok (.if_icmp .ne 11, 3) := by decide +kernel
theorem dX12_begin_8 : decode cX12_begin 8 = .ok (.aload_n 0, 1) := by decide +kernel
theorem dX12_begin_9 : decode cX12_begin 9 = .ok (.iload_n 2, 1) := by decide +kernel
theorem dX12_begin_10 : decode cX12_begin 10 = .ok (.iload_n 1, 1) := by decide +kernel
theorem dX12_begin_11 : decode cX12_begin 11 = .ok (.invokevirtual 279, 3) := by decide +kernel
theorem dX12_begin_14 : decode cX12_begin 14 = .ok (.istore 5, 2) := by decide +kernel
theorem dX12_begin_16 : decode cX12_begin 16 = .ok (.iload_n 3, 1) := by decide +kernel
theorem dX12_begin_17 : decode cX12_begin 17 = .ok (.iconst 2, 1) := by decide +kernel
theorem dX12_begin_18 : decode cX12_begin 18 = .ok (.if_icmp .ne 122, 3) := by decide +kernel
theorem dX12_begin_21 : decode cX12_begin 21 = .ok (.iconst 0, 1) := by decide +kernel
theorem dX12_begin_22 : decode cX12_begin 22 = .ok (.istore 6, 2) := by decide +kernel
theorem dX12_begin_24 : decode cX12_begin 24 = .ok (.iload 6, 2) := by decide +kernel
theorem dX12_begin_26 : decode cX12_begin 26 = .ok (.aload_n 0, 1) := by decide +kernel
theorem dX12_begin_27 : decode cX12_begin 27 = .ok (.getfield 111, 3) := by decide +kernel
theorem dX12_begin_30 : decode cX12_begin 30 = .ok (.if_icmp .ge 17, 3) := by decide +kernel
theorem dX12_begin_33 : decode cX12_begin 33 = .ok (.aload_n 0, 1) := by decide +kernel
theorem dX12_begin_34 : decode cX12_begin 34 = .ok (.getfield 72, 3) := by decide +kernel
theorem dX12_begin_37 : decode cX12_begin 37 = .ok (.iload 6, 2) := by decide +kernel
theorem dX12_begin_39 : decode cX12_begin 39 = .ok (.iconst 0, 1) := by decide +kernel
theorem dX12_begin_40 : decode cX12_begin 40 = .ok (.iastore, 1) := by decide +kernel
theorem dX12_begin_41 : decode cX12_begin 41 = .ok (.iinc 6 1, 3) := by decide +kernel
theorem dX12_begin_44 : decode cX12_begin 44 = .ok (.goto (-20), 3) := by decide +kernel
theorem dX12_begin_47 : decode cX12_begin 47 = .ok (.iconst 0, 1) := by decide +kernel
theorem dX12_begin_48 : decode cX12_begin 48 = .ok (.istore 6, 2) := by decide +kernel
theorem dX12_begin_50 : decode cX12_begin 50 = .ok (.iload 6, 2) := by decide +kernel
theorem dX12_begin_52 : decode cX12_begin 52 = .ok (.iload 4, 2) := by decide +kernel
theorem dX12_begin_54 : decode cX12_begin 54 = .ok (.if_icmp .ge 33, 3) := by decide +kernel
theorem dX12_begin_57 : decode cX12_begin 57 = .ok (.aload_n 0, 1) := by decide +kernel
theorem dX12_begin_58 : decode cX12_begin 58 = .ok (.iload_n 2, 1) := by decide +kernel
theorem dX12_begin_59 : decode cX12_begin 59 = .ok (.iload_n 1, 1) := by decide +kernel
theorem dX12_begin_60 : decode cX12_begin 60 = .ok (.invokevirtual 279, 3) := by decide +kernel
theorem dX12_begin_63 : decode cX12_begin 63 = .ok (.istore 7, 2) := by decide +kernel
theorem dX12_begin_65 : decode cX12_begin 65 = .ok (.iload 7, 2) := by decide +kernel
theorem dX12_begin_67 : decode cX12_begin 67 = .ok (.ifCond .lt 14, 3) := by decide +kernel
theorem dX12_begin_70 : decode cX12_begin 70 = .ok (.aload_n 0, 1) := by decide +kernel
theorem dX12_begin_71 : decode cX12_begin 71 = .ok (.getfield 72, 3) := by decide +kernel
theorem dX12_begin_74 : decode cX12_begin 74 = .ok (.iload 7, 2) := by decide +kernel
theorem dX12_begin_76 : decode cX12_begin 76 = .ok (.dup2, 1) := by decide +kernel
theorem dX12_begin_77 : decode cX12_begin 77 = .ok (.iaload, 1) := by decide +kernel
theorem dX12_begin_78 : decode cX12_begin 78 = .ok (.iconst 1, 1) := by decide +kernel
theorem dX12_begin_79 : decode cX12_begin 79 = .ok (.iadd, 1) := by decide +kernel
theorem dX12_begin_80 : decode cX12_begin 80 = .ok (.iastore, 1) := by decide +kernel
theorem dX12_begin_81 : decode cX12_begin 81 = .ok (.iinc 6 1, 3) := by decide +kernel
theorem dX12_begin_84 : decode cX12_begin 84 = .ok (.goto (-34), 3) := by decide +kernel
theorem dX12_begin_87 : decode cX12_begin 87 = .ok (.iconst 0, 1) := by decide +kernel
theorem dX12_begin_88 : decode cX12_begin 88 = .ok (.istore 6, 2) := by decide +kernel
theorem dX12_begin_90 : decode cX12_begin 90 = .ok (.iload 6, 2) := by decide +kernel
theorem dX12_begin_92 : decode cX12_begin 92 = .ok (.aload_n 0, 1) := by decide +kernel
theorem dX12_begin_93 : decode cX12_begin 93 = .ok (.getfield 111, 3) := by decide +kernel
theorem dX12_begin_96 : decode cX12_begin 96 = .ok (.if_icmp .ge 44, 3) := by decide +kernel
theorem dX12_begin_99 : decode cX12_begin 99 = .ok (.aload_n 0, 1) := by decide +kernel
theorem dX12_begin_100 : decode cX12_begin 100 = .ok (.getfield 72, 3) := by decide +kernel
theorem dX12_begin_103 : decode cX12_begin 103 = .ok (.iload 6, 2) := by decide +kernel
theorem dX12_begin_105 : decode cX12_begin 105 = .ok (.iaload, 1) := by decide +kernel
theorem dX12_begin_106 : decode cX12_begin 106 = .ok (.iload 5, 2) := by decide +kernel
theorem dX12_begin_108 : decode cX12_begin 108 = .ok (.ifCond .ge 7, 3) := by decide +kernel
theorem dX12_begin_111 : decode cX12_begin 111 = .ok (.iconst 0, 1) := by decide +kernel
theorem dX12_begin_112 : decode cX12_begin 112 = .ok (.goto 10, 3) := by decide +kernel
theorem dX12_begin_115 : decode cX12_begin 115 = .ok (.aload_n 0, 1) := by decide +kernel
theorem dX12_begin_116 : decode cX12_begin 116 = .ok (.getfield 72, 3) := by decide +kernel
theorem dX12_begin_119 : decode cX12_begin 119 = .ok (.iload 5, 2) := by decide +kernel
theorem dX12_begin_121 : decode cX12_begin 121 = .ok (.iaload, 1) := by decide +kernel
theorem dX12_begin_122 : decode cX12_begin 122 = .ok (.if_icmp .le 8, 3) := by decide +kernel
theorem dX12_begin_125 : decode cX12_begin 125 = .ok (.iload 6, 2) := by decide +kernel
theorem dX12_begin_127 : decode cX12_begin 127 = .ok (.goto 5, 3) := by decide +kernel
theorem dX12_begin_130 : decode cX12_begin 130 = .ok (.iload 5, 2) := by decide +kernel
theorem dX12_begin_132 : decode cX12_begin 132 = .ok (.istore 5, 2) := by decide +kernel
theorem dX12_begin_134 : decode cX12_begin 134 = .ok (.iinc 6 1, 3) := by decide +kernel
theorem dX12_begin_137 : decode cX12_begin 137 = .ok (.goto (-47), 3) := by decide +kernel
theorem dX12_begin_140 : decode cX12_begin 140 = .ok (.iload_n 3, 1) := by decide +kernel
theorem dX12_begin_141 : decode cX12_begin 141 = .ok (.iconst 5, 1) := by decide +kernel
theorem dX12_begin_142 : decode cX12_begin 142 = .ok (.if_icmp .ne 20, 3) := by decide +kernel
theorem dX12_begin_145 : decode cX12_begin 145 = .ok (.aload_n 0, 1) := by decide +kernel
theorem dX12_begin_146 : decode cX12_begin 146 = .ok (.iload 4, 2) := by decide +kernel
theorem dX12_begin_148 : decode cX12_begin 148 = .ok (.invokevirtual 184, 3) := by decide +kernel
theorem dX12_begin_151 : decode cX12_begin 151 = .ok (.ifCond .eq 8, 3) := by decide +kernel
theorem dX12_begin_154 : decode cX12_begin 154 = .ok (.iload 4, 2) := by decide +kernel
theorem dX12_begin_156 : decode cX12_begin 156 = .ok (.goto 4, 3) := by decide +kernel
theorem dX12_begin_159 : decode cX12_begin 159 = .ok (.iconst (-1), 1) := by decide +kernel
theorem dX12_begin_160 : decode cX12_begin 160 = .ok (.istore 5, 2) := by decide +kernel
theorem dX12_begin_162 : decode cX12_begin 162 = .ok (.iload 5, 2) := by decide +kernel
theorem dX12_begin_164 : decode cX12_begin 164 = .ok (.ifCond .lt 9, 3) := by decide +kernel
theorem dX12_begin_167 : decode cX12_begin 167 = .ok (.aload_n 0, 1) := by decide +kernel
theorem dX12_begin_168 : decode cX12_begin 168 = .ok (.iload 5, 2) := by decide +kernel
theorem dX12_begin_170 : decode cX12_begin 170 = .ok (.invokevirtual 282, 3) := by decide +kernel
theorem dX12_begin_173 : decode cX12_begin 173 = .ok (.return_, 1) := by decide +kernel
theorem dX12_doubts_0 : decode cX12_doubts 0 = .ok (.lconst 0, 1) := by decide +kernel
theorem dX12_doubts_1 : decode cX12_doubts 1 = .ok (.lstore_n 2, 1) := by decide +kernel
theorem dX12_doubts_2 : decode cX12_doubts 2 = .ok (.iconst 0, 1) := by decide +kernel
theorem dX12_doubts_3 : decode cX12_doubts 3 = .ok (.istore 4, 2) := by decide +kernel
theorem dX12_doubts_5 : decode cX12_doubts 5 = .ok (.iload 4, 2) := by decide +kernel
theorem dX12_doubts_7 : decode cX12_doubts 7 = .ok (.aload_n 0, 1) := by decide +kernel
theorem dX12_doubts_8 : decode cX12_doubts 8 = .ok (.getfield 111, 3) := by decide +kernel
theorem dX12_doubts_11 : decode cX12_doubts 11 = .ok (.if_icmp .ge 19, 3) := by decide +kernel
theorem dX12_doubts_14 : decode cX12_doubts 14 = .ok (.lload_n 2, 1) := by decide +kernel
theorem dX12_doubts_15 : decode cX12_doubts 15 = .ok (.aload_n 0, 1) := by decide +kernel
theorem dX12_doubts_16 : decode cX12_doubts 16 = .ok (.getfield 69, 3) := by decide +kernel
theorem dX12_doubts_19 : decode cX12_doubts 19 = .ok (.iload 4, 2) := by decide +kernel
theorem dX12_doubts_21 : decode cX12_doubts 21 = .ok (.laload, 1) := by decide +kernel
theorem dX12_doubts_22 : decode cX12_doubts 22 = .ok (.ladd, 1) := by decide +kernel
theorem dX12_doubts_23 : decode cX12_doubts 23 = .ok (.lstore_n 2, 1) := by decide +kernel
theorem dX12_doubts_24 : decode cX12_doubts 24 = .ok (.iinc 4 1, 3) := by decide +kernel
theorem dX12_doubts_27 : decode cX12_doubts 27 = .ok (.goto (-22), 3) := by decide +kernel
theorem dX12_doubts_30 : decode cX12_doubts 30 = .ok (.aload_n 0, 1) := by decide +kernel
theorem dX12_doubts_31 : decode cX12_doubts 31 = .ok (.getfield 69, 3) := by decide +kernel
theorem dX12_doubts_34 : decode cX12_doubts 34 = .ok (.aload_n 0, 1) := by decide +kernel
theorem dX12_doubts_35 : decode cX12_doubts 35 = .ok (.invokevirtual 233, 3) := by decide +kernel
theorem dX12_doubts_38 : decode cX12_doubts 38 = .ok (.laload, 1) := by decide +kernel
theorem dX12_doubts_39 : decode cX12_doubts 39 = .ok (.ldc2_w 156, 3) := by decide +kernel
theorem dX12_doubts_42 : decode cX12_doubts 42 = .ok (.lmul, 1) := by decide +kernel
theorem dX12_doubts_43 : decode cX12_doubts 43 = .ok (.iload_n 1, 1) := by decide +kernel
theorem dX12_doubts_44 : decode cX12_doubts 44 = .ok (.i2l, 1) := by decide +kernel
theorem dX12_doubts_45 : decode cX12_doubts 45 = .ok (.lload_n 2, 1) := by decide +kernel
theorem dX12_doubts_46 : decode cX12_doubts 46 = .ok (.lmul, 1) := by decide +kernel
theorem dX12_doubts_47 : decode cX12_doubts 47 = .ok (.lcmp, 1) := by decide +kernel
theorem dX12_doubts_48 : decode cX12_doubts 48 = .ok (.ifCond .ge 7, 3) := by decide +kernel
theorem dX12_doubts_51 : decode cX12_doubts 51 = .ok (.iconst 1, 1) := by decide +kernel
theorem dX12_doubts_52 : decode cX12_doubts 52 = .ok (.goto 4, 3) := by decide +kernel
theorem dX12_doubts_55 : decode cX12_doubts 55 = .ok (.iconst 0, 1) := by decide +kernel
theorem dX12_doubts_56 : decode cX12_doubts 56 = .ok (.ireturn, 1) := by decide +kernel
theorem dX12_hearOnWay_0 : decode cX12_hearOnWay 0 = .ok (.iconst 0, 1) := by decide +kernel
theorem dX12_hearOnWay_1 : decode cX12_hearOnWay 1 = .ok (.istore_n 3, 1) := by decide +kernel
theorem dX12_hearOnWay_2 : decode cX12_hearOnWay 2 = .ok (.iload_n 3, 1) := by decide +kernel
theorem dX12_hearOnWay_3 : decode cX12_hearOnWay 3 = .ok (.aload_n 0, 1) := by decide +kernel
theorem dX12_hearOnWay_4 : decode cX12_hearOnWay 4 = .ok (.getfield 111, 3) := by decide +kernel
theorem dX12_hearOnWay_7 : decode cX12_hearOnWay 7 = .ok (.if_icmp .ge 21, 3) := by decide +kernel
theorem dX12_hearOnWay_10 : decode cX12_hearOnWay 10 = .ok (.aload_n 0, 1) := by decide +kernel
theorem dX12_hearOnWay_11 : decode cX12_hearOnWay 11 = .ok (.getfield 75, 3) := by decide +kernel
theorem dX12_hearOnWay_14 : decode cX12_hearOnWay 14 = .ok (.iload_n 3, 1) := by decide +kernel
theorem dX12_hearOnWay_15 : decode cX12_hearOnWay 15 = .ok (.aload_n 0, 1) := by decide +kernel
theorem dX12_hearOnWay_16 : decode cX12_hearOnWay 16 = .ok (.getfield 69, 3) := by decide +kernel
theorem dX12_hearOnWay_19 : decode cX12_hearOnWay 19 = .ok (.iload_n 3, 1) := by decide +kernel
theorem dX12_hearOnWay_20 : decode cX12_hearOnWay 20 = .ok (.laload, 1) := by decide +kernel
theorem dX12_hearOnWay_21 : decode cX12_hearOnWay 21 = .ok (.lastore, 1) := by decide +kernel
theorem dX12_hearOnWay_22 : decode cX12_hearOnWay 22 = .ok (.iinc 3 1, 3) := by decide +kernel
theorem dX12_hearOnWay_25 : decode cX12_hearOnWay 25 = .ok (.goto (-23), 3) := by decide +kernel
theorem dX12_hearOnWay_28 : decode cX12_hearOnWay 28 = .ok (.aload_n 0, 1) := by decide +kernel
theorem dX12_hearOnWay_29 : decode cX12_hearOnWay 29 = .ok (.iload_n 1, 1) := by decide +kernel
theorem dX12_hearOnWay_30 : decode cX12_hearOnWay 30 = .ok (.iload_n 2, 1) := by decide +kernel
theorem dX12_hearOnWay_31 : decode cX12_hearOnWay 31 = .ok (.invokevirtual 242, 3) := by decide +kernel
theorem dX12_hearOnWay_34 : decode cX12_hearOnWay 34 = .ok (.aload_n 0, 1) := by decide +kernel
theorem dX12_hearOnWay_35 : decode cX12_hearOnWay 35 = .ok (.invokevirtual 229, 3) := by decide +kernel
theorem dX12_hearOnWay_38 : decode cX12_hearOnWay 38 = .ok (.ifCond .ne 31, 3) := by decide +kernel
theorem dX12_hearOnWay_41 : decode cX12_hearOnWay 41 = .ok (.iconst 0, 1) := by decide +kernel
theorem dX12_hearOnWay_42 : decode cX12_hearOnWay 42 = .ok (.istore_n 3, 1) := by decide +kernel
theorem dX12_hearOnWay_43 : decode cX12_hearOnWay 43 = .ok (.iload_n 3, 1) := by decide +kernel
theorem dX12_hearOnWay_44 : decode cX12_hearOnWay 44 = .ok (.aload_n 0, 1) := by decide +kernel
theorem dX12_hearOnWay_45 : decode cX12_hearOnWay 45 = .ok (.getfield 111, 3) := by decide +kernel
theorem dX12_hearOnWay_48 : decode cX12_hearOnWay 48 = .ok (.if_icmp .ge 21, 3) := by decide +kernel
theorem dX12_hearOnWay_51 : decode cX12_hearOnWay 51 = .ok (.aload_n 0, 1) := by decide +kernel
theorem dX12_hearOnWay_52 : decode cX12_hearOnWay 52 = .ok (.getfield 69, 3) := by decide +kernel
theorem dX12_hearOnWay_55 : decode cX12_hearOnWay 55 = .ok (.iload_n 3, 1) := by decide +kernel
theorem dX12_hearOnWay_56 : decode cX12_hearOnWay 56 = .ok (.aload_n 0, 1) := by decide +kernel
theorem dX12_hearOnWay_57 : decode cX12_hearOnWay 57 = .ok (.getfield 75, 3) := by decide +kernel
theorem dX12_hearOnWay_60 : decode cX12_hearOnWay 60 = .ok (.iload_n 3, 1) := by decide +kernel
theorem dX12_hearOnWay_61 : decode cX12_hearOnWay 61 = .ok (.laload, 1) := by decide +kernel
theorem dX12_hearOnWay_62 : decode cX12_hearOnWay 62 = .ok (.lastore, 1) := by decide +kernel
theorem dX12_hearOnWay_63 : decode cX12_hearOnWay 63 = .ok (.iinc 3 1, 3) := by decide +kernel
theorem dX12_hearOnWay_66 : decode cX12_hearOnWay 66 = .ok (.goto (-23), 3) := by decide +kernel
theorem dX12_hearOnWay_69 : decode cX12_hearOnWay 69 = .ok (.return_, 1) := by decide +kernel
theorem dX12_walkBy_0 : decode cX12_walkBy 0 = .ok (.aload_n 0, 1) := by decide +kernel
theorem dX12_walkBy_1 : decode cX12_walkBy 1 = .ok (.iconst 0, 1) := by decide +kernel
theorem dX12_walkBy_2 : decode cX12_walkBy 2 = .ok (.putfield 267, 3) := by decide +kernel
theorem dX12_walkBy_5 : decode cX12_walkBy 5 = .ok (.aload_n 0, 1) := by decide +kernel
theorem dX12_walkBy_6 : decode cX12_walkBy 6 = .ok (.iconst 0, 1) := by decide +kernel
theorem dX12_walkBy_7 : decode cX12_walkBy 7 = .ok (.putfield 270, 3) := by decide +kernel
theorem dX12_walkBy_10 : decode cX12_walkBy 10 = .ok (.aload_n 0, 1) := by decide +kernel
theorem dX12_walkBy_11 : decode cX12_walkBy 11 = .ok (.iconst 0, 1) := by decide +kernel
theorem dX12_walkBy_12 : decode cX12_walkBy 12 = .ok (.putfield 285, 3) := by decide +kernel
theorem dX12_walkBy_15 : decode cX12_walkBy 15 = .ok (.aload_n 0, 1) := by decide +kernel
theorem dX12_walkBy_16 : decode cX12_walkBy 16 = .ok (.iconst 0, 1) := by decide +kernel
theorem dX12_walkBy_17 : decode cX12_walkBy 17 = .ok (.putfield 288, 3) := by decide +kernel
theorem dX12_walkBy_20 : decode cX12_walkBy 20 = .ok (.aload_n 0, 1) := by decide +kernel
theorem dX12_walkBy_21 : decode cX12_walkBy 21 = .ok (.iload 5, 2) := by decide +kernel
theorem dX12_walkBy_23 : decode cX12_walkBy 23 = .ok (.putfield 273, 3) := by decide +kernel
theorem dX12_walkBy_26 : decode cX12_walkBy 26 = .ok (.iload_n 2, 1) := by decide +kernel
theorem dX12_walkBy_27 : decode cX12_walkBy 27 = .ok (.istore 6, 2) := by decide +kernel
theorem dX12_walkBy_29 : decode cX12_walkBy 29 = .ok (.iload_n 3, 1) := by decide +kernel
theorem dX12_walkBy_30 : decode cX12_walkBy 30 = .ok (.iconst 1, 1) := by decide +kernel
theorem dX12_walkBy_31 : decode cX12_walkBy 31 = .ok (.if_icmp .eq 13, 3) := by decide +kernel
theorem dX12_walkBy_34 : decode cX12_walkBy 34 = .ok (.iload_n 3, 1) := by decide +kernel
theorem dX12_walkBy_35 : decode cX12_walkBy 35 = .ok (.iconst 2, 1) := by decide +kernel
theorem dX12_walkBy_36 : decode cX12_walkBy 36 = .ok (.if_icmp .eq 8, 3) := by decide +kernel
theorem dX12_walkBy_39 : decode cX12_walkBy 39 = .ok (.iload_n 3, 1) := by decide +kernel
theorem dX12_walkBy_40 : decode cX12_walkBy 40 = .ok (.iconst 5, 1) := by decide +kernel
theorem dX12_walkBy_41 : decode cX12_walkBy 41 = .ok (.if_icmp .ne 7, 3) := by decide +kernel
theorem dX12_walkBy_44 : decode cX12_walkBy 44 = .ok (.iconst 1, 1) := by decide +kernel
theorem dX12_walkBy_45 : decode cX12_walkBy 45 = .ok (.goto 4, 3) := by decide +kernel
theorem dX12_walkBy_48 : decode cX12_walkBy 48 = .ok (.iconst 0, 1) := by decide +kernel
theorem dX12_walkBy_49 : decode cX12_walkBy 49 = .ok (.istore 7, 2) := by decide +kernel
theorem dX12_walkBy_51 : decode cX12_walkBy 51 = .ok (.iconst 1, 1) := by decide +kernel
theorem dX12_walkBy_52 : decode cX12_walkBy 52 = .ok (.istore 8, 2) := by decide +kernel
theorem dX12_walkBy_54 : decode cX12_walkBy 54 = .ok (.iload 6, 2) := by decide +kernel
theorem dX12_walkBy_56 : decode cX12_walkBy 56 = .ok (.aload_n 0, 1) := by decide +kernel
theorem dX12_walkBy_57 : decode cX12_walkBy 57 = .ok (.getfield 22, 3) := by decide +kernel
theorem dX12_walkBy_60 : decode cX12_walkBy 60 = .ok (.iload_n 1, 1) := by decide +kernel
theorem dX12_walkBy_61 : decode cX12_walkBy 61 = .ok (.iaload, 1) := by decide +kernel
theorem dX12_walkBy_62 : decode cX12_walkBy 62 = .ok (.if_icmp .eq 13, 3) := by decide +kernel
theorem dX12_walkBy_65 : decode cX12_walkBy 65 = .ok (.aload_n 0, 1) := by decide +kernel
theorem dX12_walkBy_66 : decode cX12_walkBy 66 = .ok (.iload_n 1, 1) := by decide +kernel
theorem dX12_walkBy_67 : decode cX12_walkBy 67 = .ok (.iload 6, 2) := by decide +kernel
theorem dX12_walkBy_69 : decode cX12_walkBy 69 = .ok (.iload_n 3, 1) := by decide +kernel
theorem dX12_walkBy_70 : decode cX12_walkBy 70 = .ok (.iload 4, 2) := by decide +kernel
theorem dX12_walkBy_72 : decode cX12_walkBy 72 = .ok (.invokevirtual 291, 3) := by decide +kernel
theorem dX12_walkBy_75 : decode cX12_walkBy 75 = .ok (.iconst 0, 1) := by decide +kernel
theorem dX12_walkBy_76 : decode cX12_walkBy 76 = .ok (.istore 9, 2) := by decide +kernel
theorem dX12_walkBy_78 : decode cX12_walkBy 78 = .ok (.iload 6, 2) := by decide +kernel
theorem dX12_walkBy_80 : decode cX12_walkBy 80 = .ok (.aload_n 0, 1) := by decide +kernel
theorem dX12_walkBy_81 : decode cX12_walkBy 81 = .ok (.getfield 22, 3) := by decide +kernel
theorem dX12_walkBy_84 : decode cX12_walkBy 84 = .ok (.iload_n 1, 1) := by decide +kernel
theorem dX12_walkBy_85 : decode cX12_walkBy 85 = .ok (.iaload, 1) := by decide +kernel
theorem dX12_walkBy_86 : decode cX12_walkBy 86 = .ok (.if_icmp .eq 322, 3) := by decide +kernel
theorem dX12_walkBy_89 : decode cX12_walkBy 89 = .ok (.aload_n 0, 1) := by decide +kernel
theorem dX12_walkBy_90 : decode cX12_walkBy 90 = .ok (.getfield 288, 3) := by decide +kernel
theorem dX12_walkBy_93 : decode cX12_walkBy 93 = .ok (.ifCond .ne 315, 3) := by decide +kernel
theorem dX12_walkBy_96 : decode cX12_walkBy 96 = .ok (.iload 8, 2) := by decide +kernel
theorem dX12_walkBy_98 : decode cX12_walkBy 98 = .ok (.ifCond .eq 35, 3) := by decide +kernel
theorem dX12_walkBy_101 : decode cX12_walkBy 101 = .ok (.iload_n 3, 1) := by decide +kernel
theorem dX12_walkBy_102 : decode cX12_walkBy 102 = .ok (.iconst 3, 1) := by decide +kernel
theorem dX12_walkBy_103 : decode cX12_walkBy 103 = .ok (.if_icmp .eq 17, 3) := by decide +kernel
theorem dX12_walkBy_106 : decode cX12_walkBy 106 = .ok (.iload_n 3, 1) := by decide +kernel
theorem dX12_walkBy_107 : decode cX12_walkBy 107 = .ok (.iconst 4, 1) := by decide +kernel
theorem dX12_walkBy_108 : decode cX12_walkBy 108 = .ok (.if_icmp .ne 25, 3) := by decide +kernel
theorem dX12_walkBy_111 : decode cX12_walkBy 111 = .ok (.aload_n 0, 1) := by decide +kernel
theorem dX12_walkBy_112 : decode cX12_walkBy 112 = .ok (.iload 4, 2) := by decide +kernel
theorem dX12_walkBy_114 : decode cX12_walkBy 114 = .ok (.invokevirtual 295, 3) := by decide +kernel
theorem dX12_walkBy_117 : decode cX12_walkBy 117 = .ok (.ifCond .eq 16, 3) := by decide +kernel
theorem dX12_walkBy_120 : decode cX12_walkBy 120 = .ok (.aload_n 0, 1) := by decide +kernel
theorem dX12_walkBy_121 : decode cX12_walkBy 121 = .ok (.iload 6, 2) := by decide +kernel
theorem dX12_walkBy_123 : decode cX12_walkBy 123 = .ok (.aload_n 0, 1) := by decide +kernel
theorem dX12_walkBy_124 : decode cX12_walkBy 124 = .ok (.iload 6, 2) := by decide +kernel
theorem dX12_walkBy_126 : decode cX12_walkBy 126 = .ok (.iload_n 1, 1) := by decide +kernel
theorem dX12_walkBy_127 : decode cX12_walkBy 127 = .ok (.invokevirtual 279, 3) := by decide +kernel
theorem dX12_walkBy_130 : decode cX12_walkBy 130 = .ok (.invokevirtual 298, 3) := by decide +kernel
theorem dX12_walkBy_133 : decode cX12_walkBy 133 = .ok (.iconst 0, 1) := by decide +kernel
theorem dX12_walkBy_134 : decode cX12_walkBy 134 = .ok (.istore 8, 2) := by decide +kernel
theorem dX12_walkBy_136 : decode cX12_walkBy 136 = .ok (.aload_n 0, 1) := by decide +kernel
theorem dX12_walkBy_137 : decode cX12_walkBy 137 = .ok (.aload_n 0, 1) := by decide +kernel
theorem dX12_walkBy_138 : decode cX12_walkBy 138 = .ok (.getfield 288, 3) := by decide +kernel
theorem dX12_walkBy_141 : decode cX12_walkBy 141 = .ok (.ifCond .ne 11, 3) := by decide +kernel
theorem dX12_walkBy_144 : decode cX12_walkBy 144 = .ok (.iload 9, 2) := by decide +kernel
theorem dX12_walkBy_146 : decode cX12_walkBy 146 = .ok (.sipush 200, 3) := by decide +kernel
theorem dX12_walkBy_149 : decode cX12_walkBy 149 = .ok (.if_icmp .ne 7, 3) := by decide +kernel
theorem dX12_walkBy_152 : decode cX12_walkBy 152 = .ok (.iconst 1, 1) := by decide +kernel
theorem dX12_walkBy_153 : decode cX12_walkBy 153 = .ok (.goto 4, 3) := by decide +kernel
theorem dX12_walkBy_156 : decode cX12_walkBy 156 = .ok (.iconst 0, 1) := by decide +kernel
theorem dX12_walkBy_157 : decode cX12_walkBy 157 = .ok (.putfield 288, 3) := by decide +kernel
theorem dX12_walkBy_160 : decode cX12_walkBy 160 = .ok (.aload_n 0, 1) := by decide +kernel
theorem dX12_walkBy_161 : decode cX12_walkBy 161 = .ok (.getfield 288, 3) := by decide +kernel
theorem dX12_walkBy_164 : decode cX12_walkBy 164 = .ok (.ifCond .ne (-86), 3) := by decide +kernel
theorem dX12_walkBy_167 : decode cX12_walkBy 167 = .ok (.aload_n 0, 1) := by decide +kernel
theorem dX12_walkBy_168 : decode cX12_walkBy 168 = .ok (.invokevirtual 233, 3) := by decide +kernel
theorem dX12_walkBy_171 : decode cX12_walkBy 171 = .ok (.istore 10, 2) := by decide +kernel
theorem dX12_walkBy_173 : decode cX12_walkBy 173 = .ok (.aload_n 0, 1) := by decide +kernel
theorem dX12_walkBy_174 : decode cX12_walkBy 174 = .ok (.getfield 22, 3) := by decide +kernel
theorem dX12_walkBy_177 : decode cX12_walkBy 177 = .ok (.iload 10, 2) := by decide +kernel
theorem dX12_walkBy_179 : decode cX12_walkBy 179 = .ok (.iaload, 1) := by decide +kernel
theorem dX12_walkBy_180 : decode cX12_walkBy 180 = .ok (.iload 6, 2) := by decide +kernel
theorem dX12_walkBy_182 : decode cX12_walkBy 182 = .ok (.if_icmp .ne 8, 3) := by decide +kernel
theorem dX12_walkBy_185 : decode cX12_walkBy 185 = .ok (.bipush (-4), 2) := by decide +kernel
theorem dX12_walkBy_187 : decode cX12_walkBy 187 = .ok (.goto 11, 3) := by decide +kernel
theorem dX12_walkBy_190 : decode cX12_walkBy 190 = .ok (.aload_n 0, 1) := by decide +kernel
theorem dX12_walkBy_191 : decode cX12_walkBy 191 = .ok (.iload 10, 2) := by decide +kernel
theorem dX12_walkBy_193 : decode cX12_walkBy 193 = .ok (.iload 6, 2) := by decide +kernel
theorem dX12_walkBy_195 : decode cX12_walkBy 195 = .ok (.invokevirtual 208, 3) := by decide +kernel
theorem dX12_walkBy_198 : decode cX12_walkBy 198 = .ok (.istore 11, 2) := by decide +kernel
theorem dX12_walkBy_200 : decode cX12_walkBy 200 = .ok (.aload_n 0, 1) := by decide +kernel
theorem dX12_walkBy_201 : decode cX12_walkBy 201 = .ok (.getfield 22, 3) := by decide +kernel
theorem dX12_walkBy_204 : decode cX12_walkBy 204 = .ok (.iload 10, 2) := by decide +kernel
theorem dX12_walkBy_206 : decode cX12_walkBy 206 = .ok (.iaload, 1) := by decide +kernel
theorem dX12_walkBy_207 : decode cX12_walkBy 207 = .ok (.iload 6, 2) := by decide +kernel
theorem dX12_walkBy_209 : decode cX12_walkBy 209 = .ok (.if_icmp .ne 54, 3) := by decide +kernel
theorem dX12_walkBy_212 : decode cX12_walkBy 212 = .ok (.iconst 0, 1) := by decide +kernel
theorem dX12_walkBy_213 : decode cX12_walkBy 213 = .ok (.istore 12, 2) := by decide +kernel
theorem dX12_walkBy_215 : decode cX12_walkBy 215 = .ok (.iload 12, 2) := by decide +kernel
theorem dX12_walkBy_217 : decode cX12_walkBy 217 = .ok (.aload_n 0, 1) := by decide +kernel
theorem dX12_walkBy_218 : decode cX12_walkBy 218 = .ok (.getfield 111, 3) := by decide +kernel
theorem dX12_walkBy_221 : decode cX12_walkBy 221 = .ok (.if_icmp .ge 39, 3) := by decide +kernel
theorem dX12_walkBy_224 : decode cX12_walkBy 224 = .ok (.aload_n 0, 1) := by decide +kernel
theorem dX12_walkBy_225 : decode cX12_walkBy 225 = .ok (.getfield 69, 3) := by decide +kernel
theorem dX12_walkBy_228 : decode cX12_walkBy 228 = .ok (.iload 12, 2) := by decide +kernel
theorem dX12_walkBy_230 : decode cX12_walkBy 230 = .ok (.aload_n 0, 1) := by decide +kernel
theorem dX12_walkBy_231 : decode cX12_walkBy 231 = .ok (.getfield 22, 3) := by decide +kernel
theorem dX12_walkBy_234 : decode cX12_walkBy 234 = .ok (.iload 12, 2) := by decide +kernel
theorem dX12_walkBy_236 : decode cX12_walkBy 236 = .ok (.iaload, 1) := by decide +kernel
theorem dX12_walkBy_237 : decode cX12_walkBy 237 = .ok (.iload 6, 2) := by decide +kernel
theorem dX12_walkBy_239 : decode cX12_walkBy 239 = .ok (.if_icmp .ne 7, 3) := by decide +kernel
theorem dX12_walkBy_242 : decode cX12_walkBy 242 = .ok (.lconst 0, 1) := by decide +kernel
theorem dX12_walkBy_243 : decode cX12_walkBy 243 = .ok (.goto 10, 3) := by decide +kernel
theorem dX12_walkBy_246 : decode cX12_walkBy 246 = .ok (.aload_n 0, 1) := by decide +kernel
theorem dX12_walkBy_247 : decode cX12_walkBy 247 = .ok (.getfield 69, 3) := by decide +kernel
theorem dX12_walkBy_250 : decode cX12_walkBy 250 = .ok (.iload 12, 2) := by decide +kernel
theorem dX12_walkBy_252 : decode cX12_walkBy 252 = .ok (.laload, 1) := by decide +kernel
theorem dX12_walkBy_253 : decode cX12_walkBy 253 = .ok (.lastore, 1) := by decide +kernel
theorem dX12_walkBy_254 : decode cX12_walkBy 254 = .ok (.iinc 12 1, 3) := by decide +kernel
theorem dX12_walkBy_257 : decode cX12_walkBy 257 = .ok (.goto (-42), 3) := by decide +kernel
theorem dX12_walkBy_260 : decode cX12_walkBy 260 = .ok (.goto 85, 3) := by decide +kernel
theorem dX12_walkBy_263 : decode cX12_walkBy 263 = .ok (.iload 11, 2) := by decide +kernel
theorem dX12_walkBy_265 : decode cX12_walkBy 265 = .ok (.ifCond .ge 14, 3) := by decide +kernel
theorem dX12_walkBy_268 : decode cX12_walkBy 268 = .ok (.aload_n 0, 1) := by decide +kernel
theorem dX12_walkBy_269 : decode cX12_walkBy 269 = .ok (.getfield 69, 3) := by decide +kernel
theorem dX12_walkBy_272 : decode cX12_walkBy 272 = .ok (.iload 10, 2) := by decide +kernel
theorem dX12_walkBy_274 : decode cX12_walkBy 274 = .ok (.lconst 0, 1) := by decide +kernel
theorem dX12_walkBy_275 : decode cX12_walkBy 275 = .ok (.lastore, 1) := by decide +kernel
theorem dX12_walkBy_276 : decode cX12_walkBy 276 = .ok (.goto 69, 3) := by decide +kernel
theorem dX12_walkBy_279 : decode cX12_walkBy 279 = .ok (.aload_n 0, 1) := by decide +kernel
theorem dX12_walkBy_280 : decode cX12_walkBy 280 = .ok (.iload_n 1, 1) := by decide +kernel
theorem dX12_walkBy_281 : decode cX12_walkBy 281 = .ok (.iload 11, 2) := by decide +kernel
theorem dX12_walkBy_283 : decode cX12_walkBy 283 = .ok (.invokevirtual 193, 3) := by decide +kernel
theorem dX12_walkBy_286 : decode cX12_walkBy 286 = .ok (.ifCond .eq 13, 3) := by decide +kernel
theorem dX12_walkBy_289 : decode cX12_walkBy 289 = .ok (.aload_n 0, 1) := by decide +kernel
theorem dX12_walkBy_290 : decode cX12_walkBy 290 = .ok (.iload 11, 2) := by decide +kernel
theorem dX12_walkBy_292 : decode cX12_walkBy 292 = .ok (.iconst 0, 1) := by decide +kernel
theorem dX12_walkBy_293 : decode cX12_walkBy 293 = .ok (.invokevirtual 249, 3) := by decide +kernel
theorem dX12_walkBy_296 : decode cX12_walkBy 296 = .ok (.goto 49, 3) := by decide +kernel
theorem dX12_walkBy_299 : decode cX12_walkBy 299 = .ok (.aload_n 0, 1) := by decide +kernel
theorem dX12_walkBy_300 : decode cX12_walkBy 300 = .ok (.dup, 1) := by decide +kernel
theorem dX12_walkBy_301 : decode cX12_walkBy 301 = .ok (.getfield 267, 3) := by decide +kernel
theorem dX12_walkBy_304 : decode cX12_walkBy 304 = .ok (.aload_n 0, 1) := by decide +kernel
theorem dX12_walkBy_305 : decode cX12_walkBy 305 = .ok (.getfield 16, 3) := by decide +kernel
theorem dX12_walkBy_308 : decode cX12_walkBy 308 = .ok (.iload 11, 2) := by decide +kernel
theorem dX12_walkBy_310 : decode cX12_walkBy 310 = .ok (.iaload, 1) := by decide +kernel
theorem dX12_walkBy_311 : decode cX12_walkBy 311 = .ok (.iadd, 1) := by decide +kernel
theorem dX12_walkBy_312 : decode cX12_walkBy 312 = .ok (.putfield 267, 3) := by decide +kernel
theorem dX12_walkBy_315 : decode cX12_walkBy 315 = .ok (.aload_n 0, 1) := by decide +kernel
theorem dX12_walkBy_316 : decode cX12_walkBy 316 = .ok (.iload 11, 2) := by decide +kernel
theorem dX12_walkBy_318 : decode cX12_walkBy 318 = .ok (.iload 6, 2) := by decide +kernel
theorem dX12_walkBy_320 : decode cX12_walkBy 320 = .ok (.invokevirtual 201, 3) := by decide +kernel
theorem dX12_walkBy_323 : decode cX12_walkBy 323 = .ok (.istore 6, 2) := by decide +kernel
theorem dX12_walkBy_325 : decode cX12_walkBy 325 = .ok (.aload_n 0, 1) := by decide +kernel
theorem dX12_walkBy_326 : decode cX12_walkBy 326 = .ok (.dup, 1) := by decide +kernel
theorem dX12_walkBy_327 : decode cX12_walkBy 327 = .ok (.getfield 285, 3) := by decide +kernel
theorem dX12_walkBy_330 : decode cX12_walkBy 330 = .ok (.iconst 1, 1) := by decide +kernel
theorem dX12_walkBy_331 : decode cX12_walkBy 331 = .ok (.iadd, 1) := by decide +kernel
theorem dX12_walkBy_332 : decode cX12_walkBy 332 = .ok (.putfield 285, 3) := by decide +kernel
theorem dX12_walkBy_335 : decode cX12_walkBy 335 = .ok (.iconst 1, 1) := by decide +kernel
theorem dX12_walkBy_336 : decode cX12_walkBy 336 = .ok (.istore 8, 2) := by decide +kernel
theorem dX12_walkBy_338 : decode cX12_walkBy 338 = .ok (.aload_n 0, 1) := by decide +kernel
theorem dX12_walkBy_339 : decode cX12_walkBy 339 = .ok (.iload 11, 2) := by decide +kernel
theorem dX12_walkBy_341 : decode cX12_walkBy 341 = .ok (.iconst 1, 1) := by decide +kernel
theorem dX12_walkBy_342 : decode cX12_walkBy 342 = .ok (.invokevirtual 249, 3) := by decide +kernel
theorem dX12_walkBy_345 : decode cX12_walkBy 345 = .ok (.iinc 9 1, 3) := by decide +kernel
theorem dX12_walkBy_348 : decode cX12_walkBy 348 = .ok (.aload_n 0, 1) := by decide +kernel
theorem dX12_walkBy_349 : decode cX12_walkBy 349 = .ok (.invokevirtual 229, 3) := by decide +kernel
theorem dX12_walkBy_352 : decode cX12_walkBy 352 = .ok (.ifCond .ne 53, 3) := by decide +kernel
theorem dX12_walkBy_355 : decode cX12_walkBy 355 = .ok (.aload_n 0, 1) := by decide +kernel
theorem dX12_walkBy_356 : decode cX12_walkBy 356 = .ok (.iload 7, 2) := by decide +kernel
theorem dX12_walkBy_358 : decode cX12_walkBy 358 = .ok (.ifCond .ne 7, 3) := by decide +kernel
theorem dX12_walkBy_361 : decode cX12_walkBy 361 = .ok (.iconst 1, 1) := by decide +kernel
theorem dX12_walkBy_362 : decode cX12_walkBy 362 = .ok (.goto 4, 3) := by decide +kernel
theorem dX12_walkBy_365 : decode cX12_walkBy 365 = .ok (.iconst 0, 1) := by decide +kernel
theorem dX12_walkBy_366 : decode cX12_walkBy 366 = .ok (.putfield 288, 3) := by decide +kernel
theorem dX12_walkBy_369 : decode cX12_walkBy 369 = .ok (.iinc 7 (-1), 3) := by decide +kernel
theorem dX12_walkBy_372 : decode cX12_walkBy 372 = .ok (.iconst 0, 1) := by decide +kernel
theorem dX12_walkBy_373 : decode cX12_walkBy 373 = .ok (.istore 12, 2) := by decide +kernel
theorem dX12_walkBy_375 : decode cX12_walkBy 375 = .ok (.iload 12, 2) := by decide +kernel
theorem dX12_walkBy_377 : decode cX12_walkBy 377 = .ok (.aload_n 0, 1) := by decide +kernel
theorem dX12_walkBy_378 : decode cX12_walkBy 378 = .ok (.getfield 111, 3) := by decide +kernel
theorem dX12_walkBy_381 : decode cX12_walkBy 381 = .ok (.if_icmp .ge 24, 3) := by decide +kernel
theorem dX12_walkBy_384 : decode cX12_walkBy 384 = .ok (.aload_n 0, 1) := by decide +kernel
theorem dX12_walkBy_385 : decode cX12_walkBy 385 = .ok (.getfield 69, 3) := by decide +kernel
theorem dX12_walkBy_388 : decode cX12_walkBy 388 = .ok (.iload 12, 2) := by decide +kernel
theorem dX12_walkBy_390 : decode cX12_walkBy 390 = .ok (.aload_n 0, 1) := by decide +kernel
theorem dX12_walkBy_391 : decode cX12_walkBy 391 = .ok (.getfield 19, 3) := by decide +kernel
theorem dX12_walkBy_394 : decode cX12_walkBy 394 = .ok (.iload 12, 2) := by decide +kernel
theorem dX12_walkBy_396 : decode cX12_walkBy 396 = .ok (.iaload, 1) := by decide +kernel
theorem dX12_walkBy_397 : decode cX12_walkBy 397 = .ok (.i2l, 1) := by decide +kernel
theorem dX12_walkBy_398 : decode cX12_walkBy 398 = .ok (.lastore, 1) := by decide +kernel
theorem dX12_walkBy_399 : decode cX12_walkBy 399 = .ok (.iinc 12 1, 3) := by decide +kernel
theorem dX12_walkBy_402 : decode cX12_walkBy 402 = .ok (.goto (-27), 3) := by decide +kernel
theorem dX12_walkBy_405 : decode cX12_walkBy 405 = .ok (.goto (-327), 3) := by decide +kernel
theorem dX12_walkBy_408 : decode cX12_walkBy 408 = .ok (.return_, 1) := by decide +kernel
theorem dX12_walk_0 : decode cX12_walk 0 = .ok (.aload_n 0, 1) := by decide +kernel
theorem dX12_walk_1 : decode cX12_walk 1 = .ok (.iconst 0, 1) := by decide +kernel
theorem dX12_walk_2 : decode cX12_walk 2 = .ok (.putfield 102, 3) := by decide +kernel
theorem dX12_walk_5 : decode cX12_walk 5 = .ok (.aload_n 0, 1) := by decide +kernel
theorem dX12_walk_6 : decode cX12_walk 6 = .ok (.iload_n 1, 1) := by decide +kernel
theorem dX12_walk_7 : decode cX12_walk 7 = .ok (.invokevirtual 184, 3) := by decide +kernel
theorem dX12_walk_10 : decode cX12_walk 10 = .ok (.ifCond .eq 11, 3) := by decide +kernel
theorem dX12_walk_13 : decode cX12_walk 13 = .ok (.aload_n 0, 1) := by decide +kernel
theorem dX12_walk_14 : decode cX12_walk 14 = .ok (.iload_n 2, 1) := by decide +kernel
theorem dX12_walk_15 : decode cX12_walk 15 = .ok (.invokevirtual 187, 3) := by decide +kernel
theorem dX12_walk_18 : decode cX12_walk 18 = .ok (.ifCond .ne 5, 3) := by decide +kernel
theorem dX12_walk_21 : decode cX12_walk 21 = .ok (.iconst (-1), 1) := by decide +kernel
theorem dX12_walk_22 : decode cX12_walk 22 = .ok (.ireturn, 1) := by decide +kernel
theorem dX12_walk_23 : decode cX12_walk 23 = .ok (.aload_n 0, 1) := by decide +kernel
theorem dX12_walk_24 : decode cX12_walk 24 = .ok (.invokevirtual 236, 3) := by decide +kernel
theorem dX12_walk_27 : decode cX12_walk 27 = .ok (.ifCond .ne 6, 3) := by decide +kernel
theorem dX12_walk_30 : decode cX12_walk 30 = .ok (.bipush (-3), 2) := by decide +kernel
theorem dX12_walk_32 : decode cX12_walk 32 = .ok (.ireturn, 1) := by decide +kernel
theorem dX12_walk_33 : decode cX12_walk 33 = .ok (.aload_n 0, 1) := by decide +kernel
theorem dX12_walk_34 : decode cX12_walk 34 = .ok (.invokevirtual 205, 3) := by decide +kernel
theorem dX12_walk_37 : decode cX12_walk 37 = .ok (.aload_n 0, 1) := by decide +kernel
theorem dX12_walk_38 : decode cX12_walk 38 = .ok (.invokevirtual 239, 3) := by decide +kernel
theorem dX12_walk_41 : decode cX12_walk 41 = .ok (.aload_n 0, 1) := by decide +kernel
theorem dX12_walk_42 : decode cX12_walk 42 = .ok (.iload_n 1, 1) := by decide +kernel
theorem dX12_walk_43 : decode cX12_walk 43 = .ok (.iload_n 2, 1) := by decide +kernel
theorem dX12_walk_44 : decode cX12_walk 44 = .ok (.iconst (-1), 1) := by decide +kernel
theorem dX12_walk_45 : decode cX12_walk 45 = .ok (.iconst 0, 1) := by decide +kernel
theorem dX12_walk_46 : decode cX12_walk 46 = .ok (.iconst 0, 1) := by decide +kernel
theorem dX12_walk_47 : decode cX12_walk 47 = .ok (.invokevirtual 301, 3) := by decide +kernel
theorem dX12_walk_50 : decode cX12_walk 50 = .ok (.aload_n 0, 1) := by decide +kernel
theorem dX12_walk_51 : decode cX12_walk 51 = .ok (.getfield 288, 3) := by decide +kernel
theorem dX12_walk_54 : decode cX12_walk 54 = .ok (.ifCond .eq 8, 3) := by decide +kernel
theorem dX12_walk_57 : decode cX12_walk 57 = .ok (.ldc 192, 2) := by decide +kernel
theorem dX12_walk_59 : decode cX12_walk 59 = .ok (.goto 7, 3) := by decide +kernel
theorem dX12_walk_62 : decode cX12_walk 62 = .ok (.aload_n 0, 1) := by decide +kernel
theorem dX12_walk_63 : decode cX12_walk 63 = .ok (.getfield 267, 3) := by decide +kernel
theorem dX12_walk_66 : decode cX12_walk 66 = .ok (.ireturn, 1) := by decide +kernel
theorem dX12_worthBy_0 : decode cX12_worthBy 0 = .ok (.lconst 0, 1) := by decide +kernel
theorem dX12_worthBy_1 : decode cX12_worthBy 1 = .ok (.lstore_n 3, 1) := by decide +kernel
theorem dX12_worthBy_2 : decode cX12_worthBy 2 = .ok (.iconst 0, 1) := by decide +kernel
theorem dX12_worthBy_3 : decode cX12_worthBy 3 = .ok (.istore 5, 2) := by decide +kernel
theorem dX12_worthBy_5 : decode cX12_worthBy 5 = .ok (.iload 5, 2) := by decide +kernel
theorem dX12_worthBy_7 : decode cX12_worthBy 7 = .ok (.aload_n 0, 1) := by decide +kernel
theorem dX12_worthBy_8 : decode cX12_worthBy 8 = .ok (.getfield 111, 3) := by decide +kernel
theorem dX12_worthBy_11 : decode cX12_worthBy 11 = .ok (.if_icmp .ge 172, 3) := by decide +kernel
theorem dX12_worthBy_14 : decode cX12_worthBy 14 = .ok (.aload_n 0, 1) := by decide +kernel
theorem dX12_worthBy_15 : decode cX12_worthBy 15 = .ok (.getfield 41, 3) := by decide +kernel
theorem dX12_worthBy_18 : decode cX12_worthBy 18 = .ok (.iload 5, 2) := by decide +kernel
theorem dX12_worthBy_20 : decode cX12_worthBy 20 = .ok (.laload, 1) := by decide +kernel
theorem dX12_worthBy_21 : decode cX12_worthBy 21 = .ok (.lconst 0, 1) := by decide +kernel
theorem dX12_worthBy_22 : decode cX12_worthBy 22 = .ok (.lcmp, 1) := by decide +kernel
theorem dX12_worthBy_23 : decode cX12_worthBy 23 = .ok (.ifCond .le 154, 3) := by decide +kernel
theorem dX12_worthBy_26 : decode cX12_worthBy 26 = .ok (.aload_n 0, 1) := by decide +kernel
theorem dX12_worthBy_27 : decode cX12_worthBy 27 = .ok (.invokevirtual 239, 3) := by decide +kernel
theorem dX12_worthBy_30 : decode cX12_worthBy 30 = .ok (.aload_n 0, 1) := by decide +kernel
theorem dX12_worthBy_31 : decode cX12_worthBy 31 = .ok (.iload 5, 2) := by decide +kernel
theorem dX12_worthBy_33 : decode cX12_worthBy 33 = .ok (.iload_n 1, 1) := by decide +kernel
theorem dX12_worthBy_34 : decode cX12_worthBy 34 = .ok (.iconst (-1), 1) := by decide +kernel
theorem dX12_worthBy_35 : decode cX12_worthBy 35 = .ok (.iconst 0, 1) := by decide +kernel
theorem dX12_worthBy_36 : decode cX12_worthBy 36 = .ok (.iconst 0, 1) := by decide +kernel
theorem dX12_worthBy_37 : decode cX12_worthBy 37 = .ok (.invokevirtual 301, 3) := by decide +kernel
theorem dX12_worthBy_40 : decode cX12_worthBy 40 = .ok (.ldc2_w 156, 3) := by decide +kernel
theorem dX12_worthBy_43 : decode cX12_worthBy 43 = .ok (.aload_n 0, 1) := by decide +kernel
theorem dX12_worthBy_44 : decode cX12_worthBy 44 = .ok (.getfield 288, 3) := by decide +kernel
theorem dX12_worthBy_47 : decode cX12_worthBy 47 = .ok (.ifCond .eq 9, 3) := by decide +kernel
theorem dX12_worthBy_50 : decode cX12_worthBy 50 = .ok (.sipush 999, 3) := by decide +kernel
theorem dX12_worthBy_53 : decode cX12_worthBy 53 = .ok (.goto 7, 3) := by decide +kernel
theorem dX12_worthBy_56 : decode cX12_worthBy 56 = .ok (.aload_n 0, 1) := by decide +kernel
theorem dX12_worthBy_57 : decode cX12_worthBy 57 = .ok (.getfield 267, 3) := by decide +kernel
theorem dX12_worthBy_60 : decode cX12_worthBy 60 = .ok (.i2l, 1) := by decide +kernel
theorem dX12_worthBy_61 : decode cX12_worthBy 61 = .ok (.lmul, 1) := by decide +kernel
theorem dX12_worthBy_62 : decode cX12_worthBy 62 = .ok (.ldc2_w 156, 3) := by decide +kernel
theorem dX12_worthBy_65 : decode cX12_worthBy 65 = .ok (.iload_n 2, 1) := by decide +kernel
theorem dX12_worthBy_66 : decode cX12_worthBy 66 = .ok (.i2l, 1) := by decide +kernel
theorem dX12_worthBy_67 : decode cX12_worthBy 67 = .ok (.lmul, 1) := by decide +kernel
theorem dX12_worthBy_68 : decode cX12_worthBy 68 = .ok (.lsub, 1) := by decide +kernel
theorem dX12_worthBy_69 : decode cX12_worthBy 69 = .ok (.lstore 6, 2) := by decide +kernel
theorem dX12_worthBy_71 : decode cX12_worthBy 71 = .ok (.iconst (-1), 1) := by decide +kernel
theorem dX12_worthBy_72 : decode cX12_worthBy 72 = .ok (.istore 8, 2) := by decide +kernel
theorem dX12_worthBy_74 : decode cX12_worthBy 74 = .ok (.iload 8, 2) := by decide +kernel
theorem dX12_worthBy_76 : decode cX12_worthBy 76 = .ok (.aload_n 0, 1) := by decide +kernel
theorem dX12_worthBy_77 : decode cX12_worthBy 77 = .ok (.getfield 111, 3) := by decide +kernel
theorem dX12_worthBy_80 : decode cX12_worthBy 80 = .ok (.if_icmp .ge 84, 3) := by decide +kernel
theorem dX12_worthBy_83 : decode cX12_worthBy 83 = .ok (.aload_n 0, 1) := by decide +kernel
theorem dX12_worthBy_84 : decode cX12_worthBy 84 = .ok (.iload_n 1, 1) := by decide +kernel
theorem dX12_worthBy_85 : decode cX12_worthBy 85 = .ok (.iload 8, 2) := by decide +kernel
theorem dX12_worthBy_87 : decode cX12_worthBy 87 = .ok (.iload 5, 2) := by decide +kernel
theorem dX12_worthBy_89 : decode cX12_worthBy 89 = .ok (.invokevirtual 220, 3) := by decide +kernel
theorem dX12_worthBy_92 : decode cX12_worthBy 92 = .ok (.istore 9, 2) := by decide +kernel
theorem dX12_worthBy_94 : decode cX12_worthBy 94 = .ok (.iload 9, 2) := by decide +kernel
theorem dX12_worthBy_96 : decode cX12_worthBy 96 = .ok (.ifCond .le 62, 3) := by decide +kernel
theorem dX12_worthBy_99 : decode cX12_worthBy 99 = .ok (.aload_n 0, 1) := by decide +kernel
theorem dX12_worthBy_100 : decode cX12_worthBy 100 = .ok (.invokevirtual 239, 3) := by decide +kernel
theorem dX12_worthBy_103 : decode cX12_worthBy 103 = .ok (.aload_n 0, 1) := by decide +kernel
theorem dX12_worthBy_104 : decode cX12_worthBy 104 = .ok (.iload_n 1, 1) := by decide +kernel
theorem dX12_worthBy_105 : decode cX12_worthBy 105 = .ok (.iload 8, 2) := by decide +kernel
theorem dX12_worthBy_107 : decode cX12_worthBy 107 = .ok (.invokevirtual 242, 3) := by decide +kernel
theorem dX12_worthBy_110 : decode cX12_worthBy 110 = .ok (.aload_n 0, 1) := by decide +kernel
theorem dX12_worthBy_111 : decode cX12_worthBy 111 = .ok (.invokevirtual 229, 3) := by decide +kernel
theorem dX12_worthBy_114 : decode cX12_worthBy 114 = .ok (.istore 10, 2) := by decide +kernel
theorem dX12_worthBy_116 : decode cX12_worthBy 116 = .ok (.aload_n 0, 1) := by decide +kernel
theorem dX12_worthBy_117 : decode cX12_worthBy 117 = .ok (.iload 5, 2) := by decide +kernel
theorem dX12_worthBy_119 : decode cX12_worthBy 119 = .ok (.iload_n 1, 1) := by decide +kernel
theorem dX12_worthBy_120 : decode cX12_worthBy 120 = .ok (.iconst (-1), 1) := by decide +kernel
theorem dX12_worthBy_121 : decode cX12_worthBy 121 = .ok (.iconst 0, 1) := by decide +kernel
theorem dX12_worthBy_122 : decode cX12_worthBy 122 = .ok (.iconst 0, 1) := by decide +kernel
theorem dX12_worthBy_123 : decode cX12_worthBy 123 = .ok (.invokevirtual 301, 3) := by decide +kernel
theorem dX12_worthBy_126 : decode cX12_worthBy 126 = .ok (.lload 6, 2) := by decide +kernel
theorem dX12_worthBy_128 : decode cX12_worthBy 128 = .ok (.iload 9, 2) := by decide +kernel
theorem dX12_worthBy_130 : decode cX12_worthBy 130 = .ok (.i2l, 1) := by decide +kernel
theorem dX12_worthBy_131 : decode cX12_worthBy 131 = .ok (.aload_n 0, 1) := by decide +kernel
theorem dX12_worthBy_132 : decode cX12_worthBy 132 = .ok (.getfield 288, 3) := by decide +kernel
theorem dX12_worthBy_135 : decode cX12_worthBy 135 = .ok (.ifCond .ne 8, 3) := by decide +kernel
theorem dX12_worthBy_138 : decode cX12_worthBy 138 = .ok (.iload 10, 2) := by decide +kernel
theorem dX12_worthBy_140 : decode cX12_worthBy 140 = .ok (.ifCond .ne 9, 3) := by decide +kernel
theorem dX12_worthBy_143 : decode cX12_worthBy 143 = .ok (.ldc2_w 305, 3) := by decide +kernel
theorem dX12_worthBy_146 : decode cX12_worthBy 146 = .ok (.goto 8, 3) := by decide +kernel
theorem dX12_worthBy_149 : decode cX12_worthBy 149 = .ok (.aload_n 0, 1) := by decide +kernel
theorem dX12_worthBy_150 : decode cX12_worthBy 150 = .ok (.getfield 267, 3) := by decide +kernel
theorem dX12_worthBy_153 : decode cX12_worthBy 153 = .ok (.i2l, 1) := by decide +kernel
theorem dX12_worthBy_154 : decode cX12_worthBy 154 = .ok (.lmul, 1) := by decide +kernel
theorem dX12_worthBy_155 : decode cX12_worthBy 155 = .ok (.lsub, 1) := by decide +kernel
theorem dX12_worthBy_156 : decode cX12_worthBy 156 = .ok (.lstore 6, 2) := by decide +kernel
theorem dX12_worthBy_158 : decode cX12_worthBy 158 = .ok (.iinc 8 1, 3) := by decide +kernel
theorem dX12_worthBy_161 : decode cX12_worthBy 161 = .ok (.goto (-87), 3) := by decide +kernel
theorem dX12_worthBy_164 : decode cX12_worthBy 164 = .ok (.lload_n 3, 1) := by decide +kernel
theorem dX12_worthBy_165 : decode cX12_worthBy 165 = .ok (.lload 6, 2) := by decide +kernel
theorem dX12_worthBy_167 : decode cX12_worthBy 167 = .ok (.aload_n 0, 1) := by decide +kernel
theorem dX12_worthBy_168 : decode cX12_worthBy 168 = .ok (.getfield 41, 3) := by decide +kernel
theorem dX12_worthBy_171 : decode cX12_worthBy 171 = .ok (.iload 5, 2) := by decide +kernel
theorem dX12_worthBy_173 : decode cX12_worthBy 173 = .ok (.laload, 1) := by decide +kernel
theorem dX12_worthBy_174 : decode cX12_worthBy 174 = .ok (.lmul, 1) := by decide +kernel
theorem dX12_worthBy_175 : decode cX12_worthBy 175 = .ok (.ladd, 1) := by decide +kernel
theorem dX12_worthBy_176 : decode cX12_worthBy 176 = .ok (.lstore_n 3, 1) := by decide +kernel
theorem dX12_worthBy_177 : decode cX12_worthBy 177 = .ok (.iinc 5 1, 3) := by decide +kernel
theorem dX12_worthBy_180 : decode cX12_worthBy 180 = .ok (.goto (-175), 3) := by decide +kernel
theorem dX12_worthBy_183 : decode cX12_worthBy 183 = .ok (.lload_n 3, 1) := by decide +kernel
theorem dX12_worthBy_184 : decode cX12_worthBy 184 = .ok (.lreturn, 1) := by decide +kernel
theorem dX12_worth_0 : decode cX12_worth 0 = .ok (.aload_n 0, 1) := by decide +kernel
theorem dX12_worth_1 : decode cX12_worth 1 = .ok (.iconst 0, 1) := by decide +kernel
theorem dX12_worth_2 : decode cX12_worth 2 = .ok (.putfield 102, 3) := by decide +kernel
theorem dX12_worth_5 : decode cX12_worth 5 = .ok (.aload_n 0, 1) := by decide +kernel
theorem dX12_worth_6 : decode cX12_worth 6 = .ok (.iload_n 1, 1) := by decide +kernel
theorem dX12_worth_7 : decode cX12_worth 7 = .ok (.invokevirtual 187, 3) := by decide +kernel
theorem dX12_worth_10 : decode cX12_worth 10 = .ok (.ifCond .ne 7, 3) := by decide +kernel
theorem dX12_worth_13 : decode cX12_worth 13 = .ok (.ldc2_w 253, 3) := by decide +kernel
theorem dX12_worth_16 : decode cX12_worth 16 = .ok (.lreturn, 1) := by decide +kernel
theorem dX12_worth_17 : decode cX12_worth 17 = .ok (.aload_n 0, 1) := by decide +kernel
theorem dX12_worth_18 : decode cX12_worth 18 = .ok (.invokevirtual 236, 3) := by decide +kernel
theorem dX12_worth_21 : decode cX12_worth 21 = .ok (.ifCond .ne 7, 3) := by decide +kernel
theorem dX12_worth_24 : decode cX12_worth 24 = .ok (.ldc2_w 255, 3) := by decide +kernel
theorem dX12_worth_27 : decode cX12_worth 27 = .ok (.lreturn, 1) := by decide +kernel
theorem dX12_worth_28 : decode cX12_worth 28 = .ok (.aload_n 0, 1) := by decide +kernel
theorem dX12_worth_29 : decode cX12_worth 29 = .ok (.invokevirtual 205, 3) := by decide +kernel
theorem dX12_worth_32 : decode cX12_worth 32 = .ok (.aload_n 0, 1) := by decide +kernel
theorem dX12_worth_33 : decode cX12_worth 33 = .ok (.iload_n 1, 1) := by decide +kernel
theorem dX12_worth_34 : decode cX12_worth 34 = .ok (.aload_n 0, 1) := by decide +kernel
theorem dX12_worth_35 : decode cX12_worth 35 = .ok (.getfield 37, 3) := by decide +kernel
theorem dX12_worth_38 : decode cX12_worth 38 = .ok (.invokevirtual 307, 3) := by decide +kernel
theorem dX12_worth_41 : decode cX12_worth 41 = .ok (.lreturn, 1) := by decide +kernel
theorem dX12_never_0 : decode cX12_never 0 = .ok (.aload_n 0, 1) := by decide +kernel
theorem dX12_never_1 : decode cX12_never 1 = .ok (.iconst 0, 1) := by decide +kernel
theorem dX12_never_2 : decode cX12_never 2 = .ok (.putfield 102, 3) := by decide +kernel
theorem dX12_never_5 : decode cX12_never 5 = .ok (.aload_n 0, 1) := by decide +kernel
theorem dX12_never_6 : decode cX12_never 6 = .ok (.iload_n 1, 1) := by decide +kernel
theorem dX12_never_7 : decode cX12_never 7 = .ok (.invokevirtual 187, 3) := by decide +kernel
theorem dX12_never_10 : decode cX12_never 10 = .ok (.ifCond .ne 5, 3) := by decide +kernel
theorem dX12_never_13 : decode cX12_never 13 = .ok (.iconst (-1), 1) := by decide +kernel
theorem dX12_never_14 : decode cX12_never 14 = .ok (.ireturn, 1) := by decide +kernel
theorem dX12_never_15 : decode cX12_never 15 = .ok (.aload_n 0, 1) := by decide +kernel
theorem dX12_never_16 : decode cX12_never 16 = .ok (.invokevirtual 236, 3) := by decide +kernel
theorem dX12_never_19 : decode cX12_never 19 = .ok (.ifCond .ne 6, 3) := by decide +kernel
theorem dX12_never_22 : decode cX12_never 22 = .ok (.bipush (-3), 2) := by decide +kernel
theorem dX12_never_24 : decode cX12_never 24 = .ok (.ireturn, 1) := by decide +kernel
theorem dX12_never_25 : decode cX12_never 25 = .ok (.aload_n 0, 1) := by decide +kernel
theorem dX12_never_26 : decode cX12_never 26 = .ok (.invokevirtual 205, 3) := by decide +kernel
theorem dX12_never_29 : decode cX12_never 29 = .ok (.aload_n 0, 1) := by decide +kernel
theorem dX12_never_30 : decode cX12_never 30 = .ok (.iload_n 1, 1) := by decide +kernel
theorem dX12_never_31 : decode cX12_never 31 = .ok (.iconst 0, 1) := by decide +kernel
theorem dX12_never_32 : decode cX12_never 32 = .ok (.invokevirtual 307, 3) := by decide +kernel
theorem dX12_never_35 : decode cX12_never 35 = .ok (.lstore_n 2, 1) := by decide +kernel
theorem dX12_never_36 : decode cX12_never 36 = .ok (.iconst 0, 1) := by decide +kernel
theorem dX12_never_37 : decode cX12_never 37 = .ok (.istore 4, 2) := by decide +kernel
theorem dX12_never_39 : decode cX12_never 39 = .ok (.iload 4, 2) := by decide +kernel
theorem dX12_never_41 : decode cX12_never 41 = .ok (.bipush 30, 2) := by decide +kernel
theorem dX12_never_43 : decode cX12_never 43 = .ok (.if_icmp .gt 31, 3) := by decide +kernel
theorem dX12_never_46 : decode cX12_never 46 = .ok (.lload_n 2, 1) := by decide +kernel
theorem dX12_never_47 : decode cX12_never 47 = .ok (.ldc2_w 156, 3) := by decide +kernel
theorem dX12_never_50 : decode cX12_never 50 = .ok (.iload 4, 2) := by decide +kernel
theorem dX12_never_52 : decode cX12_never 52 = .ok (.i2l, 1) := by decide +kernel
theorem dX12_never_53 : decode cX12_never 53 = .ok (.lmul, 1) := by decide +kernel
theorem dX12_never_54 : decode cX12_never 54 = .ok (.aload_n 0, 1) := by decide +kernel
theorem dX12_never_55 : decode cX12_never 55 = .ok (.invokevirtual 257, 3) := by decide +kernel
theorem dX12_never_58 : decode cX12_never 58 = .ok (.lmul, 1) := by decide +kernel
theorem dX12_never_59 : decode cX12_never 59 = .ok (.lsub, 1) := by decide +kernel
theorem dX12_never_60 : decode cX12_never 60 = .ok (.lconst 0, 1) := by decide +kernel
theorem dX12_never_61 : decode cX12_never 61 = .ok (.lcmp, 1) := by decide +kernel
theorem dX12_never_62 : decode cX12_never 62 = .ok (.ifCond .ge 6, 3) := by decide +kernel
theorem dX12_never_65 : decode cX12_never 65 = .ok (.iload 4, 2) := by decide +kernel
theorem dX12_never_67 : decode cX12_never 67 = .ok (.ireturn, 1) := by decide +kernel
theorem dX12_never_68 : decode cX12_never 68 = .ok (.iinc 4 1, 3) := by decide +kernel
theorem dX12_never_71 : decode cX12_never 71 = .ok (.goto (-32), 3) := by decide +kernel
theorem dX12_never_74 : decode cX12_never 74 = .ok (.bipush (-4), 2) := by decide +kernel
theorem dX12_never_76 : decode cX12_never 76 = .ok (.ireturn, 1) := by decide +kernel
theorem dX12_wrongRule_0 : decode cX12_wrongRule 0 = .ok (.aload_n 0, 1) := by decide +kernel
theorem dX12_wrongRule_1 : decode cX12_wrongRule 1 = .ok (.getfield 81, 3) := by decide +kernel
theorem dX12_wrongRule_4 : decode cX12_wrongRule 4 = .ok (.iload_n 1, 1) := by decide +kernel
theorem dX12_wrongRule_5 : decode cX12_wrongRule 5 = .ok (.iaload, 1) := by decide +kernel
theorem dX12_wrongRule_6 : decode cX12_wrongRule 6 = .ok (.ifCond .ne 8, 3) := by decide +kernel
theorem dX12_wrongRule_9 : decode cX12_wrongRule 9 = .ok (.bipush (-11), 2) := by decide +kernel
theorem dX12_wrongRule_11 : decode cX12_wrongRule 11 = .ok (.goto 19, 3) := by decide +kernel
theorem dX12_wrongRule_14 : decode cX12_wrongRule 14 = .ok (.aload_n 0, 1) := by decide +kernel
theorem dX12_wrongRule_15 : decode cX12_wrongRule 15 = .ok (.getfield 81, 3) := by decide +kernel
theorem dX12_wrongRule_18 : decode cX12_wrongRule 18 = .ok (.iload_n 1, 1) := by decide +kernel
theorem dX12_wrongRule_19 : decode cX12_wrongRule 19 = .ok (.iaload, 1) := by decide +kernel
theorem dX12_wrongRule_20 : decode cX12_wrongRule 20 = .ok (.iconst 1, 1) := by decide +kernel
theorem dX12_wrongRule_21 : decode cX12_wrongRule 21 = .ok (.if_icmp .eq 8, 3) := by decide +kernel
theorem dX12_wrongRule_24 : decode cX12_wrongRule 24 = .ok (.bipush (-12), 2) := by decide +kernel
theorem dX12_wrongRule_26 : decode cX12_wrongRule 26 = .ok (.goto 4, 3) := by decide +kernel
theorem dX12_wrongRule_29 : decode cX12_wrongRule 29 = .ok (.iconst 0, 1) := by decide +kernel
theorem dX12_wrongRule_30 : decode cX12_wrongRule 30 = .ok (.ireturn, 1) := by decide +kernel
theorem dX12_walkFromStart_0 : decode cX12_walkFromStart 0 = .ok (.iconst 0, 1) := by decide +kernel
theorem dX12_walkFromStart_1 : decode cX12_walkFromStart 1 = .ok (.istore 5, 2) := by decide +kernel
theorem dX12_walkFromStart_3 : decode cX12_walkFromStart 3 = .ok (.iload 5, 2) := by decide +kernel
theorem dX12_walkFromStart_5 : decode cX12_walkFromStart 5 = .ok (.aload_n 0, 1) := by decide +kernel
theorem dX12_walkFromStart_6 : decode cX12_walkFromStart 6 = .ok (.getfield 111, 3) := by decide +kernel
theorem dX12_walkFromStart_9 : decode cX12_walkFromStart 9 = .ok (.if_icmp .ge 24, 3) := by decide +kernel
theorem dX12_walkFromStart_12 : decode cX12_walkFromStart 12 = .ok (.aload_n 0, 1) := by decide +kernel
theorem dX12_walkFromStart_13 : decode cX12_walkFromStart 13 = .ok (.getfield 69, 3) := by decide +kernel
theorem dX12_walkFromStart_16 : decode cX12_walkFromStart 16 = .ok (.iload 5, 2) := by decide +kernel
theorem dX12_walkFromStart_18 : decode cX12_walkFromStart 18 = .ok (.aload_n 0, 1) := by decide +kernel
theorem dX12_walkFromStart_19 : decode cX12_walkFromStart 19 = .ok (.getfield 19, 3) := by decide +kernel
theorem dX12_walkFromStart_22 : decode cX12_walkFromStart 22 = .ok (.iload 5, 2) := by decide +kernel
theorem dX12_walkFromStart_24 : decode cX12_walkFromStart 24 = .ok (.iaload, 1) := by decide +kernel
theorem dX12_walkFromStart_25 : decode cX12_walkFromStart 25 = .ok (.i2l, 1) := by decide +kernel
theorem dX12_walkFromStart_26 : decode cX12_walkFromStart 26 = .ok (.lastore, 1) := by decide +kernel
theorem dX12_walkFromStart_27 : decode cX12_walkFromStart 27 = .ok (.iinc 5 1, 3) := by decide +kernel
theorem dX12_walkFromStart_30 : decode cX12_walkFromStart 30 = .ok (.goto (-27), 3) := by decide +kernel
theorem dX12_walkFromStart_33 : decode cX12_walkFromStart 33 = .ok (.aload_n 0, 1) := by decide +kernel
theorem dX12_walkFromStart_34 : decode cX12_walkFromStart 34 = .ok (.iload_n 1, 1) := by decide +kernel
theorem dX12_walkFromStart_35 : decode cX12_walkFromStart 35 = .ok (.aload_n 0, 1) := by decide +kernel
theorem dX12_walkFromStart_36 : decode cX12_walkFromStart 36 = .ok (.getfield 166, 3) := by decide +kernel
theorem dX12_walkFromStart_39 : decode cX12_walkFromStart 39 = .ok (.iload_n 2, 1) := by decide +kernel
theorem dX12_walkFromStart_40 : decode cX12_walkFromStart 40 = .ok (.iload_n 3, 1) := by decide +kernel
theorem dX12_walkFromStart_41 : decode cX12_walkFromStart 41 = .ok (.iload 4, 2) := by decide +kernel
theorem dX12_walkFromStart_43 : decode cX12_walkFromStart 43 = .ok (.invokevirtual 301, 3) := by decide +kernel
theorem dX12_walkFromStart_46 : decode cX12_walkFromStart 46 = .ok (.return_, 1) := by decide +kernel
theorem dX12_by_0 : decode cX12_by 0 = .ok (.aload_n 0, 1) := by decide +kernel
theorem dX12_by_1 : decode cX12_by 1 = .ok (.iconst 0, 1) := by decide +kernel
theorem dX12_by_2 : decode cX12_by 2 = .ok (.putfield 102, 3) := by decide +kernel
theorem dX12_by_5 : decode cX12_by 5 = .ok (.iload_n 1, 1) := by decide +kernel
theorem dX12_by_6 : decode cX12_by 6 = .ok (.i2l, 1) := by decide +kernel
theorem dX12_by_7 : decode cX12_by 7 = .ok (.lconst 0, 1) := by decide +kernel
theorem dX12_by_8 : decode cX12_by 8 = .ok (.ldc2_w 105, 3) := by decide +kernel
theorem dX12_by_11 : decode cX12_by 11 = .ok (.invokestatic 107, 3) := by decide +kernel
theorem dX12_by_14 : decode cX12_by 14 = .ok (.ifCond .eq 24, 3) := by decide +kernel
theorem dX12_by_17 : decode cX12_by 17 = .ok (.aload_n 0, 1) := by decide +kernel
theorem dX12_by_18 : decode cX12_by 18 = .ok (.iload_n 2, 1) := by decide +kernel
theorem dX12_by_19 : decode cX12_by 19 = .ok (.invokevirtual 184, 3) := by decide +kernel
theorem dX12_by_22 : decode cX12_by 22 = .ok (.ifCond .eq 16, 3) := by decide +kernel
theorem dX12_by_25 : decode cX12_by 25 = .ok (.iload 4, 2) := by decide +kernel
theorem dX12_by_27 : decode cX12_by 27 = .ok (.i2l, 1) := by decide +kernel
theorem dX12_by_28 : decode cX12_by 28 = .ok (.lconst 0, 1) := by decide +kernel
theorem dX12_by_29 : decode cX12_by 29 = .ok (.ldc2_w 182, 3) := by decide +kernel
theorem dX12_by_32 : decode cX12_by 32 = .ok (.invokestatic 107, 3) := by decide +kernel
theorem dX12_by_35 : decode cX12_by 35 = .ok (.ifCond .ne 5, 3) := by decide +kernel
theorem dX12_by_38 : decode cX12_by 38 = .ok (.iconst (-1), 1) := by decide +kernel
theorem dX12_by_39 : decode cX12_by 39 = .ok (.ireturn, 1) := by decide +kernel
theorem dX12_by_40 : decode cX12_by 40 = .ok (.aload_n 0, 1) := by decide +kernel
theorem dX12_by_41 : decode cX12_by 41 = .ok (.iload_n 1, 1) := by decide +kernel
theorem dX12_by_42 : decode cX12_by 42 = .ok (.invokevirtual 311, 3) := by decide +kernel
theorem dX12_by_45 : decode cX12_by 45 = .ok (.ifCond .ge 9, 3) := by decide +kernel
theorem dX12_by_48 : decode cX12_by 48 = .ok (.aload_n 0, 1) := by decide +kernel
theorem dX12_by_49 : decode cX12_by 49 = .ok (.iload_n 1, 1) := by decide +kernel
theorem dX12_by_50 : decode cX12_by 50 = .ok (.invokevirtual 311, 3) := by decide +kernel
theorem dX12_by_53 : decode cX12_by 53 = .ok (.ireturn, 1) := by decide +kernel
theorem dX12_by_54 : decode cX12_by 54 = .ok (.aload_n 0, 1) := by decide +kernel
theorem dX12_by_55 : decode cX12_by 55 = .ok (.invokevirtual 236, 3) := by decide +kernel
theorem dX12_by_58 : decode cX12_by 58 = .ok (.ifCond .ne 6, 3) := by decide +kernel
theorem dX12_by_61 : decode cX12_by 61 = .ok (.bipush (-3), 2) := by decide +kernel
theorem dX12_by_63 : decode cX12_by 63 = .ok (.ireturn, 1) := by decide +kernel
theorem dX12_by_64 : decode cX12_by 64 = .ok (.aload_n 0, 1) := by decide +kernel
theorem dX12_by_65 : decode cX12_by 65 = .ok (.invokevirtual 205, 3) := by decide +kernel
theorem dX12_by_68 : decode cX12_by 68 = .ok (.aload_n 0, 1) := by decide +kernel
theorem dX12_by_69 : decode cX12_by 69 = .ok (.iload_n 2, 1) := by decide +kernel
theorem dX12_by_70 : decode cX12_by 70 = .ok (.aload_n 0, 1) := by decide +kernel
theorem dX12_by_71 : decode cX12_by 71 = .ok (.getfield 84, 3) := by decide +kernel
theorem dX12_by_74 : decode cX12_by 74 = .ok (.iload_n 1, 1) := by decide +kernel
theorem dX12_by_75 : decode cX12_by 75 = .ok (.iaload, 1) := by decide +kernel
theorem dX12_by_76 : decode cX12_by 76 = .ok (.aload_n 0, 1) := by decide +kernel
theorem dX12_by_77 : decode cX12_by 77 = .ok (.getfield 87, 3) := by decide +kernel
theorem dX12_by_80 : decode cX12_by 80 = .ok (.iload_n 1, 1) := by decide +kernel
theorem dX12_by_81 : decode cX12_by 81 = .ok (.iaload, 1) := by decide +kernel
theorem dX12_by_82 : decode cX12_by 82 = .ok (.iload_n 3, 1) := by decide +kernel
theorem dX12_by_83 : decode cX12_by 83 = .ok (.invokevirtual 314, 3) := by decide +kernel
theorem dX12_by_86 : decode cX12_by 86 = .ok (.iload 4, 2) := by decide +kernel
theorem dX12_by_88 : decode cX12_by 88 = .ok (.ifCond .ne 22, 3) := by decide +kernel
theorem dX12_by_91 : decode cX12_by 91 = .ok (.aload_n 0, 1) := by decide +kernel
theorem dX12_by_92 : decode cX12_by 92 = .ok (.getfield 288, 3) := by decide +kernel
theorem dX12_by_95 : decode cX12_by 95 = .ok (.ifCond .eq 8, 3) := by decide +kernel
theorem dX12_by_98 : decode cX12_by 98 = .ok (.ldc 192, 2) := by decide +kernel
theorem dX12_by_100 : decode cX12_by 100 = .ok (.goto 27, 3) := by decide +kernel
theorem dX12_by_103 : decode cX12_by 103 = .ok (.aload_n 0, 1) := by decide +kernel
theorem dX12_by_104 : decode cX12_by 104 = .ok (.getfield 267, 3) := by decide +kernel
theorem dX12_by_107 : decode cX12_by 107 = .ok (.goto 20, 3) := by decide +kernel
theorem dX12_by_110 : decode cX12_by 110 = .ok (.iload 4, 2) := by decide +kernel
theorem dX12_by_112 : decode cX12_by 112 = .ok (.iconst 1, 1) := by decide +kernel
theorem dX12_by_113 : decode cX12_by 113 = .ok (.if_icmp .ne 10, 3) := by decide +kernel
theorem dX12_by_116 : decode cX12_by 116 = .ok (.aload_n 0, 1) := by decide +kernel
theorem dX12_by_117 : decode cX12_by 117 = .ok (.getfield 270, 3) := by decide +kernel
theorem dX12_by_120 : decode cX12_by 120 = .ok (.goto 7, 3) := by decide +kernel
theorem dX12_by_123 : decode cX12_by 123 = .ok (.aload_n 0, 1) := by decide +kernel
theorem dX12_by_124 : decode cX12_by 124 = .ok (.getfield 285, 3) := by decide +kernel
theorem dX12_by_127 : decode cX12_by 127 = .ok (.ireturn, 1) := by decide +kernel
theorem dX12_meanOf_0 : decode cX12_meanOf 0 = .ok (.iconst 0, 1) := by decide +kernel
theorem dX12_meanOf_1 : decode cX12_meanOf 1 = .ok (.istore 5, 2) := by decide +kernel
theorem dX12_meanOf_3 : decode cX12_meanOf 3 = .ok (.iconst 0, 1) := by decide +kernel
theorem dX12_meanOf_4 : decode cX12_meanOf 4 = .ok (.istore 6, 2) := by decide +kernel
theorem dX12_meanOf_6 : decode cX12_meanOf 6 = .ok (.iload 6, 2) := by decide +kernel
theorem dX12_meanOf_8 : decode cX12_meanOf 8 = .ok (.aload_n 0, 1) := by decide +kernel
theorem dX12_meanOf_9 : decode cX12_meanOf 9 = .ok (.getfield 111, 3) := by decide +kernel
theorem dX12_meanOf_12 : decode cX12_meanOf 12 = .ok (.if_icmp .ge 67, 3) := by decide +kernel
theorem dX12_meanOf_15 : decode cX12_meanOf 15 = .ok (.iconst 0, 1) := by decide +kernel
theorem dX12_meanOf_16 : decode cX12_meanOf 16 = .ok (.istore 7, 2) := by decide +kernel
theorem dX12_meanOf_18 : decode cX12_meanOf 18 = .ok (.iload 7, 2) := by decide +kernel
theorem dX12_meanOf_20 : decode cX12_meanOf 20 = .ok (.iload_n 3, 1) := by decide +kernel
theorem dX12_meanOf_21 : decode cX12_meanOf 21 = .ok (.if_icmp .ge 52, 3) := by decide +kernel
theorem dX12_meanOf_24 : decode cX12_meanOf 24 = .ok (.aload_n 0, 1) := by decide +kernel
theorem dX12_meanOf_25 : decode cX12_meanOf 25 = .ok (.iload 6, 2) := by decide +kernel
theorem dX12_meanOf_27 : decode cX12_meanOf 27 = .ok (.iload_n 1, 1) := by decide +kernel
theorem dX12_meanOf_28 : decode cX12_meanOf 28 = .ok (.iload_n 2, 1) := by decide +kernel
theorem dX12_meanOf_29 : decode cX12_meanOf 29 = .ok (.iload 4, 2) := by decide +kernel
theorem dX12_meanOf_31 : decode cX12_meanOf 31 = .ok (.iload 7, 2) := by decide +kernel
theorem dX12_meanOf_33 : decode cX12_meanOf 33 = .ok (.iadd, 1) := by decide +kernel
theorem dX12_meanOf_34 : decode cX12_meanOf 34 = .ok (.invokevirtual 314, 3) := by decide +kernel
theorem dX12_meanOf_37 : decode cX12_meanOf 37 = .ok (.iload 5, 2) := by decide +kernel
theorem dX12_meanOf_39 : decode cX12_meanOf 39 = .ok (.aload_n 0, 1) := by decide +kernel
theorem dX12_meanOf_40 : decode cX12_meanOf 40 = .ok (.getfield 19, 3) := by decide +kernel
theorem dX12_meanOf_43 : decode cX12_meanOf 43 = .ok (.iload 6, 2) := by decide +kernel
theorem dX12_meanOf_45 : decode cX12_meanOf 45 = .ok (.iaload, 1) := by decide +kernel
theorem dX12_meanOf_46 : decode cX12_meanOf 46 = .ok (.aload_n 0, 1) := by decide +kernel
theorem dX12_meanOf_47 : decode cX12_meanOf 47 = .ok (.getfield 288, 3) := by decide +kernel
theorem dX12_meanOf_50 : decode cX12_meanOf 50 = .ok (.ifCond .eq 9, 3) := by decide +kernel
theorem dX12_meanOf_53 : decode cX12_meanOf 53 = .ok (.sipush 999, 3) := by decide +kernel
theorem dX12_meanOf_56 : decode cX12_meanOf 56 = .ok (.goto 7, 3) := by decide +kernel
theorem dX12_meanOf_59 : decode cX12_meanOf 59 = .ok (.aload_n 0, 1) := by decide +kernel
theorem dX12_meanOf_60 : decode cX12_meanOf 60 = .ok (.getfield 267, 3) := by decide +kernel
theorem dX12_meanOf_63 : decode cX12_meanOf 63 = .ok (.imul, 1) := by decide +kernel
theorem dX12_meanOf_64 : decode cX12_meanOf 64 = .ok (.iadd, 1) := by decide +kernel
theorem dX12_meanOf_65 : decode cX12_meanOf 65 = .ok (.istore 5, 2) := by decide +kernel
theorem dX12_meanOf_67 : decode cX12_meanOf 67 = .ok (.iinc 7 1, 3) := by decide +kernel
theorem dX12_meanOf_70 : decode cX12_meanOf 70 = .ok (.goto (-52), 3) := by decide +kernel
theorem dX12_meanOf_73 : decode cX12_meanOf 73 = .ok (.iinc 6 1, 3) := by decide +kernel
theorem dX12_meanOf_76 : decode cX12_meanOf 76 = .ok (.goto (-70), 3) := by decide +kernel
theorem dX12_meanOf_79 : decode cX12_meanOf 79 = .ok (.iload 5, 2) := by decide +kernel
theorem dX12_meanOf_81 : decode cX12_meanOf 81 = .ok (.ireturn, 1) := by decide +kernel
theorem dX12_wrongMean_0 : decode cX12_wrongMean 0 = .ok (.iload_n 1, 1) := by decide +kernel
theorem dX12_wrongMean_1 : decode cX12_wrongMean 1 = .ok (.i2l, 1) := by decide +kernel
theorem dX12_wrongMean_2 : decode cX12_wrongMean 2 = .ok (.lconst 0, 1) := by decide +kernel
theorem dX12_wrongMean_3 : decode cX12_wrongMean 3 = .ok (.ldc2_w 105, 3) := by decide +kernel
theorem dX12_wrongMean_6 : decode cX12_wrongMean 6 = .ok (.invokestatic 107, 3) := by decide +kernel
theorem dX12_wrongMean_9 : decode cX12_wrongMean 9 = .ok (.ifCond .eq 15, 3) := by decide +kernel
theorem dX12_wrongMean_12 : decode cX12_wrongMean 12 = .ok (.iload_n 2, 1) := by decide +kernel
theorem dX12_wrongMean_13 : decode cX12_wrongMean 13 = .ok (.i2l, 1) := by decide +kernel
theorem dX12_wrongMean_14 : decode cX12_wrongMean 14 = .ok (.lconst 1, 1) := by decide +kernel
theorem dX12_wrongMean_15 : decode cX12_wrongMean 15 = .ok (.ldc2_w 317, 3) := by decide +kernel
theorem dX12_wrongMean_18 : decode cX12_wrongMean 18 = .ok (.invokestatic 107, 3) := by decide +kernel
theorem dX12_wrongMean_21 : decode cX12_wrongMean 21 = .ok (.ifCond .ne 7, 3) := by decide +kernel
theorem dX12_wrongMean_24 : decode cX12_wrongMean 24 = .ok (.iconst (-1), 1) := by decide +kernel
theorem dX12_wrongMean_25 : decode cX12_wrongMean 25 = .ok (.goto 32, 3) := by decide +kernel
theorem dX12_wrongMean_28 : decode cX12_wrongMean 28 = .ok (.aload_n 0, 1) := by decide +kernel
theorem dX12_wrongMean_29 : decode cX12_wrongMean 29 = .ok (.iload_n 1, 1) := by decide +kernel
theorem dX12_wrongMean_30 : decode cX12_wrongMean 30 = .ok (.invokevirtual 311, 3) := by decide +kernel
theorem dX12_wrongMean_33 : decode cX12_wrongMean 33 = .ok (.ifCond .ge 11, 3) := by decide +kernel
theorem dX12_wrongMean_36 : decode cX12_wrongMean 36 = .ok (.aload_n 0, 1) := by decide +kernel
theorem dX12_wrongMean_37 : decode cX12_wrongMean 37 = .ok (.iload_n 1, 1) := by decide +kernel
theorem dX12_wrongMean_38 : decode cX12_wrongMean 38 = .ok (.invokevirtual 311, 3) := by decide +kernel
theorem dX12_wrongMean_41 : decode cX12_wrongMean 41 = .ok (.goto 16, 3) := by decide +kernel
theorem dX12_wrongMean_44 : decode cX12_wrongMean 44 = .ok (.aload_n 0, 1) := by decide +kernel
theorem dX12_wrongMean_45 : decode cX12_wrongMean 45 = .ok (.invokevirtual 236, 3) := by decide +kernel
theorem dX12_wrongMean_48 : decode cX12_wrongMean 48 = .ok (.ifCond .eq 7, 3) := by decide +kernel
theorem dX12_wrongMean_51 : decode cX12_wrongMean 51 = .ok (.iconst 0, 1) := by decide +kernel
theorem dX12_wrongMean_52 : decode cX12_wrongMean 52 = .ok (.goto 5, 3) := by decide +kernel
theorem dX12_wrongMean_55 : decode cX12_wrongMean 55 = .ok (.bipush (-3), 2) := by decide +kernel
theorem dX12_wrongMean_57 : decode cX12_wrongMean 57 = .ok (.ireturn, 1) := by decide +kernel
theorem dX12_mean_0 : decode cX12_mean 0 = .ok (.aload_n 0, 1) := by decide +kernel
theorem dX12_mean_1 : decode cX12_mean 1 = .ok (.iconst 0, 1) := by decide +kernel
theorem dX12_mean_2 : decode cX12_mean 2 = .ok (.putfield 102, 3) := by decide +kernel
theorem dX12_mean_5 : decode cX12_mean 5 = .ok (.aload_n 0, 1) := by decide +kernel
theorem dX12_mean_6 : decode cX12_mean 6 = .ok (.iload_n 1, 1) := by decide +kernel
theorem dX12_mean_7 : decode cX12_mean 7 = .ok (.iload_n 2, 1) := by decide +kernel
theorem dX12_mean_8 : decode cX12_mean 8 = .ok (.invokevirtual 319, 3) := by decide +kernel
theorem dX12_mean_11 : decode cX12_mean 11 = .ok (.ifCond .ge 10, 3) := by decide +kernel
theorem dX12_mean_14 : decode cX12_mean 14 = .ok (.aload_n 0, 1) := by decide +kernel
theorem dX12_mean_15 : decode cX12_mean 15 = .ok (.iload_n 1, 1) := by decide +kernel
theorem dX12_mean_16 : decode cX12_mean 16 = .ok (.iload_n 2, 1) := by decide +kernel
theorem dX12_mean_17 : decode cX12_mean 17 = .ok (.invokevirtual 319, 3) := by decide +kernel
theorem dX12_mean_20 : decode cX12_mean 20 = .ok (.ireturn, 1) := by decide +kernel
theorem dX12_mean_21 : decode cX12_mean 21 = .ok (.aload_n 0, 1) := by decide +kernel
theorem dX12_mean_22 : decode cX12_mean 22 = .ok (.invokevirtual 205, 3) := by decide +kernel
theorem dX12_mean_25 : decode cX12_mean 25 = .ok (.aload_n 0, 1) := by decide +kernel
theorem dX12_mean_26 : decode cX12_mean 26 = .ok (.aload_n 0, 1) := by decide +kernel
theorem dX12_mean_27 : decode cX12_mean 27 = .ok (.getfield 84, 3) := by decide +kernel
theorem dX12_mean_30 : decode cX12_mean 30 = .ok (.iload_n 1, 1) := by decide +kernel
theorem dX12_mean_31 : decode cX12_mean 31 = .ok (.iaload, 1) := by decide +kernel
theorem dX12_mean_32 : decode cX12_mean 32 = .ok (.aload_n 0, 1) := by decide +kernel
theorem dX12_mean_33 : decode cX12_mean 33 = .ok (.getfield 87, 3) := by decide +kernel
theorem dX12_mean_36 : decode cX12_mean 36 = .ok (.iload_n 1, 1) := by decide +kernel
theorem dX12_mean_37 : decode cX12_mean 37 = .ok (.iaload, 1) := by decide +kernel
theorem dX12_mean_38 : decode cX12_mean 38 = .ok (.iload_n 2, 1) := by decide +kernel
theorem dX12_mean_39 : decode cX12_mean 39 = .ok (.iload_n 3, 1) := by decide +kernel
theorem dX12_mean_40 : decode cX12_mean 40 = .ok (.invokevirtual 322, 3) := by decide +kernel
theorem dX12_mean_43 : decode cX12_mean 43 = .ok (.ireturn, 1) := by decide +kernel
theorem dX12_dusk_0 : decode cX12_dusk 0 = .ok (.aload_n 0, 1) := by decide +kernel
theorem dX12_dusk_1 : decode cX12_dusk 1 = .ok (.iconst 0, 1) := by decide +kernel
theorem dX12_dusk_2 : decode cX12_dusk 2 = .ok (.putfield 102, 3) := by decide +kernel
theorem dX12_dusk_5 : decode cX12_dusk 5 = .ok (.iload 4, 2) := by decide +kernel
theorem dX12_dusk_7 : decode cX12_dusk 7 = .ok (.i2l, 1) := by decide +kernel
theorem dX12_dusk_8 : decode cX12_dusk 8 = .ok (.lconst 0, 1) := by decide +kernel
theorem dX12_dusk_9 : decode cX12_dusk 9 = .ok (.ldc2_w 326, 3) := by decide +kernel
theorem dX12_dusk_12 : decode cX12_dusk 12 = .ok (.invokestatic 107, 3) := by decide +kernel
theorem dX12_dusk_15 : decode cX12_dusk 15 = .ok (.ifCond .eq 12, 3) := by decide +kernel
theorem dX12_dusk_18 : decode cX12_dusk 18 = .ok (.aload_n 0, 1) := by decide +kernel
theorem dX12_dusk_19 : decode cX12_dusk 19 = .ok (.iload_n 1, 1) := by decide +kernel
theorem dX12_dusk_20 : decode cX12_dusk 20 = .ok (.iload_n 2, 1) := by decide +kernel
theorem dX12_dusk_21 : decode cX12_dusk 21 = .ok (.invokevirtual 319, 3) := by decide +kernel
theorem dX12_dusk_24 : decode cX12_dusk 24 = .ok (.goto 4, 3) := by decide +kernel
theorem dX12_dusk_27 : decode cX12_dusk 27 = .ok (.iconst (-1), 1) := by decide +kernel
theorem dX12_dusk_28 : decode cX12_dusk 28 = .ok (.istore 5, 2) := by decide +kernel
theorem dX12_dusk_30 : decode cX12_dusk 30 = .ok (.iload 5, 2) := by decide +kernel
theorem dX12_dusk_32 : decode cX12_dusk 32 = .ok (.ifCond .ge 6, 3) := by decide +kernel
theorem dX12_dusk_35 : decode cX12_dusk 35 = .ok (.iload 5, 2) := by decide +kernel
theorem dX12_dusk_37 : decode cX12_dusk 37 = .ok (.ireturn, 1) := by decide +kernel
theorem dX12_dusk_38 : decode cX12_dusk 38 = .ok (.aload_n 0, 1) := by decide +kernel
theorem dX12_dusk_39 : decode cX12_dusk 39 = .ok (.invokevirtual 205, 3) := by decide +kernel
theorem dX12_dusk_42 : decode cX12_dusk 42 = .ok (.iconst 0, 1) := by decide +kernel
theorem dX12_dusk_43 : decode cX12_dusk 43 = .ok (.istore 6, 2) := by decide +kernel
theorem dX12_dusk_45 : decode cX12_dusk 45 = .ok (.iconst 0, 1) := by decide +kernel
theorem dX12_dusk_46 : decode cX12_dusk 46 = .ok (.istore 7, 2) := by decide +kernel
theorem dX12_dusk_48 : decode cX12_dusk 48 = .ok (.iload 7, 2) := by decide +kernel
theorem dX12_dusk_50 : decode cX12_dusk 50 = .ok (.aload_n 0, 1) := by decide +kernel
theorem dX12_dusk_51 : decode cX12_dusk 51 = .ok (.getfield 111, 3) := by decide +kernel
theorem dX12_dusk_54 : decode cX12_dusk 54 = .ok (.if_icmp .ge 78, 3) := by decide +kernel
theorem dX12_dusk_57 : decode cX12_dusk 57 = .ok (.iconst 0, 1) := by decide +kernel
theorem dX12_dusk_58 : decode cX12_dusk 58 = .ok (.istore 8, 2) := by decide +kernel
theorem dX12_dusk_60 : decode cX12_dusk 60 = .ok (.iload 8, 2) := by decide +kernel
theorem dX12_dusk_62 : decode cX12_dusk 62 = .ok (.iload_n 2, 1) := by decide +kernel
theorem dX12_dusk_63 : decode cX12_dusk 63 = .ok (.if_icmp .ge 63, 3) := by decide +kernel
theorem dX12_dusk_66 : decode cX12_dusk 66 = .ok (.aload_n 0, 1) := by decide +kernel
theorem dX12_dusk_67 : decode cX12_dusk 67 = .ok (.iload 7, 2) := by decide +kernel
theorem dX12_dusk_69 : decode cX12_dusk 69 = .ok (.aload_n 0, 1) := by decide +kernel
theorem dX12_dusk_70 : decode cX12_dusk 70 = .ok (.getfield 84, 3) := by decide +kernel
theorem dX12_dusk_73 : decode cX12_dusk 73 = .ok (.iload_n 1, 1) := by decide +kernel
theorem dX12_dusk_74 : decode cX12_dusk 74 = .ok (.iaload, 1) := by decide +kernel
theorem dX12_dusk_75 : decode cX12_dusk 75 = .ok (.aload_n 0, 1) := by decide +kernel
theorem dX12_dusk_76 : decode cX12_dusk 76 = .ok (.getfield 87, 3) := by decide +kernel
theorem dX12_dusk_79 : decode cX12_dusk 79 = .ok (.iload_n 1, 1) := by decide +kernel
theorem dX12_dusk_80 : decode cX12_dusk 80 = .ok (.iaload, 1) := by decide +kernel
theorem dX12_dusk_81 : decode cX12_dusk 81 = .ok (.iload_n 3, 1) := by decide +kernel
theorem dX12_dusk_82 : decode cX12_dusk 82 = .ok (.iload 8, 2) := by decide +kernel
theorem dX12_dusk_84 : decode cX12_dusk 84 = .ok (.iadd, 1) := by decide +kernel
theorem dX12_dusk_85 : decode cX12_dusk 85 = .ok (.invokevirtual 314, 3) := by decide +kernel
theorem dX12_dusk_88 : decode cX12_dusk 88 = .ok (.iload 6, 2) := by decide +kernel
theorem dX12_dusk_90 : decode cX12_dusk 90 = .ok (.aload_n 0, 1) := by decide +kernel
theorem dX12_dusk_91 : decode cX12_dusk 91 = .ok (.getfield 288, 3) := by decide +kernel
theorem dX12_dusk_94 : decode cX12_dusk 94 = .ok (.ifCond .ne 12, 3) := by decide +kernel
theorem dX12_dusk_97 : decode cX12_dusk 97 = .ok (.aload_n 0, 1) := by decide +kernel
theorem dX12_dusk_98 : decode cX12_dusk 98 = .ok (.getfield 267, 3) := by decide +kernel
theorem dX12_dusk_101 : decode cX12_dusk 101 = .ok (.iload 4, 2) := by decide +kernel
theorem dX12_dusk_103 : decode cX12_dusk 103 = .ok (.if_icmp .le 7, 3) := by decide +kernel
theorem dX12_dusk_106 : decode cX12_dusk 106 = .ok (.iconst 0, 1) := by decide +kernel
theorem dX12_dusk_107 : decode cX12_dusk 107 = .ok (.goto 10, 3) := by decide +kernel
theorem dX12_dusk_110 : decode cX12_dusk 110 = .ok (.aload_n 0, 1) := by decide +kernel
theorem dX12_dusk_111 : decode cX12_dusk 111 = .ok (.getfield 19, 3) := by decide +kernel
theorem dX12_dusk_114 : decode cX12_dusk 114 = .ok (.iload 7, 2) := by decide +kernel
theorem dX12_dusk_116 : decode cX12_dusk 116 = .ok (.iaload, 1) := by decide +kernel
theorem dX12_dusk_117 : decode cX12_dusk 117 = .ok (.iadd, 1) := by decide +kernel
theorem dX12_dusk_118 : decode cX12_dusk 118 = .ok (.istore 6, 2) := by decide +kernel
theorem dX12_dusk_120 : decode cX12_dusk 120 = .ok (.iinc 8 1, 3) := by decide +kernel
theorem dX12_dusk_123 : decode cX12_dusk 123 = .ok (.goto (-63), 3) := by decide +kernel
theorem dX12_dusk_126 : decode cX12_dusk 126 = .ok (.iinc 7 1, 3) := by decide +kernel
theorem dX12_dusk_129 : decode cX12_dusk 129 = .ok (.goto (-81), 3) := by decide +kernel
theorem dX12_dusk_132 : decode cX12_dusk 132 = .ok (.iload 6, 2) := by decide +kernel
theorem dX12_dusk_134 : decode cX12_dusk 134 = .ok (.ireturn, 1) := by decide +kernel
theorem dX12_best_0 : decode cX12_best 0 = .ok (.aload_n 0, 1) := by decide +kernel
theorem dX12_best_1 : decode cX12_best 1 = .ok (.iconst 0, 1) := by decide +kernel
theorem dX12_best_2 : decode cX12_best 2 = .ok (.putfield 102, 3) := by decide +kernel
theorem dX12_best_5 : decode cX12_best 5 = .ok (.iload_n 1, 1) := by decide +kernel
theorem dX12_best_6 : decode cX12_best 6 = .ok (.i2l, 1) := by decide +kernel
theorem dX12_best_7 : decode cX12_best 7 = .ok (.lconst 0, 1) := by decide +kernel
theorem dX12_best_8 : decode cX12_best 8 = .ok (.ldc2_w 105, 3) := by decide +kernel
theorem dX12_best_11 : decode cX12_best 11 = .ok (.invokestatic 107, 3) := by decide +kernel
theorem dX12_best_14 : decode cX12_best 14 = .ok (.ifCond .eq 27, 3) := by decide +kernel
theorem dX12_best_17 : decode cX12_best 17 = .ok (.iload_n 2, 1) := by decide +kernel
theorem dX12_best_18 : decode cX12_best 18 = .ok (.i2l, 1) := by decide +kernel
theorem dX12_best_19 : decode cX12_best 19 = .ok (.lconst 0, 1) := by decide +kernel
theorem dX12_best_20 : decode cX12_best 20 = .ok (.ldc2_w 328, 3) := by decide +kernel
theorem dX12_best_23 : decode cX12_best 23 = .ok (.invokestatic 107, 3) := by decide +kernel
theorem dX12_best_26 : decode cX12_best 26 = .ok (.ifCond .eq 15, 3) := by decide +kernel
theorem dX12_best_29 : decode cX12_best 29 = .ok (.iload_n 3, 1) := by decide +kernel
theorem dX12_best_30 : decode cX12_best 30 = .ok (.i2l, 1) := by decide +kernel
theorem dX12_best_31 : decode cX12_best 31 = .ok (.lconst 1, 1) := by decide +kernel
theorem dX12_best_32 : decode cX12_best 32 = .ok (.ldc2_w 317, 3) := by decide +kernel
theorem dX12_best_35 : decode cX12_best 35 = .ok (.invokestatic 107, 3) := by decide +kernel
theorem dX12_best_38 : decode cX12_best 38 = .ok (.ifCond .ne 5, 3) := by decide +kernel
theorem dX12_best_41 : decode cX12_best 41 = .ok (.iconst (-1), 1) := by decide +kernel
theorem dX12_best_42 : decode cX12_best 42 = .ok (.ireturn, 1) := by decide +kernel
theorem dX12_best_43 : decode cX12_best 43 = .ok (.aload_n 0, 1) := by decide +kernel
theorem dX12_best_44 : decode cX12_best 44 = .ok (.iload_n 1, 1) := by decide +kernel
theorem dX12_best_45 : decode cX12_best 45 = .ok (.invokevirtual 169, 3) := by decide +kernel
theorem dX12_best_48 : decode cX12_best 48 = .ok (.ifCond .ge 9, 3) := by decide +kernel
theorem dX12_best_51 : decode cX12_best 51 = .ok (.aload_n 0, 1) := by decide +kernel
theorem dX12_best_52 : decode cX12_best 52 = .ok (.iload_n 1, 1) := by decide +kernel
theorem dX12_best_53 : decode cX12_best 53 = .ok (.invokevirtual 169, 3) := by decide +kernel
theorem dX12_best_56 : decode cX12_best 56 = .ok (.ireturn, 1) := by decide +kernel
theorem dX12_best_57 : decode cX12_best 57 = .ok (.aload_n 0, 1) := by decide +kernel
theorem dX12_best_58 : decode cX12_best 58 = .ok (.getfield 90, 3) := by decide +kernel
theorem dX12_best_61 : decode cX12_best 61 = .ok (.iload_n 1, 1) := by decide +kernel
theorem dX12_best_62 : decode cX12_best 62 = .ok (.iaload, 1) := by decide +kernel
theorem dX12_best_63 : decode cX12_best 63 = .ok (.ifCond .eq 6, 3) := by decide +kernel
theorem dX12_best_66 : decode cX12_best 66 = .ok (.bipush (-12), 2) := by decide +kernel
theorem dX12_best_68 : decode cX12_best 68 = .ok (.ireturn, 1) := by decide +kernel
theorem dX12_best_69 : decode cX12_best 69 = .ok (.aload_n 0, 1) := by decide +kernel
theorem dX12_best_70 : decode cX12_best 70 = .ok (.getfield 93, 3) := by decide +kernel
theorem dX12_best_73 : decode cX12_best 73 = .ok (.iload_n 1, 1) := by decide +kernel
theorem dX12_best_74 : decode cX12_best 74 = .ok (.iaload, 1) := by decide +kernel
theorem dX12_best_75 : decode cX12_best 75 = .ok (.i2l, 1) := by decide +kernel
theorem dX12_best_76 : decode cX12_best 76 = .ok (.lconst 1, 1) := by decide +kernel
theorem dX12_best_77 : decode cX12_best 77 = .ok (.ldc2_w 330, 3) := by decide +kernel
theorem dX12_best_80 : decode cX12_best 80 = .ok (.invokestatic 107, 3) := by decide +kernel
theorem dX12_best_83 : decode cX12_best 83 = .ok (.istore 5, 2) := by decide +kernel
theorem dX12_best_85 : decode cX12_best 85 = .ok (.iconst 0, 1) := by decide +kernel
theorem dX12_best_86 : decode cX12_best 86 = .ok (.istore 6, 2) := by decide +kernel
theorem dX12_best_88 : decode cX12_best 88 = .ok (.iload 6, 2) := by decide +kernel
theorem dX12_best_90 : decode cX12_best 90 = .ok (.aload_n 0, 1) := by decide +kernel
theorem dX12_best_91 : decode cX12_best 91 = .ok (.getfield 93, 3) := by decide +kernel
theorem dX12_best_94 : decode cX12_best 94 = .ok (.iload_n 1, 1) := by decide +kernel
theorem dX12_best_95 : decode cX12_best 95 = .ok (.iaload, 1) := by decide +kernel
theorem dX12_best_96 : decode cX12_best 96 = .ok (.if_icmp .ge 43, 3) := by decide +kernel
theorem dX12_best_99 : decode cX12_best 99 = .ok (.iload 5, 2) := by decide +kernel
