theorem dX10_stepOn_62 : decode cX10_stepOn 62 = .ok (.invokevirtual 128, 3) := by decide +kernel
theorem dX10_stepOn_65 : decode cX10_stepOn 65 = .ok (.ifCond .ne 14, 3) := by decide +kernel
theorem dX10_stepOn_68 : decode cX10_stepOn 68 = .ok (.aload_n 0, 1) := by decide +kernel
theorem dX10_stepOn_69 : decode cX10_stepOn 69 = .ok (.getfield 21, 3) := by decide +kernel
theorem dX10_stepOn_72 : decode cX10_stepOn 72 = .ok (.iload_n 1, 1) := by decide +kernel
theorem dX10_stepOn_73 : decode cX10_stepOn 73 = .ok (.invokevirtual 132, 3) := by decide +kernel
theorem dX10_stepOn_76 : decode cX10_stepOn 76 = .ok (.goto 91, 3) := by decide +kernel
theorem dX10_stepOn_79 : decode cX10_stepOn 79 = .ok (.aload_n 0, 1) := by decide +kernel
theorem dX10_stepOn_80 : decode cX10_stepOn 80 = .ok (.getfield 12, 3) := by decide +kernel
theorem dX10_stepOn_83 : decode cX10_stepOn 83 = .ok (.aload_n 0, 1) := by decide +kernel
theorem dX10_stepOn_84 : decode cX10_stepOn 84 = .ok (.getfield 67, 3) := by decide +kernel
theorem dX10_stepOn_87 : decode cX10_stepOn 87 = .ok (.iload_n 2, 1) := by decide +kernel
theorem dX10_stepOn_88 : decode cX10_stepOn 88 = .ok (.invokevirtual 135, 3) := by decide +kernel
theorem dX10_stepOn_91 : decode cX10_stepOn 91 = .ok (.ifCond .eq 19, 3) := by decide +kernel
theorem dX10_stepOn_94 : decode cX10_stepOn 94 = .ok (.aload_n 0, 1) := by decide +kernel
theorem dX10_stepOn_95 : decode cX10_stepOn 95 = .ok (.getfield 21, 3) := by decide +kernel
theorem dX10_stepOn_98 : decode cX10_stepOn 98 = .ok (.aload_n 0, 1) := by decide +kernel
theorem dX10_stepOn_99 : decode cX10_stepOn 99 = .ok (.getfield 12, 3) := by decide +kernel
theorem dX10_stepOn_102 : decode cX10_stepOn 102 = .ok (.iload_n 2, 1) := by decide +kernel
theorem dX10_stepOn_103 : decode cX10_stepOn 103 = .ok (.iconst 0, 1) := by decide +kernel
theorem dX10_stepOn_104 : decode cX10_stepOn 104 = .ok (.invokevirtual 139, 3) := by decide +kernel
theorem dX10_stepOn_107 : decode cX10_stepOn 107 = .ok (.goto 60, 3) := by decide +kernel
theorem dX10_stepOn_110 : decode cX10_stepOn 110 = .ok (.aload_n 0, 1) := by decide +kernel
theorem dX10_stepOn_111 : decode cX10_stepOn 111 = .ok (.dup, 1) := by decide +kernel
theorem dX10_stepOn_112 : decode cX10_stepOn 112 = .ok (.getfield 73, 3) := by decide +kernel
theorem dX10_stepOn_115 : decode cX10_stepOn 115 = .ok (.aload_n 0, 1) := by decide +kernel
theorem dX10_stepOn_116 : decode cX10_stepOn 116 = .ok (.getfield 12, 3) := by decide +kernel
theorem dX10_stepOn_119 : decode cX10_stepOn 119 = .ok (.getfield 143, 3) := by decide +kernel
theorem dX10_stepOn_122 : decode cX10_stepOn 122 = .ok (.iload_n 2, 1) := by decide +kernel
theorem dX10_stepOn_123 : decode cX10_stepOn 123 = .ok (.iaload, 1) := by decide +kernel
theorem dX10_stepOn_124 : decode cX10_stepOn 124 = .ok (.iadd, 1) := by decide +kernel
theorem dX10_stepOn_125 : decode cX10_stepOn 125 = .ok (.putfield 73, 3) := by decide +kernel
theorem dX10_stepOn_128 : decode cX10_stepOn 128 = .ok (.aload_n 0, 1) := by decide +kernel
theorem dX10_stepOn_129 : decode cX10_stepOn 129 = .ok (.dup, 1) := by decide +kernel
theorem dX10_stepOn_130 : decode cX10_stepOn 130 = .ok (.getfield 79, 3) := by decide +kernel
theorem dX10_stepOn_133 : decode cX10_stepOn 133 = .ok (.iconst 1, 1) := by decide +kernel
theorem dX10_stepOn_134 : decode cX10_stepOn 134 = .ok (.iadd, 1) := by decide +kernel
theorem dX10_stepOn_135 : decode cX10_stepOn 135 = .ok (.putfield 79, 3) := by decide +kernel
theorem dX10_stepOn_138 : decode cX10_stepOn 138 = .ok (.aload_n 0, 1) := by decide +kernel
theorem dX10_stepOn_139 : decode cX10_stepOn 139 = .ok (.aload_n 0, 1) := by decide +kernel
theorem dX10_stepOn_140 : decode cX10_stepOn 140 = .ok (.getfield 12, 3) := by decide +kernel
theorem dX10_stepOn_143 : decode cX10_stepOn 143 = .ok (.iload_n 2, 1) := by decide +kernel
theorem dX10_stepOn_144 : decode cX10_stepOn 144 = .ok (.aload_n 0, 1) := by decide +kernel
theorem dX10_stepOn_145 : decode cX10_stepOn 145 = .ok (.getfield 70, 3) := by decide +kernel
theorem dX10_stepOn_148 : decode cX10_stepOn 148 = .ok (.invokevirtual 145, 3) := by decide +kernel
theorem dX10_stepOn_151 : decode cX10_stepOn 151 = .ok (.putfield 70, 3) := by decide +kernel
theorem dX10_stepOn_154 : decode cX10_stepOn 154 = .ok (.aload_n 0, 1) := by decide +kernel
theorem dX10_stepOn_155 : decode cX10_stepOn 155 = .ok (.getfield 21, 3) := by decide +kernel
theorem dX10_stepOn_158 : decode cX10_stepOn 158 = .ok (.aload_n 0, 1) := by decide +kernel
theorem dX10_stepOn_159 : decode cX10_stepOn 159 = .ok (.getfield 12, 3) := by decide +kernel
theorem dX10_stepOn_162 : decode cX10_stepOn 162 = .ok (.iload_n 2, 1) := by decide +kernel
theorem dX10_stepOn_163 : decode cX10_stepOn 163 = .ok (.iconst 1, 1) := by decide +kernel
theorem dX10_stepOn_164 : decode cX10_stepOn 164 = .ok (.invokevirtual 139, 3) := by decide +kernel
theorem dX10_stepOn_167 : decode cX10_stepOn 167 = .ok (.return_, 1) := by decide +kernel
theorem dX10_beginsAgain_0 : decode cX10_beginsAgain 0 = .ok (.aload_n 0, 1) := by decide +kernel
theorem dX10_beginsAgain_1 : decode cX10_beginsAgain 1 = .ok (.getfield 82, 3) := by decide +kernel
theorem dX10_beginsAgain_4 : decode cX10_beginsAgain 4 = .ok (.ifCond .ne 13, 3) := by decide +kernel
theorem dX10_beginsAgain_7 : decode cX10_beginsAgain 7 = .ok (.aload_n 0, 1) := by decide +kernel
theorem dX10_beginsAgain_8 : decode cX10_beginsAgain 8 = .ok (.getfield 34, 3) := by decide +kernel
theorem dX10_beginsAgain_11 : decode cX10_beginsAgain 11 = .ok (.invokevirtual 149, 3) := by decide +kernel
theorem dX10_beginsAgain_14 : decode cX10_beginsAgain 14 = .ok (.ifCond .ne 5, 3) := by decide +kernel
theorem dX10_beginsAgain_17 : decode cX10_beginsAgain 17 = .ok (.iconst 0, 1) := by decide +kernel
theorem dX10_beginsAgain_18 : decode cX10_beginsAgain 18 = .ok (.ireturn, 1) := by decide +kernel
theorem dX10_beginsAgain_19 : decode cX10_beginsAgain 19 = .ok (.aload_n 0, 1) := by decide +kernel
theorem dX10_beginsAgain_20 : decode cX10_beginsAgain 20 = .ok (.iconst 1, 1) := by decide +kernel
theorem dX10_beginsAgain_21 : decode cX10_beginsAgain 21 = .ok (.putfield 82, 3) := by decide +kernel
theorem dX10_beginsAgain_24 : decode cX10_beginsAgain 24 = .ok (.aload_n 0, 1) := by decide +kernel
theorem dX10_beginsAgain_25 : decode cX10_beginsAgain 25 = .ok (.getfield 21, 3) := by decide +kernel
theorem dX10_beginsAgain_28 : decode cX10_beginsAgain 28 = .ok (.aload_n 0, 1) := by decide +kernel
theorem dX10_beginsAgain_29 : decode cX10_beginsAgain 29 = .ok (.getfield 12, 3) := by decide +kernel
theorem dX10_beginsAgain_32 : decode cX10_beginsAgain 32 = .ok (.invokevirtual 56, 3) := by decide +kernel
theorem dX10_beginsAgain_35 : decode cX10_beginsAgain 35 = .ok (.iconst 1, 1) := by decide +kernel
theorem dX10_beginsAgain_36 : decode cX10_beginsAgain 36 = .ok (.ireturn, 1) := by decide +kernel
theorem dX10_believeAtStart_0 : decode cX10_believeAtStart 0 = .ok (.aload_n 0, 1) := by decide +kernel
theorem dX10_believeAtStart_1 : decode cX10_believeAtStart 1 = .ok (.getfield 34, 3) := by decide +kernel
theorem dX10_believeAtStart_4 : decode cX10_believeAtStart 4 = .ok (.invokevirtual 152, 3) := by decide +kernel
theorem dX10_believeAtStart_7 : decode cX10_believeAtStart 7 = .ok (.istore_n 1, 1) := by decide +kernel
theorem dX10_believeAtStart_8 : decode cX10_believeAtStart 8 = .ok (.iload_n 1, 1) := by decide +kernel
theorem dX10_believeAtStart_9 : decode cX10_believeAtStart 9 = .ok (.ifCond .le 11, 3) := by decide +kernel
theorem dX10_believeAtStart_12 : decode cX10_believeAtStart 12 = .ok (.aload_n 0, 1) := by decide +kernel
theorem dX10_believeAtStart_13 : decode cX10_believeAtStart 13 = .ok (.iload_n 1, 1) := by decide +kernel
theorem dX10_believeAtStart_14 : decode cX10_believeAtStart 14 = .ok (.invokevirtual 155, 3) := by decide +kernel
theorem dX10_believeAtStart_17 : decode cX10_believeAtStart 17 = .ok (.goto 10, 3) := by decide +kernel
theorem dX10_believeAtStart_20 : decode cX10_believeAtStart 20 = .ok (.aload_n 0, 1) := by decide +kernel
theorem dX10_believeAtStart_21 : decode cX10_believeAtStart 21 = .ok (.getfield 34, 3) := by decide +kernel
theorem dX10_believeAtStart_24 : decode cX10_believeAtStart 24 = .ok (.invokevirtual 159, 3) := by decide +kernel
theorem dX10_believeAtStart_27 : decode cX10_believeAtStart 27 = .ok (.istore_n 2, 1) := by decide +kernel
theorem dX10_believeAtStart_28 : decode cX10_believeAtStart 28 = .ok (.aload_n 0, 1) := by decide +kernel
theorem dX10_believeAtStart_29 : decode cX10_believeAtStart 29 = .ok (.getfield 12, 3) := by decide +kernel
theorem dX10_believeAtStart_32 : decode cX10_believeAtStart 32 = .ok (.iload_n 2, 1) := by decide +kernel
theorem dX10_believeAtStart_33 : decode cX10_believeAtStart 33 = .ok (.invokevirtual 162, 3) := by decide +kernel
theorem dX10_believeAtStart_36 : decode cX10_believeAtStart 36 = .ok (.ifCond .eq 19, 3) := by decide +kernel
theorem dX10_believeAtStart_39 : decode cX10_believeAtStart 39 = .ok (.aload_n 0, 1) := by decide +kernel
theorem dX10_believeAtStart_40 : decode cX10_believeAtStart 40 = .ok (.getfield 21, 3) := by decide +kernel
theorem dX10_believeAtStart_43 : decode cX10_believeAtStart 43 = .ok (.iload_n 2, 1) := by decide +kernel
theorem dX10_believeAtStart_44 : decode cX10_believeAtStart 44 = .ok (.invokevirtual 110, 3) := by decide +kernel
theorem dX10_believeAtStart_47 : decode cX10_believeAtStart 47 = .ok (.aload_n 0, 1) := by decide +kernel
theorem dX10_believeAtStart_48 : decode cX10_believeAtStart 48 = .ok (.getfield 21, 3) := by decide +kernel
theorem dX10_believeAtStart_51 : decode cX10_believeAtStart 51 = .ok (.invokevirtual 95, 3) := by decide +kernel
theorem dX10_believeAtStart_54 : decode cX10_believeAtStart 54 = .ok (.pop, 1) := by decide +kernel
theorem dX10_believeAtStart_55 : decode cX10_believeAtStart 55 = .ok (.return_, 1) := by decide +kernel
theorem dX10_mostSaid_0 : decode cX10_mostSaid 0 = .ok (.iconst 0, 1) := by decide +kernel
theorem dX10_mostSaid_1 : decode cX10_mostSaid 1 = .ok (.istore_n 2, 1) := by decide +kernel
theorem dX10_mostSaid_2 : decode cX10_mostSaid 2 = .ok (.iload_n 2, 1) := by decide +kernel
theorem dX10_mostSaid_3 : decode cX10_mostSaid 3 = .ok (.iconst 5, 1) := by decide +kernel
theorem dX10_mostSaid_4 : decode cX10_mostSaid 4 = .ok (.if_icmp .ge 16, 3) := by decide +kernel
theorem dX10_mostSaid_7 : decode cX10_mostSaid 7 = .ok (.aload_n 0, 1) := by decide +kernel
theorem dX10_mostSaid_8 : decode cX10_mostSaid 8 = .ok (.getfield 25, 3) := by decide +kernel
theorem dX10_mostSaid_11 : decode cX10_mostSaid 11 = .ok (.iload_n 2, 1) := by decide +kernel
theorem dX10_mostSaid_12 : decode cX10_mostSaid 12 = .ok (.iconst 0, 1) := by decide +kernel
theorem dX10_mostSaid_13 : decode cX10_mostSaid 13 = .ok (.iastore, 1) := by decide +kernel
theorem dX10_mostSaid_14 : decode cX10_mostSaid 14 = .ok (.iinc 2 1, 3) := by decide +kernel
theorem dX10_mostSaid_17 : decode cX10_mostSaid 17 = .ok (.goto (-15), 3) := by decide +kernel
theorem dX10_mostSaid_20 : decode cX10_mostSaid 20 = .ok (.iconst 0, 1) := by decide +kernel
theorem dX10_mostSaid_21 : decode cX10_mostSaid 21 = .ok (.istore_n 2, 1) := by decide +kernel
theorem dX10_mostSaid_22 : decode cX10_mostSaid 22 = .ok (.iload_n 2, 1) := by decide +kernel
theorem dX10_mostSaid_23 : decode cX10_mostSaid 23 = .ok (.iload_n 1, 1) := by decide +kernel
theorem dX10_mostSaid_24 : decode cX10_mostSaid 24 = .ok (.if_icmp .ge 35, 3) := by decide +kernel
theorem dX10_mostSaid_27 : decode cX10_mostSaid 27 = .ok (.aload_n 0, 1) := by decide +kernel
theorem dX10_mostSaid_28 : decode cX10_mostSaid 28 = .ok (.invokevirtual 106, 3) := by decide +kernel
theorem dX10_mostSaid_31 : decode cX10_mostSaid 31 = .ok (.istore_n 3, 1) := by decide +kernel
theorem dX10_mostSaid_32 : decode cX10_mostSaid 32 = .ok (.aload_n 0, 1) := by decide +kernel
theorem dX10_mostSaid_33 : decode cX10_mostSaid 33 = .ok (.getfield 12, 3) := by decide +kernel
theorem dX10_mostSaid_36 : decode cX10_mostSaid 36 = .ok (.iload_n 3, 1) := by decide +kernel
theorem dX10_mostSaid_37 : decode cX10_mostSaid 37 = .ok (.invokevirtual 162, 3) := by decide +kernel
theorem dX10_mostSaid_40 : decode cX10_mostSaid 40 = .ok (.ifCond .eq 13, 3) := by decide +kernel
theorem dX10_mostSaid_43 : decode cX10_mostSaid 43 = .ok (.aload_n 0, 1) := by decide +kernel
theorem dX10_mostSaid_44 : decode cX10_mostSaid 44 = .ok (.getfield 25, 3) := by decide +kernel
theorem dX10_mostSaid_47 : decode cX10_mostSaid 47 = .ok (.iload_n 3, 1) := by decide +kernel
theorem dX10_mostSaid_48 : decode cX10_mostSaid 48 = .ok (.dup2, 1) := by decide +kernel
theorem dX10_mostSaid_49 : decode cX10_mostSaid 49 = .ok (.iaload, 1) := by decide +kernel
theorem dX10_mostSaid_50 : decode cX10_mostSaid 50 = .ok (.iconst 1, 1) := by decide +kernel
theorem dX10_mostSaid_51 : decode cX10_mostSaid 51 = .ok (.iadd, 1) := by decide +kernel
theorem dX10_mostSaid_52 : decode cX10_mostSaid 52 = .ok (.iastore, 1) := by decide +kernel
theorem dX10_mostSaid_53 : decode cX10_mostSaid 53 = .ok (.iinc 2 1, 3) := by decide +kernel
theorem dX10_mostSaid_56 : decode cX10_mostSaid 56 = .ok (.goto (-34), 3) := by decide +kernel
theorem dX10_mostSaid_59 : decode cX10_mostSaid 59 = .ok (.iconst 0, 1) := by decide +kernel
theorem dX10_mostSaid_60 : decode cX10_mostSaid 60 = .ok (.istore_n 2, 1) := by decide +kernel
theorem dX10_mostSaid_61 : decode cX10_mostSaid 61 = .ok (.iconst 1, 1) := by decide +kernel
theorem dX10_mostSaid_62 : decode cX10_mostSaid 62 = .ok (.istore_n 3, 1) := by decide +kernel
theorem dX10_mostSaid_63 : decode cX10_mostSaid 63 = .ok (.iload_n 3, 1) := by decide +kernel
theorem dX10_mostSaid_64 : decode cX10_mostSaid 64 = .ok (.iconst 5, 1) := by decide +kernel
theorem dX10_mostSaid_65 : decode cX10_mostSaid 65 = .ok (.if_icmp .ge 26, 3) := by decide +kernel
theorem dX10_mostSaid_68 : decode cX10_mostSaid 68 = .ok (.aload_n 0, 1) := by decide +kernel
theorem dX10_mostSaid_69 : decode cX10_mostSaid 69 = .ok (.getfield 25, 3) := by decide +kernel
theorem dX10_mostSaid_72 : decode cX10_mostSaid 72 = .ok (.iload_n 3, 1) := by decide +kernel
theorem dX10_mostSaid_73 : decode cX10_mostSaid 73 = .ok (.iaload, 1) := by decide +kernel
theorem dX10_mostSaid_74 : decode cX10_mostSaid 74 = .ok (.aload_n 0, 1) := by decide +kernel
theorem dX10_mostSaid_75 : decode cX10_mostSaid 75 = .ok (.getfield 25, 3) := by decide +kernel
theorem dX10_mostSaid_78 : decode cX10_mostSaid 78 = .ok (.iload_n 2, 1) := by decide +kernel
theorem dX10_mostSaid_79 : decode cX10_mostSaid 79 = .ok (.iaload, 1) := by decide +kernel
theorem dX10_mostSaid_80 : decode cX10_mostSaid 80 = .ok (.if_icmp .le 5, 3) := by decide +kernel
theorem dX10_mostSaid_83 : decode cX10_mostSaid 83 = .ok (.iload_n 3, 1) := by decide +kernel
theorem dX10_mostSaid_84 : decode cX10_mostSaid 84 = .ok (.istore_n 2, 1) := by decide +kernel
theorem dX10_mostSaid_85 : decode cX10_mostSaid 85 = .ok (.iinc 3 1, 3) := by decide +kernel
theorem dX10_mostSaid_88 : decode cX10_mostSaid 88 = .ok (.goto (-25), 3) := by decide +kernel
theorem dX10_mostSaid_91 : decode cX10_mostSaid 91 = .ok (.aload_n 0, 1) := by decide +kernel
theorem dX10_mostSaid_92 : decode cX10_mostSaid 92 = .ok (.getfield 25, 3) := by decide +kernel
theorem dX10_mostSaid_95 : decode cX10_mostSaid 95 = .ok (.iload_n 2, 1) := by decide +kernel
theorem dX10_mostSaid_96 : decode cX10_mostSaid 96 = .ok (.iaload, 1) := by decide +kernel
theorem dX10_mostSaid_97 : decode cX10_mostSaid 97 = .ok (.ifCond .le 7, 3) := by decide +kernel
theorem dX10_mostSaid_100 : decode cX10_mostSaid 100 = .ok (.iload_n 2, 1) := by decide +kernel
theorem dX10_mostSaid_101 : decode cX10_mostSaid 101 = .ok (.goto 4, 3) := by decide +kernel
theorem dX10_mostSaid_104 : decode cX10_mostSaid 104 = .ok (.iconst (-1), 1) := by decide +kernel
theorem dX10_mostSaid_105 : decode cX10_mostSaid 105 = .ok (.ireturn, 1) := by decide +kernel
theorem dX10_askOnce_0 : decode cX10_askOnce 0 = .ok (.aload_n 0, 1) := by decide +kernel
theorem dX10_askOnce_1 : decode cX10_askOnce 1 = .ok (.dup, 1) := by decide +kernel
theorem dX10_askOnce_2 : decode cX10_askOnce 2 = .ok (.getfield 76, 3) := by decide +kernel
theorem dX10_askOnce_5 : decode cX10_askOnce 5 = .ok (.iconst 1, 1) := by decide +kernel
theorem dX10_askOnce_6 : decode cX10_askOnce 6 = .ok (.iadd, 1) := by decide +kernel
theorem dX10_askOnce_7 : decode cX10_askOnce 7 = .ok (.putfield 76, 3) := by decide +kernel
theorem dX10_askOnce_10 : decode cX10_askOnce 10 = .ok (.aload_n 0, 1) := by decide +kernel
theorem dX10_askOnce_11 : decode cX10_askOnce 11 = .ok (.dup, 1) := by decide +kernel
theorem dX10_askOnce_12 : decode cX10_askOnce 12 = .ok (.getfield 73, 3) := by decide +kernel
theorem dX10_askOnce_15 : decode cX10_askOnce 15 = .ok (.aload_n 0, 1) := by decide +kernel
theorem dX10_askOnce_16 : decode cX10_askOnce 16 = .ok (.getfield 12, 3) := by decide +kernel
theorem dX10_askOnce_19 : decode cX10_askOnce 19 = .ok (.getfield 165, 3) := by decide +kernel
theorem dX10_askOnce_22 : decode cX10_askOnce 22 = .ok (.iadd, 1) := by decide +kernel
theorem dX10_askOnce_23 : decode cX10_askOnce 23 = .ok (.putfield 73, 3) := by decide +kernel
theorem dX10_askOnce_26 : decode cX10_askOnce 26 = .ok (.aload_n 0, 1) := by decide +kernel
theorem dX10_askOnce_27 : decode cX10_askOnce 27 = .ok (.aload_n 0, 1) := by decide +kernel
theorem dX10_askOnce_28 : decode cX10_askOnce 28 = .ok (.getfield 53, 3) := by decide +kernel
theorem dX10_askOnce_31 : decode cX10_askOnce 31 = .ok (.ldc 168, 2) := by decide +kernel
theorem dX10_askOnce_33 : decode cX10_askOnce 33 = .ok (.imul, 1) := by decide +kernel
theorem dX10_askOnce_34 : decode cX10_askOnce 34 = .ok (.sipush 12345, 3) := by decide +kernel
theorem dX10_askOnce_37 : decode cX10_askOnce 37 = .ok (.iadd, 1) := by decide +kernel
theorem dX10_askOnce_38 : decode cX10_askOnce 38 = .ok (.putfield 53, 3) := by decide +kernel
theorem dX10_askOnce_41 : decode cX10_askOnce 41 = .ok (.aload_n 0, 1) := by decide +kernel
theorem dX10_askOnce_42 : decode cX10_askOnce 42 = .ok (.getfield 70, 3) := by decide +kernel
theorem dX10_askOnce_45 : decode cX10_askOnce 45 = .ok (.aload_n 0, 1) := by decide +kernel
theorem dX10_askOnce_46 : decode cX10_askOnce 46 = .ok (.getfield 38, 3) := by decide +kernel
theorem dX10_askOnce_49 : decode cX10_askOnce 49 = .ok (.if_icmp .ne 8, 3) := by decide +kernel
theorem dX10_askOnce_52 : decode cX10_askOnce 52 = .ok (.aload_n 0, 1) := by decide +kernel
theorem dX10_askOnce_53 : decode cX10_askOnce 53 = .ok (.getfield 67, 3) := by decide +kernel
theorem dX10_askOnce_56 : decode cX10_askOnce 56 = .ok (.ireturn, 1) := by decide +kernel
theorem dX10_askOnce_57 : decode cX10_askOnce 57 = .ok (.aload_n 0, 1) := by decide +kernel
theorem dX10_askOnce_58 : decode cX10_askOnce 58 = .ok (.getfield 12, 3) := by decide +kernel
theorem dX10_askOnce_61 : decode cX10_askOnce 61 = .ok (.aload_n 0, 1) := by decide +kernel
theorem dX10_askOnce_62 : decode cX10_askOnce 62 = .ok (.getfield 70, 3) := by decide +kernel
theorem dX10_askOnce_65 : decode cX10_askOnce 65 = .ok (.aload_n 0, 1) := by decide +kernel
theorem dX10_askOnce_66 : decode cX10_askOnce 66 = .ok (.getfield 53, 3) := by decide +kernel
theorem dX10_askOnce_69 : decode cX10_askOnce 69 = .ok (.ldc 169, 2) := by decide +kernel
theorem dX10_askOnce_71 : decode cX10_askOnce 71 = .ok (.iand, 1) := by decide +kernel
theorem dX10_askOnce_72 : decode cX10_askOnce 72 = .ok (.ldc 170, 2) := by decide +kernel
theorem dX10_askOnce_74 : decode cX10_askOnce 74 = .ok (.idiv, 1) := by decide +kernel
theorem dX10_askOnce_75 : decode cX10_askOnce 75 = .ok (.bipush 100, 2) := by decide +kernel
theorem dX10_askOnce_77 : decode cX10_askOnce 77 = .ok (.irem, 1) := by decide +kernel
theorem dX10_askOnce_78 : decode cX10_askOnce 78 = .ok (.invokevirtual 171, 3) := by decide +kernel
theorem dX10_askOnce_81 : decode cX10_askOnce 81 = .ok (.istore_n 1, 1) := by decide +kernel
theorem dX10_askOnce_82 : decode cX10_askOnce 82 = .ok (.iload_n 1, 1) := by decide +kernel
theorem dX10_askOnce_83 : decode cX10_askOnce 83 = .ok (.iconst (-1), 1) := by decide +kernel
theorem dX10_askOnce_84 : decode cX10_askOnce 84 = .ok (.if_icmp .ne 7, 3) := by decide +kernel
theorem dX10_askOnce_87 : decode cX10_askOnce 87 = .ok (.iconst (-1), 1) := by decide +kernel
theorem dX10_askOnce_88 : decode cX10_askOnce 88 = .ok (.goto 19, 3) := by decide +kernel
theorem dX10_askOnce_91 : decode cX10_askOnce 91 = .ok (.aload_n 0, 1) := by decide +kernel
theorem dX10_askOnce_92 : decode cX10_askOnce 92 = .ok (.getfield 12, 3) := by decide +kernel
theorem dX10_askOnce_95 : decode cX10_askOnce 95 = .ok (.iload_n 1, 1) := by decide +kernel
theorem dX10_askOnce_96 : decode cX10_askOnce 96 = .ok (.aload_n 0, 1) := by decide +kernel
theorem dX10_askOnce_97 : decode cX10_askOnce 97 = .ok (.getfield 70, 3) := by decide +kernel
theorem dX10_askOnce_100 : decode cX10_askOnce 100 = .ok (.aload_n 0, 1) := by decide +kernel
theorem dX10_askOnce_101 : decode cX10_askOnce 101 = .ok (.getfield 67, 3) := by decide +kernel
theorem dX10_askOnce_104 : decode cX10_askOnce 104 = .ok (.invokevirtual 174, 3) := by decide +kernel
theorem dX10_askOnce_107 : decode cX10_askOnce 107 = .ok (.ireturn, 1) := by decide +kernel
theorem dX11_init_0 : decode cX11_init 0 = .ok (.aload_n 0, 1) := by decide +kernel
theorem dX11_init_1 : decode cX11_init 1 = .ok (.invokespecial 1, 3) := by decide +kernel
theorem dX11_init_4 : decode cX11_init 4 = .ok (.aload_n 0, 1) := by decide +kernel
theorem dX11_init_5 : decode cX11_init 5 = .ok (.new 7, 3) := by decide +kernel
theorem dX11_init_8 : decode cX11_init 8 = .ok (.dup, 1) := by decide +kernel
theorem dX11_init_9 : decode cX11_init 9 = .ok (.invokespecial 9, 3) := by decide +kernel
theorem dX11_init_12 : decode cX11_init 12 = .ok (.putfield 10, 3) := by decide +kernel
theorem dX11_init_15 : decode cX11_init 15 = .ok (.aload_n 0, 1) := by decide +kernel
theorem dX11_init_16 : decode cX11_init 16 = .ok (.aload_n 0, 1) := by decide +kernel
theorem dX11_init_17 : decode cX11_init 17 = .ok (.getfield 10, 3) := by decide +kernel
theorem dX11_init_20 : decode cX11_init 20 = .ok (.getfield 16, 3) := by decide +kernel
theorem dX11_init_23 : decode cX11_init 23 = .ok (.putfield 20, 3) := by decide +kernel
theorem dX11_init_26 : decode cX11_init 26 = .ok (.aload_n 0, 1) := by decide +kernel
theorem dX11_init_27 : decode cX11_init 27 = .ok (.new 23, 3) := by decide +kernel
theorem dX11_init_30 : decode cX11_init 30 = .ok (.dup, 1) := by decide +kernel
theorem dX11_init_31 : decode cX11_init 31 = .ok (.invokespecial 25, 3) := by decide +kernel
theorem dX11_init_34 : decode cX11_init 34 = .ok (.putfield 26, 3) := by decide +kernel
theorem dX11_init_37 : decode cX11_init 37 = .ok (.aload_n 0, 1) := by decide +kernel
theorem dX11_init_38 : decode cX11_init 38 = .ok (.new 23, 3) := by decide +kernel
theorem dX11_init_41 : decode cX11_init 41 = .ok (.dup, 1) := by decide +kernel
theorem dX11_init_42 : decode cX11_init 42 = .ok (.invokespecial 25, 3) := by decide +kernel
theorem dX11_init_45 : decode cX11_init 45 = .ok (.putfield 29, 3) := by decide +kernel
theorem dX11_init_48 : decode cX11_init 48 = .ok (.aload_n 0, 1) := by decide +kernel
theorem dX11_init_49 : decode cX11_init 49 = .ok (.new 32, 3) := by decide +kernel
theorem dX11_init_52 : decode cX11_init 52 = .ok (.dup, 1) := by decide +kernel
theorem dX11_init_53 : decode cX11_init 53 = .ok (.invokespecial 34, 3) := by decide +kernel
theorem dX11_init_56 : decode cX11_init 56 = .ok (.putfield 35, 3) := by decide +kernel
theorem dX11_init_59 : decode cX11_init 59 = .ok (.aload_n 0, 1) := by decide +kernel
theorem dX11_init_60 : decode cX11_init 60 = .ok (.new 32, 3) := by decide +kernel
theorem dX11_init_63 : decode cX11_init 63 = .ok (.dup, 1) := by decide +kernel
theorem dX11_init_64 : decode cX11_init 64 = .ok (.invokespecial 34, 3) := by decide +kernel
theorem dX11_init_67 : decode cX11_init 67 = .ok (.putfield 39, 3) := by decide +kernel
theorem dX11_init_70 : decode cX11_init 70 = .ok (.aload_n 0, 1) := by decide +kernel
theorem dX11_init_71 : decode cX11_init 71 = .ok (.new 32, 3) := by decide +kernel
theorem dX11_init_74 : decode cX11_init 74 = .ok (.dup, 1) := by decide +kernel
theorem dX11_init_75 : decode cX11_init 75 = .ok (.invokespecial 34, 3) := by decide +kernel
theorem dX11_init_78 : decode cX11_init 78 = .ok (.putfield 42, 3) := by decide +kernel
theorem dX11_init_81 : decode cX11_init 81 = .ok (.aload_n 0, 1) := by decide +kernel
theorem dX11_init_82 : decode cX11_init 82 = .ok (.new 45, 3) := by decide +kernel
theorem dX11_init_85 : decode cX11_init 85 = .ok (.dup, 1) := by decide +kernel
theorem dX11_init_86 : decode cX11_init 86 = .ok (.invokespecial 47, 3) := by decide +kernel
theorem dX11_init_89 : decode cX11_init 89 = .ok (.putfield 48, 3) := by decide +kernel
theorem dX11_init_92 : decode cX11_init 92 = .ok (.aload_n 0, 1) := by decide +kernel
theorem dX11_init_93 : decode cX11_init 93 = .ok (.new 52, 3) := by decide +kernel
theorem dX11_init_96 : decode cX11_init 96 = .ok (.dup, 1) := by decide +kernel
theorem dX11_init_97 : decode cX11_init 97 = .ok (.iconst 0, 1) := by decide +kernel
theorem dX11_init_98 : decode cX11_init 98 = .ok (.invokespecial 54, 3) := by decide +kernel
theorem dX11_init_101 : decode cX11_init 101 = .ok (.putfield 57, 3) := by decide +kernel
theorem dX11_init_104 : decode cX11_init 104 = .ok (.aload_n 0, 1) := by decide +kernel
theorem dX11_init_105 : decode cX11_init 105 = .ok (.new 61, 3) := by decide +kernel
theorem dX11_init_108 : decode cX11_init 108 = .ok (.dup, 1) := by decide +kernel
theorem dX11_init_109 : decode cX11_init 109 = .ok (.iconst 0, 1) := by decide +kernel
theorem dX11_init_110 : decode cX11_init 110 = .ok (.invokespecial 63, 3) := by decide +kernel
theorem dX11_init_113 : decode cX11_init 113 = .ok (.putfield 64, 3) := by decide +kernel
theorem dX11_init_116 : decode cX11_init 116 = .ok (.aload_n 0, 1) := by decide +kernel
theorem dX11_init_117 : decode cX11_init 117 = .ok (.bipush 8, 2) := by decide +kernel
theorem dX11_init_119 : decode cX11_init 119 = .ok (.anewarray 52, 3) := by decide +kernel
theorem dX11_init_122 : decode cX11_init 122 = .ok (.putfield 67, 3) := by decide +kernel
theorem dX11_init_125 : decode cX11_init 125 = .ok (.aload_n 0, 1) := by decide +kernel
theorem dX11_init_126 : decode cX11_init 126 = .ok (.bipush 8, 2) := by decide +kernel
theorem dX11_init_128 : decode cX11_init 128 = .ok (.anewarray 71, 3) := by decide +kernel
theorem dX11_init_131 : decode cX11_init 131 = .ok (.putfield 73, 3) := by decide +kernel
theorem dX11_init_134 : decode cX11_init 134 = .ok (.aload_n 0, 1) := by decide +kernel
theorem dX11_init_135 : decode cX11_init 135 = .ok (.iconst 0, 1) := by decide +kernel
theorem dX11_init_136 : decode cX11_init 136 = .ok (.putfield 77, 3) := by decide +kernel
theorem dX11_init_139 : decode cX11_init 139 = .ok (.return_, 1) := by decide +kernel
theorem dX11_land_0 : decode cX11_land 0 = .ok (.aload_n 0, 1) := by decide +kernel
theorem dX11_land_1 : decode cX11_land 1 = .ok (.iload_n 1, 1) := by decide +kernel
theorem dX11_land_2 : decode cX11_land 2 = .ok (.invokevirtual 81, 3) := by decide +kernel
theorem dX11_land_5 : decode cX11_land 5 = .ok (.astore_n 2, 1) := by decide +kernel
theorem dX11_land_6 : decode cX11_land 6 = .ok (.aload_n 2, 1) := by decide +kernel
theorem dX11_land_7 : decode cX11_land 7 = .ok (.ifnonnull 9, 3) := by decide +kernel
theorem dX11_land_10 : decode cX11_land 10 = .ok (.aload_n 0, 1) := by decide +kernel
theorem dX11_land_11 : decode cX11_land 11 = .ok (.iload_n 1, 1) := by decide +kernel
theorem dX11_land_12 : decode cX11_land 12 = .ok (.invokevirtual 85, 3) := by decide +kernel
theorem dX11_land_15 : decode cX11_land 15 = .ok (.ireturn, 1) := by decide +kernel
theorem dX11_land_16 : decode cX11_land 16 = .ok (.aload_n 2, 1) := by decide +kernel
theorem dX11_land_17 : decode cX11_land 17 = .ok (.getfield 89, 3) := by decide +kernel
theorem dX11_land_20 : decode cX11_land 20 = .ok (.ifCond .eq 6, 3) := by decide +kernel
theorem dX11_land_23 : decode cX11_land 23 = .ok (.bipush (-12), 2) := by decide +kernel
theorem dX11_land_25 : decode cX11_land 25 = .ok (.ireturn, 1) := by decide +kernel
theorem dX11_land_26 : decode cX11_land 26 = .ok (.aload_n 0, 1) := by decide +kernel
theorem dX11_land_27 : decode cX11_land 27 = .ok (.getfield 29, 3) := by decide +kernel
theorem dX11_land_30 : decode cX11_land 30 = .ok (.aload_n 0, 1) := by decide +kernel
theorem dX11_land_31 : decode cX11_land 31 = .ok (.getfield 20, 3) := by decide +kernel
theorem dX11_land_34 : decode cX11_land 34 = .ok (.invokevirtual 93, 3) := by decide +kernel
theorem dX11_land_37 : decode cX11_land 37 = .ok (.aload_n 0, 1) := by decide +kernel
theorem dX11_land_38 : decode cX11_land 38 = .ok (.getfield 48, 3) := by decide +kernel
theorem dX11_land_41 : decode cX11_land 41 = .ok (.aload_n 2, 1) := by decide +kernel
theorem dX11_land_42 : decode cX11_land 42 = .ok (.aload_n 0, 1) := by decide +kernel
theorem dX11_land_43 : decode cX11_land 43 = .ok (.getfield 29, 3) := by decide +kernel
theorem dX11_land_46 : decode cX11_land 46 = .ok (.invokevirtual 97, 3) := by decide +kernel
theorem dX11_land_49 : decode cX11_land 49 = .ok (.istore_n 3, 1) := by decide +kernel
theorem dX11_land_50 : decode cX11_land 50 = .ok (.iload_n 3, 1) := by decide +kernel
theorem dX11_land_51 : decode cX11_land 51 = .ok (.ifCond .le 32, 3) := by decide +kernel
theorem dX11_land_54 : decode cX11_land 54 = .ok (.aload_n 0, 1) := by decide +kernel
theorem dX11_land_55 : decode cX11_land 55 = .ok (.getfield 20, 3) := by decide +kernel
theorem dX11_land_58 : decode cX11_land 58 = .ok (.aload_n 0, 1) := by decide +kernel
theorem dX11_land_59 : decode cX11_land 59 = .ok (.getfield 29, 3) := by decide +kernel
theorem dX11_land_62 : decode cX11_land 62 = .ok (.invokevirtual 93, 3) := by decide +kernel
theorem dX11_land_65 : decode cX11_land 65 = .ok (.aload_n 0, 1) := by decide +kernel
theorem dX11_land_66 : decode cX11_land 66 = .ok (.getfield 20, 3) := by decide +kernel
theorem dX11_land_69 : decode cX11_land 69 = .ok (.invokevirtual 101, 3) := by decide +kernel
theorem dX11_land_72 : decode cX11_land 72 = .ok (.aload_n 0, 1) := by decide +kernel
theorem dX11_land_73 : decode cX11_land 73 = .ok (.getfield 35, 3) := by decide +kernel
theorem dX11_land_76 : decode cX11_land 76 = .ok (.aload_n 0, 1) := by decide +kernel
theorem dX11_land_77 : decode cX11_land 77 = .ok (.getfield 20, 3) := by decide +kernel
theorem dX11_land_80 : decode cX11_land 80 = .ok (.invokevirtual 104, 3) := by decide +kernel
theorem dX11_land_83 : decode cX11_land 83 = .ok (.iload_n 3, 1) := by decide +kernel
theorem dX11_land_84 : decode cX11_land 84 = .ok (.ireturn, 1) := by decide +kernel
theorem dX11_road_0 : decode cX11_road 0 = .ok (.aload_n 0, 1) := by decide +kernel
theorem dX11_road_1 : decode cX11_road 1 = .ok (.getfield 20, 3) := by decide +kernel
theorem dX11_road_4 : decode cX11_road 4 = .ok (.iload_n 1, 1) := by decide +kernel
theorem dX11_road_5 : decode cX11_road 5 = .ok (.invokevirtual 107, 3) := by decide +kernel
theorem dX11_road_8 : decode cX11_road 8 = .ok (.ifCond .ne 5, 3) := by decide +kernel
theorem dX11_road_11 : decode cX11_road 11 = .ok (.iconst (-1), 1) := by decide +kernel
theorem dX11_road_12 : decode cX11_road 12 = .ok (.ireturn, 1) := by decide +kernel
theorem dX11_road_13 : decode cX11_road 13 = .ok (.iload_n 2, 1) := by decide +kernel
theorem dX11_road_14 : decode cX11_road 14 = .ok (.tableswitch 56 0 2 #[26, 36, 46], 26) := by decide +kernel
theorem dX11_road_40 : decode cX11_road 40 = .ok (.aload_n 0, 1) := by decide +kernel
theorem dX11_road_41 : decode cX11_road 41 = .ok (.getfield 20, 3) := by decide +kernel
theorem dX11_road_44 : decode cX11_road 44 = .ok (.getfield 111, 3) := by decide +kernel
theorem dX11_road_47 : decode cX11_road 47 = .ok (.iload_n 1, 1) := by decide +kernel
theorem dX11_road_48 : decode cX11_road 48 = .ok (.iaload, 1) := by decide +kernel
theorem dX11_road_49 : decode cX11_road 49 = .ok (.ireturn, 1) := by decide +kernel
theorem dX11_road_50 : decode cX11_road 50 = .ok (.aload_n 0, 1) := by decide +kernel
theorem dX11_road_51 : decode cX11_road 51 = .ok (.getfield 20, 3) := by decide +kernel
theorem dX11_road_54 : decode cX11_road 54 = .ok (.getfield 115, 3) := by decide +kernel
theorem dX11_road_57 : decode cX11_road 57 = .ok (.iload_n 1, 1) := by decide +kernel
theorem dX11_road_58 : decode cX11_road 58 = .ok (.iaload, 1) := by decide +kernel
theorem dX11_road_59 : decode cX11_road 59 = .ok (.ireturn, 1) := by decide +kernel
theorem dX11_road_60 : decode cX11_road 60 = .ok (.aload_n 0, 1) := by decide +kernel
theorem dX11_road_61 : decode cX11_road 61 = .ok (.getfield 20, 3) := by decide +kernel
theorem dX11_road_64 : decode cX11_road 64 = .ok (.getfield 118, 3) := by decide +kernel
theorem dX11_road_67 : decode cX11_road 67 = .ok (.iload_n 1, 1) := by decide +kernel
theorem dX11_road_68 : decode cX11_road 68 = .ok (.iaload, 1) := by decide +kernel
theorem dX11_road_69 : decode cX11_road 69 = .ok (.ireturn, 1) := by decide +kernel
theorem dX11_road_70 : decode cX11_road 70 = .ok (.iconst (-1), 1) := by decide +kernel
theorem dX11_road_71 : decode cX11_road 71 = .ok (.ireturn, 1) := by decide +kernel
theorem dX11_world_0 : decode cX11_world 0 = .ok (.aload_n 0, 1) := by decide +kernel
theorem dX11_world_1 : decode cX11_world 1 = .ok (.getfield 20, 3) := by decide +kernel
theorem dX11_world_4 : decode cX11_world 4 = .ok (.iload_n 1, 1) := by decide +kernel
theorem dX11_world_5 : decode cX11_world 5 = .ok (.invokevirtual 121, 3) := by decide +kernel
theorem dX11_world_8 : decode cX11_world 8 = .ok (.ifCond .ne 5, 3) := by decide +kernel
theorem dX11_world_11 : decode cX11_world 11 = .ok (.iconst (-1), 1) := by decide +kernel
theorem dX11_world_12 : decode cX11_world 12 = .ok (.ireturn, 1) := by decide +kernel
theorem dX11_world_13 : decode cX11_world 13 = .ok (.iload_n 2, 1) := by decide +kernel
theorem dX11_world_14 : decode cX11_world 14 = .ok (.tableswitch 56 0 2 #[26, 36, 46], 26) := by decide +kernel
theorem dX11_world_40 : decode cX11_world 40 = .ok (.aload_n 0, 1) := by decide +kernel
theorem dX11_world_41 : decode cX11_world 41 = .ok (.getfield 20, 3) := by decide +kernel
theorem dX11_world_44 : decode cX11_world 44 = .ok (.getfield 124, 3) := by decide +kernel
theorem dX11_world_47 : decode cX11_world 47 = .ok (.iload_n 1, 1) := by decide +kernel
theorem dX11_world_48 : decode cX11_world 48 = .ok (.iaload, 1) := by decide +kernel
theorem dX11_world_49 : decode cX11_world 49 = .ok (.ireturn, 1) := by decide +kernel
theorem dX11_world_50 : decode cX11_world 50 = .ok (.aload_n 0, 1) := by decide +kernel
theorem dX11_world_51 : decode cX11_world 51 = .ok (.getfield 20, 3) := by decide +kernel
theorem dX11_world_54 : decode cX11_world 54 = .ok (.getfield 127, 3) := by decide +kernel
theorem dX11_world_57 : decode cX11_world 57 = .ok (.iload_n 1, 1) := by decide +kernel
theorem dX11_world_58 : decode cX11_world 58 = .ok (.iaload, 1) := by decide +kernel
theorem dX11_world_59 : decode cX11_world 59 = .ok (.ireturn, 1) := by decide +kernel
theorem dX11_world_60 : decode cX11_world 60 = .ok (.aload_n 0, 1) := by decide +kernel
theorem dX11_world_61 : decode cX11_world 61 = .ok (.getfield 20, 3) := by decide +kernel
theorem dX11_world_64 : decode cX11_world 64 = .ok (.getfield 130, 3) := by decide +kernel
theorem dX11_world_67 : decode cX11_world 67 = .ok (.iload_n 1, 1) := by decide +kernel
theorem dX11_world_68 : decode cX11_world 68 = .ok (.iaload, 1) := by decide +kernel
theorem dX11_world_69 : decode cX11_world 69 = .ok (.ireturn, 1) := by decide +kernel
theorem dX11_world_70 : decode cX11_world 70 = .ok (.iconst (-1), 1) := by decide +kernel
theorem dX11_world_71 : decode cX11_world 71 = .ok (.ireturn, 1) := by decide +kernel
theorem dX11_met_0 : decode cX11_met 0 = .ok (.iload_n 1, 1) := by decide +kernel
theorem dX11_met_1 : decode cX11_met 1 = .ok (.invokestatic 133, 3) := by decide +kernel
theorem dX11_met_4 : decode cX11_met 4 = .ok (.ifCond .eq 14, 3) := by decide +kernel
theorem dX11_met_7 : decode cX11_met 7 = .ok (.aload_n 0, 1) := by decide +kernel
theorem dX11_met_8 : decode cX11_met 8 = .ok (.getfield 20, 3) := by decide +kernel
theorem dX11_met_11 : decode cX11_met 11 = .ok (.iload_n 2, 1) := by decide +kernel
theorem dX11_met_12 : decode cX11_met 12 = .ok (.invokevirtual 136, 3) := by decide +kernel
theorem dX11_met_15 : decode cX11_met 15 = .ok (.ifCond .ne 5, 3) := by decide +kernel
theorem dX11_met_18 : decode cX11_met 18 = .ok (.iconst (-1), 1) := by decide +kernel
theorem dX11_met_19 : decode cX11_met 19 = .ok (.ireturn, 1) := by decide +kernel
theorem dX11_met_20 : decode cX11_met 20 = .ok (.aload_n 0, 1) := by decide +kernel
theorem dX11_met_21 : decode cX11_met 21 = .ok (.getfield 20, 3) := by decide +kernel
theorem dX11_met_24 : decode cX11_met 24 = .ok (.getfield 139, 3) := by decide +kernel
theorem dX11_met_27 : decode cX11_met 27 = .ok (.iload_n 1, 1) := by decide +kernel
theorem dX11_met_28 : decode cX11_met 28 = .ok (.aaload, 1) := by decide +kernel
theorem dX11_met_29 : decode cX11_met 29 = .ok (.iload_n 2, 1) := by decide +kernel
theorem dX11_met_30 : decode cX11_met 30 = .ok (.iaload, 1) := by decide +kernel
theorem dX11_met_31 : decode cX11_met 31 = .ok (.ireturn, 1) := by decide +kernel
theorem dX11_set_0 : decode cX11_set 0 = .ok (.iconst (-1), 1) := by decide +kernel
theorem dX11_set_1 : decode cX11_set 1 = .ok (.istore_n 3, 1) := by decide +kernel
theorem dX11_set_2 : decode cX11_set 2 = .ok (.iload_n 1, 1) := by decide +kernel
theorem dX11_set_3 : decode cX11_set 3 = .ok (.ifCond .ne 29, 3) := by decide +kernel
theorem dX11_set_6 : decode cX11_set 6 = .ok (.iload_n 2, 1) := by decide +kernel
theorem dX11_set_7 : decode cX11_set 7 = .ok (.invokestatic 133, 3) := by decide +kernel
theorem dX11_set_10 : decode cX11_set 10 = .ok (.ifCond .eq 22, 3) := by decide +kernel
theorem dX11_set_13 : decode cX11_set 13 = .ok (.aload_n 0, 1) := by decide +kernel
theorem dX11_set_14 : decode cX11_set 14 = .ok (.getfield 20, 3) := by decide +kernel
theorem dX11_set_17 : decode cX11_set 17 = .ok (.getfield 143, 3) := by decide +kernel
theorem dX11_set_20 : decode cX11_set 20 = .ok (.istore_n 3, 1) := by decide +kernel
theorem dX11_set_21 : decode cX11_set 21 = .ok (.aload_n 0, 1) := by decide +kernel
theorem dX11_set_22 : decode cX11_set 22 = .ok (.getfield 20, 3) := by decide +kernel
theorem dX11_set_25 : decode cX11_set 25 = .ok (.iload_n 2, 1) := by decide +kernel
theorem dX11_set_26 : decode cX11_set 26 = .ok (.putfield 143, 3) := by decide +kernel
theorem dX11_set_29 : decode cX11_set 29 = .ok (.goto 34, 3) := by decide +kernel
theorem dX11_set_32 : decode cX11_set 32 = .ok (.iload_n 1, 1) := by decide +kernel
theorem dX11_set_33 : decode cX11_set 33 = .ok (.iconst 1, 1) := by decide +kernel
theorem dX11_set_34 : decode cX11_set 34 = .ok (.if_icmp .ne 29, 3) := by decide +kernel
theorem dX11_set_37 : decode cX11_set 37 = .ok (.iload_n 2, 1) := by decide +kernel
theorem dX11_set_38 : decode cX11_set 38 = .ok (.ifCond .lt 25, 3) := by decide +kernel
theorem dX11_set_41 : decode cX11_set 41 = .ok (.iload_n 2, 1) := by decide +kernel
theorem dX11_set_42 : decode cX11_set 42 = .ok (.bipush 30, 2) := by decide +kernel
theorem dX11_set_44 : decode cX11_set 44 = .ok (.if_icmp .gt 19, 3) := by decide +kernel
theorem dX11_set_47 : decode cX11_set 47 = .ok (.aload_n 0, 1) := by decide +kernel
theorem dX11_set_48 : decode cX11_set 48 = .ok (.getfield 20, 3) := by decide +kernel
theorem dX11_set_51 : decode cX11_set 51 = .ok (.getfield 146, 3) := by decide +kernel
theorem dX11_set_54 : decode cX11_set 54 = .ok (.istore_n 3, 1) := by decide +kernel
theorem dX11_set_55 : decode cX11_set 55 = .ok (.aload_n 0, 1) := by decide +kernel
theorem dX11_set_56 : decode cX11_set 56 = .ok (.getfield 20, 3) := by decide +kernel
theorem dX11_set_59 : decode cX11_set 59 = .ok (.iload_n 2, 1) := by decide +kernel
theorem dX11_set_60 : decode cX11_set 60 = .ok (.putfield 146, 3) := by decide +kernel
theorem dX11_set_63 : decode cX11_set 63 = .ok (.iload_n 3, 1) := by decide +kernel
theorem dX11_set_64 : decode cX11_set 64 = .ok (.ireturn, 1) := by decide +kernel
theorem dX11_way_0 : decode cX11_way 0 = .ok (.aload_n 0, 1) := by decide +kernel
theorem dX11_way_1 : decode cX11_way 1 = .ok (.getfield 20, 3) := by decide +kernel
theorem dX11_way_4 : decode cX11_way 4 = .ok (.iload_n 1, 1) := by decide +kernel
theorem dX11_way_5 : decode cX11_way 5 = .ok (.invokevirtual 121, 3) := by decide +kernel
theorem dX11_way_8 : decode cX11_way 8 = .ok (.ifCond .eq 10, 3) := by decide +kernel
theorem dX11_way_11 : decode cX11_way 11 = .ok (.iload_n 2, 1) := by decide +kernel
theorem dX11_way_12 : decode cX11_way 12 = .ok (.invokestatic 133, 3) := by decide +kernel
theorem dX11_way_15 : decode cX11_way 15 = .ok (.ifCond .ne 5, 3) := by decide +kernel
theorem dX11_way_18 : decode cX11_way 18 = .ok (.iconst (-1), 1) := by decide +kernel
theorem dX11_way_19 : decode cX11_way 19 = .ok (.ireturn, 1) := by decide +kernel
theorem dX11_way_20 : decode cX11_way 20 = .ok (.aload_n 0, 1) := by decide +kernel
theorem dX11_way_21 : decode cX11_way 21 = .ok (.getfield 20, 3) := by decide +kernel
theorem dX11_way_24 : decode cX11_way 24 = .ok (.getfield 149, 3) := by decide +kernel
theorem dX11_way_27 : decode cX11_way 27 = .ok (.iload_n 1, 1) := by decide +kernel
theorem dX11_way_28 : decode cX11_way 28 = .ok (.aaload, 1) := by decide +kernel
theorem dX11_way_29 : decode cX11_way 29 = .ok (.iload_n 2, 1) := by decide +kernel
theorem dX11_way_30 : decode cX11_way 30 = .ok (.iaload, 1) := by decide +kernel
theorem dX11_way_31 : decode cX11_way 31 = .ok (.ireturn, 1) := by decide +kernel
theorem dX11_next_0 : decode cX11_next 0 = .ok (.aload_n 0, 1) := by decide +kernel
theorem dX11_next_1 : decode cX11_next 1 = .ok (.getfield 20, 3) := by decide +kernel
theorem dX11_next_4 : decode cX11_next 4 = .ok (.iload_n 1, 1) := by decide +kernel
theorem dX11_next_5 : decode cX11_next 5 = .ok (.invokevirtual 121, 3) := by decide +kernel
theorem dX11_next_8 : decode cX11_next 8 = .ok (.ifCond .eq 10, 3) := by decide +kernel
theorem dX11_next_11 : decode cX11_next 11 = .ok (.iload_n 2, 1) := by decide +kernel
theorem dX11_next_12 : decode cX11_next 12 = .ok (.invokestatic 133, 3) := by decide +kernel
theorem dX11_next_15 : decode cX11_next 15 = .ok (.ifCond .ne 5, 3) := by decide +kernel
theorem dX11_next_18 : decode cX11_next 18 = .ok (.iconst (-1), 1) := by decide +kernel
theorem dX11_next_19 : decode cX11_next 19 = .ok (.ireturn, 1) := by decide +kernel
theorem dX11_next_20 : decode cX11_next 20 = .ok (.aload_n 0, 1) := by decide +kernel
theorem dX11_next_21 : decode cX11_next 21 = .ok (.getfield 20, 3) := by decide +kernel
theorem dX11_next_24 : decode cX11_next 24 = .ok (.getfield 152, 3) := by decide +kernel
theorem dX11_next_27 : decode cX11_next 27 = .ok (.iload_n 1, 1) := by decide +kernel
theorem dX11_next_28 : decode cX11_next 28 = .ok (.aaload, 1) := by decide +kernel
theorem dX11_next_29 : decode cX11_next 29 = .ok (.iload_n 2, 1) := by decide +kernel
theorem dX11_next_30 : decode cX11_next 30 = .ok (.iaload, 1) := by decide +kernel
theorem dX11_next_31 : decode cX11_next 31 = .ok (.istore_n 3, 1) := by decide +kernel
theorem dX11_next_32 : decode cX11_next 32 = .ok (.iload_n 3, 1) := by decide +kernel
theorem dX11_next_33 : decode cX11_next 33 = .ok (.ifCond .ge 8, 3) := by decide +kernel
theorem dX11_next_36 : decode cX11_next 36 = .ok (.bipush (-4), 2) := by decide +kernel
theorem dX11_next_38 : decode cX11_next 38 = .ok (.goto 4, 3) := by decide +kernel
theorem dX11_next_41 : decode cX11_next 41 = .ok (.iload_n 3, 1) := by decide +kernel
theorem dX11_next_42 : decode cX11_next 42 = .ok (.ireturn, 1) := by decide +kernel
theorem dX11_says_0 : decode cX11_says 0 = .ok (.aload_n 0, 1) := by decide +kernel
theorem dX11_says_1 : decode cX11_says 1 = .ok (.getfield 20, 3) := by decide +kernel
theorem dX11_says_4 : decode cX11_says 4 = .ok (.iload_n 1, 1) := by decide +kernel
theorem dX11_says_5 : decode cX11_says 5 = .ok (.invokevirtual 136, 3) := by decide +kernel
theorem dX11_says_8 : decode cX11_says 8 = .ok (.ifCond .eq 21, 3) := by decide +kernel
theorem dX11_says_11 : decode cX11_says 11 = .ok (.iload_n 2, 1) := by decide +kernel
theorem dX11_says_12 : decode cX11_says 12 = .ok (.invokestatic 133, 3) := by decide +kernel
theorem dX11_says_15 : decode cX11_says 15 = .ok (.ifCond .eq 14, 3) := by decide +kernel
theorem dX11_says_18 : decode cX11_says 18 = .ok (.aload_n 0, 1) := by decide +kernel
theorem dX11_says_19 : decode cX11_says 19 = .ok (.getfield 20, 3) := by decide +kernel
theorem dX11_says_22 : decode cX11_says 22 = .ok (.iload_n 3, 1) := by decide +kernel
theorem dX11_says_23 : decode cX11_says 23 = .ok (.invokevirtual 121, 3) := by decide +kernel
theorem dX11_says_26 : decode cX11_says 26 = .ok (.ifCond .ne 5, 3) := by decide +kernel
theorem dX11_says_29 : decode cX11_says 29 = .ok (.iconst (-1), 1) := by decide +kernel
theorem dX11_says_30 : decode cX11_says 30 = .ok (.ireturn, 1) := by decide +kernel
theorem dX11_says_31 : decode cX11_says 31 = .ok (.aload_n 0, 1) := by decide +kernel
theorem dX11_says_32 : decode cX11_says 32 = .ok (.getfield 20, 3) := by decide +kernel
theorem dX11_says_35 : decode cX11_says 35 = .ok (.iload_n 1, 1) := by decide +kernel
theorem dX11_says_36 : decode cX11_says 36 = .ok (.iload_n 2, 1) := by decide +kernel
theorem dX11_says_37 : decode cX11_says 37 = .ok (.iload_n 3, 1) := by decide +kernel
theorem dX11_says_38 : decode cX11_says 38 = .ok (.invokevirtual 155, 3) := by decide +kernel
theorem dX11_says_41 : decode cX11_says 41 = .ok (.ireturn, 1) := by decide +kernel
theorem dX11_chance_0 : decode cX11_chance 0 = .ok (.iload_n 1, 1) := by decide +kernel
theorem dX11_chance_1 : decode cX11_chance 1 = .ok (.invokestatic 133, 3) := by decide +kernel
theorem dX11_chance_4 : decode cX11_chance 4 = .ok (.ifCond .eq 22, 3) := by decide +kernel
theorem dX11_chance_7 : decode cX11_chance 7 = .ok (.aload_n 0, 1) := by decide +kernel
theorem dX11_chance_8 : decode cX11_chance 8 = .ok (.iload_n 2, 1) := by decide +kernel
theorem dX11_chance_9 : decode cX11_chance 9 = .ok (.invokevirtual 159, 3) := by decide +kernel
theorem dX11_chance_12 : decode cX11_chance 12 = .ok (.ifCond .eq 14, 3) := by decide +kernel
theorem dX11_chance_15 : decode cX11_chance 15 = .ok (.aload_n 0, 1) := by decide +kernel
theorem dX11_chance_16 : decode cX11_chance 16 = .ok (.getfield 20, 3) := by decide +kernel
theorem dX11_chance_19 : decode cX11_chance 19 = .ok (.iload_n 3, 1) := by decide +kernel
theorem dX11_chance_20 : decode cX11_chance 20 = .ok (.invokevirtual 121, 3) := by decide +kernel
theorem dX11_chance_23 : decode cX11_chance 23 = .ok (.ifCond .ne 5, 3) := by decide +kernel
theorem dX11_chance_26 : decode cX11_chance 26 = .ok (.iconst (-1), 1) := by decide +kernel
theorem dX11_chance_27 : decode cX11_chance 27 = .ok (.ireturn, 1) := by decide +kernel
theorem dX11_chance_28 : decode cX11_chance 28 = .ok (.aload_n 0, 1) := by decide +kernel
theorem dX11_chance_29 : decode cX11_chance 29 = .ok (.getfield 20, 3) := by decide +kernel
theorem dX11_chance_32 : decode cX11_chance 32 = .ok (.getfield 162, 3) := by decide +kernel
theorem dX11_chance_35 : decode cX11_chance 35 = .ok (.iload_n 1, 1) := by decide +kernel
theorem dX11_chance_36 : decode cX11_chance 36 = .ok (.iload_n 2, 1) := by decide +kernel
theorem dX11_chance_37 : decode cX11_chance 37 = .ok (.invokestatic 165, 3) := by decide +kernel
theorem dX11_chance_40 : decode cX11_chance 40 = .ok (.aaload, 1) := by decide +kernel
theorem dX11_chance_41 : decode cX11_chance 41 = .ok (.iload_n 3, 1) := by decide +kernel
theorem dX11_chance_42 : decode cX11_chance 42 = .ok (.iaload, 1) := by decide +kernel
theorem dX11_chance_43 : decode cX11_chance 43 = .ok (.ireturn, 1) := by decide +kernel
theorem dX11_anew_0 : decode cX11_anew 0 = .ok (.aload_n 0, 1) := by decide +kernel
theorem dX11_anew_1 : decode cX11_anew 1 = .ok (.getfield 20, 3) := by decide +kernel
theorem dX11_anew_4 : decode cX11_anew 4 = .ok (.invokevirtual 169, 3) := by decide +kernel
theorem dX11_anew_7 : decode cX11_anew 7 = .ok (.ifCond .ne 6, 3) := by decide +kernel
theorem dX11_anew_10 : decode cX11_anew 10 = .ok (.bipush (-3), 2) := by decide +kernel
theorem dX11_anew_12 : decode cX11_anew 12 = .ok (.ireturn, 1) := by decide +kernel
theorem dX11_anew_13 : decode cX11_anew 13 = .ok (.aload_n 0, 1) := by decide +kernel
theorem dX11_anew_14 : decode cX11_anew 14 = .ok (.getfield 35, 3) := by decide +kernel
theorem dX11_anew_17 : decode cX11_anew 17 = .ok (.aload_n 0, 1) := by decide +kernel
theorem dX11_anew_18 : decode cX11_anew 18 = .ok (.getfield 20, 3) := by decide +kernel
theorem dX11_anew_21 : decode cX11_anew 21 = .ok (.invokevirtual 104, 3) := by decide +kernel
theorem dX11_anew_24 : decode cX11_anew 24 = .ok (.aload_n 0, 1) := by decide +kernel
theorem dX11_anew_25 : decode cX11_anew 25 = .ok (.getfield 35, 3) := by decide +kernel
theorem dX11_anew_28 : decode cX11_anew 28 = .ok (.invokevirtual 173, 3) := by decide +kernel
theorem dX11_anew_31 : decode cX11_anew 31 = .ok (.ireturn, 1) := by decide +kernel
theorem dX11_answer_0 : decode cX11_answer 0 = .ok (.iload_n 1, 1) := by decide +kernel
theorem dX11_answer_1 : decode cX11_answer 1 = .ok (.invokestatic 133, 3) := by decide +kernel
theorem dX11_answer_4 : decode cX11_answer 4 = .ok (.ifCond .eq 11, 3) := by decide +kernel
theorem dX11_answer_7 : decode cX11_answer 7 = .ok (.aload_n 0, 1) := by decide +kernel
theorem dX11_answer_8 : decode cX11_answer 8 = .ok (.iload_n 2, 1) := by decide +kernel
theorem dX11_answer_9 : decode cX11_answer 9 = .ok (.invokevirtual 159, 3) := by decide +kernel
theorem dX11_answer_12 : decode cX11_answer 12 = .ok (.ifCond .ne 5, 3) := by decide +kernel
theorem dX11_answer_15 : decode cX11_answer 15 = .ok (.iconst (-1), 1) := by decide +kernel
theorem dX11_answer_16 : decode cX11_answer 16 = .ok (.ireturn, 1) := by decide +kernel
theorem dX11_answer_17 : decode cX11_answer 17 = .ok (.aload_n 0, 1) := by decide +kernel
theorem dX11_answer_18 : decode cX11_answer 18 = .ok (.getfield 35, 3) := by decide +kernel
theorem dX11_answer_21 : decode cX11_answer 21 = .ok (.aload_n 0, 1) := by decide +kernel
theorem dX11_answer_22 : decode cX11_answer 22 = .ok (.getfield 20, 3) := by decide +kernel
theorem dX11_answer_25 : decode cX11_answer 25 = .ok (.iload_n 1, 1) := by decide +kernel
theorem dX11_answer_26 : decode cX11_answer 26 = .ok (.iload_n 2, 1) := by decide +kernel
theorem dX11_answer_27 : decode cX11_answer 27 = .ok (.invokevirtual 177, 3) := by decide +kernel
theorem dX11_answer_30 : decode cX11_answer 30 = .ok (.aload_n 0, 1) := by decide +kernel
theorem dX11_answer_31 : decode cX11_answer 31 = .ok (.invokevirtual 181, 3) := by decide +kernel
theorem dX11_answer_34 : decode cX11_answer 34 = .ok (.ireturn, 1) := by decide +kernel
theorem dX11_found_0 : decode cX11_found 0 = .ok (.aload_n 0, 1) := by decide +kernel
theorem dX11_found_1 : decode cX11_found 1 = .ok (.getfield 20, 3) := by decide +kernel
theorem dX11_found_4 : decode cX11_found 4 = .ok (.iload_n 1, 1) := by decide +kernel
theorem dX11_found_5 : decode cX11_found 5 = .ok (.invokevirtual 107, 3) := by decide +kernel
theorem dX11_found_8 : decode cX11_found 8 = .ok (.ifCond .ne 5, 3) := by decide +kernel
theorem dX11_found_11 : decode cX11_found 11 = .ok (.iconst (-1), 1) := by decide +kernel
theorem dX11_found_12 : decode cX11_found 12 = .ok (.ireturn, 1) := by decide +kernel
theorem dX11_found_13 : decode cX11_found 13 = .ok (.aload_n 0, 1) := by decide +kernel
theorem dX11_found_14 : decode cX11_found 14 = .ok (.getfield 35, 3) := by decide +kernel
theorem dX11_found_17 : decode cX11_found 17 = .ok (.aload_n 0, 1) := by decide +kernel
theorem dX11_found_18 : decode cX11_found 18 = .ok (.getfield 20, 3) := by decide +kernel
theorem dX11_found_21 : decode cX11_found 21 = .ok (.iload_n 1, 1) := by decide +kernel
theorem dX11_found_22 : decode cX11_found 22 = .ok (.iload_n 2, 1) := by decide +kernel
theorem dX11_found_23 : decode cX11_found 23 = .ok (.invokevirtual 184, 3) := by decide +kernel
theorem dX11_found_26 : decode cX11_found 26 = .ok (.aload_n 0, 1) := by decide +kernel
theorem dX11_found_27 : decode cX11_found 27 = .ok (.invokevirtual 181, 3) := by decide +kernel
theorem dX11_found_30 : decode cX11_found 30 = .ok (.ireturn, 1) := by decide +kernel
theorem dX11_same_0 : decode cX11_same 0 = .ok (.iload_n 1, 1) := by decide +kernel
theorem dX11_same_1 : decode cX11_same 1 = .ok (.invokestatic 133, 3) := by decide +kernel
theorem dX11_same_4 : decode cX11_same 4 = .ok (.ifCond .eq 21, 3) := by decide +kernel
theorem dX11_same_7 : decode cX11_same 7 = .ok (.aload_n 0, 1) := by decide +kernel
theorem dX11_same_8 : decode cX11_same 8 = .ok (.iload_n 2, 1) := by decide +kernel
theorem dX11_same_9 : decode cX11_same 9 = .ok (.invokevirtual 159, 3) := by decide +kernel
theorem dX11_same_12 : decode cX11_same 12 = .ok (.ifCond .eq 13, 3) := by decide +kernel
theorem dX11_same_15 : decode cX11_same 15 = .ok (.iload_n 3, 1) := by decide +kernel
theorem dX11_same_16 : decode cX11_same 16 = .ok (.ifCond .lt 9, 3) := by decide +kernel
theorem dX11_same_19 : decode cX11_same 19 = .ok (.iload_n 3, 1) := by decide +kernel
theorem dX11_same_20 : decode cX11_same 20 = .ok (.bipush 100, 2) := by decide +kernel
theorem dX11_same_22 : decode cX11_same 22 = .ok (.if_icmp .le 5, 3) := by decide +kernel
theorem dX11_same_25 : decode cX11_same 25 = .ok (.iconst (-1), 1) := by decide +kernel
theorem dX11_same_26 : decode cX11_same 26 = .ok (.ireturn, 1) := by decide +kernel
theorem dX11_same_27 : decode cX11_same 27 = .ok (.aload_n 0, 1) := by decide +kernel
theorem dX11_same_28 : decode cX11_same 28 = .ok (.getfield 35, 3) := by decide +kernel
theorem dX11_same_31 : decode cX11_same 31 = .ok (.aload_n 0, 1) := by decide +kernel
theorem dX11_same_32 : decode cX11_same 32 = .ok (.getfield 20, 3) := by decide +kernel
theorem dX11_same_35 : decode cX11_same 35 = .ok (.iload_n 1, 1) := by decide +kernel
theorem dX11_same_36 : decode cX11_same 36 = .ok (.iload_n 2, 1) := by decide +kernel
theorem dX11_same_37 : decode cX11_same 37 = .ok (.iload_n 3, 1) := by decide +kernel
theorem dX11_same_38 : decode cX11_same 38 = .ok (.invokevirtual 188, 3) := by decide +kernel
theorem dX11_same_41 : decode cX11_same 41 = .ok (.aload_n 0, 1) := by decide +kernel
theorem dX11_same_42 : decode cX11_same 42 = .ok (.invokevirtual 181, 3) := by decide +kernel
theorem dX11_same_45 : decode cX11_same 45 = .ok (.ireturn, 1) := by decide +kernel
theorem dX11_likeliestAfterwards_0 : decode cX11_likeliestAfterwards 0 = .ok (.aload_n 0, 1) := by decide +kernel
theorem dX11_likeliestAfterwards_1 : decode cX11_likeliestAfterwards 1 = .ok (.getfield 20, 3) := by decide +kernel
theorem dX11_likeliestAfterwards_4 : decode cX11_likeliestAfterwards 4 = .ok (.invokevirtual 169, 3) := by decide +kernel
theorem dX11_likeliestAfterwards_7 : decode cX11_likeliestAfterwards 7 = .ok (.ifCond .eq 23, 3) := by decide +kernel
theorem dX11_likeliestAfterwards_10 : decode cX11_likeliestAfterwards 10 = .ok (.aload_n 0, 1) := by decide +kernel
theorem dX11_likeliestAfterwards_11 : decode cX11_likeliestAfterwards 11 = .ok (.getfield 35, 3) := by decide +kernel
theorem dX11_likeliestAfterwards_14 : decode cX11_likeliestAfterwards 14 = .ok (.invokevirtual 192, 3) := by decide +kernel
theorem dX11_likeliestAfterwards_17 : decode cX11_likeliestAfterwards 17 = .ok (.ifCond .eq 13, 3) := by decide +kernel
theorem dX11_likeliestAfterwards_20 : decode cX11_likeliestAfterwards 20 = .ok (.aload_n 0, 1) := by decide +kernel
theorem dX11_likeliestAfterwards_21 : decode cX11_likeliestAfterwards 21 = .ok (.getfield 35, 3) := by decide +kernel
theorem dX11_likeliestAfterwards_24 : decode cX11_likeliestAfterwards 24 = .ok (.invokevirtual 173, 3) := by decide +kernel
theorem dX11_likeliestAfterwards_27 : decode cX11_likeliestAfterwards 27 = .ok (.goto 5, 3) := by decide +kernel
theorem dX11_likeliestAfterwards_30 : decode cX11_likeliestAfterwards 30 = .ok (.bipush (-3), 2) := by decide +kernel
theorem dX11_likeliestAfterwards_32 : decode cX11_likeliestAfterwards 32 = .ok (.ireturn, 1) := by decide +kernel
theorem dX11_think_0 : decode cX11_think 0 = .ok (.aload_n 0, 1) := by decide +kernel
theorem dX11_think_1 : decode cX11_think 1 = .ok (.getfield 20, 3) := by decide +kernel
theorem dX11_think_4 : decode cX11_think 4 = .ok (.iload_n 1, 1) := by decide +kernel
theorem dX11_think_5 : decode cX11_think 5 = .ok (.invokevirtual 121, 3) := by decide +kernel
theorem dX11_think_8 : decode cX11_think 8 = .ok (.ifCond .eq 12, 3) := by decide +kernel
theorem dX11_think_11 : decode cX11_think 11 = .ok (.iload_n 2, 1) := by decide +kernel
theorem dX11_think_12 : decode cX11_think 12 = .ok (.ifCond .lt 8, 3) := by decide +kernel
theorem dX11_think_15 : decode cX11_think 15 = .ok (.iload_n 2, 1) := by decide +kernel
theorem dX11_think_16 : decode cX11_think 16 = .ok (.iconst 1, 1) := by decide +kernel
theorem dX11_think_17 : decode cX11_think 17 = .ok (.if_icmp .le 7, 3) := by decide +kernel
theorem dX11_think_20 : decode cX11_think 20 = .ok (.ldc2_w 195, 3) := by decide +kernel
theorem dX11_think_23 : decode cX11_think 23 = .ok (.lreturn, 1) := by decide +kernel
theorem dX11_think_24 : decode cX11_think 24 = .ok (.aload_n 0, 1) := by decide +kernel
theorem dX11_think_25 : decode cX11_think 25 = .ok (.getfield 20, 3) := by decide +kernel
theorem dX11_think_28 : decode cX11_think 28 = .ok (.invokevirtual 169, 3) := by decide +kernel
theorem dX11_think_31 : decode cX11_think 31 = .ok (.ifCond .ne 7, 3) := by decide +kernel
theorem dX11_think_34 : decode cX11_think 34 = .ok (.ldc2_w 197, 3) := by decide +kernel
theorem dX11_think_37 : decode cX11_think 37 = .ok (.lreturn, 1) := by decide +kernel
theorem dX11_think_38 : decode cX11_think 38 = .ok (.aload_n 0, 1) := by decide +kernel
theorem dX11_think_39 : decode cX11_think 39 = .ok (.getfield 35, 3) := by decide +kernel
theorem dX11_think_42 : decode cX11_think 42 = .ok (.getfield 199, 3) := by decide +kernel
theorem dX11_think_45 : decode cX11_think 45 = .ok (.iload_n 1, 1) := by decide +kernel
theorem dX11_think_46 : decode cX11_think 46 = .ok (.laload, 1) := by decide +kernel
theorem dX11_think_47 : decode cX11_think 47 = .ok (.lstore_n 3, 1) := by decide +kernel
theorem dX11_think_48 : decode cX11_think 48 = .ok (.aload_n 0, 1) := by decide +kernel
theorem dX11_think_49 : decode cX11_think 49 = .ok (.getfield 35, 3) := by decide +kernel
theorem dX11_think_52 : decode cX11_think 52 = .ok (.invokevirtual 203, 3) := by decide +kernel
theorem dX11_think_55 : decode cX11_think 55 = .ok (.lstore 5, 2) := by decide +kernel
theorem dX11_think_57 : decode cX11_think 57 = .ok (.lload_n 3, 1) := by decide +kernel
theorem dX11_think_58 : decode cX11_think 58 = .ok (.lload 5, 2) := by decide +kernel
theorem dX11_think_60 : decode cX11_think 60 = .ok (.invokestatic 207, 3) := by decide +kernel
theorem dX11_think_63 : decode cX11_think 63 = .ok (.lstore 7, 2) := by decide +kernel
theorem dX11_think_65 : decode cX11_think 65 = .ok (.lload 7, 2) := by decide +kernel
theorem dX11_think_67 : decode cX11_think 67 = .ok (.lconst 0, 1) := by decide +kernel
theorem dX11_think_68 : decode cX11_think 68 = .ok (.lcmp, 1) := by decide +kernel
theorem dX11_think_69 : decode cX11_think 69 = .ok (.ifCond .gt 7, 3) := by decide +kernel
theorem dX11_think_72 : decode cX11_think 72 = .ok (.ldc2_w 197, 3) := by decide +kernel
theorem dX11_think_75 : decode cX11_think 75 = .ok (.lreturn, 1) := by decide +kernel
theorem dX11_think_76 : decode cX11_think 76 = .ok (.iload_n 2, 1) := by decide +kernel
theorem dX11_think_77 : decode cX11_think 77 = .ok (.ifCond .ne 7, 3) := by decide +kernel
theorem dX11_think_80 : decode cX11_think 80 = .ok (.lload_n 3, 1) := by decide +kernel
theorem dX11_think_81 : decode cX11_think 81 = .ok (.goto 5, 3) := by decide +kernel
theorem dX11_think_84 : decode cX11_think 84 = .ok (.lload 5, 2) := by decide +kernel
theorem dX11_think_86 : decode cX11_think 86 = .ok (.lload 7, 2) := by decide +kernel
theorem dX11_think_88 : decode cX11_think 88 = .ok (.ldiv, 1) := by decide +kernel
theorem dX11_think_89 : decode cX11_think 89 = .ok (.lreturn, 1) := by decide +kernel
theorem dX11_judge_0 : decode cX11_judge 0 = .ok (.iload_n 1, 1) := by decide +kernel
theorem dX11_judge_1 : decode cX11_judge 1 = .ok (.invokestatic 211, 3) := by decide +kernel
theorem dX11_judge_4 : decode cX11_judge 4 = .ok (.ifCond .ne 5, 3) := by decide +kernel
theorem dX11_judge_7 : decode cX11_judge 7 = .ok (.iconst (-1), 1) := by decide +kernel
theorem dX11_judge_8 : decode cX11_judge 8 = .ok (.ireturn, 1) := by decide +kernel
theorem dX11_judge_9 : decode cX11_judge 9 = .ok (.aload_n 0, 1) := by decide +kernel
theorem dX11_judge_10 : decode cX11_judge 10 = .ok (.getfield 20, 3) := by decide +kernel
theorem dX11_judge_13 : decode cX11_judge 13 = .ok (.invokevirtual 169, 3) := by decide +kernel
theorem dX11_judge_16 : decode cX11_judge 16 = .ok (.ifCond .ne 6, 3) := by decide +kernel
theorem dX11_judge_19 : decode cX11_judge 19 = .ok (.bipush (-3), 2) := by decide +kernel
theorem dX11_judge_21 : decode cX11_judge 21 = .ok (.ireturn, 1) := by decide +kernel
theorem dX11_judge_22 : decode cX11_judge 22 = .ok (.aload_n 0, 1) := by decide +kernel
theorem dX11_judge_23 : decode cX11_judge 23 = .ok (.iload_n 1, 1) := by decide +kernel
theorem dX11_judge_24 : decode cX11_judge 24 = .ok (.invokevirtual 81, 3) := by decide +kernel
theorem dX11_judge_27 : decode cX11_judge 27 = .ok (.astore_n 2, 1) := by decide +kernel
theorem dX11_judge_28 : decode cX11_judge 28 = .ok (.aload_n 2, 1) := by decide +kernel
theorem dX11_judge_29 : decode cX11_judge 29 = .ok (.ifnonnull 9, 3) := by decide +kernel
theorem dX11_judge_32 : decode cX11_judge 32 = .ok (.aload_n 0, 1) := by decide +kernel
theorem dX11_judge_33 : decode cX11_judge 33 = .ok (.iload_n 1, 1) := by decide +kernel
theorem dX11_judge_34 : decode cX11_judge 34 = .ok (.invokevirtual 85, 3) := by decide +kernel
theorem dX11_judge_37 : decode cX11_judge 37 = .ok (.ireturn, 1) := by decide +kernel
theorem dX11_judge_38 : decode cX11_judge 38 = .ok (.aload_n 0, 1) := by decide +kernel
theorem dX11_judge_39 : decode cX11_judge 39 = .ok (.aload_n 2, 1) := by decide +kernel
theorem dX11_judge_40 : decode cX11_judge 40 = .ok (.invokevirtual 214, 3) := by decide +kernel
theorem dX11_judge_43 : decode cX11_judge 43 = .ok (.ireturn, 1) := by decide +kernel
theorem dX11_firstMisjudged_0 : decode cX11_firstMisjudged 0 = .ok (.aload_n 1, 1) := by decide +kernel
theorem dX11_firstMisjudged_1 : decode cX11_firstMisjudged 1 = .ok (.getfield 218, 3) := by decide +kernel
theorem dX11_firstMisjudged_4 : decode cX11_firstMisjudged 4 = .ok (.arraylength, 1) := by decide +kernel
theorem dX11_firstMisjudged_5 : decode cX11_firstMisjudged 5 = .ok (.istore_n 2, 1) := by decide +kernel
theorem dX11_firstMisjudged_6 : decode cX11_firstMisjudged 6 = .ok (.iconst 0, 1) := by decide +kernel
theorem dX11_firstMisjudged_7 : decode cX11_firstMisjudged 7 = .ok (.istore_n 3, 1) := by decide +kernel
theorem dX11_firstMisjudged_8 : decode cX11_firstMisjudged 8 = .ok (.iload_n 3, 1) := by decide +kernel
theorem dX11_firstMisjudged_9 : decode cX11_firstMisjudged 9 = .ok (.aload_n 0, 1) := by decide +kernel
theorem dX11_firstMisjudged_10 : decode cX11_firstMisjudged 10 = .ok (.getfield 20, 3) := by decide +kernel
theorem dX11_firstMisjudged_13 : decode cX11_firstMisjudged 13 = .ok (.getfield 221, 3) := by decide +kernel
theorem dX11_firstMisjudged_16 : decode cX11_firstMisjudged 16 = .ok (.if_icmp .ge 50, 3) := by decide +kernel
theorem dX11_firstMisjudged_19 : decode cX11_firstMisjudged 19 = .ok (.iload_n 3, 1) := by decide +kernel
theorem dX11_firstMisjudged_20 : decode cX11_firstMisjudged 20 = .ok (.iload_n 2, 1) := by decide +kernel
theorem dX11_firstMisjudged_21 : decode cX11_firstMisjudged 21 = .ok (.if_icmp .lt 5, 3) := by decide +kernel
theorem dX11_firstMisjudged_24 : decode cX11_firstMisjudged 24 = .ok (.iload_n 2, 1) := by decide +kernel
theorem dX11_firstMisjudged_25 : decode cX11_firstMisjudged 25 = .ok (.ireturn, 1) := by decide +kernel
theorem dX11_firstMisjudged_26 : decode cX11_firstMisjudged 26 = .ok (.aload_n 1, 1) := by decide +kernel
theorem dX11_firstMisjudged_27 : decode cX11_firstMisjudged 27 = .ok (.getfield 218, 3) := by decide +kernel
theorem dX11_firstMisjudged_30 : decode cX11_firstMisjudged 30 = .ok (.iload_n 3, 1) := by decide +kernel
theorem dX11_firstMisjudged_31 : decode cX11_firstMisjudged 31 = .ok (.iaload, 1) := by decide +kernel
theorem dX11_firstMisjudged_32 : decode cX11_firstMisjudged 32 = .ok (.istore 4, 2) := by decide +kernel
theorem dX11_firstMisjudged_34 : decode cX11_firstMisjudged 34 = .ok (.iload 4, 2) := by decide +kernel
theorem dX11_firstMisjudged_36 : decode cX11_firstMisjudged 36 = .ok (.aload_n 1, 1) := by decide +kernel
theorem dX11_firstMisjudged_37 : decode cX11_firstMisjudged 37 = .ok (.invokevirtual 224, 3) := by decide +kernel
theorem dX11_firstMisjudged_40 : decode cX11_firstMisjudged 40 = .ok (.if_icmp .eq 20, 3) := by decide +kernel
theorem dX11_firstMisjudged_43 : decode cX11_firstMisjudged 43 = .ok (.iload 4, 2) := by decide +kernel
theorem dX11_firstMisjudged_45 : decode cX11_firstMisjudged 45 = .ok (.i2l, 1) := by decide +kernel
theorem dX11_firstMisjudged_46 : decode cX11_firstMisjudged 46 = .ok (.aload_n 0, 1) := by decide +kernel
theorem dX11_firstMisjudged_47 : decode cX11_firstMisjudged 47 = .ok (.getfield 35, 3) := by decide +kernel
theorem dX11_firstMisjudged_50 : decode cX11_firstMisjudged 50 = .ok (.iload_n 3, 1) := by decide +kernel
theorem dX11_firstMisjudged_51 : decode cX11_firstMisjudged 51 = .ok (.invokevirtual 227, 3) := by decide +kernel
theorem dX11_firstMisjudged_54 : decode cX11_firstMisjudged 54 = .ok (.lcmp, 1) := by decide +kernel
theorem dX11_firstMisjudged_55 : decode cX11_firstMisjudged 55 = .ok (.ifCond .eq 5, 3) := by decide +kernel
theorem dX11_firstMisjudged_58 : decode cX11_firstMisjudged 58 = .ok (.iload_n 3, 1) := by decide +kernel
theorem dX11_firstMisjudged_59 : decode cX11_firstMisjudged 59 = .ok (.ireturn, 1) := by decide +kernel
theorem dX11_firstMisjudged_60 : decode cX11_firstMisjudged 60 = .ok (.iinc 3 1, 3) := by decide +kernel
theorem dX11_firstMisjudged_63 : decode cX11_firstMisjudged 63 = .ok (.goto (-55), 3) := by decide +kernel
theorem dX11_firstMisjudged_66 : decode cX11_firstMisjudged 66 = .ok (.iload_n 2, 1) := by decide +kernel
theorem dX11_firstMisjudged_67 : decode cX11_firstMisjudged 67 = .ok (.aload_n 0, 1) := by decide +kernel
theorem dX11_firstMisjudged_68 : decode cX11_firstMisjudged 68 = .ok (.getfield 20, 3) := by decide +kernel
theorem dX11_firstMisjudged_71 : decode cX11_firstMisjudged 71 = .ok (.getfield 221, 3) := by decide +kernel
theorem dX11_firstMisjudged_74 : decode cX11_firstMisjudged 74 = .ok (.if_icmp .le 13, 3) := by decide +kernel
theorem dX11_firstMisjudged_77 : decode cX11_firstMisjudged 77 = .ok (.aload_n 0, 1) := by decide +kernel
theorem dX11_firstMisjudged_78 : decode cX11_firstMisjudged 78 = .ok (.getfield 20, 3) := by decide +kernel
theorem dX11_firstMisjudged_81 : decode cX11_firstMisjudged 81 = .ok (.getfield 221, 3) := by decide +kernel
theorem dX11_firstMisjudged_84 : decode cX11_firstMisjudged 84 = .ok (.goto 5, 3) := by decide +kernel
theorem dX11_firstMisjudged_87 : decode cX11_firstMisjudged 87 = .ok (.bipush (-4), 2) := by decide +kernel
theorem dX11_firstMisjudged_89 : decode cX11_firstMisjudged 89 = .ok (.ireturn, 1) := by decide +kernel
theorem dX11_walk_0 : decode cX11_walk 0 = .ok (.aload_n 0, 1) := by decide +kernel
theorem dX11_walk_1 : decode cX11_walk 1 = .ok (.getfield 20, 3) := by decide +kernel
theorem dX11_walk_4 : decode cX11_walk 4 = .ok (.iload_n 1, 1) := by decide +kernel
theorem dX11_walk_5 : decode cX11_walk 5 = .ok (.invokevirtual 121, 3) := by decide +kernel
theorem dX11_walk_8 : decode cX11_walk 8 = .ok (.ifCond .eq 10, 3) := by decide +kernel
theorem dX11_walk_11 : decode cX11_walk 11 = .ok (.iload_n 2, 1) := by decide +kernel
theorem dX11_walk_12 : decode cX11_walk 12 = .ok (.invokestatic 133, 3) := by decide +kernel
theorem dX11_walk_15 : decode cX11_walk 15 = .ok (.ifCond .ne 5, 3) := by decide +kernel
theorem dX11_walk_18 : decode cX11_walk 18 = .ok (.iconst (-1), 1) := by decide +kernel
theorem dX11_walk_19 : decode cX11_walk 19 = .ok (.ireturn, 1) := by decide +kernel
theorem dX11_walk_20 : decode cX11_walk 20 = .ok (.aload_n 0, 1) := by decide +kernel
theorem dX11_walk_21 : decode cX11_walk 21 = .ok (.getfield 20, 3) := by decide +kernel
theorem dX11_walk_24 : decode cX11_walk 24 = .ok (.invokevirtual 169, 3) := by decide +kernel
theorem dX11_walk_27 : decode cX11_walk 27 = .ok (.ifCond .ne 6, 3) := by decide +kernel
theorem dX11_walk_30 : decode cX11_walk 30 = .ok (.bipush (-3), 2) := by decide +kernel
theorem dX11_walk_32 : decode cX11_walk 32 = .ok (.ireturn, 1) := by decide +kernel
theorem dX11_walk_33 : decode cX11_walk 33 = .ok (.aload_n 0, 1) := by decide +kernel
theorem dX11_walk_34 : decode cX11_walk 34 = .ok (.getfield 10, 3) := by decide +kernel
theorem dX11_walk_37 : decode cX11_walk 37 = .ok (.aload_n 0, 1) := by decide +kernel
theorem dX11_walk_38 : decode cX11_walk 38 = .ok (.getfield 57, 3) := by decide +kernel
theorem dX11_walk_41 : decode cX11_walk 41 = .ok (.aload_n 0, 1) := by decide +kernel
theorem dX11_walk_42 : decode cX11_walk 42 = .ok (.getfield 35, 3) := by decide +kernel
theorem dX11_walk_45 : decode cX11_walk 45 = .ok (.iload_n 1, 1) := by decide +kernel
theorem dX11_walk_46 : decode cX11_walk 46 = .ok (.iload_n 2, 1) := by decide +kernel
theorem dX11_walk_47 : decode cX11_walk 47 = .ok (.invokevirtual 231, 3) := by decide +kernel
theorem dX11_walk_50 : decode cX11_walk 50 = .ok (.aload_n 0, 1) := by decide +kernel
theorem dX11_walk_51 : decode cX11_walk 51 = .ok (.getfield 10, 3) := by decide +kernel
theorem dX11_walk_54 : decode cX11_walk 54 = .ok (.invokevirtual 235, 3) := by decide +kernel
theorem dX11_walk_57 : decode cX11_walk 57 = .ok (.ireturn, 1) := by decide +kernel
theorem dX11_worth_0 : decode cX11_worth 0 = .ok (.iload_n 1, 1) := by decide +kernel
theorem dX11_worth_1 : decode cX11_worth 1 = .ok (.invokestatic 133, 3) := by decide +kernel
theorem dX11_worth_4 : decode cX11_worth 4 = .ok (.ifCond .ne 7, 3) := by decide +kernel
theorem dX11_worth_7 : decode cX11_worth 7 = .ok (.ldc2_w 195, 3) := by decide +kernel
theorem dX11_worth_10 : decode cX11_worth 10 = .ok (.lreturn, 1) := by decide +kernel
theorem dX11_worth_11 : decode cX11_worth 11 = .ok (.aload_n 0, 1) := by decide +kernel
theorem dX11_worth_12 : decode cX11_worth 12 = .ok (.getfield 20, 3) := by decide +kernel
theorem dX11_worth_15 : decode cX11_worth 15 = .ok (.invokevirtual 169, 3) := by decide +kernel
theorem dX11_worth_18 : decode cX11_worth 18 = .ok (.ifCond .ne 7, 3) := by decide +kernel
theorem dX11_worth_21 : decode cX11_worth 21 = .ok (.ldc2_w 197, 3) := by decide +kernel
theorem dX11_worth_24 : decode cX11_worth 24 = .ok (.lreturn, 1) := by decide +kernel
theorem dX11_worth_25 : decode cX11_worth 25 = .ok (.aload_n 0, 1) := by decide +kernel
theorem dX11_worth_26 : decode cX11_worth 26 = .ok (.iload_n 1, 1) := by decide +kernel
theorem dX11_worth_27 : decode cX11_worth 27 = .ok (.invokevirtual 238, 3) := by decide +kernel
theorem dX11_worth_30 : decode cX11_worth 30 = .ok (.aload_n 0, 1) := by decide +kernel
theorem dX11_worth_31 : decode cX11_worth 31 = .ok (.aload_n 0, 1) := by decide +kernel
theorem dX11_worth_32 : decode cX11_worth 32 = .ok (.getfield 20, 3) := by decide +kernel
theorem dX11_worth_35 : decode cX11_worth 35 = .ok (.getfield 146, 3) := by decide +kernel
theorem dX11_worth_38 : decode cX11_worth 38 = .ok (.invokevirtual 241, 3) := by decide +kernel
theorem dX11_worth_41 : decode cX11_worth 41 = .ok (.lsub, 1) := by decide +kernel
theorem dX11_worth_42 : decode cX11_worth 42 = .ok (.lreturn, 1) := by decide +kernel
theorem dX11_never_0 : decode cX11_never 0 = .ok (.iload_n 1, 1) := by decide +kernel
theorem dX11_never_1 : decode cX11_never 1 = .ok (.invokestatic 133, 3) := by decide +kernel
theorem dX11_never_4 : decode cX11_never 4 = .ok (.ifCond .ne 5, 3) := by decide +kernel
theorem dX11_never_7 : decode cX11_never 7 = .ok (.iconst (-1), 1) := by decide +kernel
theorem dX11_never_8 : decode cX11_never 8 = .ok (.ireturn, 1) := by decide +kernel
theorem dX11_never_9 : decode cX11_never 9 = .ok (.aload_n 0, 1) := by decide +kernel
theorem dX11_never_10 : decode cX11_never 10 = .ok (.getfield 20, 3) := by decide +kernel
theorem dX11_never_13 : decode cX11_never 13 = .ok (.invokevirtual 169, 3) := by decide +kernel
theorem dX11_never_16 : decode cX11_never 16 = .ok (.ifCond .ne 6, 3) := by decide +kernel
theorem dX11_never_19 : decode cX11_never 19 = .ok (.bipush (-3), 2) := by decide +kernel
theorem dX11_never_21 : decode cX11_never 21 = .ok (.ireturn, 1) := by decide +kernel
theorem dX11_never_22 : decode cX11_never 22 = .ok (.aload_n 0, 1) := by decide +kernel
theorem dX11_never_23 : decode cX11_never 23 = .ok (.iload_n 1, 1) := by decide +kernel
theorem dX11_never_24 : decode cX11_never 24 = .ok (.invokevirtual 238, 3) := by decide +kernel
theorem dX11_never_27 : decode cX11_never 27 = .ok (.lstore_n 2, 1) := by decide +kernel
theorem dX11_never_28 : decode cX11_never 28 = .ok (.iconst 0, 1) := by decide +kernel
theorem dX11_never_29 : decode cX11_never 29 = .ok (.istore 4, 2) := by decide +kernel
theorem dX11_never_31 : decode cX11_never 31 = .ok (.iload 4, 2) := by decide +kernel
theorem dX11_never_33 : decode cX11_never 33 = .ok (.bipush 30, 2) := by decide +kernel
theorem dX11_never_35 : decode cX11_never 35 = .ok (.if_icmp .gt 25, 3) := by decide +kernel
theorem dX11_never_38 : decode cX11_never 38 = .ok (.lload_n 2, 1) := by decide +kernel
theorem dX11_never_39 : decode cX11_never 39 = .ok (.aload_n 0, 1) := by decide +kernel
theorem dX11_never_40 : decode cX11_never 40 = .ok (.iload 4, 2) := by decide +kernel
theorem dX11_never_42 : decode cX11_never 42 = .ok (.invokevirtual 241, 3) := by decide +kernel
theorem dX11_never_45 : decode cX11_never 45 = .ok (.lsub, 1) := by decide +kernel
theorem dX11_never_46 : decode cX11_never 46 = .ok (.lconst 0, 1) := by decide +kernel
theorem dX11_never_47 : decode cX11_never 47 = .ok (.lcmp, 1) := by decide +kernel
theorem dX11_never_48 : decode cX11_never 48 = .ok (.ifCond .ge 6, 3) := by decide +kernel
theorem dX11_never_51 : decode cX11_never 51 = .ok (.iload 4, 2) := by decide +kernel
theorem dX11_never_53 : decode cX11_never 53 = .ok (.ireturn, 1) := by decide +kernel
theorem dX11_never_54 : decode cX11_never 54 = .ok (.iinc 4 1, 3) := by decide +kernel
theorem dX11_never_57 : decode cX11_never 57 = .ok (.goto (-26), 3) := by decide +kernel
theorem dX11_never_60 : decode cX11_never 60 = .ok (.bipush (-4), 2) := by decide +kernel
theorem dX11_never_62 : decode cX11_never 62 = .ok (.ireturn, 1) := by decide +kernel
theorem dX11_askingFor_0 : decode cX11_askingFor 0 = .ok (.bipush 100, 2) := by decide +kernel
theorem dX11_askingFor_2 : decode cX11_askingFor 2 = .ok (.iload_n 1, 1) := by decide +kernel
theorem dX11_askingFor_3 : decode cX11_askingFor 3 = .ok (.imul, 1) := by decide +kernel
theorem dX11_askingFor_4 : decode cX11_askingFor 4 = .ok (.i2l, 1) := by decide +kernel
theorem dX11_askingFor_5 : decode cX11_askingFor 5 = .ok (.aload_n 0, 1) := by decide +kernel
theorem dX11_askingFor_6 : decode cX11_askingFor 6 = .ok (.getfield 35, 3) := by decide +kernel
theorem dX11_askingFor_9 : decode cX11_askingFor 9 = .ok (.invokevirtual 203, 3) := by decide +kernel
theorem dX11_askingFor_12 : decode cX11_askingFor 12 = .ok (.lmul, 1) := by decide +kernel
theorem dX11_askingFor_13 : decode cX11_askingFor 13 = .ok (.lreturn, 1) := by decide +kernel
theorem dX11_gainAt_0 : decode cX11_gainAt 0 = .ok (.lconst 0, 1) := by decide +kernel
theorem dX11_gainAt_1 : decode cX11_gainAt 1 = .ok (.lstore_n 2, 1) := by decide +kernel
theorem dX11_gainAt_2 : decode cX11_gainAt 2 = .ok (.iconst 0, 1) := by decide +kernel
theorem dX11_gainAt_3 : decode cX11_gainAt 3 = .ok (.istore 4, 2) := by decide +kernel
theorem dX11_gainAt_5 : decode cX11_gainAt 5 = .ok (.iload 4, 2) := by decide +kernel
theorem dX11_gainAt_7 : decode cX11_gainAt 7 = .ok (.aload_n 0, 1) := by decide +kernel
theorem dX11_gainAt_8 : decode cX11_gainAt 8 = .ok (.getfield 20, 3) := by decide +kernel
theorem dX11_gainAt_11 : decode cX11_gainAt 11 = .ok (.getfield 221, 3) := by decide +kernel
theorem dX11_gainAt_14 : decode cX11_gainAt 14 = .ok (.if_icmp .ge 56, 3) := by decide +kernel
theorem dX11_gainAt_17 : decode cX11_gainAt 17 = .ok (.aload_n 0, 1) := by decide +kernel
theorem dX11_gainAt_18 : decode cX11_gainAt 18 = .ok (.getfield 10, 3) := by decide +kernel
theorem dX11_gainAt_21 : decode cX11_gainAt 21 = .ok (.aload_n 0, 1) := by decide +kernel
theorem dX11_gainAt_22 : decode cX11_gainAt 22 = .ok (.getfield 57, 3) := by decide +kernel
theorem dX11_gainAt_25 : decode cX11_gainAt 25 = .ok (.aload_n 0, 1) := by decide +kernel
theorem dX11_gainAt_26 : decode cX11_gainAt 26 = .ok (.getfield 35, 3) := by decide +kernel
theorem dX11_gainAt_29 : decode cX11_gainAt 29 = .ok (.iload 4, 2) := by decide +kernel
theorem dX11_gainAt_31 : decode cX11_gainAt 31 = .ok (.iload_n 1, 1) := by decide +kernel
theorem dX11_gainAt_32 : decode cX11_gainAt 32 = .ok (.invokevirtual 231, 3) := by decide +kernel
theorem dX11_gainAt_35 : decode cX11_gainAt 35 = .ok (.lload_n 2, 1) := by decide +kernel
theorem dX11_gainAt_36 : decode cX11_gainAt 36 = .ok (.ldc2_w 244, 3) := by decide +kernel
theorem dX11_gainAt_39 : decode cX11_gainAt 39 = .ok (.aload_n 0, 1) := by decide +kernel
theorem dX11_gainAt_40 : decode cX11_gainAt 40 = .ok (.getfield 35, 3) := by decide +kernel
theorem dX11_gainAt_43 : decode cX11_gainAt 43 = .ok (.getfield 199, 3) := by decide +kernel
theorem dX11_gainAt_46 : decode cX11_gainAt 46 = .ok (.iload 4, 2) := by decide +kernel
theorem dX11_gainAt_48 : decode cX11_gainAt 48 = .ok (.laload, 1) := by decide +kernel
theorem dX11_gainAt_49 : decode cX11_gainAt 49 = .ok (.lmul, 1) := by decide +kernel
theorem dX11_gainAt_50 : decode cX11_gainAt 50 = .ok (.aload_n 0, 1) := by decide +kernel
theorem dX11_gainAt_51 : decode cX11_gainAt 51 = .ok (.getfield 10, 3) := by decide +kernel
theorem dX11_gainAt_54 : decode cX11_gainAt 54 = .ok (.invokevirtual 235, 3) := by decide +kernel
theorem dX11_gainAt_57 : decode cX11_gainAt 57 = .ok (.invokestatic 246, 3) := by decide +kernel
theorem dX11_gainAt_60 : decode cX11_gainAt 60 = .ok (.i2l, 1) := by decide +kernel
theorem dX11_gainAt_61 : decode cX11_gainAt 61 = .ok (.lmul, 1) := by decide +kernel
theorem dX11_gainAt_62 : decode cX11_gainAt 62 = .ok (.ladd, 1) := by decide +kernel
theorem dX11_gainAt_63 : decode cX11_gainAt 63 = .ok (.lstore_n 2, 1) := by decide +kernel
theorem dX11_gainAt_64 : decode cX11_gainAt 64 = .ok (.iinc 4 1, 3) := by decide +kernel
theorem dX11_gainAt_67 : decode cX11_gainAt 67 = .ok (.goto (-62), 3) := by decide +kernel
theorem dX11_gainAt_70 : decode cX11_gainAt 70 = .ok (.iconst (-1), 1) := by decide +kernel
theorem dX11_gainAt_71 : decode cX11_gainAt 71 = .ok (.istore 4, 2) := by decide +kernel
theorem dX11_gainAt_73 : decode cX11_gainAt 73 = .ok (.iload 4, 2) := by decide +kernel
theorem dX11_gainAt_75 : decode cX11_gainAt 75 = .ok (.aload_n 0, 1) := by decide +kernel
theorem dX11_gainAt_76 : decode cX11_gainAt 76 = .ok (.getfield 20, 3) := by decide +kernel
theorem dX11_gainAt_79 : decode cX11_gainAt 79 = .ok (.getfield 221, 3) := by decide +kernel
theorem dX11_gainAt_82 : decode cX11_gainAt 82 = .ok (.if_icmp .ge 54, 3) := by decide +kernel
theorem dX11_gainAt_85 : decode cX11_gainAt 85 = .ok (.aload_n 0, 1) := by decide +kernel
theorem dX11_gainAt_86 : decode cX11_gainAt 86 = .ok (.getfield 42, 3) := by decide +kernel
theorem dX11_gainAt_89 : decode cX11_gainAt 89 = .ok (.aload_n 0, 1) := by decide +kernel
theorem dX11_gainAt_90 : decode cX11_gainAt 90 = .ok (.getfield 35, 3) := by decide +kernel
theorem dX11_gainAt_93 : decode cX11_gainAt 93 = .ok (.invokevirtual 249, 3) := by decide +kernel
theorem dX11_gainAt_96 : decode cX11_gainAt 96 = .ok (.aload_n 0, 1) := by decide +kernel
theorem dX11_gainAt_97 : decode cX11_gainAt 97 = .ok (.getfield 42, 3) := by decide +kernel
theorem dX11_gainAt_100 : decode cX11_gainAt 100 = .ok (.aload_n 0, 1) := by decide +kernel
theorem dX11_gainAt_101 : decode cX11_gainAt 101 = .ok (.getfield 20, 3) := by decide +kernel
theorem dX11_gainAt_104 : decode cX11_gainAt 104 = .ok (.iload_n 1, 1) := by decide +kernel
theorem dX11_gainAt_105 : decode cX11_gainAt 105 = .ok (.iload 4, 2) := by decide +kernel
theorem dX11_gainAt_107 : decode cX11_gainAt 107 = .ok (.invokevirtual 177, 3) := by decide +kernel
theorem dX11_gainAt_110 : decode cX11_gainAt 110 = .ok (.aload_n 0, 1) := by decide +kernel
theorem dX11_gainAt_111 : decode cX11_gainAt 111 = .ok (.getfield 42, 3) := by decide +kernel
theorem dX11_gainAt_114 : decode cX11_gainAt 114 = .ok (.invokevirtual 192, 3) := by decide +kernel
theorem dX11_gainAt_117 : decode cX11_gainAt 117 = .ok (.ifCond .eq 13, 3) := by decide +kernel
theorem dX11_gainAt_120 : decode cX11_gainAt 120 = .ok (.lload_n 2, 1) := by decide +kernel
theorem dX11_gainAt_121 : decode cX11_gainAt 121 = .ok (.aload_n 0, 1) := by decide +kernel
theorem dX11_gainAt_122 : decode cX11_gainAt 122 = .ok (.iload_n 1, 1) := by decide +kernel
theorem dX11_gainAt_123 : decode cX11_gainAt 123 = .ok (.iload 4, 2) := by decide +kernel
theorem dX11_gainAt_125 : decode cX11_gainAt 125 = .ok (.invokevirtual 252, 3) := by decide +kernel
theorem dX11_gainAt_128 : decode cX11_gainAt 128 = .ok (.lsub, 1) := by decide +kernel
theorem dX11_gainAt_129 : decode cX11_gainAt 129 = .ok (.lstore_n 2, 1) := by decide +kernel
theorem dX11_gainAt_130 : decode cX11_gainAt 130 = .ok (.iinc 4 1, 3) := by decide +kernel
theorem dX11_gainAt_133 : decode cX11_gainAt 133 = .ok (.goto (-60), 3) := by decide +kernel
theorem dX11_gainAt_136 : decode cX11_gainAt 136 = .ok (.lload_n 2, 1) := by decide +kernel
theorem dX11_gainAt_137 : decode cX11_gainAt 137 = .ok (.lreturn, 1) := by decide +kernel
theorem dX11_spentAfter_0 : decode cX11_spentAfter 0 = .ok (.aload_n 0, 1) := by decide +kernel
theorem dX11_spentAfter_1 : decode cX11_spentAfter 1 = .ok (.getfield 20, 3) := by decide +kernel
theorem dX11_spentAfter_4 : decode cX11_spentAfter 4 = .ok (.getfield 162, 3) := by decide +kernel
theorem dX11_spentAfter_7 : decode cX11_spentAfter 7 = .ok (.iload_n 1, 1) := by decide +kernel
theorem dX11_spentAfter_8 : decode cX11_spentAfter 8 = .ok (.iload_n 2, 1) := by decide +kernel
theorem dX11_spentAfter_9 : decode cX11_spentAfter 9 = .ok (.invokestatic 165, 3) := by decide +kernel
theorem dX11_spentAfter_12 : decode cX11_spentAfter 12 = .ok (.aaload, 1) := by decide +kernel
theorem dX11_spentAfter_13 : decode cX11_spentAfter 13 = .ok (.astore_n 3, 1) := by decide +kernel
theorem dX11_spentAfter_14 : decode cX11_spentAfter 14 = .ok (.lconst 0, 1) := by decide +kernel
theorem dX11_spentAfter_15 : decode cX11_spentAfter 15 = .ok (.lstore 4, 2) := by decide +kernel
theorem dX11_spentAfter_17 : decode cX11_spentAfter 17 = .ok (.iconst 0, 1) := by decide +kernel
theorem dX11_spentAfter_18 : decode cX11_spentAfter 18 = .ok (.istore 6, 2) := by decide +kernel
theorem dX11_spentAfter_20 : decode cX11_spentAfter 20 = .ok (.iload 6, 2) := by decide +kernel
theorem dX11_spentAfter_22 : decode cX11_spentAfter 22 = .ok (.aload_n 0, 1) := by decide +kernel
theorem dX11_spentAfter_23 : decode cX11_spentAfter 23 = .ok (.getfield 20, 3) := by decide +kernel
theorem dX11_spentAfter_26 : decode cX11_spentAfter 26 = .ok (.getfield 221, 3) := by decide +kernel
theorem dX11_spentAfter_29 : decode cX11_spentAfter 29 = .ok (.if_icmp .ge 71, 3) := by decide +kernel
theorem dX11_spentAfter_32 : decode cX11_spentAfter 32 = .ok (.aload_n 0, 1) := by decide +kernel
theorem dX11_spentAfter_33 : decode cX11_spentAfter 33 = .ok (.getfield 35, 3) := by decide +kernel
theorem dX11_spentAfter_36 : decode cX11_spentAfter 36 = .ok (.getfield 199, 3) := by decide +kernel
theorem dX11_spentAfter_39 : decode cX11_spentAfter 39 = .ok (.iload 6, 2) := by decide +kernel
theorem dX11_spentAfter_41 : decode cX11_spentAfter 41 = .ok (.laload, 1) := by decide +kernel
theorem dX11_spentAfter_42 : decode cX11_spentAfter 42 = .ok (.aload_n 3, 1) := by decide +kernel
theorem dX11_spentAfter_43 : decode cX11_spentAfter 43 = .ok (.iload 6, 2) := by decide +kernel
theorem dX11_spentAfter_45 : decode cX11_spentAfter 45 = .ok (.iaload, 1) := by decide +kernel
theorem dX11_spentAfter_46 : decode cX11_spentAfter 46 = .ok (.i2l, 1) := by decide +kernel
theorem dX11_spentAfter_47 : decode cX11_spentAfter 47 = .ok (.lmul, 1) := by decide +kernel
theorem dX11_spentAfter_48 : decode cX11_spentAfter 48 = .ok (.lstore 7, 2) := by decide +kernel
theorem dX11_spentAfter_50 : decode cX11_spentAfter 50 = .ok (.lload 7, 2) := by decide +kernel
theorem dX11_spentAfter_52 : decode cX11_spentAfter 52 = .ok (.lconst 0, 1) := by decide +kernel
theorem dX11_spentAfter_53 : decode cX11_spentAfter 53 = .ok (.lcmp, 1) := by decide +kernel
theorem dX11_spentAfter_54 : decode cX11_spentAfter 54 = .ok (.ifCond .le 40, 3) := by decide +kernel
theorem dX11_spentAfter_57 : decode cX11_spentAfter 57 = .ok (.aload_n 0, 1) := by decide +kernel
theorem dX11_spentAfter_58 : decode cX11_spentAfter 58 = .ok (.getfield 10, 3) := by decide +kernel
theorem dX11_spentAfter_61 : decode cX11_spentAfter 61 = .ok (.aload_n 0, 1) := by decide +kernel
theorem dX11_spentAfter_62 : decode cX11_spentAfter 62 = .ok (.getfield 57, 3) := by decide +kernel
theorem dX11_spentAfter_65 : decode cX11_spentAfter 65 = .ok (.aload_n 0, 1) := by decide +kernel
theorem dX11_spentAfter_66 : decode cX11_spentAfter 66 = .ok (.getfield 42, 3) := by decide +kernel
theorem dX11_spentAfter_69 : decode cX11_spentAfter 69 = .ok (.iload 6, 2) := by decide +kernel
theorem dX11_spentAfter_71 : decode cX11_spentAfter 71 = .ok (.iload_n 1, 1) := by decide +kernel
theorem dX11_spentAfter_72 : decode cX11_spentAfter 72 = .ok (.invokevirtual 231, 3) := by decide +kernel
theorem dX11_spentAfter_75 : decode cX11_spentAfter 75 = .ok (.lload 4, 2) := by decide +kernel
theorem dX11_spentAfter_77 : decode cX11_spentAfter 77 = .ok (.lload 7, 2) := by decide +kernel
theorem dX11_spentAfter_79 : decode cX11_spentAfter 79 = .ok (.aload_n 0, 1) := by decide +kernel
theorem dX11_spentAfter_80 : decode cX11_spentAfter 80 = .ok (.getfield 10, 3) := by decide +kernel
theorem dX11_spentAfter_83 : decode cX11_spentAfter 83 = .ok (.invokevirtual 235, 3) := by decide +kernel
theorem dX11_spentAfter_86 : decode cX11_spentAfter 86 = .ok (.invokestatic 246, 3) := by decide +kernel
theorem dX11_spentAfter_89 : decode cX11_spentAfter 89 = .ok (.i2l, 1) := by decide +kernel
theorem dX11_spentAfter_90 : decode cX11_spentAfter 90 = .ok (.lmul, 1) := by decide +kernel
theorem dX11_spentAfter_91 : decode cX11_spentAfter 91 = .ok (.ladd, 1) := by decide +kernel
theorem dX11_spentAfter_92 : decode cX11_spentAfter 92 = .ok (.lstore 4, 2) := by decide +kernel
theorem dX11_spentAfter_94 : decode cX11_spentAfter 94 = .ok (.iinc 6 1, 3) := by decide +kernel
theorem dX11_spentAfter_97 : decode cX11_spentAfter 97 = .ok (.goto (-77), 3) := by decide +kernel
theorem dX11_spentAfter_100 : decode cX11_spentAfter 100 = .ok (.lload 4, 2) := by decide +kernel
theorem dX11_spentAfter_102 : decode cX11_spentAfter 102 = .ok (.lreturn, 1) := by decide +kernel
theorem dX11_inSums_0 : decode cX11_inSums 0 = .ok (.iload_n 0, 1) := by decide +kernel
theorem dX11_inSums_1 : decode cX11_inSums 1 = .ok (.ldc_w 256, 3) := by decide +kernel
theorem dX11_inSums_4 : decode cX11_inSums 4 = .ok (.if_icmp .ne 9, 3) := by decide +kernel
theorem dX11_inSums_7 : decode cX11_inSums 7 = .ok (.sipush 999, 3) := by decide +kernel
theorem dX11_inSums_10 : decode cX11_inSums 10 = .ok (.goto 4, 3) := by decide +kernel
theorem dX11_inSums_13 : decode cX11_inSums 13 = .ok (.iload_n 0, 1) := by decide +kernel
theorem dX11_inSums_14 : decode cX11_inSums 14 = .ok (.ireturn, 1) := by decide +kernel
theorem dX11_by_0 : decode cX11_by 0 = .ok (.iload_n 1, 1) := by decide +kernel
theorem dX11_by_1 : decode cX11_by 1 = .ok (.invokestatic 211, 3) := by decide +kernel
theorem dX11_by_4 : decode cX11_by 4 = .ok (.ifCond .eq 25, 3) := by decide +kernel
theorem dX11_by_7 : decode cX11_by 7 = .ok (.aload_n 0, 1) := by decide +kernel
theorem dX11_by_8 : decode cX11_by 8 = .ok (.getfield 20, 3) := by decide +kernel
theorem dX11_by_11 : decode cX11_by 11 = .ok (.iload_n 2, 1) := by decide +kernel
theorem dX11_by_12 : decode cX11_by 12 = .ok (.invokevirtual 121, 3) := by decide +kernel
theorem dX11_by_15 : decode cX11_by 15 = .ok (.ifCond .eq 14, 3) := by decide +kernel
theorem dX11_by_18 : decode cX11_by 18 = .ok (.iload 4, 2) := by decide +kernel
theorem dX11_by_20 : decode cX11_by 20 = .ok (.ifCond .lt 9, 3) := by decide +kernel
theorem dX11_by_23 : decode cX11_by 23 = .ok (.iload 4, 2) := by decide +kernel
theorem dX11_by_25 : decode cX11_by 25 = .ok (.iconst 2, 1) := by decide +kernel
theorem dX11_by_26 : decode cX11_by 26 = .ok (.if_icmp .le 5, 3) := by decide +kernel
theorem dX11_by_29 : decode cX11_by 29 = .ok (.iconst (-1), 1) := by decide +kernel
theorem dX11_by_30 : decode cX11_by 30 = .ok (.ireturn, 1) := by decide +kernel
theorem dX11_by_31 : decode cX11_by 31 = .ok (.aload_n 0, 1) := by decide +kernel
theorem dX11_by_32 : decode cX11_by 32 = .ok (.iload_n 1, 1) := by decide +kernel
theorem dX11_by_33 : decode cX11_by 33 = .ok (.invokevirtual 257, 3) := by decide +kernel
theorem dX11_by_36 : decode cX11_by 36 = .ok (.astore 5, 2) := by decide +kernel
theorem dX11_by_38 : decode cX11_by 38 = .ok (.aload 5, 2) := by decide +kernel
theorem dX11_by_40 : decode cX11_by 40 = .ok (.ifnonnull 9, 3) := by decide +kernel
theorem dX11_by_43 : decode cX11_by 43 = .ok (.aload_n 0, 1) := by decide +kernel
theorem dX11_by_44 : decode cX11_by 44 = .ok (.iload_n 1, 1) := by decide +kernel
theorem dX11_by_45 : decode cX11_by 45 = .ok (.invokevirtual 85, 3) := by decide +kernel
theorem dX11_by_48 : decode cX11_by 48 = .ok (.ireturn, 1) := by decide +kernel
theorem dX11_by_49 : decode cX11_by 49 = .ok (.aload_n 0, 1) := by decide +kernel
theorem dX11_by_50 : decode cX11_by 50 = .ok (.getfield 20, 3) := by decide +kernel
theorem dX11_by_53 : decode cX11_by 53 = .ok (.invokevirtual 169, 3) := by decide +kernel
theorem dX11_by_56 : decode cX11_by 56 = .ok (.ifCond .ne 6, 3) := by decide +kernel
theorem dX11_by_59 : decode cX11_by 59 = .ok (.bipush (-3), 2) := by decide +kernel
theorem dX11_by_61 : decode cX11_by 61 = .ok (.ireturn, 1) := by decide +kernel
theorem dX11_by_62 : decode cX11_by 62 = .ok (.aload_n 0, 1) := by decide +kernel
theorem dX11_by_63 : decode cX11_by 63 = .ok (.getfield 10, 3) := by decide +kernel
theorem dX11_by_66 : decode cX11_by 66 = .ok (.aload 5, 2) := by decide +kernel
theorem dX11_by_68 : decode cX11_by 68 = .ok (.iload_n 2, 1) := by decide +kernel
