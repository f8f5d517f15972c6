theorem dX12_isShut_15 : decode cX12_isShut 15 = .ok (.goto 4, 3) := by decide +kernel
theorem dX12_isShut_18 : decode cX12_isShut 18 = .ok (.iconst 0, 1) := by decide +kernel
theorem dX12_isShut_19 : decode cX12_isShut 19 = .ok (.ireturn, 1) := by decide +kernel
theorem dX12_findWays_0 : decode cX12_findWays 0 = .ok (.iconst 0, 1) := by decide +kernel
theorem dX12_findWays_1 : decode cX12_findWays 1 = .ok (.istore_n 1, 1) := by decide +kernel
theorem dX12_findWays_2 : decode cX12_findWays 2 = .ok (.iload_n 1, 1) := by decide +kernel
theorem dX12_findWays_3 : decode cX12_findWays 3 = .ok (.aload_n 0, 1) := by decide +kernel
theorem dX12_findWays_4 : decode cX12_findWays 4 = .ok (.getfield 111, 3) := by decide +kernel
theorem dX12_findWays_7 : decode cX12_findWays 7 = .ok (.if_icmp .ge 153, 3) := by decide +kernel
theorem dX12_findWays_10 : decode cX12_findWays 10 = .ok (.iconst 0, 1) := by decide +kernel
theorem dX12_findWays_11 : decode cX12_findWays 11 = .ok (.istore_n 2, 1) := by decide +kernel
theorem dX12_findWays_12 : decode cX12_findWays 12 = .ok (.iload_n 2, 1) := by decide +kernel
theorem dX12_findWays_13 : decode cX12_findWays 13 = .ok (.bipush 8, 2) := by decide +kernel
theorem dX12_findWays_15 : decode cX12_findWays 15 = .ok (.if_icmp .ge 36, 3) := by decide +kernel
theorem dX12_findWays_18 : decode cX12_findWays 18 = .ok (.aload_n 0, 1) := by decide +kernel
theorem dX12_findWays_19 : decode cX12_findWays 19 = .ok (.getfield 63, 3) := by decide +kernel
theorem dX12_findWays_22 : decode cX12_findWays 22 = .ok (.bipush 8, 2) := by decide +kernel
theorem dX12_findWays_24 : decode cX12_findWays 24 = .ok (.iload_n 1, 1) := by decide +kernel
theorem dX12_findWays_25 : decode cX12_findWays 25 = .ok (.imul, 1) := by decide +kernel
theorem dX12_findWays_26 : decode cX12_findWays 26 = .ok (.iload_n 2, 1) := by decide +kernel
theorem dX12_findWays_27 : decode cX12_findWays 27 = .ok (.iadd, 1) := by decide +kernel
theorem dX12_findWays_28 : decode cX12_findWays 28 = .ok (.iload_n 2, 1) := by decide +kernel
theorem dX12_findWays_29 : decode cX12_findWays 29 = .ok (.aload_n 0, 1) := by decide +kernel
theorem dX12_findWays_30 : decode cX12_findWays 30 = .ok (.getfield 22, 3) := by decide +kernel
theorem dX12_findWays_33 : decode cX12_findWays 33 = .ok (.iload_n 1, 1) := by decide +kernel
theorem dX12_findWays_34 : decode cX12_findWays 34 = .ok (.iaload, 1) := by decide +kernel
theorem dX12_findWays_35 : decode cX12_findWays 35 = .ok (.if_icmp .ne 7, 3) := by decide +kernel
theorem dX12_findWays_38 : decode cX12_findWays 38 = .ok (.iconst 0, 1) := by decide +kernel
theorem dX12_findWays_39 : decode cX12_findWays 39 = .ok (.goto 5, 3) := by decide +kernel
theorem dX12_findWays_42 : decode cX12_findWays 42 = .ok (.ldc 192, 2) := by decide +kernel
theorem dX12_findWays_44 : decode cX12_findWays 44 = .ok (.iastore, 1) := by decide +kernel
theorem dX12_findWays_45 : decode cX12_findWays 45 = .ok (.iinc 2 1, 3) := by decide +kernel
theorem dX12_findWays_48 : decode cX12_findWays 48 = .ok (.goto (-36), 3) := by decide +kernel
theorem dX12_findWays_51 : decode cX12_findWays 51 = .ok (.iconst 0, 1) := by decide +kernel
theorem dX12_findWays_52 : decode cX12_findWays 52 = .ok (.istore_n 2, 1) := by decide +kernel
theorem dX12_findWays_53 : decode cX12_findWays 53 = .ok (.iload_n 2, 1) := by decide +kernel
theorem dX12_findWays_54 : decode cX12_findWays 54 = .ok (.bipush 8, 2) := by decide +kernel
theorem dX12_findWays_56 : decode cX12_findWays 56 = .ok (.if_icmp .ge 98, 3) := by decide +kernel
theorem dX12_findWays_59 : decode cX12_findWays 59 = .ok (.iconst 0, 1) := by decide +kernel
theorem dX12_findWays_60 : decode cX12_findWays 60 = .ok (.istore_n 3, 1) := by decide +kernel
theorem dX12_findWays_61 : decode cX12_findWays 61 = .ok (.iload_n 3, 1) := by decide +kernel
theorem dX12_findWays_62 : decode cX12_findWays 62 = .ok (.aload_n 0, 1) := by decide +kernel
theorem dX12_findWays_63 : decode cX12_findWays 63 = .ok (.getfield 153, 3) := by decide +kernel
theorem dX12_findWays_66 : decode cX12_findWays 66 = .ok (.if_icmp .ge 82, 3) := by decide +kernel
theorem dX12_findWays_69 : decode cX12_findWays 69 = .ok (.aload_n 0, 1) := by decide +kernel
theorem dX12_findWays_70 : decode cX12_findWays 70 = .ok (.iload_n 1, 1) := by decide +kernel
theorem dX12_findWays_71 : decode cX12_findWays 71 = .ok (.iload_n 3, 1) := by decide +kernel
theorem dX12_findWays_72 : decode cX12_findWays 72 = .ok (.invokevirtual 193, 3) := by decide +kernel
theorem dX12_findWays_75 : decode cX12_findWays 75 = .ok (.ifCond .ne 67, 3) := by decide +kernel
theorem dX12_findWays_78 : decode cX12_findWays 78 = .ok (.aload_n 0, 1) := by decide +kernel
theorem dX12_findWays_79 : decode cX12_findWays 79 = .ok (.bipush 8, 2) := by decide +kernel
theorem dX12_findWays_81 : decode cX12_findWays 81 = .ok (.iload_n 1, 1) := by decide +kernel
theorem dX12_findWays_82 : decode cX12_findWays 82 = .ok (.imul, 1) := by decide +kernel
theorem dX12_findWays_83 : decode cX12_findWays 83 = .ok (.aload_n 0, 1) := by decide +kernel
theorem dX12_findWays_84 : decode cX12_findWays 84 = .ok (.getfield 7, 3) := by decide +kernel
theorem dX12_findWays_87 : decode cX12_findWays 87 = .ok (.iload_n 3, 1) := by decide +kernel
theorem dX12_findWays_88 : decode cX12_findWays 88 = .ok (.iaload, 1) := by decide +kernel
theorem dX12_findWays_89 : decode cX12_findWays 89 = .ok (.iadd, 1) := by decide +kernel
theorem dX12_findWays_90 : decode cX12_findWays 90 = .ok (.bipush 8, 2) := by decide +kernel
theorem dX12_findWays_92 : decode cX12_findWays 92 = .ok (.iload_n 1, 1) := by decide +kernel
theorem dX12_findWays_93 : decode cX12_findWays 93 = .ok (.imul, 1) := by decide +kernel
theorem dX12_findWays_94 : decode cX12_findWays 94 = .ok (.aload_n 0, 1) := by decide +kernel
theorem dX12_findWays_95 : decode cX12_findWays 95 = .ok (.getfield 13, 3) := by decide +kernel
theorem dX12_findWays_98 : decode cX12_findWays 98 = .ok (.iload_n 3, 1) := by decide +kernel
theorem dX12_findWays_99 : decode cX12_findWays 99 = .ok (.iaload, 1) := by decide +kernel
theorem dX12_findWays_100 : decode cX12_findWays 100 = .ok (.iadd, 1) := by decide +kernel
theorem dX12_findWays_101 : decode cX12_findWays 101 = .ok (.aload_n 0, 1) := by decide +kernel
theorem dX12_findWays_102 : decode cX12_findWays 102 = .ok (.getfield 16, 3) := by decide +kernel
theorem dX12_findWays_105 : decode cX12_findWays 105 = .ok (.iload_n 3, 1) := by decide +kernel
theorem dX12_findWays_106 : decode cX12_findWays 106 = .ok (.iaload, 1) := by decide +kernel
theorem dX12_findWays_107 : decode cX12_findWays 107 = .ok (.invokevirtual 197, 3) := by decide +kernel
theorem dX12_findWays_110 : decode cX12_findWays 110 = .ok (.aload_n 0, 1) := by decide +kernel
theorem dX12_findWays_111 : decode cX12_findWays 111 = .ok (.bipush 8, 2) := by decide +kernel
theorem dX12_findWays_113 : decode cX12_findWays 113 = .ok (.iload_n 1, 1) := by decide +kernel
theorem dX12_findWays_114 : decode cX12_findWays 114 = .ok (.imul, 1) := by decide +kernel
theorem dX12_findWays_115 : decode cX12_findWays 115 = .ok (.aload_n 0, 1) := by decide +kernel
theorem dX12_findWays_116 : decode cX12_findWays 116 = .ok (.getfield 13, 3) := by decide +kernel
theorem dX12_findWays_119 : decode cX12_findWays 119 = .ok (.iload_n 3, 1) := by decide +kernel
theorem dX12_findWays_120 : decode cX12_findWays 120 = .ok (.iaload, 1) := by decide +kernel
theorem dX12_findWays_121 : decode cX12_findWays 121 = .ok (.iadd, 1) := by decide +kernel
theorem dX12_findWays_122 : decode cX12_findWays 122 = .ok (.bipush 8, 2) := by decide +kernel
theorem dX12_findWays_124 : decode cX12_findWays 124 = .ok (.iload_n 1, 1) := by decide +kernel
theorem dX12_findWays_125 : decode cX12_findWays 125 = .ok (.imul, 1) := by decide +kernel
theorem dX12_findWays_126 : decode cX12_findWays 126 = .ok (.aload_n 0, 1) := by decide +kernel
theorem dX12_findWays_127 : decode cX12_findWays 127 = .ok (.getfield 7, 3) := by decide +kernel
theorem dX12_findWays_130 : decode cX12_findWays 130 = .ok (.iload_n 3, 1) := by decide +kernel
theorem dX12_findWays_131 : decode cX12_findWays 131 = .ok (.iaload, 1) := by decide +kernel
theorem dX12_findWays_132 : decode cX12_findWays 132 = .ok (.iadd, 1) := by decide +kernel
theorem dX12_findWays_133 : decode cX12_findWays 133 = .ok (.aload_n 0, 1) := by decide +kernel
theorem dX12_findWays_134 : decode cX12_findWays 134 = .ok (.getfield 16, 3) := by decide +kernel
theorem dX12_findWays_137 : decode cX12_findWays 137 = .ok (.iload_n 3, 1) := by decide +kernel
theorem dX12_findWays_138 : decode cX12_findWays 138 = .ok (.iaload, 1) := by decide +kernel
theorem dX12_findWays_139 : decode cX12_findWays 139 = .ok (.invokevirtual 197, 3) := by decide +kernel
theorem dX12_findWays_142 : decode cX12_findWays 142 = .ok (.iinc 3 1, 3) := by decide +kernel
theorem dX12_findWays_145 : decode cX12_findWays 145 = .ok (.goto (-84), 3) := by decide +kernel
theorem dX12_findWays_148 : decode cX12_findWays 148 = .ok (.iinc 2 1, 3) := by decide +kernel
theorem dX12_findWays_151 : decode cX12_findWays 151 = .ok (.goto (-98), 3) := by decide +kernel
theorem dX12_findWays_154 : decode cX12_findWays 154 = .ok (.iinc 1 1, 3) := by decide +kernel
theorem dX12_findWays_157 : decode cX12_findWays 157 = .ok (.goto (-155), 3) := by decide +kernel
theorem dX12_findWays_160 : decode cX12_findWays 160 = .ok (.return_, 1) := by decide +kernel
theorem dX12_shorten_0 : decode cX12_shorten 0 = .ok (.aload_n 0, 1) := by decide +kernel
theorem dX12_shorten_1 : decode cX12_shorten 1 = .ok (.getfield 63, 3) := by decide +kernel
theorem dX12_shorten_4 : decode cX12_shorten 4 = .ok (.iload_n 2, 1) := by decide +kernel
theorem dX12_shorten_5 : decode cX12_shorten 5 = .ok (.iaload, 1) := by decide +kernel
theorem dX12_shorten_6 : decode cX12_shorten 6 = .ok (.iload_n 3, 1) := by decide +kernel
theorem dX12_shorten_7 : decode cX12_shorten 7 = .ok (.iadd, 1) := by decide +kernel
theorem dX12_shorten_8 : decode cX12_shorten 8 = .ok (.istore 4, 2) := by decide +kernel
theorem dX12_shorten_10 : decode cX12_shorten 10 = .ok (.aload_n 0, 1) := by decide +kernel
theorem dX12_shorten_11 : decode cX12_shorten 11 = .ok (.getfield 63, 3) := by decide +kernel
theorem dX12_shorten_14 : decode cX12_shorten 14 = .ok (.iload_n 1, 1) := by decide +kernel
theorem dX12_shorten_15 : decode cX12_shorten 15 = .ok (.aload_n 0, 1) := by decide +kernel
theorem dX12_shorten_16 : decode cX12_shorten 16 = .ok (.getfield 63, 3) := by decide +kernel
theorem dX12_shorten_19 : decode cX12_shorten 19 = .ok (.iload_n 2, 1) := by decide +kernel
theorem dX12_shorten_20 : decode cX12_shorten 20 = .ok (.iaload, 1) := by decide +kernel
theorem dX12_shorten_21 : decode cX12_shorten 21 = .ok (.ldc 192, 2) := by decide +kernel
theorem dX12_shorten_23 : decode cX12_shorten 23 = .ok (.if_icmp .ge 19, 3) := by decide +kernel
theorem dX12_shorten_26 : decode cX12_shorten 26 = .ok (.iload 4, 2) := by decide +kernel
theorem dX12_shorten_28 : decode cX12_shorten 28 = .ok (.aload_n 0, 1) := by decide +kernel
theorem dX12_shorten_29 : decode cX12_shorten 29 = .ok (.getfield 63, 3) := by decide +kernel
theorem dX12_shorten_32 : decode cX12_shorten 32 = .ok (.iload_n 1, 1) := by decide +kernel
theorem dX12_shorten_33 : decode cX12_shorten 33 = .ok (.iaload, 1) := by decide +kernel
theorem dX12_shorten_34 : decode cX12_shorten 34 = .ok (.if_icmp .ge 8, 3) := by decide +kernel
theorem dX12_shorten_37 : decode cX12_shorten 37 = .ok (.iload 4, 2) := by decide +kernel
theorem dX12_shorten_39 : decode cX12_shorten 39 = .ok (.goto 9, 3) := by decide +kernel
theorem dX12_shorten_42 : decode cX12_shorten 42 = .ok (.aload_n 0, 1) := by decide +kernel
theorem dX12_shorten_43 : decode cX12_shorten 43 = .ok (.getfield 63, 3) := by decide +kernel
theorem dX12_shorten_46 : decode cX12_shorten 46 = .ok (.iload_n 1, 1) := by decide +kernel
theorem dX12_shorten_47 : decode cX12_shorten 47 = .ok (.iaload, 1) := by decide +kernel
theorem dX12_shorten_48 : decode cX12_shorten 48 = .ok (.iastore, 1) := by decide +kernel
theorem dX12_shorten_49 : decode cX12_shorten 49 = .ok (.return_, 1) := by decide +kernel
theorem dX12_otherEnd_0 : decode cX12_otherEnd 0 = .ok (.aload_n 0, 1) := by decide +kernel
theorem dX12_otherEnd_1 : decode cX12_otherEnd 1 = .ok (.getfield 7, 3) := by decide +kernel
theorem dX12_otherEnd_4 : decode cX12_otherEnd 4 = .ok (.iload_n 1, 1) := by decide +kernel
theorem dX12_otherEnd_5 : decode cX12_otherEnd 5 = .ok (.iaload, 1) := by decide +kernel
theorem dX12_otherEnd_6 : decode cX12_otherEnd 6 = .ok (.iload_n 2, 1) := by decide +kernel
theorem dX12_otherEnd_7 : decode cX12_otherEnd 7 = .ok (.if_icmp .ne 12, 3) := by decide +kernel
theorem dX12_otherEnd_10 : decode cX12_otherEnd 10 = .ok (.aload_n 0, 1) := by decide +kernel
theorem dX12_otherEnd_11 : decode cX12_otherEnd 11 = .ok (.getfield 13, 3) := by decide +kernel
theorem dX12_otherEnd_14 : decode cX12_otherEnd 14 = .ok (.iload_n 1, 1) := by decide +kernel
theorem dX12_otherEnd_15 : decode cX12_otherEnd 15 = .ok (.iaload, 1) := by decide +kernel
theorem dX12_otherEnd_16 : decode cX12_otherEnd 16 = .ok (.goto 23, 3) := by decide +kernel
theorem dX12_otherEnd_19 : decode cX12_otherEnd 19 = .ok (.aload_n 0, 1) := by decide +kernel
theorem dX12_otherEnd_20 : decode cX12_otherEnd 20 = .ok (.getfield 13, 3) := by decide +kernel
theorem dX12_otherEnd_23 : decode cX12_otherEnd 23 = .ok (.iload_n 1, 1) := by decide +kernel
theorem dX12_otherEnd_24 : decode cX12_otherEnd 24 = .ok (.iaload, 1) := by decide +kernel
theorem dX12_otherEnd_25 : decode cX12_otherEnd 25 = .ok (.iload_n 2, 1) := by decide +kernel
theorem dX12_otherEnd_26 : decode cX12_otherEnd 26 = .ok (.if_icmp .ne 12, 3) := by decide +kernel
theorem dX12_otherEnd_29 : decode cX12_otherEnd 29 = .ok (.aload_n 0, 1) := by decide +kernel
theorem dX12_otherEnd_30 : decode cX12_otherEnd 30 = .ok (.getfield 7, 3) := by decide +kernel
theorem dX12_otherEnd_33 : decode cX12_otherEnd 33 = .ok (.iload_n 1, 1) := by decide +kernel
theorem dX12_otherEnd_34 : decode cX12_otherEnd 34 = .ok (.iaload, 1) := by decide +kernel
theorem dX12_otherEnd_35 : decode cX12_otherEnd 35 = .ok (.goto 4, 3) := by decide +kernel
theorem dX12_otherEnd_38 : decode cX12_otherEnd 38 = .ok (.iconst (-1), 1) := by decide +kernel
theorem dX12_otherEnd_39 : decode cX12_otherEnd 39 = .ok (.ireturn, 1) := by decide +kernel
theorem dX12_nextRoad_0 : decode cX12_nextRoad 0 = .ok (.iconst 0, 1) := by decide +kernel
theorem dX12_nextRoad_1 : decode cX12_nextRoad 1 = .ok (.istore_n 3, 1) := by decide +kernel
theorem dX12_nextRoad_2 : decode cX12_nextRoad 2 = .ok (.iload_n 3, 1) := by decide +kernel
theorem dX12_nextRoad_3 : decode cX12_nextRoad 3 = .ok (.aload_n 0, 1) := by decide +kernel
theorem dX12_nextRoad_4 : decode cX12_nextRoad 4 = .ok (.getfield 153, 3) := by decide +kernel
theorem dX12_nextRoad_7 : decode cX12_nextRoad 7 = .ok (.if_icmp .ge 99, 3) := by decide +kernel
theorem dX12_nextRoad_10 : decode cX12_nextRoad 10 = .ok (.aload_n 0, 1) := by decide +kernel
theorem dX12_nextRoad_11 : decode cX12_nextRoad 11 = .ok (.getfield 63, 3) := by decide +kernel
theorem dX12_nextRoad_14 : decode cX12_nextRoad 14 = .ok (.bipush 8, 2) := by decide +kernel
theorem dX12_nextRoad_16 : decode cX12_nextRoad 16 = .ok (.iload_n 1, 1) := by decide +kernel
theorem dX12_nextRoad_17 : decode cX12_nextRoad 17 = .ok (.imul, 1) := by decide +kernel
theorem dX12_nextRoad_18 : decode cX12_nextRoad 18 = .ok (.iload_n 2, 1) := by decide +kernel
theorem dX12_nextRoad_19 : decode cX12_nextRoad 19 = .ok (.iadd, 1) := by decide +kernel
theorem dX12_nextRoad_20 : decode cX12_nextRoad 20 = .ok (.iaload, 1) := by decide +kernel
theorem dX12_nextRoad_21 : decode cX12_nextRoad 21 = .ok (.ldc 192, 2) := by decide +kernel
theorem dX12_nextRoad_23 : decode cX12_nextRoad 23 = .ok (.if_icmp .ge 83, 3) := by decide +kernel
theorem dX12_nextRoad_26 : decode cX12_nextRoad 26 = .ok (.aload_n 0, 1) := by decide +kernel
theorem dX12_nextRoad_27 : decode cX12_nextRoad 27 = .ok (.iload_n 3, 1) := by decide +kernel
theorem dX12_nextRoad_28 : decode cX12_nextRoad 28 = .ok (.iload_n 2, 1) := by decide +kernel
theorem dX12_nextRoad_29 : decode cX12_nextRoad 29 = .ok (.invokevirtual 201, 3) := by decide +kernel
theorem dX12_nextRoad_32 : decode cX12_nextRoad 32 = .ok (.istore 4, 2) := by decide +kernel
theorem dX12_nextRoad_34 : decode cX12_nextRoad 34 = .ok (.iload 4, 2) := by decide +kernel
theorem dX12_nextRoad_36 : decode cX12_nextRoad 36 = .ok (.ifCond .lt 64, 3) := by decide +kernel
theorem dX12_nextRoad_39 : decode cX12_nextRoad 39 = .ok (.aload_n 0, 1) := by decide +kernel
theorem dX12_nextRoad_40 : decode cX12_nextRoad 40 = .ok (.iload_n 1, 1) := by decide +kernel
theorem dX12_nextRoad_41 : decode cX12_nextRoad 41 = .ok (.iload_n 3, 1) := by decide +kernel
theorem dX12_nextRoad_42 : decode cX12_nextRoad 42 = .ok (.invokevirtual 193, 3) := by decide +kernel
theorem dX12_nextRoad_45 : decode cX12_nextRoad 45 = .ok (.ifCond .ne 55, 3) := by decide +kernel
theorem dX12_nextRoad_48 : decode cX12_nextRoad 48 = .ok (.aload_n 0, 1) := by decide +kernel
theorem dX12_nextRoad_49 : decode cX12_nextRoad 49 = .ok (.getfield 63, 3) := by decide +kernel
theorem dX12_nextRoad_52 : decode cX12_nextRoad 52 = .ok (.bipush 8, 2) := by decide +kernel
theorem dX12_nextRoad_54 : decode cX12_nextRoad 54 = .ok (.iload_n 1, 1) := by decide +kernel
theorem dX12_nextRoad_55 : decode cX12_nextRoad 55 = .ok (.imul, 1) := by decide +kernel
theorem dX12_nextRoad_56 : decode cX12_nextRoad 56 = .ok (.iload 4, 2) := by decide +kernel
theorem dX12_nextRoad_58 : decode cX12_nextRoad 58 = .ok (.iadd, 1) := by decide +kernel
theorem dX12_nextRoad_59 : decode cX12_nextRoad 59 = .ok (.iaload, 1) := by decide +kernel
theorem dX12_nextRoad_60 : decode cX12_nextRoad 60 = .ok (.ldc 192, 2) := by decide +kernel
theorem dX12_nextRoad_62 : decode cX12_nextRoad 62 = .ok (.if_icmp .ge 38, 3) := by decide +kernel
theorem dX12_nextRoad_65 : decode cX12_nextRoad 65 = .ok (.aload_n 0, 1) := by decide +kernel
theorem dX12_nextRoad_66 : decode cX12_nextRoad 66 = .ok (.getfield 63, 3) := by decide +kernel
theorem dX12_nextRoad_69 : decode cX12_nextRoad 69 = .ok (.bipush 8, 2) := by decide +kernel
theorem dX12_nextRoad_71 : decode cX12_nextRoad 71 = .ok (.iload_n 1, 1) := by decide +kernel
theorem dX12_nextRoad_72 : decode cX12_nextRoad 72 = .ok (.imul, 1) := by decide +kernel
theorem dX12_nextRoad_73 : decode cX12_nextRoad 73 = .ok (.iload 4, 2) := by decide +kernel
theorem dX12_nextRoad_75 : decode cX12_nextRoad 75 = .ok (.iadd, 1) := by decide +kernel
theorem dX12_nextRoad_76 : decode cX12_nextRoad 76 = .ok (.iaload, 1) := by decide +kernel
theorem dX12_nextRoad_77 : decode cX12_nextRoad 77 = .ok (.aload_n 0, 1) := by decide +kernel
theorem dX12_nextRoad_78 : decode cX12_nextRoad 78 = .ok (.getfield 16, 3) := by decide +kernel
theorem dX12_nextRoad_81 : decode cX12_nextRoad 81 = .ok (.iload_n 3, 1) := by decide +kernel
theorem dX12_nextRoad_82 : decode cX12_nextRoad 82 = .ok (.iaload, 1) := by decide +kernel
theorem dX12_nextRoad_83 : decode cX12_nextRoad 83 = .ok (.iadd, 1) := by decide +kernel
theorem dX12_nextRoad_84 : decode cX12_nextRoad 84 = .ok (.aload_n 0, 1) := by decide +kernel
theorem dX12_nextRoad_85 : decode cX12_nextRoad 85 = .ok (.getfield 63, 3) := by decide +kernel
theorem dX12_nextRoad_88 : decode cX12_nextRoad 88 = .ok (.bipush 8, 2) := by decide +kernel
theorem dX12_nextRoad_90 : decode cX12_nextRoad 90 = .ok (.iload_n 1, 1) := by decide +kernel
theorem dX12_nextRoad_91 : decode cX12_nextRoad 91 = .ok (.imul, 1) := by decide +kernel
theorem dX12_nextRoad_92 : decode cX12_nextRoad 92 = .ok (.iload_n 2, 1) := by decide +kernel
theorem dX12_nextRoad_93 : decode cX12_nextRoad 93 = .ok (.iadd, 1) := by decide +kernel
theorem dX12_nextRoad_94 : decode cX12_nextRoad 94 = .ok (.iaload, 1) := by decide +kernel
theorem dX12_nextRoad_95 : decode cX12_nextRoad 95 = .ok (.if_icmp .ne 5, 3) := by decide +kernel
theorem dX12_nextRoad_98 : decode cX12_nextRoad 98 = .ok (.iload_n 3, 1) := by decide +kernel
theorem dX12_nextRoad_99 : decode cX12_nextRoad 99 = .ok (.ireturn, 1) := by decide +kernel
theorem dX12_nextRoad_100 : decode cX12_nextRoad 100 = .ok (.iinc 3 1, 3) := by decide +kernel
theorem dX12_nextRoad_103 : decode cX12_nextRoad 103 = .ok (.goto (-101), 3) := by decide +kernel
theorem dX12_nextRoad_106 : decode cX12_nextRoad 106 = .ok (.bipush (-4), 2) := by decide +kernel
theorem dX12_nextRoad_108 : decode cX12_nextRoad 108 = .ok (.ireturn, 1) := by decide +kernel
theorem dX12_way_0 : decode cX12_way 0 = .ok (.aload_n 0, 1) := by decide +kernel
theorem dX12_way_1 : decode cX12_way 1 = .ok (.iconst 0, 1) := by decide +kernel
theorem dX12_way_2 : decode cX12_way 2 = .ok (.putfield 102, 3) := by decide +kernel
theorem dX12_way_5 : decode cX12_way 5 = .ok (.aload_n 0, 1) := by decide +kernel
theorem dX12_way_6 : decode cX12_way 6 = .ok (.iload_n 1, 1) := by decide +kernel
theorem dX12_way_7 : decode cX12_way 7 = .ok (.invokevirtual 184, 3) := by decide +kernel
theorem dX12_way_10 : decode cX12_way 10 = .ok (.ifCond .eq 11, 3) := by decide +kernel
theorem dX12_way_13 : decode cX12_way 13 = .ok (.aload_n 0, 1) := by decide +kernel
theorem dX12_way_14 : decode cX12_way 14 = .ok (.iload_n 2, 1) := by decide +kernel
theorem dX12_way_15 : decode cX12_way 15 = .ok (.invokevirtual 187, 3) := by decide +kernel
theorem dX12_way_18 : decode cX12_way 18 = .ok (.ifCond .ne 5, 3) := by decide +kernel
theorem dX12_way_21 : decode cX12_way 21 = .ok (.iconst (-1), 1) := by decide +kernel
theorem dX12_way_22 : decode cX12_way 22 = .ok (.ireturn, 1) := by decide +kernel
theorem dX12_way_23 : decode cX12_way 23 = .ok (.aload_n 0, 1) := by decide +kernel
theorem dX12_way_24 : decode cX12_way 24 = .ok (.invokevirtual 205, 3) := by decide +kernel
theorem dX12_way_27 : decode cX12_way 27 = .ok (.aload_n 0, 1) := by decide +kernel
theorem dX12_way_28 : decode cX12_way 28 = .ok (.getfield 63, 3) := by decide +kernel
theorem dX12_way_31 : decode cX12_way 31 = .ok (.bipush 8, 2) := by decide +kernel
theorem dX12_way_33 : decode cX12_way 33 = .ok (.iload_n 1, 1) := by decide +kernel
theorem dX12_way_34 : decode cX12_way 34 = .ok (.imul, 1) := by decide +kernel
theorem dX12_way_35 : decode cX12_way 35 = .ok (.iload_n 2, 1) := by decide +kernel
theorem dX12_way_36 : decode cX12_way 36 = .ok (.iadd, 1) := by decide +kernel
theorem dX12_way_37 : decode cX12_way 37 = .ok (.iaload, 1) := by decide +kernel
theorem dX12_way_38 : decode cX12_way 38 = .ok (.ireturn, 1) := by decide +kernel
theorem dX12_next_0 : decode cX12_next 0 = .ok (.aload_n 0, 1) := by decide +kernel
theorem dX12_next_1 : decode cX12_next 1 = .ok (.iconst 0, 1) := by decide +kernel
theorem dX12_next_2 : decode cX12_next 2 = .ok (.putfield 102, 3) := by decide +kernel
theorem dX12_next_5 : decode cX12_next 5 = .ok (.aload_n 0, 1) := by decide +kernel
theorem dX12_next_6 : decode cX12_next 6 = .ok (.iload_n 1, 1) := by decide +kernel
theorem dX12_next_7 : decode cX12_next 7 = .ok (.invokevirtual 184, 3) := by decide +kernel
theorem dX12_next_10 : decode cX12_next 10 = .ok (.ifCond .eq 11, 3) := by decide +kernel
theorem dX12_next_13 : decode cX12_next 13 = .ok (.aload_n 0, 1) := by decide +kernel
theorem dX12_next_14 : decode cX12_next 14 = .ok (.iload_n 2, 1) := by decide +kernel
theorem dX12_next_15 : decode cX12_next 15 = .ok (.invokevirtual 187, 3) := by decide +kernel
theorem dX12_next_18 : decode cX12_next 18 = .ok (.ifCond .ne 5, 3) := by decide +kernel
theorem dX12_next_21 : decode cX12_next 21 = .ok (.iconst (-1), 1) := by decide +kernel
theorem dX12_next_22 : decode cX12_next 22 = .ok (.ireturn, 1) := by decide +kernel
theorem dX12_next_23 : decode cX12_next 23 = .ok (.aload_n 0, 1) := by decide +kernel
theorem dX12_next_24 : decode cX12_next 24 = .ok (.invokevirtual 205, 3) := by decide +kernel
theorem dX12_next_27 : decode cX12_next 27 = .ok (.aload_n 0, 1) := by decide +kernel
theorem dX12_next_28 : decode cX12_next 28 = .ok (.getfield 22, 3) := by decide +kernel
theorem dX12_next_31 : decode cX12_next 31 = .ok (.iload_n 1, 1) := by decide +kernel
theorem dX12_next_32 : decode cX12_next 32 = .ok (.iaload, 1) := by decide +kernel
theorem dX12_next_33 : decode cX12_next 33 = .ok (.iload_n 2, 1) := by decide +kernel
theorem dX12_next_34 : decode cX12_next 34 = .ok (.if_icmp .ne 8, 3) := by decide +kernel
theorem dX12_next_37 : decode cX12_next 37 = .ok (.bipush (-4), 2) := by decide +kernel
theorem dX12_next_39 : decode cX12_next 39 = .ok (.goto 9, 3) := by decide +kernel
theorem dX12_next_42 : decode cX12_next 42 = .ok (.aload_n 0, 1) := by decide +kernel
theorem dX12_next_43 : decode cX12_next 43 = .ok (.iload_n 1, 1) := by decide +kernel
theorem dX12_next_44 : decode cX12_next 44 = .ok (.iload_n 2, 1) := by decide +kernel
theorem dX12_next_45 : decode cX12_next 45 = .ok (.invokevirtual 208, 3) := by decide +kernel
theorem dX12_next_48 : decode cX12_next 48 = .ok (.ireturn, 1) := by decide +kernel
theorem dX12_said_0 : decode cX12_said 0 = .ok (.aload_n 0, 1) := by decide +kernel
theorem dX12_said_1 : decode cX12_said 1 = .ok (.getfield 28, 3) := by decide +kernel
theorem dX12_said_4 : decode cX12_said 4 = .ok (.iload_n 1, 1) := by decide +kernel
theorem dX12_said_5 : decode cX12_said 5 = .ok (.iaload, 1) := by decide +kernel
theorem dX12_said_6 : decode cX12_said 6 = .ok (.tableswitch 139 0 3 #[30, 32, 61, 121], 30) := by decide +kernel
theorem dX12_said_36 : decode cX12_said 36 = .ok (.iload_n 3, 1) := by decide +kernel
theorem dX12_said_37 : decode cX12_said 37 = .ok (.ireturn, 1) := by decide +kernel
theorem dX12_said_38 : decode cX12_said 38 = .ok (.aload_n 0, 1) := by decide +kernel
theorem dX12_said_39 : decode cX12_said 39 = .ok (.getfield 31, 3) := by decide +kernel
theorem dX12_said_42 : decode cX12_said 42 = .ok (.iload_n 1, 1) := by decide +kernel
theorem dX12_said_43 : decode cX12_said 43 = .ok (.iaload, 1) := by decide +kernel
theorem dX12_said_44 : decode cX12_said 44 = .ok (.aload_n 0, 1) := by decide +kernel
theorem dX12_said_45 : decode cX12_said 45 = .ok (.getfield 111, 3) := by decide +kernel
theorem dX12_said_48 : decode cX12_said 48 = .ok (.if_icmp .ge 12, 3) := by decide +kernel
theorem dX12_said_51 : decode cX12_said 51 = .ok (.aload_n 0, 1) := by decide +kernel
theorem dX12_said_52 : decode cX12_said 52 = .ok (.getfield 31, 3) := by decide +kernel
theorem dX12_said_55 : decode cX12_said 55 = .ok (.iload_n 1, 1) := by decide +kernel
theorem dX12_said_56 : decode cX12_said 56 = .ok (.iaload, 1) := by decide +kernel
theorem dX12_said_57 : decode cX12_said 57 = .ok (.goto 9, 3) := by decide +kernel
theorem dX12_said_60 : decode cX12_said 60 = .ok (.aload_n 0, 1) := by decide +kernel
theorem dX12_said_61 : decode cX12_said 61 = .ok (.getfield 111, 3) := by decide +kernel
theorem dX12_said_64 : decode cX12_said 64 = .ok (.iconst 1, 1) := by decide +kernel
theorem dX12_said_65 : decode cX12_said 65 = .ok (.isub, 1) := by decide +kernel
theorem dX12_said_66 : decode cX12_said 66 = .ok (.ireturn, 1) := by decide +kernel
theorem dX12_said_67 : decode cX12_said 67 = .ok (.iconst 0, 1) := by decide +kernel
theorem dX12_said_68 : decode cX12_said 68 = .ok (.istore 4, 2) := by decide +kernel
theorem dX12_said_70 : decode cX12_said 70 = .ok (.iconst 1, 1) := by decide +kernel
theorem dX12_said_71 : decode cX12_said 71 = .ok (.istore 5, 2) := by decide +kernel
theorem dX12_said_73 : decode cX12_said 73 = .ok (.iload 5, 2) := by decide +kernel
theorem dX12_said_75 : decode cX12_said 75 = .ok (.aload_n 0, 1) := by decide +kernel
theorem dX12_said_76 : decode cX12_said 76 = .ok (.getfield 111, 3) := by decide +kernel
theorem dX12_said_79 : decode cX12_said 79 = .ok (.if_icmp .ge 45, 3) := by decide +kernel
theorem dX12_said_82 : decode cX12_said 82 = .ok (.aload_n 0, 1) := by decide +kernel
theorem dX12_said_83 : decode cX12_said 83 = .ok (.getfield 63, 3) := by decide +kernel
theorem dX12_said_86 : decode cX12_said 86 = .ok (.bipush 8, 2) := by decide +kernel
theorem dX12_said_88 : decode cX12_said 88 = .ok (.iload 5, 2) := by decide +kernel
theorem dX12_said_90 : decode cX12_said 90 = .ok (.imul, 1) := by decide +kernel
theorem dX12_said_91 : decode cX12_said 91 = .ok (.iload_n 2, 1) := by decide +kernel
theorem dX12_said_92 : decode cX12_said 92 = .ok (.iadd, 1) := by decide +kernel
theorem dX12_said_93 : decode cX12_said 93 = .ok (.iaload, 1) := by decide +kernel
theorem dX12_said_94 : decode cX12_said 94 = .ok (.aload_n 0, 1) := by decide +kernel
theorem dX12_said_95 : decode cX12_said 95 = .ok (.getfield 63, 3) := by decide +kernel
theorem dX12_said_98 : decode cX12_said 98 = .ok (.bipush 8, 2) := by decide +kernel
theorem dX12_said_100 : decode cX12_said 100 = .ok (.iload 4, 2) := by decide +kernel
theorem dX12_said_102 : decode cX12_said 102 = .ok (.imul, 1) := by decide +kernel
theorem dX12_said_103 : decode cX12_said 103 = .ok (.iload_n 2, 1) := by decide +kernel
theorem dX12_said_104 : decode cX12_said 104 = .ok (.iadd, 1) := by decide +kernel
theorem dX12_said_105 : decode cX12_said 105 = .ok (.iaload, 1) := by decide +kernel
theorem dX12_said_106 : decode cX12_said 106 = .ok (.if_icmp .ge 8, 3) := by decide +kernel
theorem dX12_said_109 : decode cX12_said 109 = .ok (.iload 5, 2) := by decide +kernel
theorem dX12_said_111 : decode cX12_said 111 = .ok (.goto 5, 3) := by decide +kernel
theorem dX12_said_114 : decode cX12_said 114 = .ok (.iload 4, 2) := by decide +kernel
theorem dX12_said_116 : decode cX12_said 116 = .ok (.istore 4, 2) := by decide +kernel
theorem dX12_said_118 : decode cX12_said 118 = .ok (.iinc 5 1, 3) := by decide +kernel
theorem dX12_said_121 : decode cX12_said 121 = .ok (.goto (-48), 3) := by decide +kernel
theorem dX12_said_124 : decode cX12_said 124 = .ok (.iload 4, 2) := by decide +kernel
theorem dX12_said_126 : decode cX12_said 126 = .ok (.ireturn, 1) := by decide +kernel
theorem dX12_said_127 : decode cX12_said 127 = .ok (.iload_n 3, 1) := by decide +kernel
theorem dX12_said_128 : decode cX12_said 128 = .ok (.aload_n 0, 1) := by decide +kernel
theorem dX12_said_129 : decode cX12_said 129 = .ok (.getfield 111, 3) := by decide +kernel
theorem dX12_said_132 : decode cX12_said 132 = .ok (.iconst 1, 1) := by decide +kernel
theorem dX12_said_133 : decode cX12_said 133 = .ok (.isub, 1) := by decide +kernel
theorem dX12_said_134 : decode cX12_said 134 = .ok (.if_icmp .ne 7, 3) := by decide +kernel
theorem dX12_said_137 : decode cX12_said 137 = .ok (.iconst 0, 1) := by decide +kernel
theorem dX12_said_138 : decode cX12_said 138 = .ok (.goto 6, 3) := by decide +kernel
theorem dX12_said_141 : decode cX12_said 141 = .ok (.iload_n 3, 1) := by decide +kernel
theorem dX12_said_142 : decode cX12_said 142 = .ok (.iconst 1, 1) := by decide +kernel
theorem dX12_said_143 : decode cX12_said 143 = .ok (.iadd, 1) := by decide +kernel
theorem dX12_said_144 : decode cX12_said 144 = .ok (.ireturn, 1) := by decide +kernel
theorem dX12_said_145 : decode cX12_said 145 = .ok (.iload_n 3, 1) := by decide +kernel
theorem dX12_said_146 : decode cX12_said 146 = .ok (.ifCond .ne 12, 3) := by decide +kernel
theorem dX12_said_149 : decode cX12_said 149 = .ok (.aload_n 0, 1) := by decide +kernel
theorem dX12_said_150 : decode cX12_said 150 = .ok (.getfield 111, 3) := by decide +kernel
theorem dX12_said_153 : decode cX12_said 153 = .ok (.iconst 1, 1) := by decide +kernel
theorem dX12_said_154 : decode cX12_said 154 = .ok (.isub, 1) := by decide +kernel
theorem dX12_said_155 : decode cX12_said 155 = .ok (.goto 6, 3) := by decide +kernel
theorem dX12_said_158 : decode cX12_said 158 = .ok (.iload_n 3, 1) := by decide +kernel
theorem dX12_said_159 : decode cX12_said 159 = .ok (.iconst 1, 1) := by decide +kernel
theorem dX12_said_160 : decode cX12_said 160 = .ok (.isub, 1) := by decide +kernel
theorem dX12_said_161 : decode cX12_said 161 = .ok (.ireturn, 1) := by decide +kernel
theorem dX12_says_0 : decode cX12_says 0 = .ok (.aload_n 0, 1) := by decide +kernel
theorem dX12_says_1 : decode cX12_says 1 = .ok (.iconst 0, 1) := by decide +kernel
theorem dX12_says_2 : decode cX12_says 2 = .ok (.putfield 102, 3) := by decide +kernel
theorem dX12_says_5 : decode cX12_says 5 = .ok (.iload_n 1, 1) := by decide +kernel
theorem dX12_says_6 : decode cX12_says 6 = .ok (.i2l, 1) := by decide +kernel
theorem dX12_says_7 : decode cX12_says 7 = .ok (.lconst 0, 1) := by decide +kernel
theorem dX12_says_8 : decode cX12_says 8 = .ok (.aload_n 0, 1) := by decide +kernel
theorem dX12_says_9 : decode cX12_says 9 = .ok (.getfield 159, 3) := by decide +kernel
theorem dX12_says_12 : decode cX12_says 12 = .ok (.iconst 1, 1) := by decide +kernel
theorem dX12_says_13 : decode cX12_says 13 = .ok (.isub, 1) := by decide +kernel
theorem dX12_says_14 : decode cX12_says 14 = .ok (.i2l, 1) := by decide +kernel
theorem dX12_says_15 : decode cX12_says 15 = .ok (.invokestatic 107, 3) := by decide +kernel
theorem dX12_says_18 : decode cX12_says 18 = .ok (.ifCond .eq 19, 3) := by decide +kernel
theorem dX12_says_21 : decode cX12_says 21 = .ok (.aload_n 0, 1) := by decide +kernel
theorem dX12_says_22 : decode cX12_says 22 = .ok (.iload_n 2, 1) := by decide +kernel
theorem dX12_says_23 : decode cX12_says 23 = .ok (.invokevirtual 187, 3) := by decide +kernel
theorem dX12_says_26 : decode cX12_says 26 = .ok (.ifCond .eq 11, 3) := by decide +kernel
theorem dX12_says_29 : decode cX12_says 29 = .ok (.aload_n 0, 1) := by decide +kernel
theorem dX12_says_30 : decode cX12_says 30 = .ok (.iload_n 3, 1) := by decide +kernel
theorem dX12_says_31 : decode cX12_says 31 = .ok (.invokevirtual 184, 3) := by decide +kernel
theorem dX12_says_34 : decode cX12_says 34 = .ok (.ifCond .ne 5, 3) := by decide +kernel
theorem dX12_says_37 : decode cX12_says 37 = .ok (.iconst (-1), 1) := by decide +kernel
theorem dX12_says_38 : decode cX12_says 38 = .ok (.ireturn, 1) := by decide +kernel
theorem dX12_says_39 : decode cX12_says 39 = .ok (.aload_n 0, 1) := by decide +kernel
theorem dX12_says_40 : decode cX12_says 40 = .ok (.invokevirtual 205, 3) := by decide +kernel
theorem dX12_says_43 : decode cX12_says 43 = .ok (.aload_n 0, 1) := by decide +kernel
theorem dX12_says_44 : decode cX12_says 44 = .ok (.iload_n 1, 1) := by decide +kernel
theorem dX12_says_45 : decode cX12_says 45 = .ok (.iload_n 2, 1) := by decide +kernel
theorem dX12_says_46 : decode cX12_says 46 = .ok (.iload_n 3, 1) := by decide +kernel
theorem dX12_says_47 : decode cX12_says 47 = .ok (.invokevirtual 211, 3) := by decide +kernel
theorem dX12_says_50 : decode cX12_says 50 = .ok (.ireturn, 1) := by decide +kernel
theorem dX12_hundredths_0 : decode cX12_hundredths 0 = .ok (.iload_n 1, 1) := by decide +kernel
theorem dX12_hundredths_1 : decode cX12_hundredths 1 = .ok (.aload_n 0, 1) := by decide +kernel
theorem dX12_hundredths_2 : decode cX12_hundredths 2 = .ok (.getfield 66, 3) := by decide +kernel
theorem dX12_hundredths_5 : decode cX12_hundredths 5 = .ok (.if_icmp .ne 15, 3) := by decide +kernel
theorem dX12_hundredths_8 : decode cX12_hundredths 8 = .ok (.iload_n 2, 1) := by decide +kernel
theorem dX12_hundredths_9 : decode cX12_hundredths 9 = .ok (.iload_n 3, 1) := by decide +kernel
theorem dX12_hundredths_10 : decode cX12_hundredths 10 = .ok (.if_icmp .ne 8, 3) := by decide +kernel
theorem dX12_hundredths_13 : decode cX12_hundredths 13 = .ok (.bipush 100, 2) := by decide +kernel
theorem dX12_hundredths_15 : decode cX12_hundredths 15 = .ok (.goto 4, 3) := by decide +kernel
theorem dX12_hundredths_18 : decode cX12_hundredths 18 = .ok (.iconst 0, 1) := by decide +kernel
theorem dX12_hundredths_19 : decode cX12_hundredths 19 = .ok (.ireturn, 1) := by decide +kernel
theorem dX12_hundredths_20 : decode cX12_hundredths 20 = .ok (.iload_n 2, 1) := by decide +kernel
theorem dX12_hundredths_21 : decode cX12_hundredths 21 = .ok (.ifCond .ge 12, 3) := by decide +kernel
theorem dX12_hundredths_24 : decode cX12_hundredths 24 = .ok (.bipush 100, 2) := by decide +kernel
theorem dX12_hundredths_26 : decode cX12_hundredths 26 = .ok (.aload_n 0, 1) := by decide +kernel
theorem dX12_hundredths_27 : decode cX12_hundredths 27 = .ok (.iload_n 1, 1) := by decide +kernel
theorem dX12_hundredths_28 : decode cX12_hundredths 28 = .ok (.invokevirtual 162, 3) := by decide +kernel
theorem dX12_hundredths_31 : decode cX12_hundredths 31 = .ok (.isub, 1) := by decide +kernel
theorem dX12_hundredths_32 : decode cX12_hundredths 32 = .ok (.ireturn, 1) := by decide +kernel
theorem dX12_hundredths_33 : decode cX12_hundredths 33 = .ok (.iconst 0, 1) := by decide +kernel
theorem dX12_hundredths_34 : decode cX12_hundredths 34 = .ok (.istore 4, 2) := by decide +kernel
theorem dX12_hundredths_36 : decode cX12_hundredths 36 = .ok (.iconst 0, 1) := by decide +kernel
theorem dX12_hundredths_37 : decode cX12_hundredths 37 = .ok (.istore 5, 2) := by decide +kernel
theorem dX12_hundredths_39 : decode cX12_hundredths 39 = .ok (.iload 5, 2) := by decide +kernel
theorem dX12_hundredths_41 : decode cX12_hundredths 41 = .ok (.aload_n 0, 1) := by decide +kernel
theorem dX12_hundredths_42 : decode cX12_hundredths 42 = .ok (.getfield 159, 3) := by decide +kernel
theorem dX12_hundredths_45 : decode cX12_hundredths 45 = .ok (.if_icmp .ge 42, 3) := by decide +kernel
theorem dX12_hundredths_48 : decode cX12_hundredths 48 = .ok (.iload 4, 2) := by decide +kernel
theorem dX12_hundredths_50 : decode cX12_hundredths 50 = .ok (.aload_n 0, 1) := by decide +kernel
theorem dX12_hundredths_51 : decode cX12_hundredths 51 = .ok (.iload 5, 2) := by decide +kernel
theorem dX12_hundredths_53 : decode cX12_hundredths 53 = .ok (.iload_n 1, 1) := by decide +kernel
theorem dX12_hundredths_54 : decode cX12_hundredths 54 = .ok (.iload_n 3, 1) := by decide +kernel
theorem dX12_hundredths_55 : decode cX12_hundredths 55 = .ok (.invokevirtual 211, 3) := by decide +kernel
theorem dX12_hundredths_58 : decode cX12_hundredths 58 = .ok (.iload_n 2, 1) := by decide +kernel
theorem dX12_hundredths_59 : decode cX12_hundredths 59 = .ok (.if_icmp .ne 18, 3) := by decide +kernel
theorem dX12_hundredths_62 : decode cX12_hundredths 62 = .ok (.aload_n 0, 1) := by decide +kernel
theorem dX12_hundredths_63 : decode cX12_hundredths 63 = .ok (.getfield 34, 3) := by decide +kernel
theorem dX12_hundredths_66 : decode cX12_hundredths 66 = .ok (.bipush 6, 2) := by decide +kernel
theorem dX12_hundredths_68 : decode cX12_hundredths 68 = .ok (.iload_n 1, 1) := by decide +kernel
theorem dX12_hundredths_69 : decode cX12_hundredths 69 = .ok (.imul, 1) := by decide +kernel
theorem dX12_hundredths_70 : decode cX12_hundredths 70 = .ok (.iload 5, 2) := by decide +kernel
theorem dX12_hundredths_72 : decode cX12_hundredths 72 = .ok (.iadd, 1) := by decide +kernel
theorem dX12_hundredths_73 : decode cX12_hundredths 73 = .ok (.iaload, 1) := by decide +kernel
theorem dX12_hundredths_74 : decode cX12_hundredths 74 = .ok (.goto 4, 3) := by decide +kernel
theorem dX12_hundredths_77 : decode cX12_hundredths 77 = .ok (.iconst 0, 1) := by decide +kernel
theorem dX12_hundredths_78 : decode cX12_hundredths 78 = .ok (.iadd, 1) := by decide +kernel
theorem dX12_hundredths_79 : decode cX12_hundredths 79 = .ok (.istore 4, 2) := by decide +kernel
theorem dX12_hundredths_81 : decode cX12_hundredths 81 = .ok (.iinc 5 1, 3) := by decide +kernel
theorem dX12_hundredths_84 : decode cX12_hundredths 84 = .ok (.goto (-45), 3) := by decide +kernel
theorem dX12_hundredths_87 : decode cX12_hundredths 87 = .ok (.iload 4, 2) := by decide +kernel
theorem dX12_hundredths_89 : decode cX12_hundredths 89 = .ok (.ireturn, 1) := by decide +kernel
theorem dX12_isAnswer_0 : decode cX12_isAnswer 0 = .ok (.iload_n 1, 1) := by decide +kernel
theorem dX12_isAnswer_1 : decode cX12_isAnswer 1 = .ok (.i2l, 1) := by decide +kernel
theorem dX12_isAnswer_2 : decode cX12_isAnswer 2 = .ok (.ldc2_w 215, 3) := by decide +kernel
theorem dX12_isAnswer_5 : decode cX12_isAnswer 5 = .ok (.aload_n 0, 1) := by decide +kernel
theorem dX12_isAnswer_6 : decode cX12_isAnswer 6 = .ok (.getfield 111, 3) := by decide +kernel
theorem dX12_isAnswer_9 : decode cX12_isAnswer 9 = .ok (.iconst 1, 1) := by decide +kernel
theorem dX12_isAnswer_10 : decode cX12_isAnswer 10 = .ok (.isub, 1) := by decide +kernel
theorem dX12_isAnswer_11 : decode cX12_isAnswer 11 = .ok (.i2l, 1) := by decide +kernel
theorem dX12_isAnswer_12 : decode cX12_isAnswer 12 = .ok (.invokestatic 107, 3) := by decide +kernel
theorem dX12_isAnswer_15 : decode cX12_isAnswer 15 = .ok (.ireturn, 1) := by decide +kernel
theorem dX12_chance_0 : decode cX12_chance 0 = .ok (.aload_n 0, 1) := by decide +kernel
theorem dX12_chance_1 : decode cX12_chance 1 = .ok (.iconst 0, 1) := by decide +kernel
theorem dX12_chance_2 : decode cX12_chance 2 = .ok (.putfield 102, 3) := by decide +kernel
theorem dX12_chance_5 : decode cX12_chance 5 = .ok (.aload_n 0, 1) := by decide +kernel
theorem dX12_chance_6 : decode cX12_chance 6 = .ok (.iload_n 1, 1) := by decide +kernel
theorem dX12_chance_7 : decode cX12_chance 7 = .ok (.invokevirtual 187, 3) := by decide +kernel
theorem dX12_chance_10 : decode cX12_chance 10 = .ok (.ifCond .eq 19, 3) := by decide +kernel
theorem dX12_chance_13 : decode cX12_chance 13 = .ok (.aload_n 0, 1) := by decide +kernel
theorem dX12_chance_14 : decode cX12_chance 14 = .ok (.iload_n 2, 1) := by decide +kernel
theorem dX12_chance_15 : decode cX12_chance 15 = .ok (.invokevirtual 217, 3) := by decide +kernel
theorem dX12_chance_18 : decode cX12_chance 18 = .ok (.ifCond .eq 11, 3) := by decide +kernel
theorem dX12_chance_21 : decode cX12_chance 21 = .ok (.aload_n 0, 1) := by decide +kernel
theorem dX12_chance_22 : decode cX12_chance 22 = .ok (.iload_n 3, 1) := by decide +kernel
theorem dX12_chance_23 : decode cX12_chance 23 = .ok (.invokevirtual 184, 3) := by decide +kernel
theorem dX12_chance_26 : decode cX12_chance 26 = .ok (.ifCond .ne 5, 3) := by decide +kernel
theorem dX12_chance_29 : decode cX12_chance 29 = .ok (.iconst (-1), 1) := by decide +kernel
theorem dX12_chance_30 : decode cX12_chance 30 = .ok (.ireturn, 1) := by decide +kernel
theorem dX12_chance_31 : decode cX12_chance 31 = .ok (.aload_n 0, 1) := by decide +kernel
theorem dX12_chance_32 : decode cX12_chance 32 = .ok (.invokevirtual 205, 3) := by decide +kernel
theorem dX12_chance_35 : decode cX12_chance 35 = .ok (.aload_n 0, 1) := by decide +kernel
theorem dX12_chance_36 : decode cX12_chance 36 = .ok (.iload_n 1, 1) := by decide +kernel
theorem dX12_chance_37 : decode cX12_chance 37 = .ok (.iload_n 2, 1) := by decide +kernel
theorem dX12_chance_38 : decode cX12_chance 38 = .ok (.iload_n 3, 1) := by decide +kernel
theorem dX12_chance_39 : decode cX12_chance 39 = .ok (.invokevirtual 220, 3) := by decide +kernel
theorem dX12_chance_42 : decode cX12_chance 42 = .ok (.ireturn, 1) := by decide +kernel
theorem dX12_divisor_0 : decode cX12_divisor 0 = .ok (.lload_n 0, 1) := by decide +kernel
theorem dX12_divisor_1 : decode cX12_divisor 1 = .ok (.lstore 4, 2) := by decide +kernel
theorem dX12_divisor_3 : decode cX12_divisor 3 = .ok (.lload_n 2, 1) := by decide +kernel
theorem dX12_divisor_4 : decode cX12_divisor 4 = .ok (.lstore 6, 2) := by decide +kernel
theorem dX12_divisor_6 : decode cX12_divisor 6 = .ok (.lload 6, 2) := by decide +kernel
theorem dX12_divisor_8 : decode cX12_divisor 8 = .ok (.lconst 0, 1) := by decide +kernel
theorem dX12_divisor_9 : decode cX12_divisor 9 = .ok (.lcmp, 1) := by decide +kernel
theorem dX12_divisor_10 : decode cX12_divisor 10 = .ok (.ifCond .eq 21, 3) := by decide +kernel
theorem dX12_divisor_13 : decode cX12_divisor 13 = .ok (.lload 4, 2) := by decide +kernel
theorem dX12_divisor_15 : decode cX12_divisor 15 = .ok (.lload 6, 2) := by decide +kernel
theorem dX12_divisor_17 : decode cX12_divisor 17 = .ok (.lrem, 1) := by decide +kernel
theorem dX12_divisor_18 : decode cX12_divisor 18 = .ok (.lstore 8, 2) := by decide +kernel
theorem dX12_divisor_20 : decode cX12_divisor 20 = .ok (.lload 6, 2) := by decide +kernel
theorem dX12_divisor_22 : decode cX12_divisor 22 = .ok (.lstore 4, 2) := by decide +kernel
theorem dX12_divisor_24 : decode cX12_divisor 24 = .ok (.lload 8, 2) := by decide +kernel
theorem dX12_divisor_26 : decode cX12_divisor 26 = .ok (.lstore 6, 2) := by decide +kernel
theorem dX12_divisor_28 : decode cX12_divisor 28 = .ok (.goto (-22), 3) := by decide +kernel
theorem dX12_divisor_31 : decode cX12_divisor 31 = .ok (.lload 4, 2) := by decide +kernel
theorem dX12_divisor_33 : decode cX12_divisor 33 = .ok (.lreturn, 1) := by decide +kernel
theorem dX12_settle_0 : decode cX12_settle 0 = .ok (.lconst 0, 1) := by decide +kernel
theorem dX12_settle_1 : decode cX12_settle 1 = .ok (.lstore_n 1, 1) := by decide +kernel
theorem dX12_settle_2 : decode cX12_settle 2 = .ok (.iconst 0, 1) := by decide +kernel
theorem dX12_settle_3 : decode cX12_settle 3 = .ok (.istore_n 3, 1) := by decide +kernel
theorem dX12_settle_4 : decode cX12_settle 4 = .ok (.iload_n 3, 1) := by decide +kernel
theorem dX12_settle_5 : decode cX12_settle 5 = .ok (.aload_n 0, 1) := by decide +kernel
theorem dX12_settle_6 : decode cX12_settle 6 = .ok (.getfield 111, 3) := by decide +kernel
theorem dX12_settle_9 : decode cX12_settle 9 = .ok (.if_icmp .ge 20, 3) := by decide +kernel
theorem dX12_settle_12 : decode cX12_settle 12 = .ok (.aload_n 0, 1) := by decide +kernel
theorem dX12_settle_13 : decode cX12_settle 13 = .ok (.getfield 69, 3) := by decide +kernel
theorem dX12_settle_16 : decode cX12_settle 16 = .ok (.iload_n 3, 1) := by decide +kernel
theorem dX12_settle_17 : decode cX12_settle 17 = .ok (.laload, 1) := by decide +kernel
theorem dX12_settle_18 : decode cX12_settle 18 = .ok (.lload_n 1, 1) := by decide +kernel
theorem dX12_settle_19 : decode cX12_settle 19 = .ok (.invokestatic 223, 3) := by decide +kernel
theorem dX12_settle_22 : decode cX12_settle 22 = .ok (.lstore_n 1, 1) := by decide +kernel
theorem dX12_settle_23 : decode cX12_settle 23 = .ok (.iinc 3 1, 3) := by decide +kernel
theorem dX12_settle_26 : decode cX12_settle 26 = .ok (.goto (-22), 3) := by decide +kernel
theorem dX12_settle_29 : decode cX12_settle 29 = .ok (.lload_n 1, 1) := by decide +kernel
theorem dX12_settle_30 : decode cX12_settle 30 = .ok (.lconst 0, 1) := by decide +kernel
theorem dX12_settle_31 : decode cX12_settle 31 = .ok (.lcmp, 1) := by decide +kernel
theorem dX12_settle_32 : decode cX12_settle 32 = .ok (.ifCond .ne 5, 3) := by decide +kernel
theorem dX12_settle_35 : decode cX12_settle 35 = .ok (.iconst 0, 1) := by decide +kernel
theorem dX12_settle_36 : decode cX12_settle 36 = .ok (.ireturn, 1) := by decide +kernel
theorem dX12_settle_37 : decode cX12_settle 37 = .ok (.iconst 0, 1) := by decide +kernel
theorem dX12_settle_38 : decode cX12_settle 38 = .ok (.istore_n 3, 1) := by decide +kernel
theorem dX12_settle_39 : decode cX12_settle 39 = .ok (.iload_n 3, 1) := by decide +kernel
theorem dX12_settle_40 : decode cX12_settle 40 = .ok (.aload_n 0, 1) := by decide +kernel
theorem dX12_settle_41 : decode cX12_settle 41 = .ok (.getfield 111, 3) := by decide +kernel
theorem dX12_settle_44 : decode cX12_settle 44 = .ok (.if_icmp .ge 19, 3) := by decide +kernel
theorem dX12_settle_47 : decode cX12_settle 47 = .ok (.aload_n 0, 1) := by decide +kernel
theorem dX12_settle_48 : decode cX12_settle 48 = .ok (.getfield 69, 3) := by decide +kernel
theorem dX12_settle_51 : decode cX12_settle 51 = .ok (.iload_n 3, 1) := by decide +kernel
theorem dX12_settle_52 : decode cX12_settle 52 = .ok (.dup2, 1) := by decide +kernel
theorem dX12_settle_53 : decode cX12_settle 53 = .ok (.laload, 1) := by decide +kernel
theorem dX12_settle_54 : decode cX12_settle 54 = .ok (.lload_n 1, 1) := by decide +kernel
theorem dX12_settle_55 : decode cX12_settle 55 = .ok (.ldiv, 1) := by decide +kernel
theorem dX12_settle_56 : decode cX12_settle 56 = .ok (.lastore, 1) := by decide +kernel
theorem dX12_settle_57 : decode cX12_settle 57 = .ok (.iinc 3 1, 3) := by decide +kernel
theorem dX12_settle_60 : decode cX12_settle 60 = .ok (.goto (-21), 3) := by decide +kernel
theorem dX12_settle_63 : decode cX12_settle 63 = .ok (.iconst 1, 1) := by decide +kernel
theorem dX12_settle_64 : decode cX12_settle 64 = .ok (.istore_n 3, 1) := by decide +kernel
theorem dX12_settle_65 : decode cX12_settle 65 = .ok (.iload_n 3, 1) := by decide +kernel
theorem dX12_settle_66 : decode cX12_settle 66 = .ok (.ifCond .eq 106, 3) := by decide +kernel
theorem dX12_settle_69 : decode cX12_settle 69 = .ok (.iconst 0, 1) := by decide +kernel
theorem dX12_settle_70 : decode cX12_settle 70 = .ok (.istore_n 3, 1) := by decide +kernel
theorem dX12_settle_71 : decode cX12_settle 71 = .ok (.iconst 0, 1) := by decide +kernel
theorem dX12_settle_72 : decode cX12_settle 72 = .ok (.istore 4, 2) := by decide +kernel
theorem dX12_settle_74 : decode cX12_settle 74 = .ok (.iload 4, 2) := by decide +kernel
theorem dX12_settle_76 : decode cX12_settle 76 = .ok (.aload_n 0, 1) := by decide +kernel
theorem dX12_settle_77 : decode cX12_settle 77 = .ok (.getfield 111, 3) := by decide +kernel
theorem dX12_settle_80 : decode cX12_settle 80 = .ok (.if_icmp .ge 33, 3) := by decide +kernel
theorem dX12_settle_83 : decode cX12_settle 83 = .ok (.iload_n 3, 1) := by decide +kernel
theorem dX12_settle_84 : decode cX12_settle 84 = .ok (.ifCond .ne 17, 3) := by decide +kernel
theorem dX12_settle_87 : decode cX12_settle 87 = .ok (.aload_n 0, 1) := by decide +kernel
theorem dX12_settle_88 : decode cX12_settle 88 = .ok (.getfield 69, 3) := by decide +kernel
theorem dX12_settle_91 : decode cX12_settle 91 = .ok (.iload 4, 2) := by decide +kernel
theorem dX12_settle_93 : decode cX12_settle 93 = .ok (.laload, 1) := by decide +kernel
theorem dX12_settle_94 : decode cX12_settle 94 = .ok (.ldc2_w 227, 3) := by decide +kernel
theorem dX12_settle_97 : decode cX12_settle 97 = .ok (.lcmp, 1) := by decide +kernel
theorem dX12_settle_98 : decode cX12_settle 98 = .ok (.ifCond .le 7, 3) := by decide +kernel
theorem dX12_settle_101 : decode cX12_settle 101 = .ok (.iconst 1, 1) := by decide +kernel
theorem dX12_settle_102 : decode cX12_settle 102 = .ok (.goto 4, 3) := by decide +kernel
theorem dX12_settle_105 : decode cX12_settle 105 = .ok (.iconst 0, 1) := by decide +kernel
theorem dX12_settle_106 : decode cX12_settle 106 = .ok (.istore_n 3, 1) := by decide +kernel
theorem dX12_settle_107 : decode cX12_settle 107 = .ok (.iinc 4 1, 3) := by decide +kernel
theorem dX12_settle_110 : decode cX12_settle 110 = .ok (.goto (-36), 3) := by decide +kernel
theorem dX12_settle_113 : decode cX12_settle 113 = .ok (.iconst 0, 1) := by decide +kernel
theorem dX12_settle_114 : decode cX12_settle 114 = .ok (.istore 4, 2) := by decide +kernel
theorem dX12_settle_116 : decode cX12_settle 116 = .ok (.iload 4, 2) := by decide +kernel
theorem dX12_settle_118 : decode cX12_settle 118 = .ok (.aload_n 0, 1) := by decide +kernel
theorem dX12_settle_119 : decode cX12_settle 119 = .ok (.getfield 111, 3) := by decide +kernel
theorem dX12_settle_122 : decode cX12_settle 122 = .ok (.if_icmp .ge 47, 3) := by decide +kernel
theorem dX12_settle_125 : decode cX12_settle 125 = .ok (.iload_n 3, 1) := by decide +kernel
theorem dX12_settle_126 : decode cX12_settle 126 = .ok (.ifCond .eq 43, 3) := by decide +kernel
theorem dX12_settle_129 : decode cX12_settle 129 = .ok (.aload_n 0, 1) := by decide +kernel
theorem dX12_settle_130 : decode cX12_settle 130 = .ok (.getfield 69, 3) := by decide +kernel
theorem dX12_settle_133 : decode cX12_settle 133 = .ok (.iload 4, 2) := by decide +kernel
theorem dX12_settle_135 : decode cX12_settle 135 = .ok (.aload_n 0, 1) := by decide +kernel
theorem dX12_settle_136 : decode cX12_settle 136 = .ok (.getfield 69, 3) := by decide +kernel
theorem dX12_settle_139 : decode cX12_settle 139 = .ok (.iload 4, 2) := by decide +kernel
theorem dX12_settle_141 : decode cX12_settle 141 = .ok (.laload, 1) := by decide +kernel
theorem dX12_settle_142 : decode cX12_settle 142 = .ok (.lconst 1, 1) := by decide +kernel
theorem dX12_settle_143 : decode cX12_settle 143 = .ok (.lcmp, 1) := by decide +kernel
theorem dX12_settle_144 : decode cX12_settle 144 = .ok (.ifCond .ne 7, 3) := by decide +kernel
theorem dX12_settle_147 : decode cX12_settle 147 = .ok (.lconst 1, 1) := by decide +kernel
theorem dX12_settle_148 : decode cX12_settle 148 = .ok (.goto 14, 3) := by decide +kernel
theorem dX12_settle_151 : decode cX12_settle 151 = .ok (.aload_n 0, 1) := by decide +kernel
theorem dX12_settle_152 : decode cX12_settle 152 = .ok (.getfield 69, 3) := by decide +kernel
theorem dX12_settle_155 : decode cX12_settle 155 = .ok (.iload 4, 2) := by decide +kernel
theorem dX12_settle_157 : decode cX12_settle 157 = .ok (.laload, 1) := by decide +kernel
theorem dX12_settle_158 : decode cX12_settle 158 = .ok (.ldc2_w 182, 3) := by decide +kernel
theorem dX12_settle_161 : decode cX12_settle 161 = .ok (.ldiv, 1) := by decide +kernel
theorem dX12_settle_162 : decode cX12_settle 162 = .ok (.lastore, 1) := by decide +kernel
theorem dX12_settle_163 : decode cX12_settle 163 = .ok (.iinc 4 1, 3) := by decide +kernel
theorem dX12_settle_166 : decode cX12_settle 166 = .ok (.goto (-50), 3) := by decide +kernel
theorem dX12_settle_169 : decode cX12_settle 169 = .ok (.goto (-104), 3) := by decide +kernel
theorem dX12_settle_172 : decode cX12_settle 172 = .ok (.iconst 1, 1) := by decide +kernel
theorem dX12_settle_173 : decode cX12_settle 173 = .ok (.ireturn, 1) := by decide +kernel
theorem dX12_setMind_0 : decode cX12_setMind 0 = .ok (.iconst 0, 1) := by decide +kernel
theorem dX12_setMind_1 : decode cX12_setMind 1 = .ok (.istore_n 1, 1) := by decide +kernel
theorem dX12_setMind_2 : decode cX12_setMind 2 = .ok (.iload_n 1, 1) := by decide +kernel
theorem dX12_setMind_3 : decode cX12_setMind 3 = .ok (.aload_n 0, 1) := by decide +kernel
theorem dX12_setMind_4 : decode cX12_setMind 4 = .ok (.getfield 111, 3) := by decide +kernel
theorem dX12_setMind_7 : decode cX12_setMind 7 = .ok (.if_icmp .ge 21, 3) := by decide +kernel
theorem dX12_setMind_10 : decode cX12_setMind 10 = .ok (.aload_n 0, 1) := by decide +kernel
theorem dX12_setMind_11 : decode cX12_setMind 11 = .ok (.getfield 69, 3) := by decide +kernel
theorem dX12_setMind_14 : decode cX12_setMind 14 = .ok (.iload_n 1, 1) := by decide +kernel
theorem dX12_setMind_15 : decode cX12_setMind 15 = .ok (.aload_n 0, 1) := by decide +kernel
theorem dX12_setMind_16 : decode cX12_setMind 16 = .ok (.getfield 41, 3) := by decide +kernel
theorem dX12_setMind_19 : decode cX12_setMind 19 = .ok (.iload_n 1, 1) := by decide +kernel
theorem dX12_setMind_20 : decode cX12_setMind 20 = .ok (.laload, 1) := by decide +kernel
theorem dX12_setMind_21 : decode cX12_setMind 21 = .ok (.lastore, 1) := by decide +kernel
theorem dX12_setMind_22 : decode cX12_setMind 22 = .ok (.iinc 1 1, 3) := by decide +kernel
theorem dX12_setMind_25 : decode cX12_setMind 25 = .ok (.goto (-23), 3) := by decide +kernel
theorem dX12_setMind_28 : decode cX12_setMind 28 = .ok (.return_, 1) := by decide +kernel
theorem dX12_likeliest_0 : decode cX12_likeliest 0 = .ok (.iconst 0, 1) := by decide +kernel
theorem dX12_likeliest_1 : decode cX12_likeliest 1 = .ok (.istore_n 1, 1) := by decide +kernel
theorem dX12_likeliest_2 : decode cX12_likeliest 2 = .ok (.iconst 1, 1) := by decide +kernel
theorem dX12_likeliest_3 : decode cX12_likeliest 3 = .ok (.istore_n 2, 1) := by decide +kernel
theorem dX12_likeliest_4 : decode cX12_likeliest 4 = .ok (.iload_n 2, 1) := by decide +kernel
theorem dX12_likeliest_5 : decode cX12_likeliest 5 = .ok (.aload_n 0, 1) := by decide +kernel
theorem dX12_likeliest_6 : decode cX12_likeliest 6 = .ok (.getfield 111, 3) := by decide +kernel
theorem dX12_likeliest_9 : decode cX12_likeliest 9 = .ok (.if_icmp .ge 31, 3) := by decide +kernel
theorem dX12_likeliest_12 : decode cX12_likeliest 12 = .ok (.aload_n 0, 1) := by decide +kernel
theorem dX12_likeliest_13 : decode cX12_likeliest 13 = .ok (.getfield 69, 3) := by decide +kernel
theorem dX12_likeliest_16 : decode cX12_likeliest 16 = .ok (.iload_n 2, 1) := by decide +kernel
theorem dX12_likeliest_17 : decode cX12_likeliest 17 = .ok (.laload, 1) := by decide +kernel
theorem dX12_likeliest_18 : decode cX12_likeliest 18 = .ok (.aload_n 0, 1) := by decide +kernel
theorem dX12_likeliest_19 : decode cX12_likeliest 19 = .ok (.getfield 69, 3) := by decide +kernel
theorem dX12_likeliest_22 : decode cX12_likeliest 22 = .ok (.iload_n 1, 1) := by decide +kernel
theorem dX12_likeliest_23 : decode cX12_likeliest 23 = .ok (.laload, 1) := by decide +kernel
theorem dX12_likeliest_24 : decode cX12_likeliest 24 = .ok (.lcmp, 1) := by decide +kernel
theorem dX12_likeliest_25 : decode cX12_likeliest 25 = .ok (.ifCond .le 7, 3) := by decide +kernel
theorem dX12_likeliest_28 : decode cX12_likeliest 28 = .ok (.iload_n 2, 1) := by decide +kernel
theorem dX12_likeliest_29 : decode cX12_likeliest 29 = .ok (.goto 4, 3) := by decide +kernel
theorem dX12_likeliest_32 : decode cX12_likeliest 32 = .ok (.iload_n 1, 1) := by decide +kernel
theorem dX12_likeliest_33 : decode cX12_likeliest 33 = .ok (.istore_n 1, 1) := by decide +kernel
theorem dX12_likeliest_34 : decode cX12_likeliest 34 = .ok (.iinc 2 1, 3) := by decide +kernel
theorem dX12_likeliest_37 : decode cX12_likeliest 37 = .ok (.goto (-33), 3) := by decide +kernel
theorem dX12_likeliest_40 : decode cX12_likeliest 40 = .ok (.iload_n 1, 1) := by decide +kernel
theorem dX12_likeliest_41 : decode cX12_likeliest 41 = .ok (.ireturn, 1) := by decide +kernel
theorem dX12_keepMind_0 : decode cX12_keepMind 0 = .ok (.aload_n 0, 1) := by decide +kernel
theorem dX12_keepMind_1 : decode cX12_keepMind 1 = .ok (.invokevirtual 229, 3) := by decide +kernel
theorem dX12_keepMind_4 : decode cX12_keepMind 4 = .ok (.ifCond .ne 6, 3) := by decide +kernel
theorem dX12_keepMind_7 : decode cX12_keepMind 7 = .ok (.bipush (-3), 2) := by decide +kernel
theorem dX12_keepMind_9 : decode cX12_keepMind 9 = .ok (.ireturn, 1) := by decide +kernel
theorem dX12_keepMind_10 : decode cX12_keepMind 10 = .ok (.iconst 0, 1) := by decide +kernel
theorem dX12_keepMind_11 : decode cX12_keepMind 11 = .ok (.istore_n 1, 1) := by decide +kernel
theorem dX12_keepMind_12 : decode cX12_keepMind 12 = .ok (.iload_n 1, 1) := by decide +kernel
theorem dX12_keepMind_13 : decode cX12_keepMind 13 = .ok (.aload_n 0, 1) := by decide +kernel
theorem dX12_keepMind_14 : decode cX12_keepMind 14 = .ok (.getfield 111, 3) := by decide +kernel
theorem dX12_keepMind_17 : decode cX12_keepMind 17 = .ok (.if_icmp .ge 21, 3) := by decide +kernel
theorem dX12_keepMind_20 : decode cX12_keepMind 20 = .ok (.aload_n 0, 1) := by decide +kernel
theorem dX12_keepMind_21 : decode cX12_keepMind 21 = .ok (.getfield 41, 3) := by decide +kernel
theorem dX12_keepMind_24 : decode cX12_keepMind 24 = .ok (.iload_n 1, 1) := by decide +kernel
theorem dX12_keepMind_25 : decode cX12_keepMind 25 = .ok (.aload_n 0, 1) := by decide +kernel
theorem dX12_keepMind_26 : decode cX12_keepMind 26 = .ok (.getfield 69, 3) := by decide +kernel
theorem dX12_keepMind_29 : decode cX12_keepMind 29 = .ok (.iload_n 1, 1) := by decide +kernel
theorem dX12_keepMind_30 : decode cX12_keepMind 30 = .ok (.laload, 1) := by decide +kernel
theorem dX12_keepMind_31 : decode cX12_keepMind 31 = .ok (.lastore, 1) := by decide +kernel
theorem dX12_keepMind_32 : decode cX12_keepMind 32 = .ok (.iinc 1 1, 3) := by decide +kernel
theorem dX12_keepMind_35 : decode cX12_keepMind 35 = .ok (.goto (-23), 3) := by decide +kernel
theorem dX12_keepMind_38 : decode cX12_keepMind 38 = .ok (.aload_n 0, 1) := by decide +kernel
theorem dX12_keepMind_39 : decode cX12_keepMind 39 = .ok (.invokevirtual 233, 3) := by decide +kernel
theorem dX12_keepMind_42 : decode cX12_keepMind 42 = .ok (.ireturn, 1) := by decide +kernel
theorem dX12_anew_0 : decode cX12_anew 0 = .ok (.aload_n 0, 1) := by decide +kernel
theorem dX12_anew_1 : decode cX12_anew 1 = .ok (.iconst 0, 1) := by decide +kernel
theorem dX12_anew_2 : decode cX12_anew 2 = .ok (.putfield 102, 3) := by decide +kernel
theorem dX12_anew_5 : decode cX12_anew 5 = .ok (.aload_n 0, 1) := by decide +kernel
theorem dX12_anew_6 : decode cX12_anew 6 = .ok (.invokevirtual 236, 3) := by decide +kernel
theorem dX12_anew_9 : decode cX12_anew 9 = .ok (.ifCond .ne 6, 3) := by decide +kernel
theorem dX12_anew_12 : decode cX12_anew 12 = .ok (.bipush (-3), 2) := by decide +kernel
theorem dX12_anew_14 : decode cX12_anew 14 = .ok (.ireturn, 1) := by decide +kernel
theorem dX12_anew_15 : decode cX12_anew 15 = .ok (.aload_n 0, 1) := by decide +kernel
theorem dX12_anew_16 : decode cX12_anew 16 = .ok (.invokevirtual 179, 3) := by decide +kernel
theorem dX12_anew_19 : decode cX12_anew 19 = .ok (.aload_n 0, 1) := by decide +kernel
theorem dX12_anew_20 : decode cX12_anew 20 = .ok (.invokevirtual 239, 3) := by decide +kernel
theorem dX12_anew_23 : decode cX12_anew 23 = .ok (.aload_n 0, 1) := by decide +kernel
theorem dX12_anew_24 : decode cX12_anew 24 = .ok (.invokevirtual 233, 3) := by decide +kernel
theorem dX12_anew_27 : decode cX12_anew 27 = .ok (.ireturn, 1) := by decide +kernel
theorem dX12_hear_0 : decode cX12_hear 0 = .ok (.iconst 0, 1) := by decide +kernel
theorem dX12_hear_1 : decode cX12_hear 1 = .ok (.istore_n 3, 1) := by decide +kernel
theorem dX12_hear_2 : decode cX12_hear 2 = .ok (.iload_n 3, 1) := by decide +kernel
theorem dX12_hear_3 : decode cX12_hear 3 = .ok (.aload_n 0, 1) := by decide +kernel
theorem dX12_hear_4 : decode cX12_hear 4 = .ok (.getfield 111, 3) := by decide +kernel
theorem dX12_hear_7 : decode cX12_hear 7 = .ok (.if_icmp .ge 26, 3) := by decide +kernel
theorem dX12_hear_10 : decode cX12_hear 10 = .ok (.aload_n 0, 1) := by decide +kernel
theorem dX12_hear_11 : decode cX12_hear 11 = .ok (.getfield 69, 3) := by decide +kernel
theorem dX12_hear_14 : decode cX12_hear 14 = .ok (.iload_n 3, 1) := by decide +kernel
theorem dX12_hear_15 : decode cX12_hear 15 = .ok (.dup2, 1) := by decide +kernel
theorem dX12_hear_16 : decode cX12_hear 16 = .ok (.laload, 1) := by decide +kernel
theorem dX12_hear_17 : decode cX12_hear 17 = .ok (.aload_n 0, 1) := by decide +kernel
theorem dX12_hear_18 : decode cX12_hear 18 = .ok (.iload_n 1, 1) := by decide +kernel
theorem dX12_hear_19 : decode cX12_hear 19 = .ok (.iload_n 2, 1) := by decide +kernel
theorem dX12_hear_20 : decode cX12_hear 20 = .ok (.iload_n 3, 1) := by decide +kernel
theorem dX12_hear_21 : decode cX12_hear 21 = .ok (.invokevirtual 220, 3) := by decide +kernel
theorem dX12_hear_24 : decode cX12_hear 24 = .ok (.i2l, 1) := by decide +kernel
theorem dX12_hear_25 : decode cX12_hear 25 = .ok (.lmul, 1) := by decide +kernel
theorem dX12_hear_26 : decode cX12_hear 26 = .ok (.lastore, 1) := by decide +kernel
theorem dX12_hear_27 : decode cX12_hear 27 = .ok (.iinc 3 1, 3) := by decide +kernel
theorem dX12_hear_30 : decode cX12_hear 30 = .ok (.goto (-28), 3) := by decide +kernel
theorem dX12_hear_33 : decode cX12_hear 33 = .ok (.return_, 1) := by decide +kernel
theorem dX12_answer_0 : decode cX12_answer 0 = .ok (.aload_n 0, 1) := by decide +kernel
theorem dX12_answer_1 : decode cX12_answer 1 = .ok (.iconst 0, 1) := by decide +kernel
theorem dX12_answer_2 : decode cX12_answer 2 = .ok (.putfield 102, 3) := by decide +kernel
theorem dX12_answer_5 : decode cX12_answer 5 = .ok (.aload_n 0, 1) := by decide +kernel
theorem dX12_answer_6 : decode cX12_answer 6 = .ok (.iload_n 1, 1) := by decide +kernel
theorem dX12_answer_7 : decode cX12_answer 7 = .ok (.invokevirtual 187, 3) := by decide +kernel
theorem dX12_answer_10 : decode cX12_answer 10 = .ok (.ifCond .eq 11, 3) := by decide +kernel
theorem dX12_answer_13 : decode cX12_answer 13 = .ok (.aload_n 0, 1) := by decide +kernel
theorem dX12_answer_14 : decode cX12_answer 14 = .ok (.iload_n 2, 1) := by decide +kernel
theorem dX12_answer_15 : decode cX12_answer 15 = .ok (.invokevirtual 217, 3) := by decide +kernel
theorem dX12_answer_18 : decode cX12_answer 18 = .ok (.ifCond .ne 5, 3) := by decide +kernel
theorem dX12_answer_21 : decode cX12_answer 21 = .ok (.iconst (-1), 1) := by decide +kernel
theorem dX12_answer_22 : decode cX12_answer 22 = .ok (.ireturn, 1) := by decide +kernel
theorem dX12_answer_23 : decode cX12_answer 23 = .ok (.aload_n 0, 1) := by decide +kernel
theorem dX12_answer_24 : decode cX12_answer 24 = .ok (.invokevirtual 236, 3) := by decide +kernel
theorem dX12_answer_27 : decode cX12_answer 27 = .ok (.ifCond .ne 6, 3) := by decide +kernel
theorem dX12_answer_30 : decode cX12_answer 30 = .ok (.bipush (-3), 2) := by decide +kernel
theorem dX12_answer_32 : decode cX12_answer 32 = .ok (.ireturn, 1) := by decide +kernel
theorem dX12_answer_33 : decode cX12_answer 33 = .ok (.aload_n 0, 1) := by decide +kernel
theorem dX12_answer_34 : decode cX12_answer 34 = .ok (.invokevirtual 205, 3) := by decide +kernel
theorem dX12_answer_37 : decode cX12_answer 37 = .ok (.aload_n 0, 1) := by decide +kernel
theorem dX12_answer_38 : decode cX12_answer 38 = .ok (.invokevirtual 239, 3) := by decide +kernel
theorem dX12_answer_41 : decode cX12_answer 41 = .ok (.aload_n 0, 1) := by decide +kernel
theorem dX12_answer_42 : decode cX12_answer 42 = .ok (.iload_n 1, 1) := by decide +kernel
theorem dX12_answer_43 : decode cX12_answer 43 = .ok (.iload_n 2, 1) := by decide +kernel
theorem dX12_answer_44 : decode cX12_answer 44 = .ok (.invokevirtual 242, 3) := by decide +kernel
theorem dX12_answer_47 : decode cX12_answer 47 = .ok (.aload_n 0, 1) := by decide +kernel
theorem dX12_answer_48 : decode cX12_answer 48 = .ok (.invokevirtual 246, 3) := by decide +kernel
theorem dX12_answer_51 : decode cX12_answer 51 = .ok (.ireturn, 1) := by decide +kernel
theorem dX12_see_0 : decode cX12_see 0 = .ok (.iconst 0, 1) := by decide +kernel
theorem dX12_see_1 : decode cX12_see 1 = .ok (.istore_n 3, 1) := by decide +kernel
theorem dX12_see_2 : decode cX12_see 2 = .ok (.iload_n 3, 1) := by decide +kernel
theorem dX12_see_3 : decode cX12_see 3 = .ok (.aload_n 0, 1) := by decide +kernel
theorem dX12_see_4 : decode cX12_see 4 = .ok (.getfield 111, 3) := by decide +kernel
theorem dX12_see_7 : decode cX12_see 7 = .ok (.if_icmp .ge 35, 3) := by decide +kernel
theorem dX12_see_10 : decode cX12_see 10 = .ok (.aload_n 0, 1) := by decide +kernel
theorem dX12_see_11 : decode cX12_see 11 = .ok (.getfield 69, 3) := by decide +kernel
theorem dX12_see_14 : decode cX12_see 14 = .ok (.iload_n 3, 1) := by decide +kernel
theorem dX12_see_15 : decode cX12_see 15 = .ok (.aload_n 0, 1) := by decide +kernel
theorem dX12_see_16 : decode cX12_see 16 = .ok (.iload_n 3, 1) := by decide +kernel
theorem dX12_see_17 : decode cX12_see 17 = .ok (.iload_n 1, 1) := by decide +kernel
theorem dX12_see_18 : decode cX12_see 18 = .ok (.invokevirtual 193, 3) := by decide +kernel
theorem dX12_see_21 : decode cX12_see 21 = .ok (.iload_n 2, 1) := by decide +kernel
theorem dX12_see_22 : decode cX12_see 22 = .ok (.if_icmp .ne 7, 3) := by decide +kernel
theorem dX12_see_25 : decode cX12_see 25 = .ok (.lconst 0, 1) := by decide +kernel
theorem dX12_see_26 : decode cX12_see 26 = .ok (.goto 9, 3) := by decide +kernel
theorem dX12_see_29 : decode cX12_see 29 = .ok (.aload_n 0, 1) := by decide +kernel
theorem dX12_see_30 : decode cX12_see 30 = .ok (.getfield 69, 3) := by decide +kernel
theorem dX12_see_33 : decode cX12_see 33 = .ok (.iload_n 3, 1) := by decide +kernel
theorem dX12_see_34 : decode cX12_see 34 = .ok (.laload, 1) := by decide +kernel
theorem dX12_see_35 : decode cX12_see 35 = .ok (.lastore, 1) := by decide +kernel
theorem dX12_see_36 : decode cX12_see 36 = .ok (.iinc 3 1, 3) := by decide +kernel
theorem dX12_see_39 : decode cX12_see 39 = .ok (.goto (-37), 3) := by decide +kernel
theorem dX12_see_42 : decode cX12_see 42 = .ok (.return_, 1) := by decide +kernel
theorem dX12_found_0 : decode cX12_found 0 = .ok (.aload_n 0, 1) := by decide +kernel
theorem dX12_found_1 : decode cX12_found 1 = .ok (.iconst 0, 1) := by decide +kernel
theorem dX12_found_2 : decode cX12_found 2 = .ok (.putfield 102, 3) := by decide +kernel
theorem dX12_found_5 : decode cX12_found 5 = .ok (.iload_n 1, 1) := by decide +kernel
theorem dX12_found_6 : decode cX12_found 6 = .ok (.i2l, 1) := by decide +kernel
theorem dX12_found_7 : decode cX12_found 7 = .ok (.lconst 0, 1) := by decide +kernel
theorem dX12_found_8 : decode cX12_found 8 = .ok (.aload_n 0, 1) := by decide +kernel
theorem dX12_found_9 : decode cX12_found 9 = .ok (.getfield 153, 3) := by decide +kernel
theorem dX12_found_12 : decode cX12_found 12 = .ok (.iconst 1, 1) := by decide +kernel
theorem dX12_found_13 : decode cX12_found 13 = .ok (.isub, 1) := by decide +kernel
theorem dX12_found_14 : decode cX12_found 14 = .ok (.i2l, 1) := by decide +kernel
theorem dX12_found_15 : decode cX12_found 15 = .ok (.invokestatic 107, 3) := by decide +kernel
theorem dX12_found_18 : decode cX12_found 18 = .ok (.ifCond .ne 5, 3) := by decide +kernel
theorem dX12_found_21 : decode cX12_found 21 = .ok (.iconst (-1), 1) := by decide +kernel
theorem dX12_found_22 : decode cX12_found 22 = .ok (.ireturn, 1) := by decide +kernel
theorem dX12_found_23 : decode cX12_found 23 = .ok (.aload_n 0, 1) := by decide +kernel
theorem dX12_found_24 : decode cX12_found 24 = .ok (.invokevirtual 236, 3) := by decide +kernel
theorem dX12_found_27 : decode cX12_found 27 = .ok (.ifCond .ne 6, 3) := by decide +kernel
theorem dX12_found_30 : decode cX12_found 30 = .ok (.bipush (-3), 2) := by decide +kernel
theorem dX12_found_32 : decode cX12_found 32 = .ok (.ireturn, 1) := by decide +kernel
theorem dX12_found_33 : decode cX12_found 33 = .ok (.aload_n 0, 1) := by decide +kernel
theorem dX12_found_34 : decode cX12_found 34 = .ok (.invokevirtual 239, 3) := by decide +kernel
theorem dX12_found_37 : decode cX12_found 37 = .ok (.aload_n 0, 1) := by decide +kernel
theorem dX12_found_38 : decode cX12_found 38 = .ok (.iload_n 1, 1) := by decide +kernel
theorem dX12_found_39 : decode cX12_found 39 = .ok (.iload_n 2, 1) := by decide +kernel
theorem dX12_found_40 : decode cX12_found 40 = .ok (.invokevirtual 249, 3) := by decide +kernel
theorem dX12_found_43 : decode cX12_found 43 = .ok (.aload_n 0, 1) := by decide +kernel
theorem dX12_found_44 : decode cX12_found 44 = .ok (.invokevirtual 246, 3) := by decide +kernel
theorem dX12_found_47 : decode cX12_found 47 = .ok (.ireturn, 1) := by decide +kernel
theorem dX12_same_0 : decode cX12_same 0 = .ok (.aload_n 0, 1) := by decide +kernel
theorem dX12_same_1 : decode cX12_same 1 = .ok (.iconst 0, 1) := by decide +kernel
theorem dX12_same_2 : decode cX12_same 2 = .ok (.putfield 102, 3) := by decide +kernel
theorem dX12_same_5 : decode cX12_same 5 = .ok (.aload_n 0, 1) := by decide +kernel
theorem dX12_same_6 : decode cX12_same 6 = .ok (.iload_n 1, 1) := by decide +kernel
theorem dX12_same_7 : decode cX12_same 7 = .ok (.invokevirtual 187, 3) := by decide +kernel
theorem dX12_same_10 : decode cX12_same 10 = .ok (.ifCond .eq 23, 3) := by decide +kernel
theorem dX12_same_13 : decode cX12_same 13 = .ok (.aload_n 0, 1) := by decide +kernel
theorem dX12_same_14 : decode cX12_same 14 = .ok (.iload_n 2, 1) := by decide +kernel
theorem dX12_same_15 : decode cX12_same 15 = .ok (.invokevirtual 217, 3) := by decide +kernel
theorem dX12_same_18 : decode cX12_same 18 = .ok (.ifCond .eq 15, 3) := by decide +kernel
theorem dX12_same_21 : decode cX12_same 21 = .ok (.iload_n 3, 1) := by decide +kernel
theorem dX12_same_22 : decode cX12_same 22 = .ok (.i2l, 1) := by decide +kernel
theorem dX12_same_23 : decode cX12_same 23 = .ok (.lconst 0, 1) := by decide +kernel
theorem dX12_same_24 : decode cX12_same 24 = .ok (.ldc2_w 156, 3) := by decide +kernel
theorem dX12_same_27 : decode cX12_same 27 = .ok (.invokestatic 107, 3) := by decide +kernel
theorem dX12_same_30 : decode cX12_same 30 = .ok (.ifCond .ne 5, 3) := by decide +kernel
theorem dX12_same_33 : decode cX12_same 33 = .ok (.iconst (-1), 1) := by decide +kernel
theorem dX12_same_34 : decode cX12_same 34 = .ok (.ireturn, 1) := by decide +kernel
theorem dX12_same_35 : decode cX12_same 35 = .ok (.aload_n 0, 1) := by decide +kernel
theorem dX12_same_36 : decode cX12_same 36 = .ok (.invokevirtual 236, 3) := by decide +kernel
theorem dX12_same_39 : decode cX12_same 39 = .ok (.ifCond .ne 6, 3) := by decide +kernel
theorem dX12_same_42 : decode cX12_same 42 = .ok (.bipush (-3), 2) := by decide +kernel
theorem dX12_same_44 : decode cX12_same 44 = .ok (.ireturn, 1) := by decide +kernel
theorem dX12_same_45 : decode cX12_same 45 = .ok (.aload_n 0, 1) := by decide +kernel
theorem dX12_same_46 : decode cX12_same 46 = .ok (.invokevirtual 205, 3) := by decide +kernel
theorem dX12_same_49 : decode cX12_same 49 = .ok (.aload_n 0, 1) := by decide +kernel
theorem dX12_same_50 : decode cX12_same 50 = .ok (.invokevirtual 239, 3) := by decide +kernel
theorem dX12_same_53 : decode cX12_same 53 = .ok (.iconst 0, 1) := by decide +kernel
theorem dX12_same_54 : decode cX12_same 54 = .ok (.istore 4, 2) := by decide +kernel
theorem dX12_same_56 : decode cX12_same 56 = .ok (.iload 4, 2) := by decide +kernel
theorem dX12_same_58 : decode cX12_same 58 = .ok (.aload_n 0, 1) := by decide +kernel
theorem dX12_same_59 : decode cX12_same 59 = .ok (.getfield 111, 3) := by decide +kernel
theorem dX12_same_62 : decode cX12_same 62 = .ok (.if_icmp .ge 49, 3) := by decide +kernel
theorem dX12_same_65 : decode cX12_same 65 = .ok (.aload_n 0, 1) := by decide +kernel
theorem dX12_same_66 : decode cX12_same 66 = .ok (.iload_n 1, 1) := by decide +kernel
theorem dX12_same_67 : decode cX12_same 67 = .ok (.iload_n 2, 1) := by decide +kernel
theorem dX12_same_68 : decode cX12_same 68 = .ok (.iload 4, 2) := by decide +kernel
theorem dX12_same_70 : decode cX12_same 70 = .ok (.invokevirtual 220, 3) := by decide +kernel
theorem dX12_same_73 : decode cX12_same 73 = .ok (.i2l, 1) := by decide +kernel
theorem dX12_same_74 : decode cX12_same 74 = .ok (.lstore 5, 2) := by decide +kernel
theorem dX12_same_76 : decode cX12_same 76 = .ok (.aload_n 0, 1) := by decide +kernel
theorem dX12_same_77 : decode cX12_same 77 = .ok (.getfield 69, 3) := by decide +kernel
theorem dX12_same_80 : decode cX12_same 80 = .ok (.iload 4, 2) := by decide +kernel
theorem dX12_same_82 : decode cX12_same 82 = .ok (.dup2, 1) := by decide +kernel
theorem dX12_same_83 : decode cX12_same 83 = .ok (.laload, 1) := by decide +kernel
theorem dX12_same_84 : decode cX12_same 84 = .ok (.lload 5, 2) := by decide +kernel
theorem dX12_same_86 : decode cX12_same 86 = .ok (.ldc2_w 156, 3) := by decide +kernel
theorem dX12_same_89 : decode cX12_same 89 = .ok (.iload_n 3, 1) := by decide +kernel
theorem dX12_same_90 : decode cX12_same 90 = .ok (.i2l, 1) := by decide +kernel
theorem dX12_same_91 : decode cX12_same 91 = .ok (.lmul, 1) := by decide +kernel
theorem dX12_same_92 : decode cX12_same 92 = .ok (.ldc2_w 156, 3) := by decide +kernel
theorem dX12_same_95 : decode cX12_same 95 = .ok (.iload_n 3, 1) := by decide +kernel
theorem dX12_same_96 : decode cX12_same 96 = .ok (.i2l, 1) := by decide +kernel
theorem dX12_same_97 : decode cX12_same 97 = .ok (.lsub, 1) := by decide +kernel
theorem dX12_same_98 : decode cX12_same 98 = .ok (.lload 5, 2) := by decide +kernel
theorem dX12_same_100 : decode cX12_same 100 = .ok (.lmul, 1) := by decide +kernel
theorem dX12_same_101 : decode cX12_same 101 = .ok (.ladd, 1) := by decide +kernel
theorem dX12_same_102 : decode cX12_same 102 = .ok (.lmul, 1) := by decide +kernel
theorem dX12_same_103 : decode cX12_same 103 = .ok (.lmul, 1) := by decide +kernel
theorem dX12_same_104 : decode cX12_same 104 = .ok (.lastore, 1) := by decide +kernel
theorem dX12_same_105 : decode cX12_same 105 = .ok (.iinc 4 1, 3) := by decide +kernel
theorem dX12_same_108 : decode cX12_same 108 = .ok (.goto (-52), 3) := by decide +kernel
theorem dX12_same_111 : decode cX12_same 111 = .ok (.aload_n 0, 1) := by decide +kernel
theorem dX12_same_112 : decode cX12_same 112 = .ok (.invokevirtual 246, 3) := by decide +kernel
theorem dX12_same_115 : decode cX12_same 115 = .ok (.ireturn, 1) := by decide +kernel
theorem dX12_allThought_0 : decode cX12_allThought 0 = .ok (.lconst 0, 1) := by decide +kernel
theorem dX12_allThought_1 : decode cX12_allThought 1 = .ok (.lstore_n 1, 1) := by decide +kernel
theorem dX12_allThought_2 : decode cX12_allThought 2 = .ok (.iconst 0, 1) := by decide +kernel
theorem dX12_allThought_3 : decode cX12_allThought 3 = .ok (.istore_n 3, 1) := by decide +kernel
theorem dX12_allThought_4 : decode cX12_allThought 4 = .ok (.iload_n 3, 1) := by decide +kernel
theorem dX12_allThought_5 : decode cX12_allThought 5 = .ok (.aload_n 0, 1) := by decide +kernel
theorem dX12_allThought_6 : decode cX12_allThought 6 = .ok (.getfield 111, 3) := by decide +kernel
theorem dX12_allThought_9 : decode cX12_allThought 9 = .ok (.if_icmp .ge 18, 3) := by decide +kernel
theorem dX12_allThought_12 : decode cX12_allThought 12 = .ok (.lload_n 1, 1) := by decide +kernel
theorem dX12_allThought_13 : decode cX12_allThought 13 = .ok (.aload_n 0, 1) := by decide +kernel
theorem dX12_allThought_14 : decode cX12_allThought 14 = .ok (.getfield 41, 3) := by decide +kernel
theorem dX12_allThought_17 : decode cX12_allThought 17 = .ok (.iload_n 3, 1) := by decide +kernel
theorem dX12_allThought_18 : decode cX12_allThought 18 = .ok (.laload, 1) := by decide +kernel
theorem dX12_allThought_19 : decode cX12_allThought 19 = .ok (.ladd, 1) := by decide +kernel
theorem dX12_allThought_20 : decode cX12_allThought 20 = .ok (.lstore_n 1, 1) := by decide +kernel
theorem dX12_allThought_21 : decode cX12_allThought 21 = .ok (.iinc 3 1, 3) := by decide +kernel
theorem dX12_allThought_24 : decode cX12_allThought 24 = .ok (.goto (-20), 3) := by decide +kernel
theorem dX12_allThought_27 : decode cX12_allThought 27 = .ok (.lload_n 1, 1) := by decide +kernel
theorem dX12_allThought_28 : decode cX12_allThought 28 = .ok (.lreturn, 1) := by decide +kernel
theorem dX12_think_0 : decode cX12_think 0 = .ok (.aload_n 0, 1) := by decide +kernel
theorem dX12_think_1 : decode cX12_think 1 = .ok (.iconst 0, 1) := by decide +kernel
theorem dX12_think_2 : decode cX12_think 2 = .ok (.putfield 102, 3) := by decide +kernel
theorem dX12_think_5 : decode cX12_think 5 = .ok (.aload_n 0, 1) := by decide +kernel
theorem dX12_think_6 : decode cX12_think 6 = .ok (.iload_n 1, 1) := by decide +kernel
theorem dX12_think_7 : decode cX12_think 7 = .ok (.invokevirtual 184, 3) := by decide +kernel
theorem dX12_think_10 : decode cX12_think 10 = .ok (.ifCond .eq 13, 3) := by decide +kernel
theorem dX12_think_13 : decode cX12_think 13 = .ok (.iload_n 2, 1) := by decide +kernel
theorem dX12_think_14 : decode cX12_think 14 = .ok (.i2l, 1) := by decide +kernel
theorem dX12_think_15 : decode cX12_think 15 = .ok (.lconst 0, 1) := by decide +kernel
theorem dX12_think_16 : decode cX12_think 16 = .ok (.lconst 1, 1) := by decide +kernel
theorem dX12_think_17 : decode cX12_think 17 = .ok (.invokestatic 107, 3) := by decide +kernel
theorem dX12_think_20 : decode cX12_think 20 = .ok (.ifCond .ne 7, 3) := by decide +kernel
theorem dX12_think_23 : decode cX12_think 23 = .ok (.ldc2_w 253, 3) := by decide +kernel
theorem dX12_think_26 : decode cX12_think 26 = .ok (.lreturn, 1) := by decide +kernel
theorem dX12_think_27 : decode cX12_think 27 = .ok (.aload_n 0, 1) := by decide +kernel
theorem dX12_think_28 : decode cX12_think 28 = .ok (.invokevirtual 236, 3) := by decide +kernel
theorem dX12_think_31 : decode cX12_think 31 = .ok (.ifCond .ne 7, 3) := by decide +kernel
theorem dX12_think_34 : decode cX12_think 34 = .ok (.ldc2_w 255, 3) := by decide +kernel
theorem dX12_think_37 : decode cX12_think 37 = .ok (.lreturn, 1) := by decide +kernel
theorem dX12_think_38 : decode cX12_think 38 = .ok (.aload_n 0, 1) := by decide +kernel
theorem dX12_think_39 : decode cX12_think 39 = .ok (.getfield 41, 3) := by decide +kernel
theorem dX12_think_42 : decode cX12_think 42 = .ok (.iload_n 1, 1) := by decide +kernel
theorem dX12_think_43 : decode cX12_think 43 = .ok (.laload, 1) := by decide +kernel
theorem dX12_think_44 : decode cX12_think 44 = .ok (.aload_n 0, 1) := by decide +kernel
theorem dX12_think_45 : decode cX12_think 45 = .ok (.invokevirtual 257, 3) := by decide +kernel
theorem dX12_think_48 : decode cX12_think 48 = .ok (.invokestatic 223, 3) := by decide +kernel
theorem dX12_think_51 : decode cX12_think 51 = .ok (.lstore_n 3, 1) := by decide +kernel
theorem dX12_think_52 : decode cX12_think 52 = .ok (.iload_n 2, 1) := by decide +kernel
theorem dX12_think_53 : decode cX12_think 53 = .ok (.ifCond .ne 12, 3) := by decide +kernel
theorem dX12_think_56 : decode cX12_think 56 = .ok (.aload_n 0, 1) := by decide +kernel
theorem dX12_think_57 : decode cX12_think 57 = .ok (.getfield 41, 3) := by decide +kernel
theorem dX12_think_60 : decode cX12_think 60 = .ok (.iload_n 1, 1) := by decide +kernel
theorem dX12_think_61 : decode cX12_think 61 = .ok (.laload, 1) := by decide +kernel
theorem dX12_think_62 : decode cX12_think 62 = .ok (.goto 7, 3) := by decide +kernel
theorem dX12_think_65 : decode cX12_think 65 = .ok (.aload_n 0, 1) := by decide +kernel
theorem dX12_think_66 : decode cX12_think 66 = .ok (.invokevirtual 257, 3) := by decide +kernel
theorem dX12_think_69 : decode cX12_think 69 = .ok (.lload_n 3, 1) := by decide +kernel
theorem dX12_think_70 : decode cX12_think 70 = .ok (.ldiv, 1) := by decide +kernel
theorem dX12_think_71 : decode cX12_think 71 = .ok (.lreturn, 1) := by decide +kernel
theorem dX12_judge_0 : decode cX12_judge 0 = .ok (.aload_n 0, 1) := by decide +kernel
theorem dX12_judge_1 : decode cX12_judge 1 = .ok (.iconst 0, 1) := by decide +kernel
theorem dX12_judge_2 : decode cX12_judge 2 = .ok (.putfield 102, 3) := by decide +kernel
theorem dX12_judge_5 : decode cX12_judge 5 = .ok (.iload_n 1, 1) := by decide +kernel
theorem dX12_judge_6 : decode cX12_judge 6 = .ok (.i2l, 1) := by decide +kernel
theorem dX12_judge_7 : decode cX12_judge 7 = .ok (.lconst 0, 1) := by decide +kernel
theorem dX12_judge_8 : decode cX12_judge 8 = .ok (.ldc2_w 105, 3) := by decide +kernel
theorem dX12_judge_11 : decode cX12_judge 11 = .ok (.invokestatic 107, 3) := by decide +kernel
theorem dX12_judge_14 : decode cX12_judge 14 = .ok (.ifCond .ne 5, 3) := by decide +kernel
theorem dX12_judge_17 : decode cX12_judge 17 = .ok (.iconst (-1), 1) := by decide +kernel
theorem dX12_judge_18 : decode cX12_judge 18 = .ok (.ireturn, 1) := by decide +kernel
theorem dX12_judge_19 : decode cX12_judge 19 = .ok (.aload_n 0, 1) := by decide +kernel
theorem dX12_judge_20 : decode cX12_judge 20 = .ok (.invokevirtual 236, 3) := by decide +kernel
theorem dX12_judge_23 : decode cX12_judge 23 = .ok (.ifCond .ne 6, 3) := by decide +kernel
theorem dX12_judge_26 : decode cX12_judge 26 = .ok (.bipush (-3), 2) := by decide +kernel
theorem dX12_judge_28 : decode cX12_judge 28 = .ok (.ireturn, 1) := by decide +kernel
theorem dX12_judge_29 : decode cX12_judge 29 = .ok (.aload_n 0, 1) := by decide +kernel
theorem dX12_judge_30 : decode cX12_judge 30 = .ok (.iload_n 1, 1) := by decide +kernel
theorem dX12_judge_31 : decode cX12_judge 31 = .ok (.invokevirtual 169, 3) := by decide +kernel
theorem dX12_judge_34 : decode cX12_judge 34 = .ok (.ifCond .ge 9, 3) := by decide +kernel
theorem dX12_judge_37 : decode cX12_judge 37 = .ok (.aload_n 0, 1) := by decide +kernel
theorem dX12_judge_38 : decode cX12_judge 38 = .ok (.iload_n 1, 1) := by decide +kernel
theorem dX12_judge_39 : decode cX12_judge 39 = .ok (.invokevirtual 169, 3) := by decide +kernel
theorem dX12_judge_42 : decode cX12_judge 42 = .ok (.ireturn, 1) := by decide +kernel
theorem dX12_judge_43 : decode cX12_judge 43 = .ok (.aload_n 0, 1) := by decide +kernel
theorem dX12_judge_44 : decode cX12_judge 44 = .ok (.getfield 90, 3) := by decide +kernel
theorem dX12_judge_47 : decode cX12_judge 47 = .ok (.iload_n 1, 1) := by decide +kernel
theorem dX12_judge_48 : decode cX12_judge 48 = .ok (.iaload, 1) := by decide +kernel
theorem dX12_judge_49 : decode cX12_judge 49 = .ok (.ifCond .ne 9, 3) := by decide +kernel
theorem dX12_judge_52 : decode cX12_judge 52 = .ok (.ldc2_w 261, 3) := by decide +kernel
theorem dX12_judge_55 : decode cX12_judge 55 = .ok (.goto 22, 3) := by decide +kernel
theorem dX12_judge_58 : decode cX12_judge 58 = .ok (.aload_n 0, 1) := by decide +kernel
theorem dX12_judge_59 : decode cX12_judge 59 = .ok (.getfield 90, 3) := by decide +kernel
theorem dX12_judge_62 : decode cX12_judge 62 = .ok (.iload_n 1, 1) := by decide +kernel
theorem dX12_judge_63 : decode cX12_judge 63 = .ok (.iaload, 1) := by decide +kernel
theorem dX12_judge_64 : decode cX12_judge 64 = .ok (.iconst 1, 1) := by decide +kernel
theorem dX12_judge_65 : decode cX12_judge 65 = .ok (.if_icmp .ne 9, 3) := by decide +kernel
theorem dX12_judge_68 : decode cX12_judge 68 = .ok (.ldc2_w 263, 3) := by decide +kernel
theorem dX12_judge_71 : decode cX12_judge 71 = .ok (.goto 6, 3) := by decide +kernel
theorem dX12_judge_74 : decode cX12_judge 74 = .ok (.ldc2_w 265, 3) := by decide +kernel
theorem dX12_judge_77 : decode cX12_judge 77 = .ok (.lstore_n 2, 1) := by decide +kernel
theorem dX12_judge_78 : decode cX12_judge 78 = .ok (.iconst 0, 1) := by decide +kernel
theorem dX12_judge_79 : decode cX12_judge 79 = .ok (.istore 4, 2) := by decide +kernel
theorem dX12_judge_81 : decode cX12_judge 81 = .ok (.iload 4, 2) := by decide +kernel
theorem dX12_judge_83 : decode cX12_judge 83 = .ok (.aload_n 0, 1) := by decide +kernel
theorem dX12_judge_84 : decode cX12_judge 84 = .ok (.getfield 111, 3) := by decide +kernel
theorem dX12_judge_87 : decode cX12_judge 87 = .ok (.if_icmp .ge 69, 3) := by decide +kernel
theorem dX12_judge_90 : decode cX12_judge 90 = .ok (.iload 4, 2) := by decide +kernel
theorem dX12_judge_92 : decode cX12_judge 92 = .ok (.aload_n 0, 1) := by decide +kernel
theorem dX12_judge_93 : decode cX12_judge 93 = .ok (.getfield 93, 3) := by decide +kernel
theorem dX12_judge_96 : decode cX12_judge 96 = .ok (.iload_n 1, 1) := by decide +kernel
theorem dX12_judge_97 : decode cX12_judge 97 = .ok (.iaload, 1) := by decide +kernel
theorem dX12_judge_98 : decode cX12_judge 98 = .ok (.if_icmp .lt 6, 3) := by decide +kernel
theorem dX12_judge_101 : decode cX12_judge 101 = .ok (.iload 4, 2) := by decide +kernel
theorem dX12_judge_103 : decode cX12_judge 103 = .ok (.ireturn, 1) := by decide +kernel
theorem dX12_judge_104 : decode cX12_judge 104 = .ok (.aload_n 0, 1) := by decide +kernel
theorem dX12_judge_105 : decode cX12_judge 105 = .ok (.getfield 96, 3) := by decide +kernel
theorem dX12_judge_108 : decode cX12_judge 108 = .ok (.bipush 100, 2) := by decide +kernel
theorem dX12_judge_110 : decode cX12_judge 110 = .ok (.iload_n 1, 1) := by decide +kernel
theorem dX12_judge_111 : decode cX12_judge 111 = .ok (.imul, 1) := by decide +kernel
theorem dX12_judge_112 : decode cX12_judge 112 = .ok (.iload 4, 2) := by decide +kernel
theorem dX12_judge_114 : decode cX12_judge 114 = .ok (.iadd, 1) := by decide +kernel
theorem dX12_judge_115 : decode cX12_judge 115 = .ok (.laload, 1) := by decide +kernel
theorem dX12_judge_116 : decode cX12_judge 116 = .ok (.lstore 5, 2) := by decide +kernel
theorem dX12_judge_118 : decode cX12_judge 118 = .ok (.lload 5, 2) := by decide +kernel
theorem dX12_judge_120 : decode cX12_judge 120 = .ok (.lload_n 2, 1) := by decide +kernel
theorem dX12_judge_121 : decode cX12_judge 121 = .ok (.lcmp, 1) := by decide +kernel
theorem dX12_judge_122 : decode cX12_judge 122 = .ok (.ifCond .eq 28, 3) := by decide +kernel
theorem dX12_judge_125 : decode cX12_judge 125 = .ok (.lload 5, 2) := by decide +kernel
theorem dX12_judge_127 : decode cX12_judge 127 = .ok (.aload_n 0, 1) := by decide +kernel
theorem dX12_judge_128 : decode cX12_judge 128 = .ok (.getfield 41, 3) := by decide +kernel
theorem dX12_judge_131 : decode cX12_judge 131 = .ok (.iload 4, 2) := by decide +kernel
theorem dX12_judge_133 : decode cX12_judge 133 = .ok (.laload, 1) := by decide +kernel
theorem dX12_judge_134 : decode cX12_judge 134 = .ok (.ldc2_w 156, 3) := by decide +kernel
theorem dX12_judge_137 : decode cX12_judge 137 = .ok (.lmul, 1) := by decide +kernel
theorem dX12_judge_138 : decode cX12_judge 138 = .ok (.aload_n 0, 1) := by decide +kernel
theorem dX12_judge_139 : decode cX12_judge 139 = .ok (.invokevirtual 257, 3) := by decide +kernel
theorem dX12_judge_142 : decode cX12_judge 142 = .ok (.ldiv, 1) := by decide +kernel
theorem dX12_judge_143 : decode cX12_judge 143 = .ok (.lcmp, 1) := by decide +kernel
theorem dX12_judge_144 : decode cX12_judge 144 = .ok (.ifCond .eq 6, 3) := by decide +kernel
theorem dX12_judge_147 : decode cX12_judge 147 = .ok (.iload 4, 2) := by decide +kernel
theorem dX12_judge_149 : decode cX12_judge 149 = .ok (.ireturn, 1) := by decide +kernel
theorem dX12_judge_150 : decode cX12_judge 150 = .ok (.iinc 4 1, 3) := by decide +kernel
theorem dX12_judge_153 : decode cX12_judge 153 = .ok (.goto (-72), 3) := by decide +kernel
theorem dX12_judge_156 : decode cX12_judge 156 = .ok (.aload_n 0, 1) := by decide +kernel
theorem dX12_judge_157 : decode cX12_judge 157 = .ok (.getfield 93, 3) := by decide +kernel
theorem dX12_judge_160 : decode cX12_judge 160 = .ok (.iload_n 1, 1) := by decide +kernel
theorem dX12_judge_161 : decode cX12_judge 161 = .ok (.iaload, 1) := by decide +kernel
theorem dX12_judge_162 : decode cX12_judge 162 = .ok (.aload_n 0, 1) := by decide +kernel
theorem dX12_judge_163 : decode cX12_judge 163 = .ok (.getfield 111, 3) := by decide +kernel
theorem dX12_judge_166 : decode cX12_judge 166 = .ok (.if_icmp .le 10, 3) := by decide +kernel
theorem dX12_judge_169 : decode cX12_judge 169 = .ok (.aload_n 0, 1) := by decide +kernel
theorem dX12_judge_170 : decode cX12_judge 170 = .ok (.getfield 111, 3) := by decide +kernel
theorem dX12_judge_173 : decode cX12_judge 173 = .ok (.goto 5, 3) := by decide +kernel
theorem dX12_judge_176 : decode cX12_judge 176 = .ok (.bipush (-4), 2) := by decide +kernel
theorem dX12_judge_178 : decode cX12_judge 178 = .ok (.ireturn, 1) := by decide +kernel
theorem dX12_ask_0 : decode cX12_ask 0 = .ok (.aload_n 0, 1) := by decide +kernel
theorem dX12_ask_1 : decode cX12_ask 1 = .ok (.dup, 1) := by decide +kernel
theorem dX12_ask_2 : decode cX12_ask 2 = .ok (.getfield 267, 3) := by decide +kernel
theorem dX12_ask_5 : decode cX12_ask 5 = .ok (.aload_n 0, 1) := by decide +kernel
theorem dX12_ask_6 : decode cX12_ask 6 = .ok (.getfield 37, 3) := by decide +kernel
theorem dX12_ask_9 : decode cX12_ask 9 = .ok (.iadd, 1) := by decide +kernel
