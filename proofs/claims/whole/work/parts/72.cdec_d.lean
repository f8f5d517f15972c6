theorem dX11_by_69 : decode cX11_by 69 = .ok (.iload_n 3, 1) := by decide +kernel
theorem dX11_by_70 : decode cX11_by 70 = .ok (.iconst (-1), 1) := by decide +kernel
theorem dX11_by_71 : decode cX11_by 71 = .ok (.invokevirtual 261, 3) := by decide +kernel
theorem dX11_by_74 : decode cX11_by 74 = .ok (.aload_n 0, 1) := by decide +kernel
theorem dX11_by_75 : decode cX11_by 75 = .ok (.getfield 10, 3) := by decide +kernel
theorem dX11_by_78 : decode cX11_by 78 = .ok (.invokevirtual 235, 3) := by decide +kernel
theorem dX11_by_81 : decode cX11_by 81 = .ok (.istore 6, 2) := by decide +kernel
theorem dX11_by_83 : decode cX11_by 83 = .ok (.iload 4, 2) := by decide +kernel
theorem dX11_by_85 : decode cX11_by 85 = .ok (.lookupswitch 38 #[(0, 27), (1, 30)], 27) := by decide +kernel
theorem dX11_by_112 : decode cX11_by 112 = .ok (.iload 6, 2) := by decide +kernel
theorem dX11_by_114 : decode cX11_by 114 = .ok (.ireturn, 1) := by decide +kernel
theorem dX11_by_115 : decode cX11_by 115 = .ok (.aload_n 0, 1) := by decide +kernel
theorem dX11_by_116 : decode cX11_by 116 = .ok (.getfield 10, 3) := by decide +kernel
theorem dX11_by_119 : decode cX11_by 119 = .ok (.getfield 265, 3) := by decide +kernel
theorem dX11_by_122 : decode cX11_by 122 = .ok (.ireturn, 1) := by decide +kernel
theorem dX11_by_123 : decode cX11_by 123 = .ok (.aload_n 0, 1) := by decide +kernel
theorem dX11_by_124 : decode cX11_by 124 = .ok (.getfield 10, 3) := by decide +kernel
theorem dX11_by_127 : decode cX11_by 127 = .ok (.getfield 268, 3) := by decide +kernel
theorem dX11_by_130 : decode cX11_by 130 = .ok (.ireturn, 1) := by decide +kernel
theorem dX11_mean_0 : decode cX11_mean 0 = .ok (.iload_n 1, 1) := by decide +kernel
theorem dX11_mean_1 : decode cX11_mean 1 = .ok (.invokestatic 211, 3) := by decide +kernel
theorem dX11_mean_4 : decode cX11_mean 4 = .ok (.ifCond .eq 10, 3) := by decide +kernel
theorem dX11_mean_7 : decode cX11_mean 7 = .ok (.iload_n 2, 1) := by decide +kernel
theorem dX11_mean_8 : decode cX11_mean 8 = .ok (.invokestatic 271, 3) := by decide +kernel
theorem dX11_mean_11 : decode cX11_mean 11 = .ok (.ifCond .ne 5, 3) := by decide +kernel
theorem dX11_mean_14 : decode cX11_mean 14 = .ok (.iconst (-1), 1) := by decide +kernel
theorem dX11_mean_15 : decode cX11_mean 15 = .ok (.ireturn, 1) := by decide +kernel
theorem dX11_mean_16 : decode cX11_mean 16 = .ok (.aload_n 0, 1) := by decide +kernel
theorem dX11_mean_17 : decode cX11_mean 17 = .ok (.iload_n 1, 1) := by decide +kernel
theorem dX11_mean_18 : decode cX11_mean 18 = .ok (.invokevirtual 257, 3) := by decide +kernel
theorem dX11_mean_21 : decode cX11_mean 21 = .ok (.astore 4, 2) := by decide +kernel
theorem dX11_mean_23 : decode cX11_mean 23 = .ok (.aload 4, 2) := by decide +kernel
theorem dX11_mean_25 : decode cX11_mean 25 = .ok (.ifnonnull 9, 3) := by decide +kernel
theorem dX11_mean_28 : decode cX11_mean 28 = .ok (.aload_n 0, 1) := by decide +kernel
theorem dX11_mean_29 : decode cX11_mean 29 = .ok (.iload_n 1, 1) := by decide +kernel
theorem dX11_mean_30 : decode cX11_mean 30 = .ok (.invokevirtual 85, 3) := by decide +kernel
theorem dX11_mean_33 : decode cX11_mean 33 = .ok (.ireturn, 1) := by decide +kernel
theorem dX11_mean_34 : decode cX11_mean 34 = .ok (.aload_n 0, 1) := by decide +kernel
theorem dX11_mean_35 : decode cX11_mean 35 = .ok (.getfield 20, 3) := by decide +kernel
theorem dX11_mean_38 : decode cX11_mean 38 = .ok (.invokevirtual 169, 3) := by decide +kernel
theorem dX11_mean_41 : decode cX11_mean 41 = .ok (.ifCond .ne 6, 3) := by decide +kernel
theorem dX11_mean_44 : decode cX11_mean 44 = .ok (.bipush (-3), 2) := by decide +kernel
theorem dX11_mean_46 : decode cX11_mean 46 = .ok (.ireturn, 1) := by decide +kernel
theorem dX11_mean_47 : decode cX11_mean 47 = .ok (.aload_n 0, 1) := by decide +kernel
theorem dX11_mean_48 : decode cX11_mean 48 = .ok (.aload 4, 2) := by decide +kernel
theorem dX11_mean_50 : decode cX11_mean 50 = .ok (.iload_n 2, 1) := by decide +kernel
theorem dX11_mean_51 : decode cX11_mean 51 = .ok (.iload_n 3, 1) := by decide +kernel
theorem dX11_mean_52 : decode cX11_mean 52 = .ok (.iconst (-1), 1) := by decide +kernel
theorem dX11_mean_53 : decode cX11_mean 53 = .ok (.invokevirtual 274, 3) := by decide +kernel
theorem dX11_mean_56 : decode cX11_mean 56 = .ok (.ireturn, 1) := by decide +kernel
theorem dX11_meanOf_0 : decode cX11_meanOf 0 = .ok (.iconst 0, 1) := by decide +kernel
theorem dX11_meanOf_1 : decode cX11_meanOf 1 = .ok (.istore 5, 2) := by decide +kernel
theorem dX11_meanOf_3 : decode cX11_meanOf 3 = .ok (.iconst 0, 1) := by decide +kernel
theorem dX11_meanOf_4 : decode cX11_meanOf 4 = .ok (.istore 6, 2) := by decide +kernel
theorem dX11_meanOf_6 : decode cX11_meanOf 6 = .ok (.iload 6, 2) := by decide +kernel
theorem dX11_meanOf_8 : decode cX11_meanOf 8 = .ok (.aload_n 0, 1) := by decide +kernel
theorem dX11_meanOf_9 : decode cX11_meanOf 9 = .ok (.getfield 20, 3) := by decide +kernel
theorem dX11_meanOf_12 : decode cX11_meanOf 12 = .ok (.getfield 221, 3) := by decide +kernel
theorem dX11_meanOf_15 : decode cX11_meanOf 15 = .ok (.if_icmp .ge 66, 3) := by decide +kernel
theorem dX11_meanOf_18 : decode cX11_meanOf 18 = .ok (.iconst 0, 1) := by decide +kernel
theorem dX11_meanOf_19 : decode cX11_meanOf 19 = .ok (.istore 7, 2) := by decide +kernel
theorem dX11_meanOf_21 : decode cX11_meanOf 21 = .ok (.iload 7, 2) := by decide +kernel
theorem dX11_meanOf_23 : decode cX11_meanOf 23 = .ok (.iload_n 2, 1) := by decide +kernel
theorem dX11_meanOf_24 : decode cX11_meanOf 24 = .ok (.if_icmp .ge 51, 3) := by decide +kernel
theorem dX11_meanOf_27 : decode cX11_meanOf 27 = .ok (.aload_n 0, 1) := by decide +kernel
theorem dX11_meanOf_28 : decode cX11_meanOf 28 = .ok (.getfield 10, 3) := by decide +kernel
theorem dX11_meanOf_31 : decode cX11_meanOf 31 = .ok (.aload_n 1, 1) := by decide +kernel
theorem dX11_meanOf_32 : decode cX11_meanOf 32 = .ok (.iload 6, 2) := by decide +kernel
theorem dX11_meanOf_34 : decode cX11_meanOf 34 = .ok (.iload_n 3, 1) := by decide +kernel
theorem dX11_meanOf_35 : decode cX11_meanOf 35 = .ok (.iload 7, 2) := by decide +kernel
theorem dX11_meanOf_37 : decode cX11_meanOf 37 = .ok (.iadd, 1) := by decide +kernel
theorem dX11_meanOf_38 : decode cX11_meanOf 38 = .ok (.iload 4, 2) := by decide +kernel
theorem dX11_meanOf_40 : decode cX11_meanOf 40 = .ok (.invokevirtual 261, 3) := by decide +kernel
theorem dX11_meanOf_43 : decode cX11_meanOf 43 = .ok (.iload 5, 2) := by decide +kernel
theorem dX11_meanOf_45 : decode cX11_meanOf 45 = .ok (.aload_n 0, 1) := by decide +kernel
theorem dX11_meanOf_46 : decode cX11_meanOf 46 = .ok (.getfield 20, 3) := by decide +kernel
theorem dX11_meanOf_49 : decode cX11_meanOf 49 = .ok (.getfield 124, 3) := by decide +kernel
theorem dX11_meanOf_52 : decode cX11_meanOf 52 = .ok (.iload 6, 2) := by decide +kernel
theorem dX11_meanOf_54 : decode cX11_meanOf 54 = .ok (.iaload, 1) := by decide +kernel
theorem dX11_meanOf_55 : decode cX11_meanOf 55 = .ok (.aload_n 0, 1) := by decide +kernel
theorem dX11_meanOf_56 : decode cX11_meanOf 56 = .ok (.getfield 10, 3) := by decide +kernel
theorem dX11_meanOf_59 : decode cX11_meanOf 59 = .ok (.invokevirtual 235, 3) := by decide +kernel
theorem dX11_meanOf_62 : decode cX11_meanOf 62 = .ok (.invokestatic 246, 3) := by decide +kernel
theorem dX11_meanOf_65 : decode cX11_meanOf 65 = .ok (.imul, 1) := by decide +kernel
theorem dX11_meanOf_66 : decode cX11_meanOf 66 = .ok (.iadd, 1) := by decide +kernel
theorem dX11_meanOf_67 : decode cX11_meanOf 67 = .ok (.istore 5, 2) := by decide +kernel
theorem dX11_meanOf_69 : decode cX11_meanOf 69 = .ok (.iinc 7 1, 3) := by decide +kernel
theorem dX11_meanOf_72 : decode cX11_meanOf 72 = .ok (.goto (-51), 3) := by decide +kernel
theorem dX11_meanOf_75 : decode cX11_meanOf 75 = .ok (.iinc 6 1, 3) := by decide +kernel
theorem dX11_meanOf_78 : decode cX11_meanOf 78 = .ok (.goto (-72), 3) := by decide +kernel
theorem dX11_meanOf_81 : decode cX11_meanOf 81 = .ok (.iload 5, 2) := by decide +kernel
theorem dX11_meanOf_83 : decode cX11_meanOf 83 = .ok (.ireturn, 1) := by decide +kernel
theorem dX11_dusk_0 : decode cX11_dusk 0 = .ok (.iload_n 1, 1) := by decide +kernel
theorem dX11_dusk_1 : decode cX11_dusk 1 = .ok (.invokestatic 211, 3) := by decide +kernel
theorem dX11_dusk_4 : decode cX11_dusk 4 = .ok (.ifCond .eq 23, 3) := by decide +kernel
theorem dX11_dusk_7 : decode cX11_dusk 7 = .ok (.iload_n 2, 1) := by decide +kernel
theorem dX11_dusk_8 : decode cX11_dusk 8 = .ok (.invokestatic 271, 3) := by decide +kernel
theorem dX11_dusk_11 : decode cX11_dusk 11 = .ok (.ifCond .eq 16, 3) := by decide +kernel
theorem dX11_dusk_14 : decode cX11_dusk 14 = .ok (.iload 4, 2) := by decide +kernel
theorem dX11_dusk_16 : decode cX11_dusk 16 = .ok (.ifCond .lt 11, 3) := by decide +kernel
theorem dX11_dusk_19 : decode cX11_dusk 19 = .ok (.iload 4, 2) := by decide +kernel
theorem dX11_dusk_21 : decode cX11_dusk 21 = .ok (.sipush 9999, 3) := by decide +kernel
theorem dX11_dusk_24 : decode cX11_dusk 24 = .ok (.if_icmp .le 5, 3) := by decide +kernel
theorem dX11_dusk_27 : decode cX11_dusk 27 = .ok (.iconst (-1), 1) := by decide +kernel
theorem dX11_dusk_28 : decode cX11_dusk 28 = .ok (.ireturn, 1) := by decide +kernel
theorem dX11_dusk_29 : decode cX11_dusk 29 = .ok (.aload_n 0, 1) := by decide +kernel
theorem dX11_dusk_30 : decode cX11_dusk 30 = .ok (.iload_n 1, 1) := by decide +kernel
theorem dX11_dusk_31 : decode cX11_dusk 31 = .ok (.invokevirtual 257, 3) := by decide +kernel
theorem dX11_dusk_34 : decode cX11_dusk 34 = .ok (.astore 5, 2) := by decide +kernel
theorem dX11_dusk_36 : decode cX11_dusk 36 = .ok (.aload 5, 2) := by decide +kernel
theorem dX11_dusk_38 : decode cX11_dusk 38 = .ok (.ifnonnull 9, 3) := by decide +kernel
theorem dX11_dusk_41 : decode cX11_dusk 41 = .ok (.aload_n 0, 1) := by decide +kernel
theorem dX11_dusk_42 : decode cX11_dusk 42 = .ok (.iload_n 1, 1) := by decide +kernel
theorem dX11_dusk_43 : decode cX11_dusk 43 = .ok (.invokevirtual 85, 3) := by decide +kernel
theorem dX11_dusk_46 : decode cX11_dusk 46 = .ok (.ireturn, 1) := by decide +kernel
theorem dX11_dusk_47 : decode cX11_dusk 47 = .ok (.aload_n 0, 1) := by decide +kernel
theorem dX11_dusk_48 : decode cX11_dusk 48 = .ok (.getfield 20, 3) := by decide +kernel
theorem dX11_dusk_51 : decode cX11_dusk 51 = .ok (.invokevirtual 169, 3) := by decide +kernel
theorem dX11_dusk_54 : decode cX11_dusk 54 = .ok (.ifCond .ne 6, 3) := by decide +kernel
theorem dX11_dusk_57 : decode cX11_dusk 57 = .ok (.bipush (-3), 2) := by decide +kernel
theorem dX11_dusk_59 : decode cX11_dusk 59 = .ok (.ireturn, 1) := by decide +kernel
theorem dX11_dusk_60 : decode cX11_dusk 60 = .ok (.iconst 0, 1) := by decide +kernel
theorem dX11_dusk_61 : decode cX11_dusk 61 = .ok (.istore 6, 2) := by decide +kernel
theorem dX11_dusk_63 : decode cX11_dusk 63 = .ok (.iconst 0, 1) := by decide +kernel
theorem dX11_dusk_64 : decode cX11_dusk 64 = .ok (.istore 7, 2) := by decide +kernel
theorem dX11_dusk_66 : decode cX11_dusk 66 = .ok (.iload 7, 2) := by decide +kernel
theorem dX11_dusk_68 : decode cX11_dusk 68 = .ok (.aload_n 0, 1) := by decide +kernel
theorem dX11_dusk_69 : decode cX11_dusk 69 = .ok (.getfield 20, 3) := by decide +kernel
theorem dX11_dusk_72 : decode cX11_dusk 72 = .ok (.getfield 221, 3) := by decide +kernel
theorem dX11_dusk_75 : decode cX11_dusk 75 = .ok (.if_icmp .ge 67, 3) := by decide +kernel
theorem dX11_dusk_78 : decode cX11_dusk 78 = .ok (.iconst 0, 1) := by decide +kernel
theorem dX11_dusk_79 : decode cX11_dusk 79 = .ok (.istore 8, 2) := by decide +kernel
theorem dX11_dusk_81 : decode cX11_dusk 81 = .ok (.iload 8, 2) := by decide +kernel
theorem dX11_dusk_83 : decode cX11_dusk 83 = .ok (.iload_n 2, 1) := by decide +kernel
theorem dX11_dusk_84 : decode cX11_dusk 84 = .ok (.if_icmp .ge 52, 3) := by decide +kernel
theorem dX11_dusk_87 : decode cX11_dusk 87 = .ok (.aload_n 0, 1) := by decide +kernel
theorem dX11_dusk_88 : decode cX11_dusk 88 = .ok (.getfield 10, 3) := by decide +kernel
theorem dX11_dusk_91 : decode cX11_dusk 91 = .ok (.aload 5, 2) := by decide +kernel
theorem dX11_dusk_93 : decode cX11_dusk 93 = .ok (.iload 7, 2) := by decide +kernel
theorem dX11_dusk_95 : decode cX11_dusk 95 = .ok (.iload_n 3, 1) := by decide +kernel
theorem dX11_dusk_96 : decode cX11_dusk 96 = .ok (.iload 8, 2) := by decide +kernel
theorem dX11_dusk_98 : decode cX11_dusk 98 = .ok (.iadd, 1) := by decide +kernel
theorem dX11_dusk_99 : decode cX11_dusk 99 = .ok (.iconst (-1), 1) := by decide +kernel
theorem dX11_dusk_100 : decode cX11_dusk 100 = .ok (.invokevirtual 261, 3) := by decide +kernel
theorem dX11_dusk_103 : decode cX11_dusk 103 = .ok (.aload_n 0, 1) := by decide +kernel
theorem dX11_dusk_104 : decode cX11_dusk 104 = .ok (.getfield 10, 3) := by decide +kernel
theorem dX11_dusk_107 : decode cX11_dusk 107 = .ok (.invokevirtual 235, 3) := by decide +kernel
theorem dX11_dusk_110 : decode cX11_dusk 110 = .ok (.iload 4, 2) := by decide +kernel
theorem dX11_dusk_112 : decode cX11_dusk 112 = .ok (.if_icmp .gt 18, 3) := by decide +kernel
theorem dX11_dusk_115 : decode cX11_dusk 115 = .ok (.iload 6, 2) := by decide +kernel
theorem dX11_dusk_117 : decode cX11_dusk 117 = .ok (.aload_n 0, 1) := by decide +kernel
theorem dX11_dusk_118 : decode cX11_dusk 118 = .ok (.getfield 20, 3) := by decide +kernel
theorem dX11_dusk_121 : decode cX11_dusk 121 = .ok (.getfield 124, 3) := by decide +kernel
theorem dX11_dusk_124 : decode cX11_dusk 124 = .ok (.iload 7, 2) := by decide +kernel
theorem dX11_dusk_126 : decode cX11_dusk 126 = .ok (.iaload, 1) := by decide +kernel
theorem dX11_dusk_127 : decode cX11_dusk 127 = .ok (.iadd, 1) := by decide +kernel
theorem dX11_dusk_128 : decode cX11_dusk 128 = .ok (.istore 6, 2) := by decide +kernel
theorem dX11_dusk_130 : decode cX11_dusk 130 = .ok (.iinc 8 1, 3) := by decide +kernel
theorem dX11_dusk_133 : decode cX11_dusk 133 = .ok (.goto (-52), 3) := by decide +kernel
theorem dX11_dusk_136 : decode cX11_dusk 136 = .ok (.iinc 7 1, 3) := by decide +kernel
theorem dX11_dusk_139 : decode cX11_dusk 139 = .ok (.goto (-73), 3) := by decide +kernel
theorem dX11_dusk_142 : decode cX11_dusk 142 = .ok (.iload 6, 2) := by decide +kernel
theorem dX11_dusk_144 : decode cX11_dusk 144 = .ok (.ireturn, 1) := by decide +kernel
theorem dX11_best_0 : decode cX11_best 0 = .ok (.iload_n 1, 1) := by decide +kernel
theorem dX11_best_1 : decode cX11_best 1 = .ok (.invokestatic 211, 3) := by decide +kernel
theorem dX11_best_4 : decode cX11_best 4 = .ok (.ifCond .eq 17, 3) := by decide +kernel
theorem dX11_best_7 : decode cX11_best 7 = .ok (.iload_n 2, 1) := by decide +kernel
theorem dX11_best_8 : decode cX11_best 8 = .ok (.invokestatic 278, 3) := by decide +kernel
theorem dX11_best_11 : decode cX11_best 11 = .ok (.ifCond .eq 10, 3) := by decide +kernel
theorem dX11_best_14 : decode cX11_best 14 = .ok (.iload_n 3, 1) := by decide +kernel
theorem dX11_best_15 : decode cX11_best 15 = .ok (.invokestatic 271, 3) := by decide +kernel
theorem dX11_best_18 : decode cX11_best 18 = .ok (.ifCond .ne 5, 3) := by decide +kernel
theorem dX11_best_21 : decode cX11_best 21 = .ok (.iconst (-1), 1) := by decide +kernel
theorem dX11_best_22 : decode cX11_best 22 = .ok (.ireturn, 1) := by decide +kernel
theorem dX11_best_23 : decode cX11_best 23 = .ok (.aload_n 0, 1) := by decide +kernel
theorem dX11_best_24 : decode cX11_best 24 = .ok (.iload_n 1, 1) := by decide +kernel
theorem dX11_best_25 : decode cX11_best 25 = .ok (.invokevirtual 81, 3) := by decide +kernel
theorem dX11_best_28 : decode cX11_best 28 = .ok (.astore 5, 2) := by decide +kernel
theorem dX11_best_30 : decode cX11_best 30 = .ok (.aload 5, 2) := by decide +kernel
theorem dX11_best_32 : decode cX11_best 32 = .ok (.ifnonnull 9, 3) := by decide +kernel
theorem dX11_best_35 : decode cX11_best 35 = .ok (.aload_n 0, 1) := by decide +kernel
theorem dX11_best_36 : decode cX11_best 36 = .ok (.iload_n 1, 1) := by decide +kernel
theorem dX11_best_37 : decode cX11_best 37 = .ok (.invokevirtual 85, 3) := by decide +kernel
theorem dX11_best_40 : decode cX11_best 40 = .ok (.ireturn, 1) := by decide +kernel
theorem dX11_best_41 : decode cX11_best 41 = .ok (.aload 5, 2) := by decide +kernel
theorem dX11_best_43 : decode cX11_best 43 = .ok (.getfield 89, 3) := by decide +kernel
theorem dX11_best_46 : decode cX11_best 46 = .ok (.ifCond .eq 6, 3) := by decide +kernel
theorem dX11_best_49 : decode cX11_best 49 = .ok (.bipush (-12), 2) := by decide +kernel
theorem dX11_best_51 : decode cX11_best 51 = .ok (.ireturn, 1) := by decide +kernel
theorem dX11_best_52 : decode cX11_best 52 = .ok (.aload 5, 2) := by decide +kernel
theorem dX11_best_54 : decode cX11_best 54 = .ok (.invokestatic 281, 3) := by decide +kernel
theorem dX11_best_57 : decode cX11_best 57 = .ok (.ifCond .ne 6, 3) := by decide +kernel
theorem dX11_best_60 : decode cX11_best 60 = .ok (.bipush (-13), 2) := by decide +kernel
theorem dX11_best_62 : decode cX11_best 62 = .ok (.ireturn, 1) := by decide +kernel
theorem dX11_best_63 : decode cX11_best 63 = .ok (.aload_n 0, 1) := by decide +kernel
theorem dX11_best_64 : decode cX11_best 64 = .ok (.getfield 20, 3) := by decide +kernel
theorem dX11_best_67 : decode cX11_best 67 = .ok (.invokevirtual 169, 3) := by decide +kernel
theorem dX11_best_70 : decode cX11_best 70 = .ok (.ifCond .ne 6, 3) := by decide +kernel
theorem dX11_best_73 : decode cX11_best 73 = .ok (.bipush (-3), 2) := by decide +kernel
theorem dX11_best_75 : decode cX11_best 75 = .ok (.ireturn, 1) := by decide +kernel
theorem dX11_best_76 : decode cX11_best 76 = .ok (.iconst 0, 1) := by decide +kernel
theorem dX11_best_77 : decode cX11_best 77 = .ok (.istore 6, 2) := by decide +kernel
theorem dX11_best_79 : decode cX11_best 79 = .ok (.ldc_w 285, 3) := by decide +kernel
theorem dX11_best_82 : decode cX11_best 82 = .ok (.istore 7, 2) := by decide +kernel
theorem dX11_best_84 : decode cX11_best 84 = .ok (.iconst 0, 1) := by decide +kernel
theorem dX11_best_85 : decode cX11_best 85 = .ok (.istore 8, 2) := by decide +kernel
theorem dX11_best_87 : decode cX11_best 87 = .ok (.iload 8, 2) := by decide +kernel
theorem dX11_best_89 : decode cX11_best 89 = .ok (.aload 5, 2) := by decide +kernel
theorem dX11_best_91 : decode cX11_best 91 = .ok (.getfield 218, 3) := by decide +kernel
theorem dX11_best_94 : decode cX11_best 94 = .ok (.arraylength, 1) := by decide +kernel
theorem dX11_best_95 : decode cX11_best 95 = .ok (.if_icmp .ge 46, 3) := by decide +kernel
theorem dX11_best_98 : decode cX11_best 98 = .ok (.aload_n 0, 1) := by decide +kernel
theorem dX11_best_99 : decode cX11_best 99 = .ok (.aload 5, 2) := by decide +kernel
theorem dX11_best_101 : decode cX11_best 101 = .ok (.getfield 218, 3) := by decide +kernel
theorem dX11_best_104 : decode cX11_best 104 = .ok (.iload 8, 2) := by decide +kernel
theorem dX11_best_106 : decode cX11_best 106 = .ok (.iaload, 1) := by decide +kernel
theorem dX11_best_107 : decode cX11_best 107 = .ok (.iload_n 2, 1) := by decide +kernel
theorem dX11_best_108 : decode cX11_best 108 = .ok (.invokestatic 286, 3) := by decide +kernel
theorem dX11_best_111 : decode cX11_best 111 = .ok (.iload_n 3, 1) := by decide +kernel
theorem dX11_best_112 : decode cX11_best 112 = .ok (.iload 4, 2) := by decide +kernel
theorem dX11_best_114 : decode cX11_best 114 = .ok (.iconst (-1), 1) := by decide +kernel
theorem dX11_best_115 : decode cX11_best 115 = .ok (.invokevirtual 274, 3) := by decide +kernel
theorem dX11_best_118 : decode cX11_best 118 = .ok (.istore 9, 2) := by decide +kernel
theorem dX11_best_120 : decode cX11_best 120 = .ok (.iload 9, 2) := by decide +kernel
theorem dX11_best_122 : decode cX11_best 122 = .ok (.iload 7, 2) := by decide +kernel
theorem dX11_best_124 : decode cX11_best 124 = .ok (.if_icmp .ge 11, 3) := by decide +kernel
theorem dX11_best_127 : decode cX11_best 127 = .ok (.iload 8, 2) := by decide +kernel
theorem dX11_best_129 : decode cX11_best 129 = .ok (.istore 6, 2) := by decide +kernel
theorem dX11_best_131 : decode cX11_best 131 = .ok (.iload 9, 2) := by decide +kernel
theorem dX11_best_133 : decode cX11_best 133 = .ok (.istore 7, 2) := by decide +kernel
theorem dX11_best_135 : decode cX11_best 135 = .ok (.iinc 8 1, 3) := by decide +kernel
theorem dX11_best_138 : decode cX11_best 138 = .ok (.goto (-51), 3) := by decide +kernel
theorem dX11_best_141 : decode cX11_best 141 = .ok (.iload 6, 2) := by decide +kernel
theorem dX11_best_143 : decode cX11_best 143 = .ok (.ireturn, 1) := by decide +kernel
theorem dX11_holdsKinds_0 : decode cX11_holdsKinds 0 = .ok (.aload_n 0, 1) := by decide +kernel
theorem dX11_holdsKinds_1 : decode cX11_holdsKinds 1 = .ok (.getfield 218, 3) := by decide +kernel
theorem dX11_holdsKinds_4 : decode cX11_holdsKinds 4 = .ok (.arraylength, 1) := by decide +kernel
theorem dX11_holdsKinds_5 : decode cX11_holdsKinds 5 = .ok (.istore_n 1, 1) := by decide +kernel
theorem dX11_holdsKinds_6 : decode cX11_holdsKinds 6 = .ok (.iload_n 1, 1) := by decide +kernel
theorem dX11_holdsKinds_7 : decode cX11_holdsKinds 7 = .ok (.iconst 1, 1) := by decide +kernel
theorem dX11_holdsKinds_8 : decode cX11_holdsKinds 8 = .ok (.if_icmp .lt 9, 3) := by decide +kernel
theorem dX11_holdsKinds_11 : decode cX11_holdsKinds 11 = .ok (.iload_n 1, 1) := by decide +kernel
theorem dX11_holdsKinds_12 : decode cX11_holdsKinds 12 = .ok (.bipush 6, 2) := by decide +kernel
theorem dX11_holdsKinds_14 : decode cX11_holdsKinds 14 = .ok (.if_icmp .le 5, 3) := by decide +kernel
theorem dX11_holdsKinds_17 : decode cX11_holdsKinds 17 = .ok (.iconst 0, 1) := by decide +kernel
theorem dX11_holdsKinds_18 : decode cX11_holdsKinds 18 = .ok (.ireturn, 1) := by decide +kernel
theorem dX11_holdsKinds_19 : decode cX11_holdsKinds 19 = .ok (.iconst 0, 1) := by decide +kernel
theorem dX11_holdsKinds_20 : decode cX11_holdsKinds 20 = .ok (.istore_n 2, 1) := by decide +kernel
theorem dX11_holdsKinds_21 : decode cX11_holdsKinds 21 = .ok (.iload_n 2, 1) := by decide +kernel
theorem dX11_holdsKinds_22 : decode cX11_holdsKinds 22 = .ok (.iload_n 1, 1) := by decide +kernel
theorem dX11_holdsKinds_23 : decode cX11_holdsKinds 23 = .ok (.if_icmp .ge 23, 3) := by decide +kernel
theorem dX11_holdsKinds_26 : decode cX11_holdsKinds 26 = .ok (.aload_n 0, 1) := by decide +kernel
theorem dX11_holdsKinds_27 : decode cX11_holdsKinds 27 = .ok (.getfield 218, 3) := by decide +kernel
theorem dX11_holdsKinds_30 : decode cX11_holdsKinds 30 = .ok (.iload_n 2, 1) := by decide +kernel
theorem dX11_holdsKinds_31 : decode cX11_holdsKinds 31 = .ok (.iaload, 1) := by decide +kernel
theorem dX11_holdsKinds_32 : decode cX11_holdsKinds 32 = .ok (.invokestatic 290, 3) := by decide +kernel
theorem dX11_holdsKinds_35 : decode cX11_holdsKinds 35 = .ok (.ifCond .ne 5, 3) := by decide +kernel
theorem dX11_holdsKinds_38 : decode cX11_holdsKinds 38 = .ok (.iconst 0, 1) := by decide +kernel
theorem dX11_holdsKinds_39 : decode cX11_holdsKinds 39 = .ok (.ireturn, 1) := by decide +kernel
theorem dX11_holdsKinds_40 : decode cX11_holdsKinds 40 = .ok (.iinc 2 1, 3) := by decide +kernel
theorem dX11_holdsKinds_43 : decode cX11_holdsKinds 43 = .ok (.goto (-22), 3) := by decide +kernel
theorem dX11_holdsKinds_46 : decode cX11_holdsKinds 46 = .ok (.iconst 1, 1) := by decide +kernel
theorem dX11_holdsKinds_47 : decode cX11_holdsKinds 47 = .ok (.ireturn, 1) := by decide +kernel
theorem dX11_post_0 : decode cX11_post 0 = .ok (.iload_n 1, 1) := by decide +kernel
theorem dX11_post_1 : decode cX11_post 1 = .ok (.invokestatic 271, 3) := by decide +kernel
theorem dX11_post_4 : decode cX11_post 4 = .ok (.ifCond .ne 5, 3) := by decide +kernel
theorem dX11_post_7 : decode cX11_post 7 = .ok (.iconst (-1), 1) := by decide +kernel
theorem dX11_post_8 : decode cX11_post 8 = .ok (.ireturn, 1) := by decide +kernel
theorem dX11_post_9 : decode cX11_post 9 = .ok (.aload_n 0, 1) := by decide +kernel
theorem dX11_post_10 : decode cX11_post 10 = .ok (.getfield 20, 3) := by decide +kernel
theorem dX11_post_13 : decode cX11_post 13 = .ok (.invokevirtual 169, 3) := by decide +kernel
theorem dX11_post_16 : decode cX11_post 16 = .ok (.ifCond .ne 6, 3) := by decide +kernel
theorem dX11_post_19 : decode cX11_post 19 = .ok (.bipush (-3), 2) := by decide +kernel
theorem dX11_post_21 : decode cX11_post 21 = .ok (.ireturn, 1) := by decide +kernel
theorem dX11_post_22 : decode cX11_post 22 = .ok (.iconst 0, 1) := by decide +kernel
theorem dX11_post_23 : decode cX11_post 23 = .ok (.istore_n 3, 1) := by decide +kernel
theorem dX11_post_24 : decode cX11_post 24 = .ok (.ldc_w 285, 3) := by decide +kernel
theorem dX11_post_27 : decode cX11_post 27 = .ok (.istore 4, 2) := by decide +kernel
theorem dX11_post_29 : decode cX11_post 29 = .ok (.iconst 0, 1) := by decide +kernel
theorem dX11_post_30 : decode cX11_post 30 = .ok (.istore 5, 2) := by decide +kernel
theorem dX11_post_32 : decode cX11_post 32 = .ok (.iload 5, 2) := by decide +kernel
theorem dX11_post_34 : decode cX11_post 34 = .ok (.bipush 8, 2) := by decide +kernel
theorem dX11_post_36 : decode cX11_post 36 = .ok (.if_icmp .ge 37, 3) := by decide +kernel
theorem dX11_post_39 : decode cX11_post 39 = .ok (.aload_n 0, 1) := by decide +kernel
theorem dX11_post_40 : decode cX11_post 40 = .ok (.aload_n 0, 1) := by decide +kernel
theorem dX11_post_41 : decode cX11_post 41 = .ok (.getfield 64, 3) := by decide +kernel
theorem dX11_post_44 : decode cX11_post 44 = .ok (.iload_n 1, 1) := by decide +kernel
theorem dX11_post_45 : decode cX11_post 45 = .ok (.iload_n 2, 1) := by decide +kernel
theorem dX11_post_46 : decode cX11_post 46 = .ok (.iload 5, 2) := by decide +kernel
theorem dX11_post_48 : decode cX11_post 48 = .ok (.invokevirtual 274, 3) := by decide +kernel
theorem dX11_post_51 : decode cX11_post 51 = .ok (.istore 6, 2) := by decide +kernel
theorem dX11_post_53 : decode cX11_post 53 = .ok (.iload 6, 2) := by decide +kernel
theorem dX11_post_55 : decode cX11_post 55 = .ok (.iload 4, 2) := by decide +kernel
theorem dX11_post_57 : decode cX11_post 57 = .ok (.if_icmp .ge 10, 3) := by decide +kernel
theorem dX11_post_60 : decode cX11_post 60 = .ok (.iload 5, 2) := by decide +kernel
theorem dX11_post_62 : decode cX11_post 62 = .ok (.istore_n 3, 1) := by decide +kernel
theorem dX11_post_63 : decode cX11_post 63 = .ok (.iload 6, 2) := by decide +kernel
theorem dX11_post_65 : decode cX11_post 65 = .ok (.istore 4, 2) := by decide +kernel
theorem dX11_post_67 : decode cX11_post 67 = .ok (.iinc 5 1, 3) := by decide +kernel
theorem dX11_post_70 : decode cX11_post 70 = .ok (.goto (-38), 3) := by decide +kernel
theorem dX11_post_73 : decode cX11_post 73 = .ok (.iload_n 3, 1) := by decide +kernel
theorem dX11_post_74 : decode cX11_post 74 = .ok (.ireturn, 1) := by decide +kernel
theorem dX11_image_0 : decode cX11_image 0 = .ok (.aload_n 0, 1) := by decide +kernel
theorem dX11_image_1 : decode cX11_image 1 = .ok (.getfield 26, 3) := by decide +kernel
theorem dX11_image_4 : decode cX11_image 4 = .ok (.aload_n 0, 1) := by decide +kernel
theorem dX11_image_5 : decode cX11_image 5 = .ok (.getfield 20, 3) := by decide +kernel
theorem dX11_image_8 : decode cX11_image 8 = .ok (.invokevirtual 93, 3) := by decide +kernel
theorem dX11_image_11 : decode cX11_image 11 = .ok (.aload_n 0, 1) := by decide +kernel
theorem dX11_image_12 : decode cX11_image 12 = .ok (.getfield 39, 3) := by decide +kernel
theorem dX11_image_15 : decode cX11_image 15 = .ok (.aload_n 0, 1) := by decide +kernel
theorem dX11_image_16 : decode cX11_image 16 = .ok (.getfield 35, 3) := by decide +kernel
theorem dX11_image_19 : decode cX11_image 19 = .ok (.invokevirtual 249, 3) := by decide +kernel
theorem dX11_image_22 : decode cX11_image 22 = .ok (.aload_n 0, 1) := by decide +kernel
theorem dX11_image_23 : decode cX11_image 23 = .ok (.iconst 1, 1) := by decide +kernel
theorem dX11_image_24 : decode cX11_image 24 = .ok (.putfield 77, 3) := by decide +kernel
theorem dX11_image_27 : decode cX11_image 27 = .ok (.aload_n 0, 1) := by decide +kernel
theorem dX11_image_28 : decode cX11_image 28 = .ok (.getfield 20, 3) := by decide +kernel
theorem dX11_image_31 : decode cX11_image 31 = .ok (.getfield 221, 3) := by decide +kernel
theorem dX11_image_34 : decode cX11_image 34 = .ok (.ireturn, 1) := by decide +kernel
theorem dX11_restore_0 : decode cX11_restore 0 = .ok (.aload_n 0, 1) := by decide +kernel
theorem dX11_restore_1 : decode cX11_restore 1 = .ok (.getfield 77, 3) := by decide +kernel
theorem dX11_restore_4 : decode cX11_restore 4 = .ok (.ifCond .ne 6, 3) := by decide +kernel
theorem dX11_restore_7 : decode cX11_restore 7 = .ok (.bipush (-3), 2) := by decide +kernel
theorem dX11_restore_9 : decode cX11_restore 9 = .ok (.ireturn, 1) := by decide +kernel
theorem dX11_restore_10 : decode cX11_restore 10 = .ok (.aload_n 0, 1) := by decide +kernel
theorem dX11_restore_11 : decode cX11_restore 11 = .ok (.getfield 20, 3) := by decide +kernel
theorem dX11_restore_14 : decode cX11_restore 14 = .ok (.aload_n 0, 1) := by decide +kernel
theorem dX11_restore_15 : decode cX11_restore 15 = .ok (.getfield 26, 3) := by decide +kernel
theorem dX11_restore_18 : decode cX11_restore 18 = .ok (.invokevirtual 93, 3) := by decide +kernel
theorem dX11_restore_21 : decode cX11_restore 21 = .ok (.aload_n 0, 1) := by decide +kernel
theorem dX11_restore_22 : decode cX11_restore 22 = .ok (.getfield 20, 3) := by decide +kernel
theorem dX11_restore_25 : decode cX11_restore 25 = .ok (.invokevirtual 101, 3) := by decide +kernel
theorem dX11_restore_28 : decode cX11_restore 28 = .ok (.aload_n 0, 1) := by decide +kernel
theorem dX11_restore_29 : decode cX11_restore 29 = .ok (.getfield 35, 3) := by decide +kernel
theorem dX11_restore_32 : decode cX11_restore 32 = .ok (.aload_n 0, 1) := by decide +kernel
theorem dX11_restore_33 : decode cX11_restore 33 = .ok (.getfield 39, 3) := by decide +kernel
theorem dX11_restore_36 : decode cX11_restore 36 = .ok (.invokevirtual 249, 3) := by decide +kernel
theorem dX11_restore_39 : decode cX11_restore 39 = .ok (.aload_n 0, 1) := by decide +kernel
theorem dX11_restore_40 : decode cX11_restore 40 = .ok (.getfield 20, 3) := by decide +kernel
theorem dX11_restore_43 : decode cX11_restore 43 = .ok (.getfield 221, 3) := by decide +kernel
theorem dX11_restore_46 : decode cX11_restore 46 = .ok (.ireturn, 1) := by decide +kernel
theorem dX11_count_0 : decode cX11_count 0 = .ok (.iload_n 1, 1) := by decide +kernel
theorem dX11_count_1 : decode cX11_count 1 = .ok (.tableswitch 87 0 5 #[39, 47, 55, 63, 71, 79], 39) := by decide +kernel
theorem dX11_count_40 : decode cX11_count 40 = .ok (.aload_n 0, 1) := by decide +kernel
theorem dX11_count_41 : decode cX11_count 41 = .ok (.getfield 20, 3) := by decide +kernel
theorem dX11_count_44 : decode cX11_count 44 = .ok (.getfield 293, 3) := by decide +kernel
theorem dX11_count_47 : decode cX11_count 47 = .ok (.ireturn, 1) := by decide +kernel
theorem dX11_count_48 : decode cX11_count 48 = .ok (.aload_n 0, 1) := by decide +kernel
theorem dX11_count_49 : decode cX11_count 49 = .ok (.getfield 20, 3) := by decide +kernel
theorem dX11_count_52 : decode cX11_count 52 = .ok (.getfield 221, 3) := by decide +kernel
theorem dX11_count_55 : decode cX11_count 55 = .ok (.ireturn, 1) := by decide +kernel
theorem dX11_count_56 : decode cX11_count 56 = .ok (.aload_n 0, 1) := by decide +kernel
theorem dX11_count_57 : decode cX11_count 57 = .ok (.getfield 20, 3) := by decide +kernel
theorem dX11_count_60 : decode cX11_count 60 = .ok (.getfield 296, 3) := by decide +kernel
theorem dX11_count_63 : decode cX11_count 63 = .ok (.ireturn, 1) := by decide +kernel
theorem dX11_count_64 : decode cX11_count 64 = .ok (.aload_n 0, 1) := by decide +kernel
theorem dX11_count_65 : decode cX11_count 65 = .ok (.getfield 20, 3) := by decide +kernel
theorem dX11_count_68 : decode cX11_count 68 = .ok (.invokevirtual 299, 3) := by decide +kernel
theorem dX11_count_71 : decode cX11_count 71 = .ok (.ireturn, 1) := by decide +kernel
theorem dX11_count_72 : decode cX11_count 72 = .ok (.aload_n 0, 1) := by decide +kernel
theorem dX11_count_73 : decode cX11_count 73 = .ok (.getfield 20, 3) := by decide +kernel
theorem dX11_count_76 : decode cX11_count 76 = .ok (.getfield 143, 3) := by decide +kernel
theorem dX11_count_79 : decode cX11_count 79 = .ok (.ireturn, 1) := by decide +kernel
theorem dX11_count_80 : decode cX11_count 80 = .ok (.aload_n 0, 1) := by decide +kernel
theorem dX11_count_81 : decode cX11_count 81 = .ok (.getfield 20, 3) := by decide +kernel
theorem dX11_count_84 : decode cX11_count 84 = .ok (.invokevirtual 302, 3) := by decide +kernel
theorem dX11_count_87 : decode cX11_count 87 = .ok (.ireturn, 1) := by decide +kernel
theorem dX11_count_88 : decode cX11_count 88 = .ok (.iconst (-1), 1) := by decide +kernel
theorem dX11_count_89 : decode cX11_count 89 = .ok (.ireturn, 1) := by decide +kernel
theorem dX11_keep_0 : decode cX11_keep 0 = .ok (.iload_n 1, 1) := by decide +kernel
theorem dX11_keep_1 : decode cX11_keep 1 = .ok (.invokestatic 211, 3) := by decide +kernel
theorem dX11_keep_4 : decode cX11_keep 4 = .ok (.ifCond .ne 5, 3) := by decide +kernel
theorem dX11_keep_7 : decode cX11_keep 7 = .ok (.iconst (-1), 1) := by decide +kernel
theorem dX11_keep_8 : decode cX11_keep 8 = .ok (.ireturn, 1) := by decide +kernel
theorem dX11_keep_9 : decode cX11_keep 9 = .ok (.iload_n 2, 1) := by decide +kernel
theorem dX11_keep_10 : decode cX11_keep 10 = .ok (.ifCond .ne 13, 3) := by decide +kernel
theorem dX11_keep_13 : decode cX11_keep 13 = .ok (.aload_n 0, 1) := by decide +kernel
theorem dX11_keep_14 : decode cX11_keep 14 = .ok (.getfield 67, 3) := by decide +kernel
theorem dX11_keep_17 : decode cX11_keep 17 = .ok (.iload_n 1, 1) := by decide +kernel
theorem dX11_keep_18 : decode cX11_keep 18 = .ok (.aconst_null, 1) := by decide +kernel
theorem dX11_keep_19 : decode cX11_keep 19 = .ok (.aastore, 1) := by decide +kernel
theorem dX11_keep_20 : decode cX11_keep 20 = .ok (.goto 40, 3) := by decide +kernel
theorem dX11_keep_23 : decode cX11_keep 23 = .ok (.iload_n 2, 1) := by decide +kernel
theorem dX11_keep_24 : decode cX11_keep 24 = .ok (.iconst 1, 1) := by decide +kernel
theorem dX11_keep_25 : decode cX11_keep 25 = .ok (.if_icmp .ne 33, 3) := by decide +kernel
theorem dX11_keep_28 : decode cX11_keep 28 = .ok (.iload_n 3, 1) := by decide +kernel
theorem dX11_keep_29 : decode cX11_keep 29 = .ok (.invokestatic 290, 3) := by decide +kernel
theorem dX11_keep_32 : decode cX11_keep 32 = .ok (.ifCond .eq 26, 3) := by decide +kernel
theorem dX11_keep_35 : decode cX11_keep 35 = .ok (.iload 4, 2) := by decide +kernel
theorem dX11_keep_37 : decode cX11_keep 37 = .ok (.invokestatic 278, 3) := by decide +kernel
theorem dX11_keep_40 : decode cX11_keep 40 = .ok (.ifCond .eq 18, 3) := by decide +kernel
theorem dX11_keep_43 : decode cX11_keep 43 = .ok (.aload_n 0, 1) := by decide +kernel
theorem dX11_keep_44 : decode cX11_keep 44 = .ok (.getfield 67, 3) := by decide +kernel
theorem dX11_keep_47 : decode cX11_keep 47 = .ok (.iload_n 1, 1) := by decide +kernel
theorem dX11_keep_48 : decode cX11_keep 48 = .ok (.iload_n 3, 1) := by decide +kernel
theorem dX11_keep_49 : decode cX11_keep 49 = .ok (.iload 4, 2) := by decide +kernel
theorem dX11_keep_51 : decode cX11_keep 51 = .ok (.invokestatic 286, 3) := by decide +kernel
theorem dX11_keep_54 : decode cX11_keep 54 = .ok (.aastore, 1) := by decide +kernel
theorem dX11_keep_55 : decode cX11_keep 55 = .ok (.goto 5, 3) := by decide +kernel
theorem dX11_keep_58 : decode cX11_keep 58 = .ok (.iconst (-1), 1) := by decide +kernel
theorem dX11_keep_59 : decode cX11_keep 59 = .ok (.ireturn, 1) := by decide +kernel
theorem dX11_keep_60 : decode cX11_keep 60 = .ok (.aload_n 0, 1) := by decide +kernel
theorem dX11_keep_61 : decode cX11_keep 61 = .ok (.getfield 73, 3) := by decide +kernel
theorem dX11_keep_64 : decode cX11_keep 64 = .ok (.iload_n 1, 1) := by decide +kernel
theorem dX11_keep_65 : decode cX11_keep 65 = .ok (.aconst_null, 1) := by decide +kernel
theorem dX11_keep_66 : decode cX11_keep 66 = .ok (.aastore, 1) := by decide +kernel
theorem dX11_keep_67 : decode cX11_keep 67 = .ok (.iconst 0, 1) := by decide +kernel
theorem dX11_keep_68 : decode cX11_keep 68 = .ok (.ireturn, 1) := by decide +kernel
theorem dX11_row_0 : decode cX11_row 0 = .ok (.iload_n 1, 1) := by decide +kernel
theorem dX11_row_1 : decode cX11_row 1 = .ok (.invokestatic 211, 3) := by decide +kernel
theorem dX11_row_4 : decode cX11_row 4 = .ok (.ifCond .eq 18, 3) := by decide +kernel
theorem dX11_row_7 : decode cX11_row 7 = .ok (.iload_n 2, 1) := by decide +kernel
theorem dX11_row_8 : decode cX11_row 8 = .ok (.ifCond .lt 14, 3) := by decide +kernel
theorem dX11_row_11 : decode cX11_row 11 = .ok (.iload_n 2, 1) := by decide +kernel
theorem dX11_row_12 : decode cX11_row 12 = .ok (.iconst 3, 1) := by decide +kernel
theorem dX11_row_13 : decode cX11_row 13 = .ok (.if_icmp .ge 9, 3) := by decide +kernel
theorem dX11_row_16 : decode cX11_row 16 = .ok (.iload_n 3, 1) := by decide +kernel
theorem dX11_row_17 : decode cX11_row 17 = .ok (.bipush 100, 2) := by decide +kernel
theorem dX11_row_19 : decode cX11_row 19 = .ok (.if_icmp .le 5, 3) := by decide +kernel
theorem dX11_row_22 : decode cX11_row 22 = .ok (.iconst (-1), 1) := by decide +kernel
theorem dX11_row_23 : decode cX11_row 23 = .ok (.ireturn, 1) := by decide +kernel
theorem dX11_row_24 : decode cX11_row 24 = .ok (.iload_n 3, 1) := by decide +kernel
theorem dX11_row_25 : decode cX11_row 25 = .ok (.ifCond .ge 6, 3) := by decide +kernel
theorem dX11_row_28 : decode cX11_row 28 = .ok (.bipush (-14), 2) := by decide +kernel
theorem dX11_row_30 : decode cX11_row 30 = .ok (.ireturn, 1) := by decide +kernel
theorem dX11_row_31 : decode cX11_row 31 = .ok (.aload_n 0, 1) := by decide +kernel
theorem dX11_row_32 : decode cX11_row 32 = .ok (.getfield 67, 3) := by decide +kernel
theorem dX11_row_35 : decode cX11_row 35 = .ok (.iload_n 1, 1) := by decide +kernel
theorem dX11_row_36 : decode cX11_row 36 = .ok (.aconst_null, 1) := by decide +kernel
theorem dX11_row_37 : decode cX11_row 37 = .ok (.aastore, 1) := by decide +kernel
theorem dX11_row_38 : decode cX11_row 38 = .ok (.aload_n 0, 1) := by decide +kernel
theorem dX11_row_39 : decode cX11_row 39 = .ok (.getfield 73, 3) := by decide +kernel
theorem dX11_row_42 : decode cX11_row 42 = .ok (.iload_n 1, 1) := by decide +kernel
theorem dX11_row_43 : decode cX11_row 43 = .ok (.new 71, 3) := by decide +kernel
theorem dX11_row_46 : decode cX11_row 46 = .ok (.dup, 1) := by decide +kernel
theorem dX11_row_47 : decode cX11_row 47 = .ok (.iload_n 2, 1) := by decide +kernel
theorem dX11_row_48 : decode cX11_row 48 = .ok (.iload_n 3, 1) := by decide +kernel
theorem dX11_row_49 : decode cX11_row 49 = .ok (.invokespecial 305, 3) := by decide +kernel
theorem dX11_row_52 : decode cX11_row 52 = .ok (.aastore, 1) := by decide +kernel
theorem dX11_row_53 : decode cX11_row 53 = .ok (.iconst 0, 1) := by decide +kernel
theorem dX11_row_54 : decode cX11_row 54 = .ok (.ireturn, 1) := by decide +kernel
theorem dX11_put_0 : decode cX11_put 0 = .ok (.aload_n 0, 1) := by decide +kernel
theorem dX11_put_1 : decode cX11_put 1 = .ok (.iload_n 1, 1) := by decide +kernel
theorem dX11_put_2 : decode cX11_put 2 = .ok (.invokevirtual 81, 3) := by decide +kernel
theorem dX11_put_5 : decode cX11_put 5 = .ok (.astore 4, 2) := by decide +kernel
theorem dX11_put_7 : decode cX11_put 7 = .ok (.aload 4, 2) := by decide +kernel
theorem dX11_put_9 : decode cX11_put 9 = .ok (.ifnonnull 9, 3) := by decide +kernel
theorem dX11_put_12 : decode cX11_put 12 = .ok (.aload_n 0, 1) := by decide +kernel
theorem dX11_put_13 : decode cX11_put 13 = .ok (.iload_n 1, 1) := by decide +kernel
theorem dX11_put_14 : decode cX11_put 14 = .ok (.invokevirtual 85, 3) := by decide +kernel
theorem dX11_put_17 : decode cX11_put 17 = .ok (.ireturn, 1) := by decide +kernel
theorem dX11_put_18 : decode cX11_put 18 = .ok (.aload 4, 2) := by decide +kernel
theorem dX11_put_20 : decode cX11_put 20 = .ok (.iload_n 2, 1) := by decide +kernel
theorem dX11_put_21 : decode cX11_put 21 = .ok (.invokevirtual 308, 3) := by decide +kernel
theorem dX11_put_24 : decode cX11_put 24 = .ok (.ifCond .ne 6, 3) := by decide +kernel
theorem dX11_put_27 : decode cX11_put 27 = .ok (.bipush (-13), 2) := by decide +kernel
theorem dX11_put_29 : decode cX11_put 29 = .ok (.ireturn, 1) := by decide +kernel
theorem dX11_put_30 : decode cX11_put 30 = .ok (.aload 4, 2) := by decide +kernel
theorem dX11_put_32 : decode cX11_put 32 = .ok (.getfield 218, 3) := by decide +kernel
theorem dX11_put_35 : decode cX11_put 35 = .ok (.iload_n 2, 1) := by decide +kernel
theorem dX11_put_36 : decode cX11_put 36 = .ok (.aload 4, 2) := by decide +kernel
theorem dX11_put_38 : decode cX11_put 38 = .ok (.iload_n 3, 1) := by decide +kernel
theorem dX11_put_39 : decode cX11_put 39 = .ok (.invokevirtual 311, 3) := by decide +kernel
theorem dX11_put_42 : decode cX11_put 42 = .ok (.iastore, 1) := by decide +kernel
theorem dX11_put_43 : decode cX11_put 43 = .ok (.iconst 0, 1) := by decide +kernel
theorem dX11_put_44 : decode cX11_put 44 = .ok (.ireturn, 1) := by decide +kernel
theorem dX11_element_0 : decode cX11_element 0 = .ok (.iload_n 1, 1) := by decide +kernel
theorem dX11_element_1 : decode cX11_element 1 = .ok (.invokestatic 211, 3) := by decide +kernel
theorem dX11_element_4 : decode cX11_element 4 = .ok (.ifCond .ne 14, 3) := by decide +kernel
theorem dX11_element_7 : decode cX11_element 7 = .ok (.new 314, 3) := by decide +kernel
theorem dX11_element_10 : decode cX11_element 10 = .ok (.dup, 1) := by decide +kernel
theorem dX11_element_11 : decode cX11_element 11 = .ok (.ldc_w 316, 3) := by decide +kernel
theorem dX11_element_14 : decode cX11_element 14 = .ok (.invokespecial 318, 3) := by decide +kernel
theorem dX11_element_17 : decode cX11_element 17 = .ok (.athrow, 1) := by decide +kernel
theorem dX11_element_18 : decode cX11_element 18 = .ok (.aload_n 0, 1) := by decide +kernel
theorem dX11_element_19 : decode cX11_element 19 = .ok (.iload_n 1, 1) := by decide +kernel
theorem dX11_element_20 : decode cX11_element 20 = .ok (.invokevirtual 81, 3) := by decide +kernel
theorem dX11_element_23 : decode cX11_element 23 = .ok (.astore_n 3, 1) := by decide +kernel
theorem dX11_element_24 : decode cX11_element 24 = .ok (.aload_n 3, 1) := by decide +kernel
theorem dX11_element_25 : decode cX11_element 25 = .ok (.ifnull 11, 3) := by decide +kernel
theorem dX11_element_28 : decode cX11_element 28 = .ok (.aload_n 3, 1) := by decide +kernel
theorem dX11_element_29 : decode cX11_element 29 = .ok (.iload_n 2, 1) := by decide +kernel
theorem dX11_element_30 : decode cX11_element 30 = .ok (.invokevirtual 308, 3) := by decide +kernel
theorem dX11_element_33 : decode cX11_element 33 = .ok (.ifCond .ne 14, 3) := by decide +kernel
theorem dX11_element_36 : decode cX11_element 36 = .ok (.new 321, 3) := by decide +kernel
theorem dX11_element_39 : decode cX11_element 39 = .ok (.dup, 1) := by decide +kernel
theorem dX11_element_40 : decode cX11_element 40 = .ok (.ldc_w 323, 3) := by decide +kernel
theorem dX11_element_43 : decode cX11_element 43 = .ok (.invokespecial 325, 3) := by decide +kernel
theorem dX11_element_46 : decode cX11_element 46 = .ok (.athrow, 1) := by decide +kernel
theorem dX11_element_47 : decode cX11_element 47 = .ok (.aload_n 3, 1) := by decide +kernel
theorem dX11_element_48 : decode cX11_element 48 = .ok (.getfield 218, 3) := by decide +kernel
theorem dX11_element_51 : decode cX11_element 51 = .ok (.iload_n 2, 1) := by decide +kernel
theorem dX11_element_52 : decode cX11_element 52 = .ok (.iaload, 1) := by decide +kernel
theorem dX11_element_53 : decode cX11_element 53 = .ok (.i2l, 1) := by decide +kernel
theorem dX11_element_54 : decode cX11_element 54 = .ok (.lreturn, 1) := by decide +kernel
theorem dX11_copy_0 : decode cX11_copy 0 = .ok (.iload_n 1, 1) := by decide +kernel
theorem dX11_copy_1 : decode cX11_copy 1 = .ok (.invokestatic 211, 3) := by decide +kernel
theorem dX11_copy_4 : decode cX11_copy 4 = .ok (.ifCond .eq 10, 3) := by decide +kernel
theorem dX11_copy_7 : decode cX11_copy 7 = .ok (.iload_n 3, 1) := by decide +kernel
theorem dX11_copy_8 : decode cX11_copy 8 = .ok (.invokestatic 211, 3) := by decide +kernel
theorem dX11_copy_11 : decode cX11_copy 11 = .ok (.ifCond .ne 5, 3) := by decide +kernel
theorem dX11_copy_14 : decode cX11_copy 14 = .ok (.iconst (-1), 1) := by decide +kernel
theorem dX11_copy_15 : decode cX11_copy 15 = .ok (.ireturn, 1) := by decide +kernel
theorem dX11_copy_16 : decode cX11_copy 16 = .ok (.aload_n 0, 1) := by decide +kernel
theorem dX11_copy_17 : decode cX11_copy 17 = .ok (.iload_n 1, 1) := by decide +kernel
theorem dX11_copy_18 : decode cX11_copy 18 = .ok (.invokevirtual 326, 3) := by decide +kernel
theorem dX11_copy_21 : decode cX11_copy 21 = .ok (.ifCond .ne 11, 3) := by decide +kernel
theorem dX11_copy_24 : decode cX11_copy 24 = .ok (.aload_n 0, 1) := by decide +kernel
theorem dX11_copy_25 : decode cX11_copy 25 = .ok (.iload_n 3, 1) := by decide +kernel
theorem dX11_copy_26 : decode cX11_copy 26 = .ok (.invokevirtual 326, 3) := by decide +kernel
theorem dX11_copy_29 : decode cX11_copy 29 = .ok (.ifCond .eq 6, 3) := by decide +kernel
theorem dX11_copy_32 : decode cX11_copy 32 = .ok (.bipush (-11), 2) := by decide +kernel
theorem dX11_copy_34 : decode cX11_copy 34 = .ok (.ireturn, 1) := by decide +kernel
theorem dX11_copy_35 : decode cX11_copy 35 = .ok (.aload_n 0, 1) := by decide +kernel
theorem dX11_copy_36 : decode cX11_copy 36 = .ok (.iload_n 1, 1) := by decide +kernel
theorem dX11_copy_37 : decode cX11_copy 37 = .ok (.invokevirtual 81, 3) := by decide +kernel
theorem dX11_copy_40 : decode cX11_copy 40 = .ok (.astore 6, 2) := by decide +kernel
theorem dX11_copy_42 : decode cX11_copy 42 = .ok (.aload_n 0, 1) := by decide +kernel
theorem dX11_copy_43 : decode cX11_copy 43 = .ok (.iload_n 3, 1) := by decide +kernel
theorem dX11_copy_44 : decode cX11_copy 44 = .ok (.invokevirtual 81, 3) := by decide +kernel
theorem dX11_copy_47 : decode cX11_copy 47 = .ok (.astore 7, 2) := by decide +kernel
theorem dX11_copy_49 : decode cX11_copy 49 = .ok (.aload 6, 2) := by decide +kernel
theorem dX11_copy_51 : decode cX11_copy 51 = .ok (.ifnull 21, 3) := by decide +kernel
theorem dX11_copy_54 : decode cX11_copy 54 = .ok (.aload 7, 2) := by decide +kernel
theorem dX11_copy_56 : decode cX11_copy 56 = .ok (.ifnull 16, 3) := by decide +kernel
theorem dX11_copy_59 : decode cX11_copy 59 = .ok (.aload 6, 2) := by decide +kernel
theorem dX11_copy_61 : decode cX11_copy 61 = .ok (.getfield 89, 3) := by decide +kernel
theorem dX11_copy_64 : decode cX11_copy 64 = .ok (.aload 7, 2) := by decide +kernel
theorem dX11_copy_66 : decode cX11_copy 66 = .ok (.getfield 89, 3) := by decide +kernel
theorem dX11_copy_69 : decode cX11_copy 69 = .ok (.if_icmp .eq 6, 3) := by decide +kernel
theorem dX11_copy_72 : decode cX11_copy 72 = .ok (.bipush (-12), 2) := by decide +kernel
theorem dX11_copy_74 : decode cX11_copy 74 = .ok (.ireturn, 1) := by decide +kernel
theorem dX11_copy_75 : decode cX11_copy 75 = .ok (.aload 6, 2) := by decide +kernel
theorem dX11_copy_77 : decode cX11_copy 77 = .ok (.iload_n 2, 1) := by decide +kernel
theorem dX11_copy_78 : decode cX11_copy 78 = .ok (.iload 5, 2) := by decide +kernel
theorem dX11_copy_80 : decode cX11_copy 80 = .ok (.invokevirtual 329, 3) := by decide +kernel
theorem dX11_copy_83 : decode cX11_copy 83 = .ok (.ifCond .eq 15, 3) := by decide +kernel
theorem dX11_copy_86 : decode cX11_copy 86 = .ok (.aload 7, 2) := by decide +kernel
theorem dX11_copy_88 : decode cX11_copy 88 = .ok (.iload 4, 2) := by decide +kernel
theorem dX11_copy_90 : decode cX11_copy 90 = .ok (.iload 5, 2) := by decide +kernel
theorem dX11_copy_92 : decode cX11_copy 92 = .ok (.invokevirtual 329, 3) := by decide +kernel
theorem dX11_copy_95 : decode cX11_copy 95 = .ok (.ifCond .ne 6, 3) := by decide +kernel
theorem dX11_copy_98 : decode cX11_copy 98 = .ok (.bipush (-13), 2) := by decide +kernel
theorem dX11_copy_100 : decode cX11_copy 100 = .ok (.ireturn, 1) := by decide +kernel
theorem dX11_copy_101 : decode cX11_copy 101 = .ok (.aload 6, 2) := by decide +kernel
theorem dX11_copy_103 : decode cX11_copy 103 = .ok (.getfield 218, 3) := by decide +kernel
theorem dX11_copy_106 : decode cX11_copy 106 = .ok (.iload_n 2, 1) := by decide +kernel
theorem dX11_copy_107 : decode cX11_copy 107 = .ok (.aload 7, 2) := by decide +kernel
theorem dX11_copy_109 : decode cX11_copy 109 = .ok (.getfield 218, 3) := by decide +kernel
theorem dX11_copy_112 : decode cX11_copy 112 = .ok (.iload 4, 2) := by decide +kernel
theorem dX11_copy_114 : decode cX11_copy 114 = .ok (.iload 5, 2) := by decide +kernel
theorem dX11_copy_116 : decode cX11_copy 116 = .ok (.invokestatic 333, 3) := by decide +kernel
theorem dX11_copy_119 : decode cX11_copy 119 = .ok (.iload 5, 2) := by decide +kernel
theorem dX11_copy_121 : decode cX11_copy 121 = .ok (.ireturn, 1) := by decide +kernel
theorem dX11_weight_0 : decode cX11_weight 0 = .ok (.aload_n 0, 1) := by decide +kernel
theorem dX11_weight_1 : decode cX11_weight 1 = .ok (.iload_n 1, 1) := by decide +kernel
theorem dX11_weight_2 : decode cX11_weight 2 = .ok (.invokevirtual 257, 3) := by decide +kernel
theorem dX11_weight_5 : decode cX11_weight 5 = .ok (.astore_n 2, 1) := by decide +kernel
theorem dX11_weight_6 : decode cX11_weight 6 = .ok (.aload_n 2, 1) := by decide +kernel
theorem dX11_weight_7 : decode cX11_weight 7 = .ok (.ifnonnull 9, 3) := by decide +kernel
theorem dX11_weight_10 : decode cX11_weight 10 = .ok (.aload_n 0, 1) := by decide +kernel
theorem dX11_weight_11 : decode cX11_weight 11 = .ok (.iload_n 1, 1) := by decide +kernel
theorem dX11_weight_12 : decode cX11_weight 12 = .ok (.invokevirtual 85, 3) := by decide +kernel
theorem dX11_weight_15 : decode cX11_weight 15 = .ok (.ireturn, 1) := by decide +kernel
theorem dX11_weight_16 : decode cX11_weight 16 = .ok (.aload_n 2, 1) := by decide +kernel
theorem dX11_weight_17 : decode cX11_weight 17 = .ok (.invokevirtual 339, 3) := by decide +kernel
theorem dX11_weight_20 : decode cX11_weight 20 = .ok (.ireturn, 1) := by decide +kernel
theorem dX11_toss_0 : decode cX11_toss 0 = .ok (.aload_n 0, 1) := by decide +kernel
theorem dX11_toss_1 : decode cX11_toss 1 = .ok (.iload_n 1, 1) := by decide +kernel
theorem dX11_toss_2 : decode cX11_toss 2 = .ok (.invokevirtual 257, 3) := by decide +kernel
theorem dX11_toss_5 : decode cX11_toss 5 = .ok (.astore_n 2, 1) := by decide +kernel
theorem dX11_toss_6 : decode cX11_toss 6 = .ok (.aload_n 2, 1) := by decide +kernel
theorem dX11_toss_7 : decode cX11_toss 7 = .ok (.ifnonnull 9, 3) := by decide +kernel
theorem dX11_toss_10 : decode cX11_toss 10 = .ok (.aload_n 0, 1) := by decide +kernel
theorem dX11_toss_11 : decode cX11_toss 11 = .ok (.iload_n 1, 1) := by decide +kernel
theorem dX11_toss_12 : decode cX11_toss 12 = .ok (.invokevirtual 85, 3) := by decide +kernel
theorem dX11_toss_15 : decode cX11_toss 15 = .ok (.ireturn, 1) := by decide +kernel
theorem dX11_toss_16 : decode cX11_toss 16 = .ok (.aload_n 2, 1) := by decide +kernel
theorem dX11_toss_17 : decode cX11_toss 17 = .ok (.invokevirtual 342, 3) := by decide +kernel
theorem dX11_toss_20 : decode cX11_toss 20 = .ok (.goto 28, 3) := by decide +kernel
theorem dX11_toss_23 : decode cX11_toss 23 = .ok (.astore_n 3, 1) := by decide +kernel
theorem dX11_toss_24 : decode cX11_toss 24 = .ok (.aload_n 2, 1) := by decide +kernel
theorem dX11_toss_25 : decode cX11_toss 25 = .ok (.getfield 347, 3) := by decide +kernel
theorem dX11_toss_28 : decode cX11_toss 28 = .ok (.bipush 100, 2) := by decide +kernel
theorem dX11_toss_30 : decode cX11_toss 30 = .ok (.iadd, 1) := by decide +kernel
theorem dX11_toss_31 : decode cX11_toss 31 = .ok (.ireturn, 1) := by decide +kernel
theorem dX11_toss_32 : decode cX11_toss 32 = .ok (.astore_n 3, 1) := by decide +kernel
theorem dX11_toss_33 : decode cX11_toss 33 = .ok (.aload_n 2, 1) := by decide +kernel
theorem dX11_toss_34 : decode cX11_toss 34 = .ok (.invokevirtual 339, 3) := by decide +kernel
theorem dX11_toss_37 : decode cX11_toss 37 = .ok (.sipush 200, 3) := by decide +kernel
theorem dX11_toss_40 : decode cX11_toss 40 = .ok (.iadd, 1) := by decide +kernel
theorem dX11_toss_41 : decode cX11_toss 41 = .ok (.ireturn, 1) := by decide +kernel
theorem dX11_toss_42 : decode cX11_toss 42 = .ok (.astore_n 3, 1) := by decide +kernel
theorem dX11_toss_43 : decode cX11_toss 43 = .ok (.aload_n 2, 1) := by decide +kernel
theorem dX11_toss_44 : decode cX11_toss 44 = .ok (.getfield 347, 3) := by decide +kernel
theorem dX11_toss_47 : decode cX11_toss 47 = .ok (.ireturn, 1) := by decide +kernel
theorem dX11_toss_48 : decode cX11_toss 48 = .ok (.bipush (-15), 2) := by decide +kernel
theorem dX11_toss_50 : decode cX11_toss 50 = .ok (.ireturn, 1) := by decide +kernel
theorem dX11_ruleOn_0 : decode cX11_ruleOn 0 = .ok (.iload_n 1, 1) := by decide +kernel
theorem dX11_ruleOn_1 : decode cX11_ruleOn 1 = .ok (.invokestatic 211, 3) := by decide +kernel
theorem dX11_ruleOn_4 : decode cX11_ruleOn 4 = .ok (.ifCond .eq 12, 3) := by decide +kernel
theorem dX11_ruleOn_7 : decode cX11_ruleOn 7 = .ok (.aload_n 0, 1) := by decide +kernel
theorem dX11_ruleOn_8 : decode cX11_ruleOn 8 = .ok (.getfield 67, 3) := by decide +kernel
theorem dX11_ruleOn_11 : decode cX11_ruleOn 11 = .ok (.iload_n 1, 1) := by decide +kernel
theorem dX11_ruleOn_12 : decode cX11_ruleOn 12 = .ok (.aaload, 1) := by decide +kernel
theorem dX11_ruleOn_13 : decode cX11_ruleOn 13 = .ok (.goto 4, 3) := by decide +kernel
theorem dX11_ruleOn_16 : decode cX11_ruleOn 16 = .ok (.aconst_null, 1) := by decide +kernel
theorem dX11_ruleOn_17 : decode cX11_ruleOn 17 = .ok (.areturn, 1) := by decide +kernel
theorem dX11_rowOn_0 : decode cX11_rowOn 0 = .ok (.iload_n 1, 1) := by decide +kernel
theorem dX11_rowOn_1 : decode cX11_rowOn 1 = .ok (.invokestatic 211, 3) := by decide +kernel
theorem dX11_rowOn_4 : decode cX11_rowOn 4 = .ok (.ifCond .eq 12, 3) := by decide +kernel
theorem dX11_rowOn_7 : decode cX11_rowOn 7 = .ok (.aload_n 0, 1) := by decide +kernel
theorem dX11_rowOn_8 : decode cX11_rowOn 8 = .ok (.getfield 73, 3) := by decide +kernel
theorem dX11_rowOn_11 : decode cX11_rowOn 11 = .ok (.iload_n 1, 1) := by decide +kernel
theorem dX11_rowOn_12 : decode cX11_rowOn 12 = .ok (.aaload, 1) := by decide +kernel
theorem dX11_rowOn_13 : decode cX11_rowOn 13 = .ok (.goto 4, 3) := by decide +kernel
theorem dX11_rowOn_16 : decode cX11_rowOn 16 = .ok (.aconst_null, 1) := by decide +kernel
theorem dX11_rowOn_17 : decode cX11_rowOn 17 = .ok (.areturn, 1) := by decide +kernel
theorem dX11_isEmpty_0 : decode cX11_isEmpty 0 = .ok (.aload_n 0, 1) := by decide +kernel
theorem dX11_isEmpty_1 : decode cX11_isEmpty 1 = .ok (.iload_n 1, 1) := by decide +kernel
theorem dX11_isEmpty_2 : decode cX11_isEmpty 2 = .ok (.invokevirtual 257, 3) := by decide +kernel
theorem dX11_isEmpty_5 : decode cX11_isEmpty 5 = .ok (.ifnonnull 15, 3) := by decide +kernel
theorem dX11_isEmpty_8 : decode cX11_isEmpty 8 = .ok (.aload_n 0, 1) := by decide +kernel
theorem dX11_isEmpty_9 : decode cX11_isEmpty 9 = .ok (.iload_n 1, 1) := by decide +kernel
theorem dX11_isEmpty_10 : decode cX11_isEmpty 10 = .ok (.invokevirtual 81, 3) := by decide +kernel
theorem dX11_isEmpty_13 : decode cX11_isEmpty 13 = .ok (.ifnonnull 7, 3) := by decide +kernel
theorem dX11_isEmpty_16 : decode cX11_isEmpty 16 = .ok (.iconst 1, 1) := by decide +kernel
theorem dX11_isEmpty_17 : decode cX11_isEmpty 17 = .ok (.goto 4, 3) := by decide +kernel
theorem dX11_isEmpty_20 : decode cX11_isEmpty 20 = .ok (.iconst 0, 1) := by decide +kernel
theorem dX11_isEmpty_21 : decode cX11_isEmpty 21 = .ok (.ireturn, 1) := by decide +kernel
theorem dX11_lackOn_0 : decode cX11_lackOn 0 = .ok (.iload_n 1, 1) := by decide +kernel
theorem dX11_lackOn_1 : decode cX11_lackOn 1 = .ok (.invokestatic 211, 3) := by decide +kernel
theorem dX11_lackOn_4 : decode cX11_lackOn 4 = .ok (.ifCond .ne 5, 3) := by decide +kernel
theorem dX11_lackOn_7 : decode cX11_lackOn 7 = .ok (.iconst (-1), 1) := by decide +kernel
theorem dX11_lackOn_8 : decode cX11_lackOn 8 = .ok (.ireturn, 1) := by decide +kernel
theorem dX11_lackOn_9 : decode cX11_lackOn 9 = .ok (.aload_n 0, 1) := by decide +kernel
theorem dX11_lackOn_10 : decode cX11_lackOn 10 = .ok (.iload_n 1, 1) := by decide +kernel
theorem dX11_lackOn_11 : decode cX11_lackOn 11 = .ok (.invokevirtual 326, 3) := by decide +kernel
theorem dX11_lackOn_14 : decode cX11_lackOn 14 = .ok (.ifCond .eq 8, 3) := by decide +kernel
theorem dX11_lackOn_17 : decode cX11_lackOn 17 = .ok (.bipush (-11), 2) := by decide +kernel
theorem dX11_lackOn_19 : decode cX11_lackOn 19 = .ok (.goto 5, 3) := by decide +kernel
theorem dX11_lackOn_22 : decode cX11_lackOn 22 = .ok (.bipush (-12), 2) := by decide +kernel
theorem dX11_lackOn_24 : decode cX11_lackOn 24 = .ok (.ireturn, 1) := by decide +kernel
theorem dX11_isAnswer_0 : decode cX11_isAnswer 0 = .ok (.iload_n 1, 1) := by decide +kernel
theorem dX11_isAnswer_1 : decode cX11_isAnswer 1 = .ok (.iconst (-1), 1) := by decide +kernel
theorem dX11_isAnswer_2 : decode cX11_isAnswer 2 = .ok (.if_icmp .eq 14, 3) := by decide +kernel
theorem dX11_isAnswer_5 : decode cX11_isAnswer 5 = .ok (.aload_n 0, 1) := by decide +kernel
theorem dX11_isAnswer_6 : decode cX11_isAnswer 6 = .ok (.getfield 20, 3) := by decide +kernel
theorem dX11_isAnswer_9 : decode cX11_isAnswer 9 = .ok (.iload_n 1, 1) := by decide +kernel
theorem dX11_isAnswer_10 : decode cX11_isAnswer 10 = .ok (.invokevirtual 121, 3) := by decide +kernel
theorem dX11_isAnswer_13 : decode cX11_isAnswer 13 = .ok (.ifCond .eq 7, 3) := by decide +kernel
theorem dX11_isAnswer_16 : decode cX11_isAnswer 16 = .ok (.iconst 1, 1) := by decide +kernel
theorem dX11_isAnswer_17 : decode cX11_isAnswer 17 = .ok (.goto 4, 3) := by decide +kernel
theorem dX11_isAnswer_20 : decode cX11_isAnswer 20 = .ok (.iconst 0, 1) := by decide +kernel
theorem dX11_isAnswer_21 : decode cX11_isAnswer 21 = .ok (.ireturn, 1) := by decide +kernel
theorem dX11_isShelf_0 : decode cX11_isShelf 0 = .ok (.iload_n 0, 1) := by decide +kernel
theorem dX11_isShelf_1 : decode cX11_isShelf 1 = .ok (.ifCond .lt 13, 3) := by decide +kernel
theorem dX11_isShelf_4 : decode cX11_isShelf 4 = .ok (.iload_n 0, 1) := by decide +kernel
theorem dX11_isShelf_5 : decode cX11_isShelf 5 = .ok (.bipush 8, 2) := by decide +kernel
theorem dX11_isShelf_7 : decode cX11_isShelf 7 = .ok (.if_icmp .ge 7, 3) := by decide +kernel
theorem dX11_isShelf_10 : decode cX11_isShelf 10 = .ok (.iconst 1, 1) := by decide +kernel
theorem dX11_isShelf_11 : decode cX11_isShelf 11 = .ok (.goto 4, 3) := by decide +kernel
theorem dX11_isShelf_14 : decode cX11_isShelf 14 = .ok (.iconst 0, 1) := by decide +kernel
theorem dX11_isShelf_15 : decode cX11_isShelf 15 = .ok (.ireturn, 1) := by decide +kernel
theorem dX11_isCrossing_0 : decode cX11_isCrossing 0 = .ok (.iload_n 0, 1) := by decide +kernel
theorem dX11_isCrossing_1 : decode cX11_isCrossing 1 = .ok (.ifCond .lt 13, 3) := by decide +kernel
theorem dX11_isCrossing_4 : decode cX11_isCrossing 4 = .ok (.iload_n 0, 1) := by decide +kernel
theorem dX11_isCrossing_5 : decode cX11_isCrossing 5 = .ok (.bipush 8, 2) := by decide +kernel
theorem dX11_isCrossing_7 : decode cX11_isCrossing 7 = .ok (.if_icmp .ge 7, 3) := by decide +kernel
theorem dX11_isCrossing_10 : decode cX11_isCrossing 10 = .ok (.iconst 1, 1) := by decide +kernel
theorem dX11_isCrossing_11 : decode cX11_isCrossing 11 = .ok (.goto 4, 3) := by decide +kernel
theorem dX11_isCrossing_14 : decode cX11_isCrossing 14 = .ok (.iconst 0, 1) := by decide +kernel
theorem dX11_isCrossing_15 : decode cX11_isCrossing 15 = .ok (.ireturn, 1) := by decide +kernel
theorem dX11_isSeeds_0 : decode cX11_isSeeds 0 = .ok (.iload_n 0, 1) := by decide +kernel
theorem dX11_isSeeds_1 : decode cX11_isSeeds 1 = .ok (.iconst 1, 1) := by decide +kernel
theorem dX11_isSeeds_2 : decode cX11_isSeeds 2 = .ok (.if_icmp .lt 13, 3) := by decide +kernel
theorem dX11_isSeeds_5 : decode cX11_isSeeds 5 = .ok (.iload_n 0, 1) := by decide +kernel
theorem dX11_isSeeds_6 : decode cX11_isSeeds 6 = .ok (.bipush 20, 2) := by decide +kernel
theorem dX11_isSeeds_8 : decode cX11_isSeeds 8 = .ok (.if_icmp .gt 7, 3) := by decide +kernel
theorem dX11_isSeeds_11 : decode cX11_isSeeds 11 = .ok (.iconst 1, 1) := by decide +kernel
theorem dX11_isSeeds_12 : decode cX11_isSeeds 12 = .ok (.goto 4, 3) := by decide +kernel
theorem dX11_isSeeds_15 : decode cX11_isSeeds 15 = .ok (.iconst 0, 1) := by decide +kernel
theorem dX11_isSeeds_16 : decode cX11_isSeeds 16 = .ok (.ireturn, 1) := by decide +kernel
theorem dX11_isFigure_0 : decode cX11_isFigure 0 = .ok (.iload_n 0, 1) := by decide +kernel
theorem dX11_isFigure_1 : decode cX11_isFigure 1 = .ok (.ifCond .lt 13, 3) := by decide +kernel
theorem dX11_isFigure_4 : decode cX11_isFigure 4 = .ok (.iload_n 0, 1) := by decide +kernel
theorem dX11_isFigure_5 : decode cX11_isFigure 5 = .ok (.bipush 99, 2) := by decide +kernel
theorem dX11_isFigure_7 : decode cX11_isFigure 7 = .ok (.if_icmp .gt 7, 3) := by decide +kernel
theorem dX11_isFigure_10 : decode cX11_isFigure 10 = .ok (.iconst 1, 1) := by decide +kernel
theorem dX11_isFigure_11 : decode cX11_isFigure 11 = .ok (.goto 4, 3) := by decide +kernel
theorem dX11_isFigure_14 : decode cX11_isFigure 14 = .ok (.iconst 0, 1) := by decide +kernel
theorem dX11_isFigure_15 : decode cX11_isFigure 15 = .ok (.ireturn, 1) := by decide +kernel
theorem dX11_isRuleKind_0 : decode cX11_isRuleKind 0 = .ok (.iload_n 0, 1) := by decide +kernel
theorem dX11_isRuleKind_1 : decode cX11_isRuleKind 1 = .ok (.ifCond .lt 13, 3) := by decide +kernel
theorem dX11_isRuleKind_4 : decode cX11_isRuleKind 4 = .ok (.iload_n 0, 1) := by decide +kernel
theorem dX11_isRuleKind_5 : decode cX11_isRuleKind 5 = .ok (.bipush 6, 2) := by decide +kernel
theorem dX11_isRuleKind_7 : decode cX11_isRuleKind 7 = .ok (.if_icmp .ge 7, 3) := by decide +kernel
theorem dX11_isRuleKind_10 : decode cX11_isRuleKind 10 = .ok (.iconst 1, 1) := by decide +kernel
theorem dX11_isRuleKind_11 : decode cX11_isRuleKind 11 = .ok (.goto 4, 3) := by decide +kernel
theorem dX11_isRuleKind_14 : decode cX11_isRuleKind 14 = .ok (.iconst 0, 1) := by decide +kernel
theorem dX11_isRuleKind_15 : decode cX11_isRuleKind 15 = .ok (.ireturn, 1) := by decide +kernel
theorem dX11_ruleOf_0 : decode cX11_ruleOf 0 = .ok (.iload_n 0, 1) := by decide +kernel
theorem dX11_ruleOf_1 : decode cX11_ruleOf 1 = .ok (.tableswitch 80 1 5 #[35, 44, 53, 62, 71], 35) := by decide +kernel
theorem dX11_ruleOf_36 : decode cX11_ruleOf 36 = .ok (.new 352, 3) := by decide +kernel
theorem dX11_ruleOf_39 : decode cX11_ruleOf 39 = .ok (.dup, 1) := by decide +kernel
theorem dX11_ruleOf_40 : decode cX11_ruleOf 40 = .ok (.iload_n 1, 1) := by decide +kernel
theorem dX11_ruleOf_41 : decode cX11_ruleOf 41 = .ok (.invokespecial 354, 3) := by decide +kernel
theorem dX11_ruleOf_44 : decode cX11_ruleOf 44 = .ok (.areturn, 1) := by decide +kernel
theorem dX11_ruleOf_45 : decode cX11_ruleOf 45 = .ok (.new 355, 3) := by decide +kernel
theorem dX11_ruleOf_48 : decode cX11_ruleOf 48 = .ok (.dup, 1) := by decide +kernel
theorem dX11_ruleOf_49 : decode cX11_ruleOf 49 = .ok (.iload_n 1, 1) := by decide +kernel
theorem dX11_ruleOf_50 : decode cX11_ruleOf 50 = .ok (.invokespecial 357, 3) := by decide +kernel
theorem dX11_ruleOf_53 : decode cX11_ruleOf 53 = .ok (.areturn, 1) := by decide +kernel
theorem dX11_ruleOf_54 : decode cX11_ruleOf 54 = .ok (.new 61, 3) := by decide +kernel
theorem dX11_ruleOf_57 : decode cX11_ruleOf 57 = .ok (.dup, 1) := by decide +kernel
theorem dX11_ruleOf_58 : decode cX11_ruleOf 58 = .ok (.iload_n 1, 1) := by decide +kernel
theorem dX11_ruleOf_59 : decode cX11_ruleOf 59 = .ok (.invokespecial 63, 3) := by decide +kernel
theorem dX11_ruleOf_62 : decode cX11_ruleOf 62 = .ok (.areturn, 1) := by decide +kernel
theorem dX11_ruleOf_63 : decode cX11_ruleOf 63 = .ok (.new 358, 3) := by decide +kernel
theorem dX11_ruleOf_66 : decode cX11_ruleOf 66 = .ok (.dup, 1) := by decide +kernel
theorem dX11_ruleOf_67 : decode cX11_ruleOf 67 = .ok (.iload_n 1, 1) := by decide +kernel
theorem dX11_ruleOf_68 : decode cX11_ruleOf 68 = .ok (.invokespecial 360, 3) := by decide +kernel
theorem dX11_ruleOf_71 : decode cX11_ruleOf 71 = .ok (.areturn, 1) := by decide +kernel
theorem dX11_ruleOf_72 : decode cX11_ruleOf 72 = .ok (.new 361, 3) := by decide +kernel
theorem dX11_ruleOf_75 : decode cX11_ruleOf 75 = .ok (.dup, 1) := by decide +kernel
theorem dX11_ruleOf_76 : decode cX11_ruleOf 76 = .ok (.iload_n 1, 1) := by decide +kernel
theorem dX11_ruleOf_77 : decode cX11_ruleOf 77 = .ok (.invokespecial 363, 3) := by decide +kernel
theorem dX11_ruleOf_80 : decode cX11_ruleOf 80 = .ok (.areturn, 1) := by decide +kernel
theorem dX11_ruleOf_81 : decode cX11_ruleOf 81 = .ok (.new 52, 3) := by decide +kernel
theorem dX11_ruleOf_84 : decode cX11_ruleOf 84 = .ok (.dup, 1) := by decide +kernel
theorem dX11_ruleOf_85 : decode cX11_ruleOf 85 = .ok (.iload_n 1, 1) := by decide +kernel
theorem dX11_ruleOf_86 : decode cX11_ruleOf 86 = .ok (.invokespecial 54, 3) := by decide +kernel
theorem dX11_ruleOf_89 : decode cX11_ruleOf 89 = .ok (.areturn, 1) := by decide +kernel
