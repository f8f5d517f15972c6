theorem dX12_best_101 : decode cX12_best 101 = .ok (.ifCond .eq 29, 3) := by decide +kernel
theorem dX12_best_104 : decode cX12_best 104 = .ok (.aload_n 0, 1) := by decide +kernel
theorem dX12_best_105 : decode cX12_best 105 = .ok (.getfield 96, 3) := by decide +kernel
theorem dX12_best_108 : decode cX12_best 108 = .ok (.bipush 100, 2) := by decide +kernel
theorem dX12_best_110 : decode cX12_best 110 = .ok (.iload_n 1, 1) := by decide +kernel
theorem dX12_best_111 : decode cX12_best 111 = .ok (.imul, 1) := by decide +kernel
theorem dX12_best_112 : decode cX12_best 112 = .ok (.iload 6, 2) := by decide +kernel
theorem dX12_best_114 : decode cX12_best 114 = .ok (.iadd, 1) := by decide +kernel
theorem dX12_best_115 : decode cX12_best 115 = .ok (.laload, 1) := by decide +kernel
theorem dX12_best_116 : decode cX12_best 116 = .ok (.lconst 0, 1) := by decide +kernel
theorem dX12_best_117 : decode cX12_best 117 = .ok (.ldc2_w 332, 3) := by decide +kernel
theorem dX12_best_120 : decode cX12_best 120 = .ok (.invokestatic 107, 3) := by decide +kernel
theorem dX12_best_123 : decode cX12_best 123 = .ok (.ifCond .eq 7, 3) := by decide +kernel
theorem dX12_best_126 : decode cX12_best 126 = .ok (.iconst 1, 1) := by decide +kernel
theorem dX12_best_127 : decode cX12_best 127 = .ok (.goto 4, 3) := by decide +kernel
theorem dX12_best_130 : decode cX12_best 130 = .ok (.iconst 0, 1) := by decide +kernel
theorem dX12_best_131 : decode cX12_best 131 = .ok (.istore 5, 2) := by decide +kernel
theorem dX12_best_133 : decode cX12_best 133 = .ok (.iinc 6 1, 3) := by decide +kernel
theorem dX12_best_136 : decode cX12_best 136 = .ok (.goto (-48), 3) := by decide +kernel
theorem dX12_best_139 : decode cX12_best 139 = .ok (.iload 5, 2) := by decide +kernel
theorem dX12_best_141 : decode cX12_best 141 = .ok (.ifCond .ne 6, 3) := by decide +kernel
theorem dX12_best_144 : decode cX12_best 144 = .ok (.bipush (-13), 2) := by decide +kernel
theorem dX12_best_146 : decode cX12_best 146 = .ok (.ireturn, 1) := by decide +kernel
theorem dX12_best_147 : decode cX12_best 147 = .ok (.aload_n 0, 1) := by decide +kernel
theorem dX12_best_148 : decode cX12_best 148 = .ok (.invokevirtual 236, 3) := by decide +kernel
theorem dX12_best_151 : decode cX12_best 151 = .ok (.ifCond .ne 6, 3) := by decide +kernel
theorem dX12_best_154 : decode cX12_best 154 = .ok (.bipush (-3), 2) := by decide +kernel
theorem dX12_best_156 : decode cX12_best 156 = .ok (.ireturn, 1) := by decide +kernel
theorem dX12_best_157 : decode cX12_best 157 = .ok (.aload_n 0, 1) := by decide +kernel
theorem dX12_best_158 : decode cX12_best 158 = .ok (.invokevirtual 205, 3) := by decide +kernel
theorem dX12_best_161 : decode cX12_best 161 = .ok (.iconst (-1), 1) := by decide +kernel
theorem dX12_best_162 : decode cX12_best 162 = .ok (.istore 6, 2) := by decide +kernel
theorem dX12_best_164 : decode cX12_best 164 = .ok (.iconst 0, 1) := by decide +kernel
theorem dX12_best_165 : decode cX12_best 165 = .ok (.istore 7, 2) := by decide +kernel
theorem dX12_best_167 : decode cX12_best 167 = .ok (.iconst 0, 1) := by decide +kernel
theorem dX12_best_168 : decode cX12_best 168 = .ok (.istore 8, 2) := by decide +kernel
theorem dX12_best_170 : decode cX12_best 170 = .ok (.iload 8, 2) := by decide +kernel
theorem dX12_best_172 : decode cX12_best 172 = .ok (.aload_n 0, 1) := by decide +kernel
theorem dX12_best_173 : decode cX12_best 173 = .ok (.getfield 93, 3) := by decide +kernel
theorem dX12_best_176 : decode cX12_best 176 = .ok (.iload_n 1, 1) := by decide +kernel
theorem dX12_best_177 : decode cX12_best 177 = .ok (.iaload, 1) := by decide +kernel
theorem dX12_best_178 : decode cX12_best 178 = .ok (.if_icmp .ge 52, 3) := by decide +kernel
theorem dX12_best_181 : decode cX12_best 181 = .ok (.aload_n 0, 1) := by decide +kernel
theorem dX12_best_182 : decode cX12_best 182 = .ok (.aload_n 0, 1) := by decide +kernel
theorem dX12_best_183 : decode cX12_best 183 = .ok (.getfield 96, 3) := by decide +kernel
theorem dX12_best_186 : decode cX12_best 186 = .ok (.bipush 100, 2) := by decide +kernel
theorem dX12_best_188 : decode cX12_best 188 = .ok (.iload_n 1, 1) := by decide +kernel
theorem dX12_best_189 : decode cX12_best 189 = .ok (.imul, 1) := by decide +kernel
theorem dX12_best_190 : decode cX12_best 190 = .ok (.iload 8, 2) := by decide +kernel
theorem dX12_best_192 : decode cX12_best 192 = .ok (.iadd, 1) := by decide +kernel
theorem dX12_best_193 : decode cX12_best 193 = .ok (.laload, 1) := by decide +kernel
theorem dX12_best_194 : decode cX12_best 194 = .ok (.l2i, 1) := by decide +kernel
theorem dX12_best_195 : decode cX12_best 195 = .ok (.iload_n 2, 1) := by decide +kernel
theorem dX12_best_196 : decode cX12_best 196 = .ok (.iload_n 3, 1) := by decide +kernel
theorem dX12_best_197 : decode cX12_best 197 = .ok (.iload 4, 2) := by decide +kernel
theorem dX12_best_199 : decode cX12_best 199 = .ok (.invokevirtual 322, 3) := by decide +kernel
theorem dX12_best_202 : decode cX12_best 202 = .ok (.istore 9, 2) := by decide +kernel
theorem dX12_best_204 : decode cX12_best 204 = .ok (.iload 6, 2) := by decide +kernel
theorem dX12_best_206 : decode cX12_best 206 = .ok (.ifCond .lt 10, 3) := by decide +kernel
theorem dX12_best_209 : decode cX12_best 209 = .ok (.iload 9, 2) := by decide +kernel
theorem dX12_best_211 : decode cX12_best 211 = .ok (.iload 7, 2) := by decide +kernel
theorem dX12_best_213 : decode cX12_best 213 = .ok (.if_icmp .ge 11, 3) := by decide +kernel
theorem dX12_best_216 : decode cX12_best 216 = .ok (.iload 8, 2) := by decide +kernel
theorem dX12_best_218 : decode cX12_best 218 = .ok (.istore 6, 2) := by decide +kernel
theorem dX12_best_220 : decode cX12_best 220 = .ok (.iload 9, 2) := by decide +kernel
theorem dX12_best_222 : decode cX12_best 222 = .ok (.istore 7, 2) := by decide +kernel
theorem dX12_best_224 : decode cX12_best 224 = .ok (.iinc 8 1, 3) := by decide +kernel
theorem dX12_best_227 : decode cX12_best 227 = .ok (.goto (-57), 3) := by decide +kernel
theorem dX12_best_230 : decode cX12_best 230 = .ok (.iload 6, 2) := by decide +kernel
theorem dX12_best_232 : decode cX12_best 232 = .ok (.ireturn, 1) := by decide +kernel
theorem dX12_post_0 : decode cX12_post 0 = .ok (.aload_n 0, 1) := by decide +kernel
theorem dX12_post_1 : decode cX12_post 1 = .ok (.iconst 0, 1) := by decide +kernel
theorem dX12_post_2 : decode cX12_post 2 = .ok (.putfield 102, 3) := by decide +kernel
theorem dX12_post_5 : decode cX12_post 5 = .ok (.iload_n 1, 1) := by decide +kernel
theorem dX12_post_6 : decode cX12_post 6 = .ok (.i2l, 1) := by decide +kernel
theorem dX12_post_7 : decode cX12_post 7 = .ok (.lconst 1, 1) := by decide +kernel
theorem dX12_post_8 : decode cX12_post 8 = .ok (.ldc2_w 317, 3) := by decide +kernel
theorem dX12_post_11 : decode cX12_post 11 = .ok (.invokestatic 107, 3) := by decide +kernel
theorem dX12_post_14 : decode cX12_post 14 = .ok (.ifCond .ne 5, 3) := by decide +kernel
theorem dX12_post_17 : decode cX12_post 17 = .ok (.iconst (-1), 1) := by decide +kernel
theorem dX12_post_18 : decode cX12_post 18 = .ok (.ireturn, 1) := by decide +kernel
theorem dX12_post_19 : decode cX12_post 19 = .ok (.aload_n 0, 1) := by decide +kernel
theorem dX12_post_20 : decode cX12_post 20 = .ok (.invokevirtual 236, 3) := by decide +kernel
theorem dX12_post_23 : decode cX12_post 23 = .ok (.ifCond .ne 6, 3) := by decide +kernel
theorem dX12_post_26 : decode cX12_post 26 = .ok (.bipush (-3), 2) := by decide +kernel
theorem dX12_post_28 : decode cX12_post 28 = .ok (.ireturn, 1) := by decide +kernel
theorem dX12_post_29 : decode cX12_post 29 = .ok (.aload_n 0, 1) := by decide +kernel
theorem dX12_post_30 : decode cX12_post 30 = .ok (.invokevirtual 205, 3) := by decide +kernel
theorem dX12_post_33 : decode cX12_post 33 = .ok (.iconst (-1), 1) := by decide +kernel
theorem dX12_post_34 : decode cX12_post 34 = .ok (.istore_n 3, 1) := by decide +kernel
theorem dX12_post_35 : decode cX12_post 35 = .ok (.iconst 0, 1) := by decide +kernel
theorem dX12_post_36 : decode cX12_post 36 = .ok (.istore 4, 2) := by decide +kernel
theorem dX12_post_38 : decode cX12_post 38 = .ok (.iconst 0, 1) := by decide +kernel
theorem dX12_post_39 : decode cX12_post 39 = .ok (.istore 5, 2) := by decide +kernel
theorem dX12_post_41 : decode cX12_post 41 = .ok (.iload 5, 2) := by decide +kernel
theorem dX12_post_43 : decode cX12_post 43 = .ok (.bipush 8, 2) := by decide +kernel
theorem dX12_post_45 : decode cX12_post 45 = .ok (.if_icmp .ge 43, 3) := by decide +kernel
theorem dX12_post_48 : decode cX12_post 48 = .ok (.aload_n 0, 1) := by decide +kernel
theorem dX12_post_49 : decode cX12_post 49 = .ok (.iload 5, 2) := by decide +kernel
theorem dX12_post_51 : decode cX12_post 51 = .ok (.putfield 66, 3) := by decide +kernel
theorem dX12_post_54 : decode cX12_post 54 = .ok (.aload_n 0, 1) := by decide +kernel
theorem dX12_post_55 : decode cX12_post 55 = .ok (.iconst 3, 1) := by decide +kernel
theorem dX12_post_56 : decode cX12_post 56 = .ok (.iconst 0, 1) := by decide +kernel
theorem dX12_post_57 : decode cX12_post 57 = .ok (.iload_n 1, 1) := by decide +kernel
theorem dX12_post_58 : decode cX12_post 58 = .ok (.iload_n 2, 1) := by decide +kernel
theorem dX12_post_59 : decode cX12_post 59 = .ok (.invokevirtual 322, 3) := by decide +kernel
theorem dX12_post_62 : decode cX12_post 62 = .ok (.istore 6, 2) := by decide +kernel
theorem dX12_post_64 : decode cX12_post 64 = .ok (.iload_n 3, 1) := by decide +kernel
theorem dX12_post_65 : decode cX12_post 65 = .ok (.ifCond .lt 10, 3) := by decide +kernel
theorem dX12_post_68 : decode cX12_post 68 = .ok (.iload 6, 2) := by decide +kernel
theorem dX12_post_70 : decode cX12_post 70 = .ok (.iload 4, 2) := by decide +kernel
theorem dX12_post_72 : decode cX12_post 72 = .ok (.if_icmp .ge 10, 3) := by decide +kernel
theorem dX12_post_75 : decode cX12_post 75 = .ok (.iload 5, 2) := by decide +kernel
theorem dX12_post_77 : decode cX12_post 77 = .ok (.istore_n 3, 1) := by decide +kernel
theorem dX12_post_78 : decode cX12_post 78 = .ok (.iload 6, 2) := by decide +kernel
theorem dX12_post_80 : decode cX12_post 80 = .ok (.istore 4, 2) := by decide +kernel
theorem dX12_post_82 : decode cX12_post 82 = .ok (.iinc 5 1, 3) := by decide +kernel
theorem dX12_post_85 : decode cX12_post 85 = .ok (.goto (-44), 3) := by decide +kernel
theorem dX12_post_88 : decode cX12_post 88 = .ok (.aload_n 0, 1) := by decide +kernel
theorem dX12_post_89 : decode cX12_post 89 = .ok (.iconst (-1), 1) := by decide +kernel
theorem dX12_post_90 : decode cX12_post 90 = .ok (.putfield 66, 3) := by decide +kernel
theorem dX12_post_93 : decode cX12_post 93 = .ok (.iload_n 3, 1) := by decide +kernel
theorem dX12_post_94 : decode cX12_post 94 = .ok (.ireturn, 1) := by decide +kernel
theorem dX12_moveLong_0 : decode cX12_moveLong 0 = .ok (.aload_n 0, 1) := by decide +kernel
theorem dX12_moveLong_1 : decode cX12_moveLong 1 = .ok (.getfield 334, 3) := by decide +kernel
theorem dX12_moveLong_4 : decode cX12_moveLong 4 = .ok (.ifCond .eq 13, 3) := by decide +kernel
theorem dX12_moveLong_7 : decode cX12_moveLong 7 = .ok (.aload_n 0, 1) := by decide +kernel
theorem dX12_moveLong_8 : decode cX12_moveLong 8 = .ok (.getfield 78, 3) := by decide +kernel
theorem dX12_moveLong_11 : decode cX12_moveLong 11 = .ok (.aload_n 0, 1) := by decide +kernel
theorem dX12_moveLong_12 : decode cX12_moveLong 12 = .ok (.getfield 337, 3) := by decide +kernel
theorem dX12_moveLong_15 : decode cX12_moveLong 15 = .ok (.lload_n 1, 1) := by decide +kernel
theorem dX12_moveLong_16 : decode cX12_moveLong 16 = .ok (.lastore, 1) := by decide +kernel
theorem dX12_moveLong_17 : decode cX12_moveLong 17 = .ok (.aload_n 0, 1) := by decide +kernel
theorem dX12_moveLong_18 : decode cX12_moveLong 18 = .ok (.dup, 1) := by decide +kernel
theorem dX12_moveLong_19 : decode cX12_moveLong 19 = .ok (.getfield 337, 3) := by decide +kernel
theorem dX12_moveLong_22 : decode cX12_moveLong 22 = .ok (.iconst 1, 1) := by decide +kernel
theorem dX12_moveLong_23 : decode cX12_moveLong 23 = .ok (.iadd, 1) := by decide +kernel
theorem dX12_moveLong_24 : decode cX12_moveLong 24 = .ok (.putfield 337, 3) := by decide +kernel
theorem dX12_moveLong_27 : decode cX12_moveLong 27 = .ok (.aload_n 0, 1) := by decide +kernel
theorem dX12_moveLong_28 : decode cX12_moveLong 28 = .ok (.getfield 78, 3) := by decide +kernel
theorem dX12_moveLong_31 : decode cX12_moveLong 31 = .ok (.aload_n 0, 1) := by decide +kernel
theorem dX12_moveLong_32 : decode cX12_moveLong 32 = .ok (.getfield 337, 3) := by decide +kernel
theorem dX12_moveLong_35 : decode cX12_moveLong 35 = .ok (.iconst 1, 1) := by decide +kernel
theorem dX12_moveLong_36 : decode cX12_moveLong 36 = .ok (.isub, 1) := by decide +kernel
theorem dX12_moveLong_37 : decode cX12_moveLong 37 = .ok (.laload, 1) := by decide +kernel
theorem dX12_moveLong_38 : decode cX12_moveLong 38 = .ok (.lreturn, 1) := by decide +kernel
theorem dX12_move_0 : decode cX12_move 0 = .ok (.aload_n 0, 1) := by decide +kernel
theorem dX12_move_1 : decode cX12_move 1 = .ok (.iload_n 1, 1) := by decide +kernel
theorem dX12_move_2 : decode cX12_move 2 = .ok (.i2l, 1) := by decide +kernel
theorem dX12_move_3 : decode cX12_move 3 = .ok (.invokevirtual 340, 3) := by decide +kernel
theorem dX12_move_6 : decode cX12_move 6 = .ok (.l2i, 1) := by decide +kernel
theorem dX12_move_7 : decode cX12_move 7 = .ok (.ireturn, 1) := by decide +kernel
theorem dX12_moveAll_0 : decode cX12_moveAll 0 = .ok (.aload_n 0, 1) := by decide +kernel
theorem dX12_moveAll_1 : decode cX12_moveAll 1 = .ok (.iconst 0, 1) := by decide +kernel
theorem dX12_moveAll_2 : decode cX12_moveAll 2 = .ok (.putfield 337, 3) := by decide +kernel
theorem dX12_moveAll_5 : decode cX12_moveAll 5 = .ok (.aload_n 0, 1) := by decide +kernel
theorem dX12_moveAll_6 : decode cX12_moveAll 6 = .ok (.aload_n 0, 1) := by decide +kernel
theorem dX12_moveAll_7 : decode cX12_moveAll 7 = .ok (.aload_n 0, 1) := by decide +kernel
theorem dX12_moveAll_8 : decode cX12_moveAll 8 = .ok (.getfield 153, 3) := by decide +kernel
theorem dX12_moveAll_11 : decode cX12_moveAll 11 = .ok (.invokevirtual 344, 3) := by decide +kernel
theorem dX12_moveAll_14 : decode cX12_moveAll 14 = .ok (.putfield 153, 3) := by decide +kernel
theorem dX12_moveAll_17 : decode cX12_moveAll 17 = .ok (.aload_n 0, 1) := by decide +kernel
theorem dX12_moveAll_18 : decode cX12_moveAll 18 = .ok (.aload_n 0, 1) := by decide +kernel
theorem dX12_moveAll_19 : decode cX12_moveAll 19 = .ok (.aload_n 0, 1) := by decide +kernel
theorem dX12_moveAll_20 : decode cX12_moveAll 20 = .ok (.getfield 111, 3) := by decide +kernel
theorem dX12_moveAll_23 : decode cX12_moveAll 23 = .ok (.invokevirtual 344, 3) := by decide +kernel
theorem dX12_moveAll_26 : decode cX12_moveAll 26 = .ok (.putfield 111, 3) := by decide +kernel
theorem dX12_moveAll_29 : decode cX12_moveAll 29 = .ok (.aload_n 0, 1) := by decide +kernel
theorem dX12_moveAll_30 : decode cX12_moveAll 30 = .ok (.aload_n 0, 1) := by decide +kernel
theorem dX12_moveAll_31 : decode cX12_moveAll 31 = .ok (.aload_n 0, 1) := by decide +kernel
theorem dX12_moveAll_32 : decode cX12_moveAll 32 = .ok (.getfield 159, 3) := by decide +kernel
theorem dX12_moveAll_35 : decode cX12_moveAll 35 = .ok (.invokevirtual 344, 3) := by decide +kernel
theorem dX12_moveAll_38 : decode cX12_moveAll 38 = .ok (.putfield 159, 3) := by decide +kernel
theorem dX12_moveAll_41 : decode cX12_moveAll 41 = .ok (.aload_n 0, 1) := by decide +kernel
theorem dX12_moveAll_42 : decode cX12_moveAll 42 = .ok (.aload_n 0, 1) := by decide +kernel
theorem dX12_moveAll_43 : decode cX12_moveAll 43 = .ok (.aload_n 0, 1) := by decide +kernel
theorem dX12_moveAll_44 : decode cX12_moveAll 44 = .ok (.getfield 166, 3) := by decide +kernel
theorem dX12_moveAll_47 : decode cX12_moveAll 47 = .ok (.invokevirtual 344, 3) := by decide +kernel
theorem dX12_moveAll_50 : decode cX12_moveAll 50 = .ok (.putfield 166, 3) := by decide +kernel
theorem dX12_moveAll_53 : decode cX12_moveAll 53 = .ok (.aload_n 0, 1) := by decide +kernel
theorem dX12_moveAll_54 : decode cX12_moveAll 54 = .ok (.aload_n 0, 1) := by decide +kernel
theorem dX12_moveAll_55 : decode cX12_moveAll 55 = .ok (.aload_n 0, 1) := by decide +kernel
theorem dX12_moveAll_56 : decode cX12_moveAll 56 = .ok (.getfield 37, 3) := by decide +kernel
theorem dX12_moveAll_59 : decode cX12_moveAll 59 = .ok (.invokevirtual 344, 3) := by decide +kernel
theorem dX12_moveAll_62 : decode cX12_moveAll 62 = .ok (.putfield 37, 3) := by decide +kernel
theorem dX12_moveAll_65 : decode cX12_moveAll 65 = .ok (.iconst 0, 1) := by decide +kernel
theorem dX12_moveAll_66 : decode cX12_moveAll 66 = .ok (.istore_n 1, 1) := by decide +kernel
theorem dX12_moveAll_67 : decode cX12_moveAll 67 = .ok (.iload_n 1, 1) := by decide +kernel
theorem dX12_moveAll_68 : decode cX12_moveAll 68 = .ok (.bipush 16, 2) := by decide +kernel
theorem dX12_moveAll_70 : decode cX12_moveAll 70 = .ok (.if_icmp .ge 57, 3) := by decide +kernel
theorem dX12_moveAll_73 : decode cX12_moveAll 73 = .ok (.aload_n 0, 1) := by decide +kernel
theorem dX12_moveAll_74 : decode cX12_moveAll 74 = .ok (.getfield 7, 3) := by decide +kernel
theorem dX12_moveAll_77 : decode cX12_moveAll 77 = .ok (.iload_n 1, 1) := by decide +kernel
theorem dX12_moveAll_78 : decode cX12_moveAll 78 = .ok (.aload_n 0, 1) := by decide +kernel
theorem dX12_moveAll_79 : decode cX12_moveAll 79 = .ok (.aload_n 0, 1) := by decide +kernel
theorem dX12_moveAll_80 : decode cX12_moveAll 80 = .ok (.getfield 7, 3) := by decide +kernel
theorem dX12_moveAll_83 : decode cX12_moveAll 83 = .ok (.iload_n 1, 1) := by decide +kernel
theorem dX12_moveAll_84 : decode cX12_moveAll 84 = .ok (.iaload, 1) := by decide +kernel
theorem dX12_moveAll_85 : decode cX12_moveAll 85 = .ok (.invokevirtual 344, 3) := by decide +kernel
theorem dX12_moveAll_88 : decode cX12_moveAll 88 = .ok (.iastore, 1) := by decide +kernel
theorem dX12_moveAll_89 : decode cX12_moveAll 89 = .ok (.aload_n 0, 1) := by decide +kernel
theorem dX12_moveAll_90 : decode cX12_moveAll 90 = .ok (.getfield 13, 3) := by decide +kernel
theorem dX12_moveAll_93 : decode cX12_moveAll 93 = .ok (.iload_n 1, 1) := by decide +kernel
theorem dX12_moveAll_94 : decode cX12_moveAll 94 = .ok (.aload_n 0, 1) := by decide +kernel
theorem dX12_moveAll_95 : decode cX12_moveAll 95 = .ok (.aload_n 0, 1) := by decide +kernel
theorem dX12_moveAll_96 : decode cX12_moveAll 96 = .ok (.getfield 13, 3) := by decide +kernel
theorem dX12_moveAll_99 : decode cX12_moveAll 99 = .ok (.iload_n 1, 1) := by decide +kernel
theorem dX12_moveAll_100 : decode cX12_moveAll 100 = .ok (.iaload, 1) := by decide +kernel
theorem dX12_moveAll_101 : decode cX12_moveAll 101 = .ok (.invokevirtual 344, 3) := by decide +kernel
theorem dX12_moveAll_104 : decode cX12_moveAll 104 = .ok (.iastore, 1) := by decide +kernel
theorem dX12_moveAll_105 : decode cX12_moveAll 105 = .ok (.aload_n 0, 1) := by decide +kernel
theorem dX12_moveAll_106 : decode cX12_moveAll 106 = .ok (.getfield 16, 3) := by decide +kernel
theorem dX12_moveAll_109 : decode cX12_moveAll 109 = .ok (.iload_n 1, 1) := by decide +kernel
theorem dX12_moveAll_110 : decode cX12_moveAll 110 = .ok (.aload_n 0, 1) := by decide +kernel
theorem dX12_moveAll_111 : decode cX12_moveAll 111 = .ok (.aload_n 0, 1) := by decide +kernel
theorem dX12_moveAll_112 : decode cX12_moveAll 112 = .ok (.getfield 16, 3) := by decide +kernel
theorem dX12_moveAll_115 : decode cX12_moveAll 115 = .ok (.iload_n 1, 1) := by decide +kernel
theorem dX12_moveAll_116 : decode cX12_moveAll 116 = .ok (.iaload, 1) := by decide +kernel
theorem dX12_moveAll_117 : decode cX12_moveAll 117 = .ok (.invokevirtual 344, 3) := by decide +kernel
theorem dX12_moveAll_120 : decode cX12_moveAll 120 = .ok (.iastore, 1) := by decide +kernel
theorem dX12_moveAll_121 : decode cX12_moveAll 121 = .ok (.iinc 1 1, 3) := by decide +kernel
theorem dX12_moveAll_124 : decode cX12_moveAll 124 = .ok (.goto (-57), 3) := by decide +kernel
theorem dX12_moveAll_127 : decode cX12_moveAll 127 = .ok (.iconst 0, 1) := by decide +kernel
theorem dX12_moveAll_128 : decode cX12_moveAll 128 = .ok (.istore_n 1, 1) := by decide +kernel
theorem dX12_moveAll_129 : decode cX12_moveAll 129 = .ok (.iload_n 1, 1) := by decide +kernel
theorem dX12_moveAll_130 : decode cX12_moveAll 130 = .ok (.iconst 5, 1) := by decide +kernel
theorem dX12_moveAll_131 : decode cX12_moveAll 131 = .ok (.if_icmp .ge 73, 3) := by decide +kernel
theorem dX12_moveAll_134 : decode cX12_moveAll 134 = .ok (.aload_n 0, 1) := by decide +kernel
theorem dX12_moveAll_135 : decode cX12_moveAll 135 = .ok (.getfield 19, 3) := by decide +kernel
theorem dX12_moveAll_138 : decode cX12_moveAll 138 = .ok (.iload_n 1, 1) := by decide +kernel
theorem dX12_moveAll_139 : decode cX12_moveAll 139 = .ok (.aload_n 0, 1) := by decide +kernel
theorem dX12_moveAll_140 : decode cX12_moveAll 140 = .ok (.aload_n 0, 1) := by decide +kernel
theorem dX12_moveAll_141 : decode cX12_moveAll 141 = .ok (.getfield 19, 3) := by decide +kernel
theorem dX12_moveAll_144 : decode cX12_moveAll 144 = .ok (.iload_n 1, 1) := by decide +kernel
theorem dX12_moveAll_145 : decode cX12_moveAll 145 = .ok (.iaload, 1) := by decide +kernel
theorem dX12_moveAll_146 : decode cX12_moveAll 146 = .ok (.invokevirtual 344, 3) := by decide +kernel
theorem dX12_moveAll_149 : decode cX12_moveAll 149 = .ok (.iastore, 1) := by decide +kernel
theorem dX12_moveAll_150 : decode cX12_moveAll 150 = .ok (.aload_n 0, 1) := by decide +kernel
theorem dX12_moveAll_151 : decode cX12_moveAll 151 = .ok (.getfield 22, 3) := by decide +kernel
theorem dX12_moveAll_154 : decode cX12_moveAll 154 = .ok (.iload_n 1, 1) := by decide +kernel
theorem dX12_moveAll_155 : decode cX12_moveAll 155 = .ok (.aload_n 0, 1) := by decide +kernel
theorem dX12_moveAll_156 : decode cX12_moveAll 156 = .ok (.aload_n 0, 1) := by decide +kernel
theorem dX12_moveAll_157 : decode cX12_moveAll 157 = .ok (.getfield 22, 3) := by decide +kernel
theorem dX12_moveAll_160 : decode cX12_moveAll 160 = .ok (.iload_n 1, 1) := by decide +kernel
theorem dX12_moveAll_161 : decode cX12_moveAll 161 = .ok (.iaload, 1) := by decide +kernel
theorem dX12_moveAll_162 : decode cX12_moveAll 162 = .ok (.invokevirtual 344, 3) := by decide +kernel
theorem dX12_moveAll_165 : decode cX12_moveAll 165 = .ok (.iastore, 1) := by decide +kernel
theorem dX12_moveAll_166 : decode cX12_moveAll 166 = .ok (.aload_n 0, 1) := by decide +kernel
theorem dX12_moveAll_167 : decode cX12_moveAll 167 = .ok (.getfield 25, 3) := by decide +kernel
theorem dX12_moveAll_170 : decode cX12_moveAll 170 = .ok (.iload_n 1, 1) := by decide +kernel
theorem dX12_moveAll_171 : decode cX12_moveAll 171 = .ok (.aload_n 0, 1) := by decide +kernel
theorem dX12_moveAll_172 : decode cX12_moveAll 172 = .ok (.aload_n 0, 1) := by decide +kernel
theorem dX12_moveAll_173 : decode cX12_moveAll 173 = .ok (.getfield 25, 3) := by decide +kernel
theorem dX12_moveAll_176 : decode cX12_moveAll 176 = .ok (.iload_n 1, 1) := by decide +kernel
theorem dX12_moveAll_177 : decode cX12_moveAll 177 = .ok (.iaload, 1) := by decide +kernel
theorem dX12_moveAll_178 : decode cX12_moveAll 178 = .ok (.invokevirtual 344, 3) := by decide +kernel
theorem dX12_moveAll_181 : decode cX12_moveAll 181 = .ok (.iastore, 1) := by decide +kernel
theorem dX12_moveAll_182 : decode cX12_moveAll 182 = .ok (.aload_n 0, 1) := by decide +kernel
theorem dX12_moveAll_183 : decode cX12_moveAll 183 = .ok (.getfield 41, 3) := by decide +kernel
theorem dX12_moveAll_186 : decode cX12_moveAll 186 = .ok (.iload_n 1, 1) := by decide +kernel
theorem dX12_moveAll_187 : decode cX12_moveAll 187 = .ok (.aload_n 0, 1) := by decide +kernel
theorem dX12_moveAll_188 : decode cX12_moveAll 188 = .ok (.aload_n 0, 1) := by decide +kernel
theorem dX12_moveAll_189 : decode cX12_moveAll 189 = .ok (.getfield 41, 3) := by decide +kernel
theorem dX12_moveAll_192 : decode cX12_moveAll 192 = .ok (.iload_n 1, 1) := by decide +kernel
theorem dX12_moveAll_193 : decode cX12_moveAll 193 = .ok (.laload, 1) := by decide +kernel
theorem dX12_moveAll_194 : decode cX12_moveAll 194 = .ok (.invokevirtual 340, 3) := by decide +kernel
theorem dX12_moveAll_197 : decode cX12_moveAll 197 = .ok (.lastore, 1) := by decide +kernel
theorem dX12_moveAll_198 : decode cX12_moveAll 198 = .ok (.iinc 1 1, 3) := by decide +kernel
theorem dX12_moveAll_201 : decode cX12_moveAll 201 = .ok (.goto (-72), 3) := by decide +kernel
theorem dX12_moveAll_204 : decode cX12_moveAll 204 = .ok (.iconst 0, 1) := by decide +kernel
theorem dX12_moveAll_205 : decode cX12_moveAll 205 = .ok (.istore_n 1, 1) := by decide +kernel
theorem dX12_moveAll_206 : decode cX12_moveAll 206 = .ok (.iload_n 1, 1) := by decide +kernel
theorem dX12_moveAll_207 : decode cX12_moveAll 207 = .ok (.bipush 6, 2) := by decide +kernel
theorem dX12_moveAll_209 : decode cX12_moveAll 209 = .ok (.if_icmp .ge 41, 3) := by decide +kernel
theorem dX12_moveAll_212 : decode cX12_moveAll 212 = .ok (.aload_n 0, 1) := by decide +kernel
theorem dX12_moveAll_213 : decode cX12_moveAll 213 = .ok (.getfield 28, 3) := by decide +kernel
theorem dX12_moveAll_216 : decode cX12_moveAll 216 = .ok (.iload_n 1, 1) := by decide +kernel
theorem dX12_moveAll_217 : decode cX12_moveAll 217 = .ok (.aload_n 0, 1) := by decide +kernel
theorem dX12_moveAll_218 : decode cX12_moveAll 218 = .ok (.aload_n 0, 1) := by decide +kernel
theorem dX12_moveAll_219 : decode cX12_moveAll 219 = .ok (.getfield 28, 3) := by decide +kernel
theorem dX12_moveAll_222 : decode cX12_moveAll 222 = .ok (.iload_n 1, 1) := by decide +kernel
theorem dX12_moveAll_223 : decode cX12_moveAll 223 = .ok (.iaload, 1) := by decide +kernel
theorem dX12_moveAll_224 : decode cX12_moveAll 224 = .ok (.invokevirtual 344, 3) := by decide +kernel
theorem dX12_moveAll_227 : decode cX12_moveAll 227 = .ok (.iastore, 1) := by decide +kernel
theorem dX12_moveAll_228 : decode cX12_moveAll 228 = .ok (.aload_n 0, 1) := by decide +kernel
theorem dX12_moveAll_229 : decode cX12_moveAll 229 = .ok (.getfield 31, 3) := by decide +kernel
theorem dX12_moveAll_232 : decode cX12_moveAll 232 = .ok (.iload_n 1, 1) := by decide +kernel
theorem dX12_moveAll_233 : decode cX12_moveAll 233 = .ok (.aload_n 0, 1) := by decide +kernel
theorem dX12_moveAll_234 : decode cX12_moveAll 234 = .ok (.aload_n 0, 1) := by decide +kernel
theorem dX12_moveAll_235 : decode cX12_moveAll 235 = .ok (.getfield 31, 3) := by decide +kernel
theorem dX12_moveAll_238 : decode cX12_moveAll 238 = .ok (.iload_n 1, 1) := by decide +kernel
theorem dX12_moveAll_239 : decode cX12_moveAll 239 = .ok (.iaload, 1) := by decide +kernel
theorem dX12_moveAll_240 : decode cX12_moveAll 240 = .ok (.invokevirtual 344, 3) := by decide +kernel
theorem dX12_moveAll_243 : decode cX12_moveAll 243 = .ok (.iastore, 1) := by decide +kernel
theorem dX12_moveAll_244 : decode cX12_moveAll 244 = .ok (.iinc 1 1, 3) := by decide +kernel
theorem dX12_moveAll_247 : decode cX12_moveAll 247 = .ok (.goto (-41), 3) := by decide +kernel
theorem dX12_moveAll_250 : decode cX12_moveAll 250 = .ok (.iconst 0, 1) := by decide +kernel
theorem dX12_moveAll_251 : decode cX12_moveAll 251 = .ok (.istore_n 1, 1) := by decide +kernel
theorem dX12_moveAll_252 : decode cX12_moveAll 252 = .ok (.iload_n 1, 1) := by decide +kernel
theorem dX12_moveAll_253 : decode cX12_moveAll 253 = .ok (.bipush 48, 2) := by decide +kernel
theorem dX12_moveAll_255 : decode cX12_moveAll 255 = .ok (.if_icmp .ge 25, 3) := by decide +kernel
theorem dX12_moveAll_258 : decode cX12_moveAll 258 = .ok (.aload_n 0, 1) := by decide +kernel
theorem dX12_moveAll_259 : decode cX12_moveAll 259 = .ok (.getfield 34, 3) := by decide +kernel
theorem dX12_moveAll_262 : decode cX12_moveAll 262 = .ok (.iload_n 1, 1) := by decide +kernel
theorem dX12_moveAll_263 : decode cX12_moveAll 263 = .ok (.aload_n 0, 1) := by decide +kernel
theorem dX12_moveAll_264 : decode cX12_moveAll 264 = .ok (.aload_n 0, 1) := by decide +kernel
theorem dX12_moveAll_265 : decode cX12_moveAll 265 = .ok (.getfield 34, 3) := by decide +kernel
theorem dX12_moveAll_268 : decode cX12_moveAll 268 = .ok (.iload_n 1, 1) := by decide +kernel
theorem dX12_moveAll_269 : decode cX12_moveAll 269 = .ok (.iaload, 1) := by decide +kernel
theorem dX12_moveAll_270 : decode cX12_moveAll 270 = .ok (.invokevirtual 344, 3) := by decide +kernel
theorem dX12_moveAll_273 : decode cX12_moveAll 273 = .ok (.iastore, 1) := by decide +kernel
theorem dX12_moveAll_274 : decode cX12_moveAll 274 = .ok (.iinc 1 1, 3) := by decide +kernel
theorem dX12_moveAll_277 : decode cX12_moveAll 277 = .ok (.goto (-25), 3) := by decide +kernel
theorem dX12_moveAll_280 : decode cX12_moveAll 280 = .ok (.return_, 1) := by decide +kernel
theorem dX12_image_0 : decode cX12_image 0 = .ok (.aload_n 0, 1) := by decide +kernel
theorem dX12_image_1 : decode cX12_image 1 = .ok (.iconst 0, 1) := by decide +kernel
theorem dX12_image_2 : decode cX12_image 2 = .ok (.putfield 102, 3) := by decide +kernel
theorem dX12_image_5 : decode cX12_image 5 = .ok (.aload_n 0, 1) := by decide +kernel
theorem dX12_image_6 : decode cX12_image 6 = .ok (.iconst 1, 1) := by decide +kernel
theorem dX12_image_7 : decode cX12_image 7 = .ok (.putfield 347, 3) := by decide +kernel
theorem dX12_image_10 : decode cX12_image 10 = .ok (.aload_n 0, 1) := by decide +kernel
theorem dX12_image_11 : decode cX12_image 11 = .ok (.iconst 1, 1) := by decide +kernel
theorem dX12_image_12 : decode cX12_image 12 = .ok (.putfield 334, 3) := by decide +kernel
theorem dX12_image_15 : decode cX12_image 15 = .ok (.aload_n 0, 1) := by decide +kernel
theorem dX12_image_16 : decode cX12_image 16 = .ok (.invokevirtual 350, 3) := by decide +kernel
theorem dX12_image_19 : decode cX12_image 19 = .ok (.aload_n 0, 1) := by decide +kernel
theorem dX12_image_20 : decode cX12_image 20 = .ok (.getfield 111, 3) := by decide +kernel
theorem dX12_image_23 : decode cX12_image 23 = .ok (.ireturn, 1) := by decide +kernel
theorem dX12_restore_0 : decode cX12_restore 0 = .ok (.aload_n 0, 1) := by decide +kernel
theorem dX12_restore_1 : decode cX12_restore 1 = .ok (.iconst 0, 1) := by decide +kernel
theorem dX12_restore_2 : decode cX12_restore 2 = .ok (.putfield 102, 3) := by decide +kernel
theorem dX12_restore_5 : decode cX12_restore 5 = .ok (.aload_n 0, 1) := by decide +kernel
theorem dX12_restore_6 : decode cX12_restore 6 = .ok (.getfield 347, 3) := by decide +kernel
theorem dX12_restore_9 : decode cX12_restore 9 = .ok (.ifCond .ne 6, 3) := by decide +kernel
theorem dX12_restore_12 : decode cX12_restore 12 = .ok (.bipush (-3), 2) := by decide +kernel
theorem dX12_restore_14 : decode cX12_restore 14 = .ok (.ireturn, 1) := by decide +kernel
theorem dX12_restore_15 : decode cX12_restore 15 = .ok (.aload_n 0, 1) := by decide +kernel
theorem dX12_restore_16 : decode cX12_restore 16 = .ok (.iconst 0, 1) := by decide +kernel
theorem dX12_restore_17 : decode cX12_restore 17 = .ok (.putfield 334, 3) := by decide +kernel
theorem dX12_restore_20 : decode cX12_restore 20 = .ok (.aload_n 0, 1) := by decide +kernel
theorem dX12_restore_21 : decode cX12_restore 21 = .ok (.invokevirtual 350, 3) := by decide +kernel
theorem dX12_restore_24 : decode cX12_restore 24 = .ok (.aload_n 0, 1) := by decide +kernel
theorem dX12_restore_25 : decode cX12_restore 25 = .ok (.getfield 111, 3) := by decide +kernel
theorem dX12_restore_28 : decode cX12_restore 28 = .ok (.ireturn, 1) := by decide +kernel
theorem dX12_count_0 : decode cX12_count 0 = .ok (.aload_n 0, 1) := by decide +kernel
theorem dX12_count_1 : decode cX12_count 1 = .ok (.iconst 0, 1) := by decide +kernel
theorem dX12_count_2 : decode cX12_count 2 = .ok (.putfield 102, 3) := by decide +kernel
theorem dX12_count_5 : decode cX12_count 5 = .ok (.iload_n 1, 1) := by decide +kernel
theorem dX12_count_6 : decode cX12_count 6 = .ok (.tableswitch 92 0 5 #[38, 43, 48, 53, 58, 63], 38) := by decide +kernel
theorem dX12_count_44 : decode cX12_count 44 = .ok (.aload_n 0, 1) := by decide +kernel
theorem dX12_count_45 : decode cX12_count 45 = .ok (.getfield 153, 3) := by decide +kernel
theorem dX12_count_48 : decode cX12_count 48 = .ok (.ireturn, 1) := by decide +kernel
theorem dX12_count_49 : decode cX12_count 49 = .ok (.aload_n 0, 1) := by decide +kernel
theorem dX12_count_50 : decode cX12_count 50 = .ok (.getfield 111, 3) := by decide +kernel
theorem dX12_count_53 : decode cX12_count 53 = .ok (.ireturn, 1) := by decide +kernel
theorem dX12_count_54 : decode cX12_count 54 = .ok (.aload_n 0, 1) := by decide +kernel
theorem dX12_count_55 : decode cX12_count 55 = .ok (.getfield 159, 3) := by decide +kernel
theorem dX12_count_58 : decode cX12_count 58 = .ok (.ireturn, 1) := by decide +kernel
theorem dX12_count_59 : decode cX12_count 59 = .ok (.aload_n 0, 1) := by decide +kernel
theorem dX12_count_60 : decode cX12_count 60 = .ok (.invokevirtual 114, 3) := by decide +kernel
theorem dX12_count_63 : decode cX12_count 63 = .ok (.ireturn, 1) := by decide +kernel
theorem dX12_count_64 : decode cX12_count 64 = .ok (.aload_n 0, 1) := by decide +kernel
theorem dX12_count_65 : decode cX12_count 65 = .ok (.getfield 166, 3) := by decide +kernel
theorem dX12_count_68 : decode cX12_count 68 = .ok (.ireturn, 1) := by decide +kernel
theorem dX12_count_69 : decode cX12_count 69 = .ok (.iconst 0, 1) := by decide +kernel
theorem dX12_count_70 : decode cX12_count 70 = .ok (.istore_n 2, 1) := by decide +kernel
theorem dX12_count_71 : decode cX12_count 71 = .ok (.iconst 0, 1) := by decide +kernel
theorem dX12_count_72 : decode cX12_count 72 = .ok (.istore_n 3, 1) := by decide +kernel
theorem dX12_count_73 : decode cX12_count 73 = .ok (.iload_n 3, 1) := by decide +kernel
theorem dX12_count_74 : decode cX12_count 74 = .ok (.aload_n 0, 1) := by decide +kernel
theorem dX12_count_75 : decode cX12_count 75 = .ok (.getfield 153, 3) := by decide +kernel
theorem dX12_count_78 : decode cX12_count 78 = .ok (.if_icmp .ge 18, 3) := by decide +kernel
theorem dX12_count_81 : decode cX12_count 81 = .ok (.iload_n 2, 1) := by decide +kernel
theorem dX12_count_82 : decode cX12_count 82 = .ok (.aload_n 0, 1) := by decide +kernel
theorem dX12_count_83 : decode cX12_count 83 = .ok (.getfield 16, 3) := by decide +kernel
theorem dX12_count_86 : decode cX12_count 86 = .ok (.iload_n 3, 1) := by decide +kernel
theorem dX12_count_87 : decode cX12_count 87 = .ok (.iaload, 1) := by decide +kernel
theorem dX12_count_88 : decode cX12_count 88 = .ok (.iadd, 1) := by decide +kernel
theorem dX12_count_89 : decode cX12_count 89 = .ok (.istore_n 2, 1) := by decide +kernel
theorem dX12_count_90 : decode cX12_count 90 = .ok (.iinc 3 1, 3) := by decide +kernel
theorem dX12_count_93 : decode cX12_count 93 = .ok (.goto (-20), 3) := by decide +kernel
theorem dX12_count_96 : decode cX12_count 96 = .ok (.iload_n 2, 1) := by decide +kernel
theorem dX12_count_97 : decode cX12_count 97 = .ok (.ireturn, 1) := by decide +kernel
theorem dX12_count_98 : decode cX12_count 98 = .ok (.iconst (-1), 1) := by decide +kernel
theorem dX12_count_99 : decode cX12_count 99 = .ok (.ireturn, 1) := by decide +kernel
theorem dX12_keep_0 : decode cX12_keep 0 = .ok (.aload_n 0, 1) := by decide +kernel
theorem dX12_keep_1 : decode cX12_keep 1 = .ok (.iconst 0, 1) := by decide +kernel
theorem dX12_keep_2 : decode cX12_keep 2 = .ok (.putfield 102, 3) := by decide +kernel
theorem dX12_keep_5 : decode cX12_keep 5 = .ok (.iload_n 1, 1) := by decide +kernel
theorem dX12_keep_6 : decode cX12_keep 6 = .ok (.i2l, 1) := by decide +kernel
theorem dX12_keep_7 : decode cX12_keep 7 = .ok (.lconst 0, 1) := by decide +kernel
theorem dX12_keep_8 : decode cX12_keep 8 = .ok (.ldc2_w 105, 3) := by decide +kernel
theorem dX12_keep_11 : decode cX12_keep 11 = .ok (.invokestatic 107, 3) := by decide +kernel
theorem dX12_keep_14 : decode cX12_keep 14 = .ok (.ifCond .eq 43, 3) := by decide +kernel
theorem dX12_keep_17 : decode cX12_keep 17 = .ok (.iload_n 2, 1) := by decide +kernel
theorem dX12_keep_18 : decode cX12_keep 18 = .ok (.i2l, 1) := by decide +kernel
theorem dX12_keep_19 : decode cX12_keep 19 = .ok (.lconst 0, 1) := by decide +kernel
theorem dX12_keep_20 : decode cX12_keep 20 = .ok (.lconst 1, 1) := by decide +kernel
theorem dX12_keep_21 : decode cX12_keep 21 = .ok (.invokestatic 107, 3) := by decide +kernel
theorem dX12_keep_24 : decode cX12_keep 24 = .ok (.ifCond .eq 33, 3) := by decide +kernel
theorem dX12_keep_27 : decode cX12_keep 27 = .ok (.iload_n 2, 1) := by decide +kernel
theorem dX12_keep_28 : decode cX12_keep 28 = .ok (.iconst 1, 1) := by decide +kernel
theorem dX12_keep_29 : decode cX12_keep 29 = .ok (.if_icmp .ne 30, 3) := by decide +kernel
theorem dX12_keep_32 : decode cX12_keep 32 = .ok (.iload_n 3, 1) := by decide +kernel
theorem dX12_keep_33 : decode cX12_keep 33 = .ok (.i2l, 1) := by decide +kernel
theorem dX12_keep_34 : decode cX12_keep 34 = .ok (.lconst 0, 1) := by decide +kernel
theorem dX12_keep_35 : decode cX12_keep 35 = .ok (.ldc2_w 332, 3) := by decide +kernel
theorem dX12_keep_38 : decode cX12_keep 38 = .ok (.invokestatic 107, 3) := by decide +kernel
theorem dX12_keep_41 : decode cX12_keep 41 = .ok (.ifCond .eq 16, 3) := by decide +kernel
theorem dX12_keep_44 : decode cX12_keep 44 = .ok (.iload 4, 2) := by decide +kernel
theorem dX12_keep_46 : decode cX12_keep 46 = .ok (.i2l, 1) := by decide +kernel
theorem dX12_keep_47 : decode cX12_keep 47 = .ok (.lconst 0, 1) := by decide +kernel
theorem dX12_keep_48 : decode cX12_keep 48 = .ok (.ldc2_w 328, 3) := by decide +kernel
theorem dX12_keep_51 : decode cX12_keep 51 = .ok (.invokestatic 107, 3) := by decide +kernel
theorem dX12_keep_54 : decode cX12_keep 54 = .ok (.ifCond .ne 5, 3) := by decide +kernel
theorem dX12_keep_57 : decode cX12_keep 57 = .ok (.iconst (-1), 1) := by decide +kernel
theorem dX12_keep_58 : decode cX12_keep 58 = .ok (.ireturn, 1) := by decide +kernel
theorem dX12_keep_59 : decode cX12_keep 59 = .ok (.aload_n 0, 1) := by decide +kernel
theorem dX12_keep_60 : decode cX12_keep 60 = .ok (.getfield 81, 3) := by decide +kernel
theorem dX12_keep_63 : decode cX12_keep 63 = .ok (.iload_n 1, 1) := by decide +kernel
theorem dX12_keep_64 : decode cX12_keep 64 = .ok (.iload_n 2, 1) := by decide +kernel
theorem dX12_keep_65 : decode cX12_keep 65 = .ok (.iastore, 1) := by decide +kernel
theorem dX12_keep_66 : decode cX12_keep 66 = .ok (.aload_n 0, 1) := by decide +kernel
theorem dX12_keep_67 : decode cX12_keep 67 = .ok (.getfield 84, 3) := by decide +kernel
theorem dX12_keep_70 : decode cX12_keep 70 = .ok (.iload_n 1, 1) := by decide +kernel
theorem dX12_keep_71 : decode cX12_keep 71 = .ok (.iload_n 3, 1) := by decide +kernel
theorem dX12_keep_72 : decode cX12_keep 72 = .ok (.iastore, 1) := by decide +kernel
theorem dX12_keep_73 : decode cX12_keep 73 = .ok (.aload_n 0, 1) := by decide +kernel
theorem dX12_keep_74 : decode cX12_keep 74 = .ok (.getfield 87, 3) := by decide +kernel
theorem dX12_keep_77 : decode cX12_keep 77 = .ok (.iload_n 1, 1) := by decide +kernel
theorem dX12_keep_78 : decode cX12_keep 78 = .ok (.iload 4, 2) := by decide +kernel
theorem dX12_keep_80 : decode cX12_keep 80 = .ok (.iastore, 1) := by decide +kernel
theorem dX12_keep_81 : decode cX12_keep 81 = .ok (.iconst 0, 1) := by decide +kernel
theorem dX12_keep_82 : decode cX12_keep 82 = .ok (.ireturn, 1) := by decide +kernel
theorem dX12_wrongRow_0 : decode cX12_wrongRow 0 = .ok (.iload_n 1, 1) := by decide +kernel
theorem dX12_wrongRow_1 : decode cX12_wrongRow 1 = .ok (.i2l, 1) := by decide +kernel
theorem dX12_wrongRow_2 : decode cX12_wrongRow 2 = .ok (.lconst 0, 1) := by decide +kernel
theorem dX12_wrongRow_3 : decode cX12_wrongRow 3 = .ok (.ldc2_w 105, 3) := by decide +kernel
theorem dX12_wrongRow_6 : decode cX12_wrongRow 6 = .ok (.invokestatic 107, 3) := by decide +kernel
theorem dX12_wrongRow_9 : decode cX12_wrongRow 9 = .ok (.ifCond .ne 7, 3) := by decide +kernel
theorem dX12_wrongRow_12 : decode cX12_wrongRow 12 = .ok (.iconst (-1), 1) := by decide +kernel
theorem dX12_wrongRow_13 : decode cX12_wrongRow 13 = .ok (.goto 33, 3) := by decide +kernel
theorem dX12_wrongRow_16 : decode cX12_wrongRow 16 = .ok (.aload_n 0, 1) := by decide +kernel
theorem dX12_wrongRow_17 : decode cX12_wrongRow 17 = .ok (.getfield 81, 3) := by decide +kernel
theorem dX12_wrongRow_20 : decode cX12_wrongRow 20 = .ok (.iload_n 1, 1) := by decide +kernel
theorem dX12_wrongRow_21 : decode cX12_wrongRow 21 = .ok (.iaload, 1) := by decide +kernel
theorem dX12_wrongRow_22 : decode cX12_wrongRow 22 = .ok (.ifCond .ne 8, 3) := by decide +kernel
theorem dX12_wrongRow_25 : decode cX12_wrongRow 25 = .ok (.bipush (-11), 2) := by decide +kernel
theorem dX12_wrongRow_27 : decode cX12_wrongRow 27 = .ok (.goto 19, 3) := by decide +kernel
theorem dX12_wrongRow_30 : decode cX12_wrongRow 30 = .ok (.aload_n 0, 1) := by decide +kernel
theorem dX12_wrongRow_31 : decode cX12_wrongRow 31 = .ok (.getfield 81, 3) := by decide +kernel
theorem dX12_wrongRow_34 : decode cX12_wrongRow 34 = .ok (.iload_n 1, 1) := by decide +kernel
theorem dX12_wrongRow_35 : decode cX12_wrongRow 35 = .ok (.iaload, 1) := by decide +kernel
theorem dX12_wrongRow_36 : decode cX12_wrongRow 36 = .ok (.iconst 2, 1) := by decide +kernel
theorem dX12_wrongRow_37 : decode cX12_wrongRow 37 = .ok (.if_icmp .eq 8, 3) := by decide +kernel
theorem dX12_wrongRow_40 : decode cX12_wrongRow 40 = .ok (.bipush (-12), 2) := by decide +kernel
theorem dX12_wrongRow_42 : decode cX12_wrongRow 42 = .ok (.goto 4, 3) := by decide +kernel
theorem dX12_wrongRow_45 : decode cX12_wrongRow 45 = .ok (.iconst 0, 1) := by decide +kernel
theorem dX12_wrongRow_46 : decode cX12_wrongRow 46 = .ok (.ireturn, 1) := by decide +kernel
theorem dX12_narrowed_0 : decode cX12_narrowed 0 = .ok (.iload_n 1, 1) := by decide +kernel
theorem dX12_narrowed_1 : decode cX12_narrowed 1 = .ok (.ifCond .ne 9, 3) := by decide +kernel
theorem dX12_narrowed_4 : decode cX12_narrowed 4 = .ok (.iload_n 0, 1) := by decide +kernel
theorem dX12_narrowed_5 : decode cX12_narrowed 5 = .ok (.i2b, 1) := by decide +kernel
theorem dX12_narrowed_6 : decode cX12_narrowed 6 = .ok (.i2l, 1) := by decide +kernel
theorem dX12_narrowed_7 : decode cX12_narrowed 7 = .ok (.goto 16, 3) := by decide +kernel
theorem dX12_narrowed_10 : decode cX12_narrowed 10 = .ok (.iload_n 1, 1) := by decide +kernel
theorem dX12_narrowed_11 : decode cX12_narrowed 11 = .ok (.iconst 1, 1) := by decide +kernel
theorem dX12_narrowed_12 : decode cX12_narrowed 12 = .ok (.if_icmp .ne 9, 3) := by decide +kernel
theorem dX12_narrowed_15 : decode cX12_narrowed 15 = .ok (.iload_n 0, 1) := by decide +kernel
theorem dX12_narrowed_16 : decode cX12_narrowed 16 = .ok (.i2s, 1) := by decide +kernel
theorem dX12_narrowed_17 : decode cX12_narrowed 17 = .ok (.i2l, 1) := by decide +kernel
theorem dX12_narrowed_18 : decode cX12_narrowed 18 = .ok (.goto 5, 3) := by decide +kernel
theorem dX12_narrowed_21 : decode cX12_narrowed 21 = .ok (.iload_n 0, 1) := by decide +kernel
theorem dX12_narrowed_22 : decode cX12_narrowed 22 = .ok (.i2l, 1) := by decide +kernel
theorem dX12_narrowed_23 : decode cX12_narrowed 23 = .ok (.lreturn, 1) := by decide +kernel
theorem dX12_row_0 : decode cX12_row 0 = .ok (.aload_n 0, 1) := by decide +kernel
theorem dX12_row_1 : decode cX12_row 1 = .ok (.iconst 0, 1) := by decide +kernel
theorem dX12_row_2 : decode cX12_row 2 = .ok (.putfield 102, 3) := by decide +kernel
theorem dX12_row_5 : decode cX12_row 5 = .ok (.iload_n 1, 1) := by decide +kernel
theorem dX12_row_6 : decode cX12_row 6 = .ok (.i2l, 1) := by decide +kernel
theorem dX12_row_7 : decode cX12_row 7 = .ok (.lconst 0, 1) := by decide +kernel
theorem dX12_row_8 : decode cX12_row 8 = .ok (.ldc2_w 105, 3) := by decide +kernel
theorem dX12_row_11 : decode cX12_row 11 = .ok (.invokestatic 107, 3) := by decide +kernel
theorem dX12_row_14 : decode cX12_row 14 = .ok (.ifCond .eq 21, 3) := by decide +kernel
theorem dX12_row_17 : decode cX12_row 17 = .ok (.iload_n 2, 1) := by decide +kernel
theorem dX12_row_18 : decode cX12_row 18 = .ok (.i2l, 1) := by decide +kernel
theorem dX12_row_19 : decode cX12_row 19 = .ok (.lconst 0, 1) := by decide +kernel
theorem dX12_row_20 : decode cX12_row 20 = .ok (.ldc2_w 182, 3) := by decide +kernel
theorem dX12_row_23 : decode cX12_row 23 = .ok (.invokestatic 107, 3) := by decide +kernel
theorem dX12_row_26 : decode cX12_row 26 = .ok (.ifCond .eq 9, 3) := by decide +kernel
theorem dX12_row_29 : decode cX12_row 29 = .ok (.iload_n 3, 1) := by decide +kernel
theorem dX12_row_30 : decode cX12_row 30 = .ok (.bipush 100, 2) := by decide +kernel
theorem dX12_row_32 : decode cX12_row 32 = .ok (.if_icmp .le 5, 3) := by decide +kernel
theorem dX12_row_35 : decode cX12_row 35 = .ok (.iconst (-1), 1) := by decide +kernel
theorem dX12_row_36 : decode cX12_row 36 = .ok (.ireturn, 1) := by decide +kernel
theorem dX12_row_37 : decode cX12_row 37 = .ok (.iload_n 3, 1) := by decide +kernel
theorem dX12_row_38 : decode cX12_row 38 = .ok (.ifCond .ge 6, 3) := by decide +kernel
theorem dX12_row_41 : decode cX12_row 41 = .ok (.bipush (-14), 2) := by decide +kernel
theorem dX12_row_43 : decode cX12_row 43 = .ok (.ireturn, 1) := by decide +kernel
theorem dX12_row_44 : decode cX12_row 44 = .ok (.aload_n 0, 1) := by decide +kernel
theorem dX12_row_45 : decode cX12_row 45 = .ok (.getfield 81, 3) := by decide +kernel
theorem dX12_row_48 : decode cX12_row 48 = .ok (.iload_n 1, 1) := by decide +kernel
theorem dX12_row_49 : decode cX12_row 49 = .ok (.iconst 2, 1) := by decide +kernel
theorem dX12_row_50 : decode cX12_row 50 = .ok (.iastore, 1) := by decide +kernel
theorem dX12_row_51 : decode cX12_row 51 = .ok (.aload_n 0, 1) := by decide +kernel
theorem dX12_row_52 : decode cX12_row 52 = .ok (.getfield 90, 3) := by decide +kernel
theorem dX12_row_55 : decode cX12_row 55 = .ok (.iload_n 1, 1) := by decide +kernel
theorem dX12_row_56 : decode cX12_row 56 = .ok (.iload_n 2, 1) := by decide +kernel
theorem dX12_row_57 : decode cX12_row 57 = .ok (.iastore, 1) := by decide +kernel
theorem dX12_row_58 : decode cX12_row 58 = .ok (.aload_n 0, 1) := by decide +kernel
theorem dX12_row_59 : decode cX12_row 59 = .ok (.getfield 93, 3) := by decide +kernel
theorem dX12_row_62 : decode cX12_row 62 = .ok (.iload_n 1, 1) := by decide +kernel
theorem dX12_row_63 : decode cX12_row 63 = .ok (.iload_n 3, 1) := by decide +kernel
theorem dX12_row_64 : decode cX12_row 64 = .ok (.iastore, 1) := by decide +kernel
theorem dX12_row_65 : decode cX12_row 65 = .ok (.iconst 0, 1) := by decide +kernel
theorem dX12_row_66 : decode cX12_row 66 = .ok (.istore 4, 2) := by decide +kernel
theorem dX12_row_68 : decode cX12_row 68 = .ok (.iload 4, 2) := by decide +kernel
theorem dX12_row_70 : decode cX12_row 70 = .ok (.bipush 100, 2) := by decide +kernel
theorem dX12_row_72 : decode cX12_row 72 = .ok (.if_icmp .ge 22, 3) := by decide +kernel
theorem dX12_row_75 : decode cX12_row 75 = .ok (.aload_n 0, 1) := by decide +kernel
theorem dX12_row_76 : decode cX12_row 76 = .ok (.getfield 96, 3) := by decide +kernel
theorem dX12_row_79 : decode cX12_row 79 = .ok (.bipush 100, 2) := by decide +kernel
theorem dX12_row_81 : decode cX12_row 81 = .ok (.iload_n 1, 1) := by decide +kernel
theorem dX12_row_82 : decode cX12_row 82 = .ok (.imul, 1) := by decide +kernel
theorem dX12_row_83 : decode cX12_row 83 = .ok (.iload 4, 2) := by decide +kernel
theorem dX12_row_85 : decode cX12_row 85 = .ok (.iadd, 1) := by decide +kernel
theorem dX12_row_86 : decode cX12_row 86 = .ok (.lconst 0, 1) := by decide +kernel
theorem dX12_row_87 : decode cX12_row 87 = .ok (.lastore, 1) := by decide +kernel
theorem dX12_row_88 : decode cX12_row 88 = .ok (.iinc 4 1, 3) := by decide +kernel
theorem dX12_row_91 : decode cX12_row 91 = .ok (.goto (-23), 3) := by decide +kernel
theorem dX12_row_94 : decode cX12_row 94 = .ok (.iconst 0, 1) := by decide +kernel
theorem dX12_row_95 : decode cX12_row 95 = .ok (.ireturn, 1) := by decide +kernel
theorem dX12_put_0 : decode cX12_put 0 = .ok (.aload_n 0, 1) := by decide +kernel
theorem dX12_put_1 : decode cX12_put 1 = .ok (.iconst 0, 1) := by decide +kernel
theorem dX12_put_2 : decode cX12_put 2 = .ok (.putfield 102, 3) := by decide +kernel
theorem dX12_put_5 : decode cX12_put 5 = .ok (.aload_n 0, 1) := by decide +kernel
theorem dX12_put_6 : decode cX12_put 6 = .ok (.iload_n 1, 1) := by decide +kernel
theorem dX12_put_7 : decode cX12_put 7 = .ok (.invokevirtual 169, 3) := by decide +kernel
theorem dX12_put_10 : decode cX12_put 10 = .ok (.istore 4, 2) := by decide +kernel
theorem dX12_put_12 : decode cX12_put 12 = .ok (.iload 4, 2) := by decide +kernel
theorem dX12_put_14 : decode cX12_put 14 = .ok (.ifCond .ge 6, 3) := by decide +kernel
theorem dX12_put_17 : decode cX12_put 17 = .ok (.iload 4, 2) := by decide +kernel
theorem dX12_put_19 : decode cX12_put 19 = .ok (.ireturn, 1) := by decide +kernel
theorem dX12_put_20 : decode cX12_put 20 = .ok (.iload_n 2, 1) := by decide +kernel
theorem dX12_put_21 : decode cX12_put 21 = .ok (.i2l, 1) := by decide +kernel
theorem dX12_put_22 : decode cX12_put 22 = .ok (.lconst 0, 1) := by decide +kernel
theorem dX12_put_23 : decode cX12_put 23 = .ok (.aload_n 0, 1) := by decide +kernel
theorem dX12_put_24 : decode cX12_put 24 = .ok (.getfield 93, 3) := by decide +kernel
theorem dX12_put_27 : decode cX12_put 27 = .ok (.iload_n 1, 1) := by decide +kernel
theorem dX12_put_28 : decode cX12_put 28 = .ok (.iaload, 1) := by decide +kernel
theorem dX12_put_29 : decode cX12_put 29 = .ok (.iconst 1, 1) := by decide +kernel
theorem dX12_put_30 : decode cX12_put 30 = .ok (.isub, 1) := by decide +kernel
theorem dX12_put_31 : decode cX12_put 31 = .ok (.i2l, 1) := by decide +kernel
theorem dX12_put_32 : decode cX12_put 32 = .ok (.invokestatic 107, 3) := by decide +kernel
theorem dX12_put_35 : decode cX12_put 35 = .ok (.ifCond .ne 6, 3) := by decide +kernel
theorem dX12_put_38 : decode cX12_put 38 = .ok (.bipush (-13), 2) := by decide +kernel
theorem dX12_put_40 : decode cX12_put 40 = .ok (.ireturn, 1) := by decide +kernel
theorem dX12_put_41 : decode cX12_put 41 = .ok (.aload_n 0, 1) := by decide +kernel
theorem dX12_put_42 : decode cX12_put 42 = .ok (.getfield 96, 3) := by decide +kernel
theorem dX12_put_45 : decode cX12_put 45 = .ok (.bipush 100, 2) := by decide +kernel
theorem dX12_put_47 : decode cX12_put 47 = .ok (.iload_n 1, 1) := by decide +kernel
theorem dX12_put_48 : decode cX12_put 48 = .ok (.imul, 1) := by decide +kernel
theorem dX12_put_49 : decode cX12_put 49 = .ok (.iload_n 2, 1) := by decide +kernel
theorem dX12_put_50 : decode cX12_put 50 = .ok (.iadd, 1) := by decide +kernel
theorem dX12_put_51 : decode cX12_put 51 = .ok (.iload_n 3, 1) := by decide +kernel
theorem dX12_put_52 : decode cX12_put 52 = .ok (.aload_n 0, 1) := by decide +kernel
theorem dX12_put_53 : decode cX12_put 53 = .ok (.getfield 90, 3) := by decide +kernel
theorem dX12_put_56 : decode cX12_put 56 = .ok (.iload_n 1, 1) := by decide +kernel
theorem dX12_put_57 : decode cX12_put 57 = .ok (.iaload, 1) := by decide +kernel
theorem dX12_put_58 : decode cX12_put 58 = .ok (.invokestatic 353, 3) := by decide +kernel
theorem dX12_put_61 : decode cX12_put 61 = .ok (.lastore, 1) := by decide +kernel
theorem dX12_put_62 : decode cX12_put 62 = .ok (.iconst 0, 1) := by decide +kernel
theorem dX12_put_63 : decode cX12_put 63 = .ok (.ireturn, 1) := by decide +kernel
theorem dX12_element_0 : decode cX12_element 0 = .ok (.aload_n 0, 1) := by decide +kernel
theorem dX12_element_1 : decode cX12_element 1 = .ok (.iload_n 1, 1) := by decide +kernel
theorem dX12_element_2 : decode cX12_element 2 = .ok (.invokevirtual 169, 3) := by decide +kernel
theorem dX12_element_5 : decode cX12_element 5 = .ok (.istore_n 3, 1) := by decide +kernel
theorem dX12_element_6 : decode cX12_element 6 = .ok (.aload_n 0, 1) := by decide +kernel
theorem dX12_element_7 : decode cX12_element 7 = .ok (.iload_n 3, 1) := by decide +kernel
theorem dX12_element_8 : decode cX12_element 8 = .ok (.iconst (-1), 1) := by decide +kernel
theorem dX12_element_9 : decode cX12_element 9 = .ok (.if_icmp .ne 7, 3) := by decide +kernel
theorem dX12_element_12 : decode cX12_element 12 = .ok (.iconst 1, 1) := by decide +kernel
theorem dX12_element_13 : decode cX12_element 13 = .ok (.goto 30, 3) := by decide +kernel
theorem dX12_element_16 : decode cX12_element 16 = .ok (.iload_n 3, 1) := by decide +kernel
theorem dX12_element_17 : decode cX12_element 17 = .ok (.ifCond .lt 21, 3) := by decide +kernel
theorem dX12_element_20 : decode cX12_element 20 = .ok (.iload_n 2, 1) := by decide +kernel
theorem dX12_element_21 : decode cX12_element 21 = .ok (.i2l, 1) := by decide +kernel
theorem dX12_element_22 : decode cX12_element 22 = .ok (.lconst 0, 1) := by decide +kernel
theorem dX12_element_23 : decode cX12_element 23 = .ok (.aload_n 0, 1) := by decide +kernel
theorem dX12_element_24 : decode cX12_element 24 = .ok (.getfield 93, 3) := by decide +kernel
theorem dX12_element_27 : decode cX12_element 27 = .ok (.iload_n 1, 1) := by decide +kernel
theorem dX12_element_28 : decode cX12_element 28 = .ok (.iaload, 1) := by decide +kernel
theorem dX12_element_29 : decode cX12_element 29 = .ok (.iconst 1, 1) := by decide +kernel
theorem dX12_element_30 : decode cX12_element 30 = .ok (.isub, 1) := by decide +kernel
theorem dX12_element_31 : decode cX12_element 31 = .ok (.i2l, 1) := by decide +kernel
theorem dX12_element_32 : decode cX12_element 32 = .ok (.invokestatic 107, 3) := by decide +kernel
theorem dX12_element_35 : decode cX12_element 35 = .ok (.ifCond .ne 7, 3) := by decide +kernel
theorem dX12_element_38 : decode cX12_element 38 = .ok (.iconst 2, 1) := by decide +kernel
theorem dX12_element_39 : decode cX12_element 39 = .ok (.goto 4, 3) := by decide +kernel
theorem dX12_element_42 : decode cX12_element 42 = .ok (.iconst 0, 1) := by decide +kernel
theorem dX12_element_43 : decode cX12_element 43 = .ok (.putfield 102, 3) := by decide +kernel
theorem dX12_element_46 : decode cX12_element 46 = .ok (.aload_n 0, 1) := by decide +kernel
theorem dX12_element_47 : decode cX12_element 47 = .ok (.getfield 102, 3) := by decide +kernel
theorem dX12_element_50 : decode cX12_element 50 = .ok (.ifCond .le 7, 3) := by decide +kernel
theorem dX12_element_53 : decode cX12_element 53 = .ok (.lconst 0, 1) := by decide +kernel
theorem dX12_element_54 : decode cX12_element 54 = .ok (.goto 14, 3) := by decide +kernel
theorem dX12_element_57 : decode cX12_element 57 = .ok (.aload_n 0, 1) := by decide +kernel
theorem dX12_element_58 : decode cX12_element 58 = .ok (.getfield 96, 3) := by decide +kernel
theorem dX12_element_61 : decode cX12_element 61 = .ok (.bipush 100, 2) := by decide +kernel
theorem dX12_element_63 : decode cX12_element 63 = .ok (.iload_n 1, 1) := by decide +kernel
theorem dX12_element_64 : decode cX12_element 64 = .ok (.imul, 1) := by decide +kernel
theorem dX12_element_65 : decode cX12_element 65 = .ok (.iload_n 2, 1) := by decide +kernel
theorem dX12_element_66 : decode cX12_element 66 = .ok (.iadd, 1) := by decide +kernel
theorem dX12_element_67 : decode cX12_element 67 = .ok (.laload, 1) := by decide +kernel
theorem dX12_element_68 : decode cX12_element 68 = .ok (.lreturn, 1) := by decide +kernel
theorem dX12_copy_0 : decode cX12_copy 0 = .ok (.aload_n 0, 1) := by decide +kernel
theorem dX12_copy_1 : decode cX12_copy 1 = .ok (.iconst 0, 1) := by decide +kernel
theorem dX12_copy_2 : decode cX12_copy 2 = .ok (.putfield 102, 3) := by decide +kernel
theorem dX12_copy_5 : decode cX12_copy 5 = .ok (.iload_n 1, 1) := by decide +kernel
theorem dX12_copy_6 : decode cX12_copy 6 = .ok (.i2l, 1) := by decide +kernel
theorem dX12_copy_7 : decode cX12_copy 7 = .ok (.lconst 0, 1) := by decide +kernel
theorem dX12_copy_8 : decode cX12_copy 8 = .ok (.ldc2_w 105, 3) := by decide +kernel
theorem dX12_copy_11 : decode cX12_copy 11 = .ok (.invokestatic 107, 3) := by decide +kernel
theorem dX12_copy_14 : decode cX12_copy 14 = .ok (.ifCond .eq 15, 3) := by decide +kernel
theorem dX12_copy_17 : decode cX12_copy 17 = .ok (.iload_n 3, 1) := by decide +kernel
theorem dX12_copy_18 : decode cX12_copy 18 = .ok (.i2l, 1) := by decide +kernel
theorem dX12_copy_19 : decode cX12_copy 19 = .ok (.lconst 0, 1) := by decide +kernel
theorem dX12_copy_20 : decode cX12_copy 20 = .ok (.ldc2_w 105, 3) := by decide +kernel
theorem dX12_copy_23 : decode cX12_copy 23 = .ok (.invokestatic 107, 3) := by decide +kernel
theorem dX12_copy_26 : decode cX12_copy 26 = .ok (.ifCond .ne 5, 3) := by decide +kernel
theorem dX12_copy_29 : decode cX12_copy 29 = .ok (.iconst (-1), 1) := by decide +kernel
theorem dX12_copy_30 : decode cX12_copy 30 = .ok (.ireturn, 1) := by decide +kernel
theorem dX12_copy_31 : decode cX12_copy 31 = .ok (.aload_n 0, 1) := by decide +kernel
theorem dX12_copy_32 : decode cX12_copy 32 = .ok (.getfield 81, 3) := by decide +kernel
theorem dX12_copy_35 : decode cX12_copy 35 = .ok (.iload_n 1, 1) := by decide +kernel
theorem dX12_copy_36 : decode cX12_copy 36 = .ok (.iaload, 1) := by decide +kernel
theorem dX12_copy_37 : decode cX12_copy 37 = .ok (.ifCond .eq 12, 3) := by decide +kernel
theorem dX12_copy_40 : decode cX12_copy 40 = .ok (.aload_n 0, 1) := by decide +kernel
theorem dX12_copy_41 : decode cX12_copy 41 = .ok (.getfield 81, 3) := by decide +kernel
theorem dX12_copy_44 : decode cX12_copy 44 = .ok (.iload_n 3, 1) := by decide +kernel
theorem dX12_copy_45 : decode cX12_copy 45 = .ok (.iaload, 1) := by decide +kernel
theorem dX12_copy_46 : decode cX12_copy 46 = .ok (.ifCond .ne 6, 3) := by decide +kernel
theorem dX12_copy_49 : decode cX12_copy 49 = .ok (.bipush (-11), 2) := by decide +kernel
theorem dX12_copy_51 : decode cX12_copy 51 = .ok (.ireturn, 1) := by decide +kernel
theorem dX12_copy_52 : decode cX12_copy 52 = .ok (.aload_n 0, 1) := by decide +kernel
theorem dX12_copy_53 : decode cX12_copy 53 = .ok (.getfield 81, 3) := by decide +kernel
theorem dX12_copy_56 : decode cX12_copy 56 = .ok (.iload_n 1, 1) := by decide +kernel
theorem dX12_copy_57 : decode cX12_copy 57 = .ok (.iaload, 1) := by decide +kernel
theorem dX12_copy_58 : decode cX12_copy 58 = .ok (.iconst 2, 1) := by decide +kernel
theorem dX12_copy_59 : decode cX12_copy 59 = .ok (.if_icmp .ne 28, 3) := by decide +kernel
theorem dX12_copy_62 : decode cX12_copy 62 = .ok (.aload_n 0, 1) := by decide +kernel
theorem dX12_copy_63 : decode cX12_copy 63 = .ok (.getfield 81, 3) := by decide +kernel
theorem dX12_copy_66 : decode cX12_copy 66 = .ok (.iload_n 3, 1) := by decide +kernel
theorem dX12_copy_67 : decode cX12_copy 67 = .ok (.iaload, 1) := by decide +kernel
theorem dX12_copy_68 : decode cX12_copy 68 = .ok (.iconst 2, 1) := by decide +kernel
theorem dX12_copy_69 : decode cX12_copy 69 = .ok (.if_icmp .ne 18, 3) := by decide +kernel
theorem dX12_copy_72 : decode cX12_copy 72 = .ok (.aload_n 0, 1) := by decide +kernel
theorem dX12_copy_73 : decode cX12_copy 73 = .ok (.getfield 90, 3) := by decide +kernel
theorem dX12_copy_76 : decode cX12_copy 76 = .ok (.iload_n 1, 1) := by decide +kernel
theorem dX12_copy_77 : decode cX12_copy 77 = .ok (.iaload, 1) := by decide +kernel
theorem dX12_copy_78 : decode cX12_copy 78 = .ok (.aload_n 0, 1) := by decide +kernel
theorem dX12_copy_79 : decode cX12_copy 79 = .ok (.getfield 90, 3) := by decide +kernel
theorem dX12_copy_82 : decode cX12_copy 82 = .ok (.iload_n 3, 1) := by decide +kernel
theorem dX12_copy_83 : decode cX12_copy 83 = .ok (.iaload, 1) := by decide +kernel
theorem dX12_copy_84 : decode cX12_copy 84 = .ok (.if_icmp .eq 6, 3) := by decide +kernel
theorem dX12_copy_87 : decode cX12_copy 87 = .ok (.bipush (-12), 2) := by decide +kernel
theorem dX12_copy_89 : decode cX12_copy 89 = .ok (.ireturn, 1) := by decide +kernel
theorem dX12_copy_90 : decode cX12_copy 90 = .ok (.iload 5, 2) := by decide +kernel
theorem dX12_copy_92 : decode cX12_copy 92 = .ok (.ifCond .lt 39, 3) := by decide +kernel
theorem dX12_copy_95 : decode cX12_copy 95 = .ok (.iload_n 2, 1) := by decide +kernel
theorem dX12_copy_96 : decode cX12_copy 96 = .ok (.ifCond .lt 35, 3) := by decide +kernel
theorem dX12_copy_99 : decode cX12_copy 99 = .ok (.iload 4, 2) := by decide +kernel
theorem dX12_copy_101 : decode cX12_copy 101 = .ok (.ifCond .lt 30, 3) := by decide +kernel
theorem dX12_copy_104 : decode cX12_copy 104 = .ok (.iload_n 2, 1) := by decide +kernel
theorem dX12_copy_105 : decode cX12_copy 105 = .ok (.aload_n 0, 1) := by decide +kernel
theorem dX12_copy_106 : decode cX12_copy 106 = .ok (.getfield 93, 3) := by decide +kernel
theorem dX12_copy_109 : decode cX12_copy 109 = .ok (.iload_n 1, 1) := by decide +kernel
theorem dX12_copy_110 : decode cX12_copy 110 = .ok (.iaload, 1) := by decide +kernel
theorem dX12_copy_111 : decode cX12_copy 111 = .ok (.iload 5, 2) := by decide +kernel
theorem dX12_copy_113 : decode cX12_copy 113 = .ok (.isub, 1) := by decide +kernel
theorem dX12_copy_114 : decode cX12_copy 114 = .ok (.if_icmp .gt 17, 3) := by decide +kernel
theorem dX12_copy_117 : decode cX12_copy 117 = .ok (.iload 4, 2) := by decide +kernel
theorem dX12_copy_119 : decode cX12_copy 119 = .ok (.aload_n 0, 1) := by decide +kernel
theorem dX12_copy_120 : decode cX12_copy 120 = .ok (.getfield 93, 3) := by decide +kernel
theorem dX12_copy_123 : decode cX12_copy 123 = .ok (.iload_n 3, 1) := by decide +kernel
theorem dX12_copy_124 : decode cX12_copy 124 = .ok (.iaload, 1) := by decide +kernel
theorem dX12_copy_125 : decode cX12_copy 125 = .ok (.iload 5, 2) := by decide +kernel
theorem dX12_copy_127 : decode cX12_copy 127 = .ok (.isub, 1) := by decide +kernel
theorem dX12_copy_128 : decode cX12_copy 128 = .ok (.if_icmp .le 6, 3) := by decide +kernel
theorem dX12_copy_131 : decode cX12_copy 131 = .ok (.bipush (-13), 2) := by decide +kernel
theorem dX12_copy_133 : decode cX12_copy 133 = .ok (.ireturn, 1) := by decide +kernel
theorem dX12_copy_134 : decode cX12_copy 134 = .ok (.iconst 0, 1) := by decide +kernel
theorem dX12_copy_135 : decode cX12_copy 135 = .ok (.istore 6, 2) := by decide +kernel
theorem dX12_copy_137 : decode cX12_copy 137 = .ok (.iload 6, 2) := by decide +kernel
theorem dX12_copy_139 : decode cX12_copy 139 = .ok (.iload 5, 2) := by decide +kernel
theorem dX12_copy_141 : decode cX12_copy 141 = .ok (.if_icmp .ge 30, 3) := by decide +kernel
theorem dX12_copy_144 : decode cX12_copy 144 = .ok (.aload_n 0, 1) := by decide +kernel
theorem dX12_copy_145 : decode cX12_copy 145 = .ok (.getfield 99, 3) := by decide +kernel
theorem dX12_copy_148 : decode cX12_copy 148 = .ok (.iload 6, 2) := by decide +kernel
theorem dX12_copy_150 : decode cX12_copy 150 = .ok (.aload_n 0, 1) := by decide +kernel
theorem dX12_copy_151 : decode cX12_copy 151 = .ok (.getfield 96, 3) := by decide +kernel
theorem dX12_copy_154 : decode cX12_copy 154 = .ok (.bipush 100, 2) := by decide +kernel
theorem dX12_copy_156 : decode cX12_copy 156 = .ok (.iload_n 1, 1) := by decide +kernel
theorem dX12_copy_157 : decode cX12_copy 157 = .ok (.imul, 1) := by decide +kernel
theorem dX12_copy_158 : decode cX12_copy 158 = .ok (.iload_n 2, 1) := by decide +kernel
theorem dX12_copy_159 : decode cX12_copy 159 = .ok (.iadd, 1) := by decide +kernel
theorem dX12_copy_160 : decode cX12_copy 160 = .ok (.iload 6, 2) := by decide +kernel
theorem dX12_copy_162 : decode cX12_copy 162 = .ok (.iadd, 1) := by decide +kernel
theorem dX12_copy_163 : decode cX12_copy 163 = .ok (.laload, 1) := by decide +kernel
theorem dX12_copy_164 : decode cX12_copy 164 = .ok (.lastore, 1) := by decide +kernel
theorem dX12_copy_165 : decode cX12_copy 165 = .ok (.iinc 6 1, 3) := by decide +kernel
theorem dX12_copy_168 : decode cX12_copy 168 = .ok (.goto (-31), 3) := by decide +kernel
theorem dX12_copy_171 : decode cX12_copy 171 = .ok (.iconst 0, 1) := by decide +kernel
theorem dX12_copy_172 : decode cX12_copy 172 = .ok (.istore 6, 2) := by decide +kernel
theorem dX12_copy_174 : decode cX12_copy 174 = .ok (.iload 6, 2) := by decide +kernel
theorem dX12_copy_176 : decode cX12_copy 176 = .ok (.iload 5, 2) := by decide +kernel
theorem dX12_copy_178 : decode cX12_copy 178 = .ok (.if_icmp .ge 31, 3) := by decide +kernel
theorem dX12_copy_181 : decode cX12_copy 181 = .ok (.aload_n 0, 1) := by decide +kernel
theorem dX12_copy_182 : decode cX12_copy 182 = .ok (.getfield 96, 3) := by decide +kernel
theorem dX12_copy_185 : decode cX12_copy 185 = .ok (.bipush 100, 2) := by decide +kernel
theorem dX12_copy_187 : decode cX12_copy 187 = .ok (.iload_n 3, 1) := by decide +kernel
theorem dX12_copy_188 : decode cX12_copy 188 = .ok (.imul, 1) := by decide +kernel
theorem dX12_copy_189 : decode cX12_copy 189 = .ok (.iload 4, 2) := by decide +kernel
theorem dX12_copy_191 : decode cX12_copy 191 = .ok (.iadd, 1) := by decide +kernel
theorem dX12_copy_192 : decode cX12_copy 192 = .ok (.iload 6, 2) := by decide +kernel
theorem dX12_copy_194 : decode cX12_copy 194 = .ok (.iadd, 1) := by decide +kernel
theorem dX12_copy_195 : decode cX12_copy 195 = .ok (.aload_n 0, 1) := by decide +kernel
theorem dX12_copy_196 : decode cX12_copy 196 = .ok (.getfield 99, 3) := by decide +kernel
theorem dX12_copy_199 : decode cX12_copy 199 = .ok (.iload 6, 2) := by decide +kernel
theorem dX12_copy_201 : decode cX12_copy 201 = .ok (.laload, 1) := by decide +kernel
theorem dX12_copy_202 : decode cX12_copy 202 = .ok (.lastore, 1) := by decide +kernel
theorem dX12_copy_203 : decode cX12_copy 203 = .ok (.iinc 6 1, 3) := by decide +kernel
theorem dX12_copy_206 : decode cX12_copy 206 = .ok (.goto (-32), 3) := by decide +kernel
theorem dX12_copy_209 : decode cX12_copy 209 = .ok (.iload 5, 2) := by decide +kernel
theorem dX12_copy_211 : decode cX12_copy 211 = .ok (.ireturn, 1) := by decide +kernel
theorem dX12_weightOf_0 : decode cX12_weightOf 0 = .ok (.aload_n 0, 1) := by decide +kernel
theorem dX12_weightOf_1 : decode cX12_weightOf 1 = .ok (.getfield 87, 3) := by decide +kernel
theorem dX12_weightOf_4 : decode cX12_weightOf 4 = .ok (.iload_n 1, 1) := by decide +kernel
theorem dX12_weightOf_5 : decode cX12_weightOf 5 = .ok (.iaload, 1) := by decide +kernel
theorem dX12_weightOf_6 : decode cX12_weightOf 6 = .ok (.istore_n 2, 1) := by decide +kernel
theorem dX12_weightOf_7 : decode cX12_weightOf 7 = .ok (.aload_n 0, 1) := by decide +kernel
theorem dX12_weightOf_8 : decode cX12_weightOf 8 = .ok (.getfield 84, 3) := by decide +kernel
theorem dX12_weightOf_11 : decode cX12_weightOf 11 = .ok (.iload_n 1, 1) := by decide +kernel
theorem dX12_weightOf_12 : decode cX12_weightOf 12 = .ok (.iaload, 1) := by decide +kernel
theorem dX12_weightOf_13 : decode cX12_weightOf 13 = .ok (.tableswitch 51 0 4 #[35, 37, 39, 43, 46], 35) := by decide +kernel
theorem dX12_weightOf_48 : decode cX12_weightOf 48 = .ok (.iconst 3, 1) := by decide +kernel
theorem dX12_weightOf_49 : decode cX12_weightOf 49 = .ok (.ireturn, 1) := by decide +kernel
theorem dX12_weightOf_50 : decode cX12_weightOf 50 = .ok (.iconst 4, 1) := by decide +kernel
theorem dX12_weightOf_51 : decode cX12_weightOf 51 = .ok (.ireturn, 1) := by decide +kernel
theorem dX12_weightOf_52 : decode cX12_weightOf 52 = .ok (.iconst 4, 1) := by decide +kernel
theorem dX12_weightOf_53 : decode cX12_weightOf 53 = .ok (.iload_n 2, 1) := by decide +kernel
theorem dX12_weightOf_54 : decode cX12_weightOf 54 = .ok (.iadd, 1) := by decide +kernel
theorem dX12_weightOf_55 : decode cX12_weightOf 55 = .ok (.ireturn, 1) := by decide +kernel
theorem dX12_weightOf_56 : decode cX12_weightOf 56 = .ok (.bipush 6, 2) := by decide +kernel
theorem dX12_weightOf_58 : decode cX12_weightOf 58 = .ok (.ireturn, 1) := by decide +kernel
theorem dX12_weightOf_59 : decode cX12_weightOf 59 = .ok (.bipush 6, 2) := by decide +kernel
theorem dX12_weightOf_61 : decode cX12_weightOf 61 = .ok (.iload_n 2, 1) := by decide +kernel
theorem dX12_weightOf_62 : decode cX12_weightOf 62 = .ok (.iadd, 1) := by decide +kernel
theorem dX12_weightOf_63 : decode cX12_weightOf 63 = .ok (.ireturn, 1) := by decide +kernel
theorem dX12_weightOf_64 : decode cX12_weightOf 64 = .ok (.iconst 3, 1) := by decide +kernel
theorem dX12_weightOf_65 : decode cX12_weightOf 65 = .ok (.bipush 10, 2) := by decide +kernel
theorem dX12_weightOf_67 : decode cX12_weightOf 67 = .ok (.iload_n 2, 1) := by decide +kernel
theorem dX12_weightOf_68 : decode cX12_weightOf 68 = .ok (.imul, 1) := by decide +kernel
theorem dX12_weightOf_69 : decode cX12_weightOf 69 = .ok (.iadd, 1) := by decide +kernel
theorem dX12_weightOf_70 : decode cX12_weightOf 70 = .ok (.ireturn, 1) := by decide +kernel
theorem dX12_wrongShelf_0 : decode cX12_wrongShelf 0 = .ok (.iload_n 1, 1) := by decide +kernel
theorem dX12_wrongShelf_1 : decode cX12_wrongShelf 1 = .ok (.i2l, 1) := by decide +kernel
theorem dX12_wrongShelf_2 : decode cX12_wrongShelf 2 = .ok (.lconst 0, 1) := by decide +kernel
theorem dX12_wrongShelf_3 : decode cX12_wrongShelf 3 = .ok (.ldc2_w 105, 3) := by decide +kernel
theorem dX12_wrongShelf_6 : decode cX12_wrongShelf 6 = .ok (.invokestatic 107, 3) := by decide +kernel
theorem dX12_wrongShelf_9 : decode cX12_wrongShelf 9 = .ok (.ifCond .ne 7, 3) := by decide +kernel
theorem dX12_wrongShelf_12 : decode cX12_wrongShelf 12 = .ok (.iconst (-1), 1) := by decide +kernel
theorem dX12_wrongShelf_13 : decode cX12_wrongShelf 13 = .ok (.goto 8, 3) := by decide +kernel
theorem dX12_wrongShelf_16 : decode cX12_wrongShelf 16 = .ok (.aload_n 0, 1) := by decide +kernel
theorem dX12_wrongShelf_17 : decode cX12_wrongShelf 17 = .ok (.iload_n 1, 1) := by decide +kernel
theorem dX12_wrongShelf_18 : decode cX12_wrongShelf 18 = .ok (.invokevirtual 311, 3) := by decide +kernel
theorem dX12_wrongShelf_21 : decode cX12_wrongShelf 21 = .ok (.ireturn, 1) := by decide +kernel
theorem dX12_weight_0 : decode cX12_weight 0 = .ok (.aload_n 0, 1) := by decide +kernel
theorem dX12_weight_1 : decode cX12_weight 1 = .ok (.iconst 0, 1) := by decide +kernel
theorem dX12_weight_2 : decode cX12_weight 2 = .ok (.putfield 102, 3) := by decide +kernel
theorem dX12_weight_5 : decode cX12_weight 5 = .ok (.aload_n 0, 1) := by decide +kernel
theorem dX12_weight_6 : decode cX12_weight 6 = .ok (.iload_n 1, 1) := by decide +kernel
theorem dX12_weight_7 : decode cX12_weight 7 = .ok (.invokevirtual 356, 3) := by decide +kernel
theorem dX12_weight_10 : decode cX12_weight 10 = .ok (.ifCond .ge 11, 3) := by decide +kernel
theorem dX12_weight_13 : decode cX12_weight 13 = .ok (.aload_n 0, 1) := by decide +kernel
theorem dX12_weight_14 : decode cX12_weight 14 = .ok (.iload_n 1, 1) := by decide +kernel
theorem dX12_weight_15 : decode cX12_weight 15 = .ok (.invokevirtual 356, 3) := by decide +kernel
theorem dX12_weight_18 : decode cX12_weight 18 = .ok (.goto 8, 3) := by decide +kernel
theorem dX12_weight_21 : decode cX12_weight 21 = .ok (.aload_n 0, 1) := by decide +kernel
theorem dX12_weight_22 : decode cX12_weight 22 = .ok (.iload_n 1, 1) := by decide +kernel
theorem dX12_weight_23 : decode cX12_weight 23 = .ok (.invokevirtual 359, 3) := by decide +kernel
theorem dX12_weight_26 : decode cX12_weight 26 = .ok (.ireturn, 1) := by decide +kernel
theorem dX12_toss_0 : decode cX12_toss 0 = .ok (.aload_n 0, 1) := by decide +kernel
theorem dX12_toss_1 : decode cX12_toss 1 = .ok (.iconst 0, 1) := by decide +kernel
theorem dX12_toss_2 : decode cX12_toss 2 = .ok (.putfield 102, 3) := by decide +kernel
theorem dX12_toss_5 : decode cX12_toss 5 = .ok (.aload_n 0, 1) := by decide +kernel
theorem dX12_toss_6 : decode cX12_toss 6 = .ok (.iload_n 1, 1) := by decide +kernel
theorem dX12_toss_7 : decode cX12_toss 7 = .ok (.invokevirtual 356, 3) := by decide +kernel
theorem dX12_toss_10 : decode cX12_toss 10 = .ok (.ifCond .ge 9, 3) := by decide +kernel
theorem dX12_toss_13 : decode cX12_toss 13 = .ok (.aload_n 0, 1) := by decide +kernel
theorem dX12_toss_14 : decode cX12_toss 14 = .ok (.iload_n 1, 1) := by decide +kernel
theorem dX12_toss_15 : decode cX12_toss 15 = .ok (.invokevirtual 356, 3) := by decide +kernel
theorem dX12_toss_18 : decode cX12_toss 18 = .ok (.ireturn, 1) := by decide +kernel
theorem dX12_toss_19 : decode cX12_toss 19 = .ok (.aload_n 0, 1) := by decide +kernel
theorem dX12_toss_20 : decode cX12_toss 20 = .ok (.getfield 87, 3) := by decide +kernel
theorem dX12_toss_23 : decode cX12_toss 23 = .ok (.iload_n 1, 1) := by decide +kernel
theorem dX12_toss_24 : decode cX12_toss 24 = .ok (.iaload, 1) := by decide +kernel
theorem dX12_toss_25 : decode cX12_toss 25 = .ok (.istore_n 2, 1) := by decide +kernel
theorem dX12_toss_26 : decode cX12_toss 26 = .ok (.aload_n 0, 1) := by decide +kernel
theorem dX12_toss_27 : decode cX12_toss 27 = .ok (.getfield 84, 3) := by decide +kernel
theorem dX12_toss_30 : decode cX12_toss 30 = .ok (.iload_n 1, 1) := by decide +kernel
theorem dX12_toss_31 : decode cX12_toss 31 = .ok (.iaload, 1) := by decide +kernel
theorem dX12_toss_32 : decode cX12_toss 32 = .ok (.iconst 5, 1) := by decide +kernel
theorem dX12_toss_33 : decode cX12_toss 33 = .ok (.if_icmp .eq 7, 3) := by decide +kernel
theorem dX12_toss_36 : decode cX12_toss 36 = .ok (.iload_n 2, 1) := by decide +kernel
theorem dX12_toss_37 : decode cX12_toss 37 = .ok (.ifCond .ne 6, 3) := by decide +kernel
theorem dX12_toss_40 : decode cX12_toss 40 = .ok (.bipush (-15), 2) := by decide +kernel
theorem dX12_toss_42 : decode cX12_toss 42 = .ok (.ireturn, 1) := by decide +kernel
theorem dX12_toss_43 : decode cX12_toss 43 = .ok (.aload_n 0, 1) := by decide +kernel
theorem dX12_toss_44 : decode cX12_toss 44 = .ok (.getfield 84, 3) := by decide +kernel
theorem dX12_toss_47 : decode cX12_toss 47 = .ok (.iload_n 1, 1) := by decide +kernel
theorem dX12_toss_48 : decode cX12_toss 48 = .ok (.iaload, 1) := by decide +kernel
theorem dX12_toss_49 : decode cX12_toss 49 = .ok (.iconst 2, 1) := by decide +kernel
theorem dX12_toss_50 : decode cX12_toss 50 = .ok (.if_icmp .ne 10, 3) := by decide +kernel
theorem dX12_toss_53 : decode cX12_toss 53 = .ok (.bipush 100, 2) := by decide +kernel
theorem dX12_toss_55 : decode cX12_toss 55 = .ok (.iload_n 2, 1) := by decide +kernel
theorem dX12_toss_56 : decode cX12_toss 56 = .ok (.iadd, 1) := by decide +kernel
theorem dX12_toss_57 : decode cX12_toss 57 = .ok (.goto 26, 3) := by decide +kernel
theorem dX12_toss_60 : decode cX12_toss 60 = .ok (.aload_n 0, 1) := by decide +kernel
theorem dX12_toss_61 : decode cX12_toss 61 = .ok (.getfield 84, 3) := by decide +kernel
theorem dX12_toss_64 : decode cX12_toss 64 = .ok (.iload_n 1, 1) := by decide +kernel
theorem dX12_toss_65 : decode cX12_toss 65 = .ok (.iaload, 1) := by decide +kernel
theorem dX12_toss_66 : decode cX12_toss 66 = .ok (.iconst 4, 1) := by decide +kernel
theorem dX12_toss_67 : decode cX12_toss 67 = .ok (.if_icmp .ne 15, 3) := by decide +kernel
theorem dX12_toss_70 : decode cX12_toss 70 = .ok (.sipush 200, 3) := by decide +kernel
theorem dX12_toss_73 : decode cX12_toss 73 = .ok (.aload_n 0, 1) := by decide +kernel
theorem dX12_toss_74 : decode cX12_toss 74 = .ok (.iload_n 1, 1) := by decide +kernel
theorem dX12_toss_75 : decode cX12_toss 75 = .ok (.invokevirtual 359, 3) := by decide +kernel
theorem dX12_toss_78 : decode cX12_toss 78 = .ok (.iadd, 1) := by decide +kernel
theorem dX12_toss_79 : decode cX12_toss 79 = .ok (.goto 4, 3) := by decide +kernel
theorem dX12_toss_82 : decode cX12_toss 82 = .ok (.iload_n 2, 1) := by decide +kernel
theorem dX12_toss_83 : decode cX12_toss 83 = .ok (.ireturn, 1) := by decide +kernel
