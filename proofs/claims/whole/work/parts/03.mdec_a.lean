theorem dX12_init_0 : decode cX12_init 0 = .ok (.aload_n 0, 1) := by decide +kernel
theorem dX12_init_1 : decode cX12_init 1 = .ok (.invokespecial 1, 3) := by decide +kernel
theorem dX12_init_4 : decode cX12_init 4 = .ok (.aload_n 0, 1) := by decide +kernel
theorem dX12_init_5 : decode cX12_init 5 = .ok (.bipush 16, 2) := by decide +kernel
theorem dX12_init_7 : decode cX12_init 7 = .ok (.newarray .int, 2) := by decide +kernel
theorem dX12_init_9 : decode cX12_init 9 = .ok (.putfield 7, 3) := by decide +kernel
theorem dX12_init_12 : decode cX12_init 12 = .ok (.aload_n 0, 1) := by decide +kernel
theorem dX12_init_13 : decode cX12_init 13 = .ok (.bipush 16, 2) := by decide +kernel
theorem dX12_init_15 : decode cX12_init 15 = .ok (.newarray .int, 2) := by decide +kernel
theorem dX12_init_17 : decode cX12_init 17 = .ok (.putfield 13, 3) := by decide +kernel
theorem dX12_init_20 : decode cX12_init 20 = .ok (.aload_n 0, 1) := by decide +kernel
theorem dX12_init_21 : decode cX12_init 21 = .ok (.bipush 16, 2) := by decide +kernel
theorem dX12_init_23 : decode cX12_init 23 = .ok (.newarray .int, 2) := by decide +kernel
theorem dX12_init_25 : decode cX12_init 25 = .ok (.putfield 16, 3) := by decide +kernel
theorem dX12_init_28 : decode cX12_init 28 = .ok (.aload_n 0, 1) := by decide +kernel
theorem dX12_init_29 : decode cX12_init 29 = .ok (.iconst 5, 1) := by decide +kernel
theorem dX12_init_30 : decode cX12_init 30 = .ok (.newarray .int, 2) := by decide +kernel
theorem dX12_init_32 : decode cX12_init 32 = .ok (.putfield 19, 3) := by decide +kernel
theorem dX12_init_35 : decode cX12_init 35 = .ok (.aload_n 0, 1) := by decide +kernel
theorem dX12_init_36 : decode cX12_init 36 = .ok (.iconst 5, 1) := by decide +kernel
theorem dX12_init_37 : decode cX12_init 37 = .ok (.newarray .int, 2) := by decide +kernel
theorem dX12_init_39 : decode cX12_init 39 = .ok (.putfield 22, 3) := by decide +kernel
theorem dX12_init_42 : decode cX12_init 42 = .ok (.aload_n 0, 1) := by decide +kernel
theorem dX12_init_43 : decode cX12_init 43 = .ok (.iconst 5, 1) := by decide +kernel
theorem dX12_init_44 : decode cX12_init 44 = .ok (.newarray .int, 2) := by decide +kernel
theorem dX12_init_46 : decode cX12_init 46 = .ok (.putfield 25, 3) := by decide +kernel
theorem dX12_init_49 : decode cX12_init 49 = .ok (.aload_n 0, 1) := by decide +kernel
theorem dX12_init_50 : decode cX12_init 50 = .ok (.bipush 6, 2) := by decide +kernel
theorem dX12_init_52 : decode cX12_init 52 = .ok (.newarray .int, 2) := by decide +kernel
theorem dX12_init_54 : decode cX12_init 54 = .ok (.putfield 28, 3) := by decide +kernel
theorem dX12_init_57 : decode cX12_init 57 = .ok (.aload_n 0, 1) := by decide +kernel
theorem dX12_init_58 : decode cX12_init 58 = .ok (.bipush 6, 2) := by decide +kernel
theorem dX12_init_60 : decode cX12_init 60 = .ok (.newarray .int, 2) := by decide +kernel
theorem dX12_init_62 : decode cX12_init 62 = .ok (.putfield 31, 3) := by decide +kernel
theorem dX12_init_65 : decode cX12_init 65 = .ok (.aload_n 0, 1) := by decide +kernel
theorem dX12_init_66 : decode cX12_init 66 = .ok (.bipush 48, 2) := by decide +kernel
theorem dX12_init_68 : decode cX12_init 68 = .ok (.newarray .int, 2) := by decide +kernel
theorem dX12_init_70 : decode cX12_init 70 = .ok (.putfield 34, 3) := by decide +kernel
theorem dX12_init_73 : decode cX12_init 73 = .ok (.aload_n 0, 1) := by decide +kernel
theorem dX12_init_74 : decode cX12_init 74 = .ok (.iconst 2, 1) := by decide +kernel
theorem dX12_init_75 : decode cX12_init 75 = .ok (.putfield 37, 3) := by decide +kernel
theorem dX12_init_78 : decode cX12_init 78 = .ok (.aload_n 0, 1) := by decide +kernel
theorem dX12_init_79 : decode cX12_init 79 = .ok (.iconst 5, 1) := by decide +kernel
theorem dX12_init_80 : decode cX12_init 80 = .ok (.newarray .long, 2) := by decide +kernel
theorem dX12_init_82 : decode cX12_init 82 = .ok (.putfield 41, 3) := by decide +kernel
theorem dX12_init_85 : decode cX12_init 85 = .ok (.aload_n 0, 1) := by decide +kernel
theorem dX12_init_86 : decode cX12_init 86 = .ok (.bipush 50, 2) := by decide +kernel
theorem dX12_init_88 : decode cX12_init 88 = .ok (.newarray .int, 2) := by decide +kernel
theorem dX12_init_90 : decode cX12_init 90 = .ok (.putfield 45, 3) := by decide +kernel
theorem dX12_init_93 : decode cX12_init 93 = .ok (.aload_n 0, 1) := by decide +kernel
theorem dX12_init_94 : decode cX12_init 94 = .ok (.bipush 50, 2) := by decide +kernel
theorem dX12_init_96 : decode cX12_init 96 = .ok (.newarray .int, 2) := by decide +kernel
theorem dX12_init_98 : decode cX12_init 98 = .ok (.putfield 48, 3) := by decide +kernel
theorem dX12_init_101 : decode cX12_init 101 = .ok (.aload_n 0, 1) := by decide +kernel
theorem dX12_init_102 : decode cX12_init 102 = .ok (.bipush 50, 2) := by decide +kernel
theorem dX12_init_104 : decode cX12_init 104 = .ok (.newarray .int, 2) := by decide +kernel
theorem dX12_init_106 : decode cX12_init 106 = .ok (.putfield 51, 3) := by decide +kernel
theorem dX12_init_109 : decode cX12_init 109 = .ok (.aload_n 0, 1) := by decide +kernel
theorem dX12_init_110 : decode cX12_init 110 = .ok (.bipush 50, 2) := by decide +kernel
theorem dX12_init_112 : decode cX12_init 112 = .ok (.newarray .int, 2) := by decide +kernel
theorem dX12_init_114 : decode cX12_init 114 = .ok (.putfield 54, 3) := by decide +kernel
theorem dX12_init_117 : decode cX12_init 117 = .ok (.aload_n 0, 1) := by decide +kernel
theorem dX12_init_118 : decode cX12_init 118 = .ok (.bipush 50, 2) := by decide +kernel
theorem dX12_init_120 : decode cX12_init 120 = .ok (.newarray .int, 2) := by decide +kernel
theorem dX12_init_122 : decode cX12_init 122 = .ok (.putfield 57, 3) := by decide +kernel
theorem dX12_init_125 : decode cX12_init 125 = .ok (.aload_n 0, 1) := by decide +kernel
theorem dX12_init_126 : decode cX12_init 126 = .ok (.bipush 48, 2) := by decide +kernel
theorem dX12_init_128 : decode cX12_init 128 = .ok (.newarray .int, 2) := by decide +kernel
theorem dX12_init_130 : decode cX12_init 130 = .ok (.putfield 60, 3) := by decide +kernel
theorem dX12_init_133 : decode cX12_init 133 = .ok (.aload_n 0, 1) := by decide +kernel
theorem dX12_init_134 : decode cX12_init 134 = .ok (.bipush 40, 2) := by decide +kernel
theorem dX12_init_136 : decode cX12_init 136 = .ok (.newarray .int, 2) := by decide +kernel
theorem dX12_init_138 : decode cX12_init 138 = .ok (.putfield 63, 3) := by decide +kernel
theorem dX12_init_141 : decode cX12_init 141 = .ok (.aload_n 0, 1) := by decide +kernel
theorem dX12_init_142 : decode cX12_init 142 = .ok (.iconst (-1), 1) := by decide +kernel
theorem dX12_init_143 : decode cX12_init 143 = .ok (.putfield 66, 3) := by decide +kernel
theorem dX12_init_146 : decode cX12_init 146 = .ok (.aload_n 0, 1) := by decide +kernel
theorem dX12_init_147 : decode cX12_init 147 = .ok (.iconst 5, 1) := by decide +kernel
theorem dX12_init_148 : decode cX12_init 148 = .ok (.newarray .long, 2) := by decide +kernel
theorem dX12_init_150 : decode cX12_init 150 = .ok (.putfield 69, 3) := by decide +kernel
theorem dX12_init_153 : decode cX12_init 153 = .ok (.aload_n 0, 1) := by decide +kernel
theorem dX12_init_154 : decode cX12_init 154 = .ok (.iconst 5, 1) := by decide +kernel
theorem dX12_init_155 : decode cX12_init 155 = .ok (.newarray .int, 2) := by decide +kernel
theorem dX12_init_157 : decode cX12_init 157 = .ok (.putfield 72, 3) := by decide +kernel
theorem dX12_init_160 : decode cX12_init 160 = .ok (.aload_n 0, 1) := by decide +kernel
theorem dX12_init_161 : decode cX12_init 161 = .ok (.iconst 5, 1) := by decide +kernel
theorem dX12_init_162 : decode cX12_init 162 = .ok (.newarray .long, 2) := by decide +kernel
theorem dX12_init_164 : decode cX12_init 164 = .ok (.putfield 75, 3) := by decide +kernel
theorem dX12_init_167 : decode cX12_init 167 = .ok (.aload_n 0, 1) := by decide +kernel
theorem dX12_init_168 : decode cX12_init 168 = .ok (.sipush 150, 3) := by decide +kernel
theorem dX12_init_171 : decode cX12_init 171 = .ok (.newarray .long, 2) := by decide +kernel
theorem dX12_init_173 : decode cX12_init 173 = .ok (.putfield 78, 3) := by decide +kernel
theorem dX12_init_176 : decode cX12_init 176 = .ok (.aload_n 0, 1) := by decide +kernel
theorem dX12_init_177 : decode cX12_init 177 = .ok (.bipush 8, 2) := by decide +kernel
theorem dX12_init_179 : decode cX12_init 179 = .ok (.newarray .int, 2) := by decide +kernel
theorem dX12_init_181 : decode cX12_init 181 = .ok (.putfield 81, 3) := by decide +kernel
theorem dX12_init_184 : decode cX12_init 184 = .ok (.aload_n 0, 1) := by decide +kernel
theorem dX12_init_185 : decode cX12_init 185 = .ok (.bipush 8, 2) := by decide +kernel
theorem dX12_init_187 : decode cX12_init 187 = .ok (.newarray .int, 2) := by decide +kernel
theorem dX12_init_189 : decode cX12_init 189 = .ok (.putfield 84, 3) := by decide +kernel
theorem dX12_init_192 : decode cX12_init 192 = .ok (.aload_n 0, 1) := by decide +kernel
theorem dX12_init_193 : decode cX12_init 193 = .ok (.bipush 8, 2) := by decide +kernel
theorem dX12_init_195 : decode cX12_init 195 = .ok (.newarray .int, 2) := by decide +kernel
theorem dX12_init_197 : decode cX12_init 197 = .ok (.putfield 87, 3) := by decide +kernel
theorem dX12_init_200 : decode cX12_init 200 = .ok (.aload_n 0, 1) := by decide +kernel
theorem dX12_init_201 : decode cX12_init 201 = .ok (.bipush 8, 2) := by decide +kernel
theorem dX12_init_203 : decode cX12_init 203 = .ok (.newarray .int, 2) := by decide +kernel
theorem dX12_init_205 : decode cX12_init 205 = .ok (.putfield 90, 3) := by decide +kernel
theorem dX12_init_208 : decode cX12_init 208 = .ok (.aload_n 0, 1) := by decide +kernel
theorem dX12_init_209 : decode cX12_init 209 = .ok (.bipush 8, 2) := by decide +kernel
theorem dX12_init_211 : decode cX12_init 211 = .ok (.newarray .int, 2) := by decide +kernel
theorem dX12_init_213 : decode cX12_init 213 = .ok (.putfield 93, 3) := by decide +kernel
theorem dX12_init_216 : decode cX12_init 216 = .ok (.aload_n 0, 1) := by decide +kernel
theorem dX12_init_217 : decode cX12_init 217 = .ok (.sipush 800, 3) := by decide +kernel
theorem dX12_init_220 : decode cX12_init 220 = .ok (.newarray .long, 2) := by decide +kernel
theorem dX12_init_222 : decode cX12_init 222 = .ok (.putfield 96, 3) := by decide +kernel
theorem dX12_init_225 : decode cX12_init 225 = .ok (.aload_n 0, 1) := by decide +kernel
theorem dX12_init_226 : decode cX12_init 226 = .ok (.bipush 100, 2) := by decide +kernel
theorem dX12_init_228 : decode cX12_init 228 = .ok (.newarray .long, 2) := by decide +kernel
theorem dX12_init_230 : decode cX12_init 230 = .ok (.putfield 99, 3) := by decide +kernel
theorem dX12_init_233 : decode cX12_init 233 = .ok (.aload_n 0, 1) := by decide +kernel
theorem dX12_init_234 : decode cX12_init 234 = .ok (.iconst 0, 1) := by decide +kernel
theorem dX12_init_235 : decode cX12_init 235 = .ok (.putfield 102, 3) := by decide +kernel
theorem dX12_init_238 : decode cX12_init 238 = .ok (.return_, 1) := by decide +kernel
theorem dX12_thrown_0 : decode cX12_thrown 0 = .ok (.aload_n 0, 1) := by decide +kernel
theorem dX12_thrown_1 : decode cX12_thrown 1 = .ok (.getfield 102, 3) := by decide +kernel
theorem dX12_thrown_4 : decode cX12_thrown 4 = .ok (.ireturn, 1) := by decide +kernel
theorem dX12_in_0 : decode cX12_in 0 = .ok (.lload_n 0, 1) := by decide +kernel
theorem dX12_in_1 : decode cX12_in 1 = .ok (.lload_n 2, 1) := by decide +kernel
theorem dX12_in_2 : decode cX12_in 2 = .ok (.lcmp, 1) := by decide +kernel
theorem dX12_in_3 : decode cX12_in 3 = .ok (.ifCond .lt 14, 3) := by decide +kernel
theorem dX12_in_6 : decode cX12_in 6 = .ok (.lload_n 0, 1) := by decide +kernel
theorem dX12_in_7 : decode cX12_in 7 = .ok (.lload 4, 2) := by decide +kernel
theorem dX12_in_9 : decode cX12_in 9 = .ok (.lcmp, 1) := by decide +kernel
theorem dX12_in_10 : decode cX12_in 10 = .ok (.ifCond .gt 7, 3) := by decide +kernel
theorem dX12_in_13 : decode cX12_in 13 = .ok (.iconst 1, 1) := by decide +kernel
theorem dX12_in_14 : decode cX12_in 14 = .ok (.goto 4, 3) := by decide +kernel
theorem dX12_in_17 : decode cX12_in 17 = .ok (.iconst 0, 1) := by decide +kernel
theorem dX12_in_18 : decode cX12_in 18 = .ok (.ireturn, 1) := by decide +kernel
theorem dX12_isCrossing_0 : decode cX12_isCrossing 0 = .ok (.iload_n 1, 1) := by decide +kernel
theorem dX12_isCrossing_1 : decode cX12_isCrossing 1 = .ok (.i2l, 1) := by decide +kernel
theorem dX12_isCrossing_2 : decode cX12_isCrossing 2 = .ok (.lconst 0, 1) := by decide +kernel
theorem dX12_isCrossing_3 : decode cX12_isCrossing 3 = .ok (.ldc2_w 105, 3) := by decide +kernel
theorem dX12_isCrossing_6 : decode cX12_isCrossing 6 = .ok (.invokestatic 107, 3) := by decide +kernel
theorem dX12_isCrossing_9 : decode cX12_isCrossing 9 = .ok (.ireturn, 1) := by decide +kernel
theorem dX12_isWorld_0 : decode cX12_isWorld 0 = .ok (.iload_n 1, 1) := by decide +kernel
theorem dX12_isWorld_1 : decode cX12_isWorld 1 = .ok (.i2l, 1) := by decide +kernel
theorem dX12_isWorld_2 : decode cX12_isWorld 2 = .ok (.lconst 0, 1) := by decide +kernel
theorem dX12_isWorld_3 : decode cX12_isWorld 3 = .ok (.aload_n 0, 1) := by decide +kernel
theorem dX12_isWorld_4 : decode cX12_isWorld 4 = .ok (.getfield 111, 3) := by decide +kernel
theorem dX12_isWorld_7 : decode cX12_isWorld 7 = .ok (.iconst 1, 1) := by decide +kernel
theorem dX12_isWorld_8 : decode cX12_isWorld 8 = .ok (.isub, 1) := by decide +kernel
theorem dX12_isWorld_9 : decode cX12_isWorld 9 = .ok (.i2l, 1) := by decide +kernel
theorem dX12_isWorld_10 : decode cX12_isWorld 10 = .ok (.invokestatic 107, 3) := by decide +kernel
theorem dX12_isWorld_13 : decode cX12_isWorld 13 = .ok (.ireturn, 1) := by decide +kernel
theorem dX12_chancesTogether_0 : decode cX12_chancesTogether 0 = .ok (.iconst 0, 1) := by decide +kernel
theorem dX12_chancesTogether_1 : decode cX12_chancesTogether 1 = .ok (.istore_n 1, 1) := by decide +kernel
theorem dX12_chancesTogether_2 : decode cX12_chancesTogether 2 = .ok (.iconst 0, 1) := by decide +kernel
theorem dX12_chancesTogether_3 : decode cX12_chancesTogether 3 = .ok (.istore_n 2, 1) := by decide +kernel
theorem dX12_chancesTogether_4 : decode cX12_chancesTogether 4 = .ok (.iload_n 2, 1) := by decide +kernel
theorem dX12_chancesTogether_5 : decode cX12_chancesTogether 5 = .ok (.aload_n 0, 1) := by decide +kernel
theorem dX12_chancesTogether_6 : decode cX12_chancesTogether 6 = .ok (.getfield 111, 3) := by decide +kernel
theorem dX12_chancesTogether_9 : decode cX12_chancesTogether 9 = .ok (.if_icmp .ge 18, 3) := by decide +kernel
theorem dX12_chancesTogether_12 : decode cX12_chancesTogether 12 = .ok (.iload_n 1, 1) := by decide +kernel
theorem dX12_chancesTogether_13 : decode cX12_chancesTogether 13 = .ok (.aload_n 0, 1) := by decide +kernel
theorem dX12_chancesTogether_14 : decode cX12_chancesTogether 14 = .ok (.getfield 19, 3) := by decide +kernel
theorem dX12_chancesTogether_17 : decode cX12_chancesTogether 17 = .ok (.iload_n 2, 1) := by decide +kernel
theorem dX12_chancesTogether_18 : decode cX12_chancesTogether 18 = .ok (.iaload, 1) := by decide +kernel
theorem dX12_chancesTogether_19 : decode cX12_chancesTogether 19 = .ok (.iadd, 1) := by decide +kernel
theorem dX12_chancesTogether_20 : decode cX12_chancesTogether 20 = .ok (.istore_n 1, 1) := by decide +kernel
theorem dX12_chancesTogether_21 : decode cX12_chancesTogether 21 = .ok (.iinc 2 1, 3) := by decide +kernel
theorem dX12_chancesTogether_24 : decode cX12_chancesTogether 24 = .ok (.goto (-20), 3) := by decide +kernel
theorem dX12_chancesTogether_27 : decode cX12_chancesTogether 27 = .ok (.iload_n 1, 1) := by decide +kernel
theorem dX12_chancesTogether_28 : decode cX12_chancesTogether 28 = .ok (.ireturn, 1) := by decide +kernel
theorem dX12_isReady_0 : decode cX12_isReady 0 = .ok (.aload_n 0, 1) := by decide +kernel
theorem dX12_isReady_1 : decode cX12_isReady 1 = .ok (.invokevirtual 114, 3) := by decide +kernel
theorem dX12_isReady_4 : decode cX12_isReady 4 = .ok (.bipush 100, 2) := by decide +kernel
theorem dX12_isReady_6 : decode cX12_isReady 6 = .ok (.if_icmp .ne 7, 3) := by decide +kernel
theorem dX12_isReady_9 : decode cX12_isReady 9 = .ok (.iconst 1, 1) := by decide +kernel
theorem dX12_isReady_10 : decode cX12_isReady 10 = .ok (.goto 4, 3) := by decide +kernel
theorem dX12_isReady_13 : decode cX12_isReady 13 = .ok (.iconst 0, 1) := by decide +kernel
theorem dX12_isReady_14 : decode cX12_isReady 14 = .ok (.ireturn, 1) := by decide +kernel
theorem dX12_here_0 : decode cX12_here 0 = .ok (.aload_n 0, 1) := by decide +kernel
theorem dX12_here_1 : decode cX12_here 1 = .ok (.getfield 118, 3) := by decide +kernel
theorem dX12_here_4 : decode cX12_here 4 = .ok (.aload_n 0, 1) := by decide +kernel
theorem dX12_here_5 : decode cX12_here 5 = .ok (.getfield 121, 3) := by decide +kernel
theorem dX12_here_8 : decode cX12_here 8 = .ok (.if_icmp .lt 7, 3) := by decide +kernel
theorem dX12_here_11 : decode cX12_here 11 = .ok (.iconst (-1), 1) := by decide +kernel
theorem dX12_here_12 : decode cX12_here 12 = .ok (.goto 22, 3) := by decide +kernel
theorem dX12_here_15 : decode cX12_here 15 = .ok (.aload_n 0, 1) := by decide +kernel
theorem dX12_here_16 : decode cX12_here 16 = .ok (.getfield 96, 3) := by decide +kernel
theorem dX12_here_19 : decode cX12_here 19 = .ok (.aload_n 0, 1) := by decide +kernel
theorem dX12_here_20 : decode cX12_here 20 = .ok (.getfield 124, 3) := by decide +kernel
theorem dX12_here_23 : decode cX12_here 23 = .ok (.aload_n 0, 1) := by decide +kernel
theorem dX12_here_24 : decode cX12_here 24 = .ok (.getfield 118, 3) := by decide +kernel
theorem dX12_here_27 : decode cX12_here 27 = .ok (.iadd, 1) := by decide +kernel
theorem dX12_here_28 : decode cX12_here 28 = .ok (.laload, 1) := by decide +kernel
theorem dX12_here_29 : decode cX12_here 29 = .ok (.l2i, 1) := by decide +kernel
theorem dX12_here_30 : decode cX12_here 30 = .ok (.sipush 255, 3) := by decide +kernel
theorem dX12_here_33 : decode cX12_here 33 = .ok (.iand, 1) := by decide +kernel
theorem dX12_here_34 : decode cX12_here 34 = .ok (.ireturn, 1) := by decide +kernel
theorem dX12_take_0 : decode cX12_take 0 = .ok (.aload_n 0, 1) := by decide +kernel
theorem dX12_take_1 : decode cX12_take 1 = .ok (.aload_n 0, 1) := by decide +kernel
theorem dX12_take_2 : decode cX12_take 2 = .ok (.getfield 127, 3) := by decide +kernel
theorem dX12_take_5 : decode cX12_take 5 = .ok (.ifCond .ne 11, 3) := by decide +kernel
theorem dX12_take_8 : decode cX12_take 8 = .ok (.aload_n 0, 1) := by decide +kernel
theorem dX12_take_9 : decode cX12_take 9 = .ok (.invokevirtual 131, 3) := by decide +kernel
theorem dX12_take_12 : decode cX12_take 12 = .ok (.iload_n 1, 1) := by decide +kernel
theorem dX12_take_13 : decode cX12_take 13 = .ok (.if_icmp .eq 7, 3) := by decide +kernel
theorem dX12_take_16 : decode cX12_take 16 = .ok (.iconst 1, 1) := by decide +kernel
theorem dX12_take_17 : decode cX12_take 17 = .ok (.goto 4, 3) := by decide +kernel
theorem dX12_take_20 : decode cX12_take 20 = .ok (.iconst 0, 1) := by decide +kernel
theorem dX12_take_21 : decode cX12_take 21 = .ok (.putfield 127, 3) := by decide +kernel
theorem dX12_take_24 : decode cX12_take 24 = .ok (.aload_n 0, 1) := by decide +kernel
theorem dX12_take_25 : decode cX12_take 25 = .ok (.dup, 1) := by decide +kernel
theorem dX12_take_26 : decode cX12_take 26 = .ok (.getfield 118, 3) := by decide +kernel
theorem dX12_take_29 : decode cX12_take 29 = .ok (.aload_n 0, 1) := by decide +kernel
theorem dX12_take_30 : decode cX12_take 30 = .ok (.getfield 127, 3) := by decide +kernel
theorem dX12_take_33 : decode cX12_take 33 = .ok (.ifCond .eq 7, 3) := by decide +kernel
theorem dX12_take_36 : decode cX12_take 36 = .ok (.iconst 0, 1) := by decide +kernel
theorem dX12_take_37 : decode cX12_take 37 = .ok (.goto 4, 3) := by decide +kernel
theorem dX12_take_40 : decode cX12_take 40 = .ok (.iconst 1, 1) := by decide +kernel
theorem dX12_take_41 : decode cX12_take 41 = .ok (.iadd, 1) := by decide +kernel
theorem dX12_take_42 : decode cX12_take 42 = .ok (.putfield 118, 3) := by decide +kernel
theorem dX12_take_45 : decode cX12_take 45 = .ok (.return_, 1) := by decide +kernel
theorem dX12_readDigit_0 : decode cX12_readDigit 0 = .ok (.aload_n 0, 1) := by decide +kernel
theorem dX12_readDigit_1 : decode cX12_readDigit 1 = .ok (.aload_n 0, 1) := by decide +kernel
theorem dX12_readDigit_2 : decode cX12_readDigit 2 = .ok (.getfield 127, 3) := by decide +kernel
theorem dX12_readDigit_5 : decode cX12_readDigit 5 = .ok (.ifCond .ne 20, 3) := by decide +kernel
theorem dX12_readDigit_8 : decode cX12_readDigit 8 = .ok (.aload_n 0, 1) := by decide +kernel
theorem dX12_readDigit_9 : decode cX12_readDigit 9 = .ok (.invokevirtual 131, 3) := by decide +kernel
theorem dX12_readDigit_12 : decode cX12_readDigit 12 = .ok (.i2l, 1) := by decide +kernel
theorem dX12_readDigit_13 : decode cX12_readDigit 13 = .ok (.ldc2_w 134, 3) := by decide +kernel
theorem dX12_readDigit_16 : decode cX12_readDigit 16 = .ok (.ldc2_w 136, 3) := by decide +kernel
theorem dX12_readDigit_19 : decode cX12_readDigit 19 = .ok (.invokestatic 107, 3) := by decide +kernel
theorem dX12_readDigit_22 : decode cX12_readDigit 22 = .ok (.ifCond .ne 7, 3) := by decide +kernel
theorem dX12_readDigit_25 : decode cX12_readDigit 25 = .ok (.iconst 1, 1) := by decide +kernel
theorem dX12_readDigit_26 : decode cX12_readDigit 26 = .ok (.goto 4, 3) := by decide +kernel
theorem dX12_readDigit_29 : decode cX12_readDigit 29 = .ok (.iconst 0, 1) := by decide +kernel
theorem dX12_readDigit_30 : decode cX12_readDigit 30 = .ok (.putfield 127, 3) := by decide +kernel
theorem dX12_readDigit_33 : decode cX12_readDigit 33 = .ok (.aload_n 0, 1) := by decide +kernel
theorem dX12_readDigit_34 : decode cX12_readDigit 34 = .ok (.getfield 127, 3) := by decide +kernel
theorem dX12_readDigit_37 : decode cX12_readDigit 37 = .ok (.ifCond .eq 5, 3) := by decide +kernel
theorem dX12_readDigit_40 : decode cX12_readDigit 40 = .ok (.iconst 0, 1) := by decide +kernel
theorem dX12_readDigit_41 : decode cX12_readDigit 41 = .ok (.ireturn, 1) := by decide +kernel
theorem dX12_readDigit_42 : decode cX12_readDigit 42 = .ok (.aload_n 0, 1) := by decide +kernel
theorem dX12_readDigit_43 : decode cX12_readDigit 43 = .ok (.dup, 1) := by decide +kernel
theorem dX12_readDigit_44 : decode cX12_readDigit 44 = .ok (.getfield 118, 3) := by decide +kernel
theorem dX12_readDigit_47 : decode cX12_readDigit 47 = .ok (.iconst 1, 1) := by decide +kernel
theorem dX12_readDigit_48 : decode cX12_readDigit 48 = .ok (.iadd, 1) := by decide +kernel
theorem dX12_readDigit_49 : decode cX12_readDigit 49 = .ok (.putfield 118, 3) := by decide +kernel
theorem dX12_readDigit_52 : decode cX12_readDigit 52 = .ok (.aload_n 0, 1) := by decide +kernel
theorem dX12_readDigit_53 : decode cX12_readDigit 53 = .ok (.getfield 96, 3) := by decide +kernel
theorem dX12_readDigit_56 : decode cX12_readDigit 56 = .ok (.aload_n 0, 1) := by decide +kernel
theorem dX12_readDigit_57 : decode cX12_readDigit 57 = .ok (.getfield 124, 3) := by decide +kernel
theorem dX12_readDigit_60 : decode cX12_readDigit 60 = .ok (.aload_n 0, 1) := by decide +kernel
theorem dX12_readDigit_61 : decode cX12_readDigit 61 = .ok (.getfield 118, 3) := by decide +kernel
theorem dX12_readDigit_64 : decode cX12_readDigit 64 = .ok (.iadd, 1) := by decide +kernel
theorem dX12_readDigit_65 : decode cX12_readDigit 65 = .ok (.iconst 1, 1) := by decide +kernel
theorem dX12_readDigit_66 : decode cX12_readDigit 66 = .ok (.isub, 1) := by decide +kernel
theorem dX12_readDigit_67 : decode cX12_readDigit 67 = .ok (.laload, 1) := by decide +kernel
theorem dX12_readDigit_68 : decode cX12_readDigit 68 = .ok (.l2i, 1) := by decide +kernel
theorem dX12_readDigit_69 : decode cX12_readDigit 69 = .ok (.bipush 48, 2) := by decide +kernel
theorem dX12_readDigit_71 : decode cX12_readDigit 71 = .ok (.isub, 1) := by decide +kernel
theorem dX12_readDigit_72 : decode cX12_readDigit 72 = .ok (.ireturn, 1) := by decide +kernel
theorem dX12_readNumber_0 : decode cX12_readNumber 0 = .ok (.aload_n 0, 1) := by decide +kernel
theorem dX12_readNumber_1 : decode cX12_readNumber 1 = .ok (.invokevirtual 138, 3) := by decide +kernel
theorem dX12_readNumber_4 : decode cX12_readNumber 4 = .ok (.istore_n 1, 1) := by decide +kernel
theorem dX12_readNumber_5 : decode cX12_readNumber 5 = .ok (.iconst 1, 1) := by decide +kernel
theorem dX12_readNumber_6 : decode cX12_readNumber 6 = .ok (.istore_n 2, 1) := by decide +kernel
theorem dX12_readNumber_7 : decode cX12_readNumber 7 = .ok (.iload_n 2, 1) := by decide +kernel
theorem dX12_readNumber_8 : decode cX12_readNumber 8 = .ok (.iconst 5, 1) := by decide +kernel
theorem dX12_readNumber_9 : decode cX12_readNumber 9 = .ok (.if_icmp .ge 60, 3) := by decide +kernel
theorem dX12_readNumber_12 : decode cX12_readNumber 12 = .ok (.iload_n 1, 1) := by decide +kernel
theorem dX12_readNumber_13 : decode cX12_readNumber 13 = .ok (.ifCond .le 56, 3) := by decide +kernel
theorem dX12_readNumber_16 : decode cX12_readNumber 16 = .ok (.aload_n 0, 1) := by decide +kernel
theorem dX12_readNumber_17 : decode cX12_readNumber 17 = .ok (.getfield 127, 3) := by decide +kernel
theorem dX12_readNumber_20 : decode cX12_readNumber 20 = .ok (.ifCond .ne 49, 3) := by decide +kernel
theorem dX12_readNumber_23 : decode cX12_readNumber 23 = .ok (.aload_n 0, 1) := by decide +kernel
theorem dX12_readNumber_24 : decode cX12_readNumber 24 = .ok (.invokevirtual 131, 3) := by decide +kernel
theorem dX12_readNumber_27 : decode cX12_readNumber 27 = .ok (.i2l, 1) := by decide +kernel
theorem dX12_readNumber_28 : decode cX12_readNumber 28 = .ok (.ldc2_w 134, 3) := by decide +kernel
theorem dX12_readNumber_31 : decode cX12_readNumber 31 = .ok (.ldc2_w 136, 3) := by decide +kernel
theorem dX12_readNumber_34 : decode cX12_readNumber 34 = .ok (.invokestatic 107, 3) := by decide +kernel
theorem dX12_readNumber_37 : decode cX12_readNumber 37 = .ok (.ifCond .eq 32, 3) := by decide +kernel
theorem dX12_readNumber_40 : decode cX12_readNumber 40 = .ok (.bipush 10, 2) := by decide +kernel
theorem dX12_readNumber_42 : decode cX12_readNumber 42 = .ok (.iload_n 1, 1) := by decide +kernel
theorem dX12_readNumber_43 : decode cX12_readNumber 43 = .ok (.imul, 1) := by decide +kernel
theorem dX12_readNumber_44 : decode cX12_readNumber 44 = .ok (.aload_n 0, 1) := by decide +kernel
theorem dX12_readNumber_45 : decode cX12_readNumber 45 = .ok (.invokevirtual 131, 3) := by decide +kernel
theorem dX12_readNumber_48 : decode cX12_readNumber 48 = .ok (.iadd, 1) := by decide +kernel
theorem dX12_readNumber_49 : decode cX12_readNumber 49 = .ok (.bipush 48, 2) := by decide +kernel
theorem dX12_readNumber_51 : decode cX12_readNumber 51 = .ok (.isub, 1) := by decide +kernel
theorem dX12_readNumber_52 : decode cX12_readNumber 52 = .ok (.istore_n 1, 1) := by decide +kernel
theorem dX12_readNumber_53 : decode cX12_readNumber 53 = .ok (.aload_n 0, 1) := by decide +kernel
theorem dX12_readNumber_54 : decode cX12_readNumber 54 = .ok (.dup, 1) := by decide +kernel
theorem dX12_readNumber_55 : decode cX12_readNumber 55 = .ok (.getfield 118, 3) := by decide +kernel
theorem dX12_readNumber_58 : decode cX12_readNumber 58 = .ok (.iconst 1, 1) := by decide +kernel
theorem dX12_readNumber_59 : decode cX12_readNumber 59 = .ok (.iadd, 1) := by decide +kernel
theorem dX12_readNumber_60 : decode cX12_readNumber 60 = .ok (.putfield 118, 3) := by decide +kernel
theorem dX12_readNumber_63 : decode cX12_readNumber 63 = .ok (.iinc 2 1, 3) := by decide +kernel
theorem dX12_readNumber_66 : decode cX12_readNumber 66 = .ok (.goto (-59), 3) := by decide +kernel
theorem dX12_readNumber_69 : decode cX12_readNumber 69 = .ok (.iload_n 1, 1) := by decide +kernel
theorem dX12_readNumber_70 : decode cX12_readNumber 70 = .ok (.ireturn, 1) := by decide +kernel
theorem dX12_readStatement_0 : decode cX12_readStatement 0 = .ok (.aload_n 0, 1) := by decide +kernel
theorem dX12_readStatement_1 : decode cX12_readStatement 1 = .ok (.invokevirtual 131, 3) := by decide +kernel
theorem dX12_readStatement_4 : decode cX12_readStatement 4 = .ok (.istore_n 1, 1) := by decide +kernel
theorem dX12_readStatement_5 : decode cX12_readStatement 5 = .ok (.aload_n 0, 1) := by decide +kernel
theorem dX12_readStatement_6 : decode cX12_readStatement 6 = .ok (.getfield 141, 3) := by decide +kernel
theorem dX12_readStatement_9 : decode cX12_readStatement 9 = .ok (.istore_n 2, 1) := by decide +kernel
theorem dX12_readStatement_10 : decode cX12_readStatement 10 = .ok (.aload_n 0, 1) := by decide +kernel
theorem dX12_readStatement_11 : decode cX12_readStatement 11 = .ok (.iload_n 1, 1) := by decide +kernel
theorem dX12_readStatement_12 : decode cX12_readStatement 12 = .ok (.bipush 114, 2) := by decide +kernel
theorem dX12_readStatement_14 : decode cX12_readStatement 14 = .ok (.if_icmp .eq 37, 3) := by decide +kernel
theorem dX12_readStatement_17 : decode cX12_readStatement 17 = .ok (.iload_n 1, 1) := by decide +kernel
theorem dX12_readStatement_18 : decode cX12_readStatement 18 = .ok (.bipush 119, 2) := by decide +kernel
theorem dX12_readStatement_20 : decode cX12_readStatement 20 = .ok (.if_icmp .eq 31, 3) := by decide +kernel
theorem dX12_readStatement_23 : decode cX12_readStatement 23 = .ok (.iload_n 1, 1) := by decide +kernel
theorem dX12_readStatement_24 : decode cX12_readStatement 24 = .ok (.bipush 115, 2) := by decide +kernel
theorem dX12_readStatement_26 : decode cX12_readStatement 26 = .ok (.if_icmp .eq 25, 3) := by decide +kernel
theorem dX12_readStatement_29 : decode cX12_readStatement 29 = .ok (.iload_n 1, 1) := by decide +kernel
theorem dX12_readStatement_30 : decode cX12_readStatement 30 = .ok (.bipush 109, 2) := by decide +kernel
theorem dX12_readStatement_32 : decode cX12_readStatement 32 = .ok (.if_icmp .eq 19, 3) := by decide +kernel
theorem dX12_readStatement_35 : decode cX12_readStatement 35 = .ok (.iload_n 1, 1) := by decide +kernel
theorem dX12_readStatement_36 : decode cX12_readStatement 36 = .ok (.bipush 98, 2) := by decide +kernel
theorem dX12_readStatement_38 : decode cX12_readStatement 38 = .ok (.if_icmp .eq 13, 3) := by decide +kernel
theorem dX12_readStatement_41 : decode cX12_readStatement 41 = .ok (.iload_n 1, 1) := by decide +kernel
theorem dX12_readStatement_42 : decode cX12_readStatement 42 = .ok (.bipush 97, 2) := by decide +kernel
theorem dX12_readStatement_44 : decode cX12_readStatement 44 = .ok (.if_icmp .eq 7, 3) := by decide +kernel
theorem dX12_readStatement_47 : decode cX12_readStatement 47 = .ok (.iconst 1, 1) := by decide +kernel
theorem dX12_readStatement_48 : decode cX12_readStatement 48 = .ok (.goto 4, 3) := by decide +kernel
theorem dX12_readStatement_51 : decode cX12_readStatement 51 = .ok (.iconst 0, 1) := by decide +kernel
theorem dX12_readStatement_52 : decode cX12_readStatement 52 = .ok (.putfield 127, 3) := by decide +kernel
theorem dX12_readStatement_55 : decode cX12_readStatement 55 = .ok (.aload_n 0, 1) := by decide +kernel
theorem dX12_readStatement_56 : decode cX12_readStatement 56 = .ok (.getfield 45, 3) := by decide +kernel
theorem dX12_readStatement_59 : decode cX12_readStatement 59 = .ok (.iload_n 2, 1) := by decide +kernel
theorem dX12_readStatement_60 : decode cX12_readStatement 60 = .ok (.aload_n 0, 1) := by decide +kernel
theorem dX12_readStatement_61 : decode cX12_readStatement 61 = .ok (.getfield 118, 3) := by decide +kernel
theorem dX12_readStatement_64 : decode cX12_readStatement 64 = .ok (.iastore, 1) := by decide +kernel
theorem dX12_readStatement_65 : decode cX12_readStatement 65 = .ok (.aload_n 0, 1) := by decide +kernel
theorem dX12_readStatement_66 : decode cX12_readStatement 66 = .ok (.getfield 48, 3) := by decide +kernel
theorem dX12_readStatement_69 : decode cX12_readStatement 69 = .ok (.iload_n 2, 1) := by decide +kernel
theorem dX12_readStatement_70 : decode cX12_readStatement 70 = .ok (.iload_n 1, 1) := by decide +kernel
theorem dX12_readStatement_71 : decode cX12_readStatement 71 = .ok (.iastore, 1) := by decide +kernel
theorem dX12_readStatement_72 : decode cX12_readStatement 72 = .ok (.aload_n 0, 1) := by decide +kernel
theorem dX12_readStatement_73 : decode cX12_readStatement 73 = .ok (.dup, 1) := by decide +kernel
theorem dX12_readStatement_74 : decode cX12_readStatement 74 = .ok (.getfield 118, 3) := by decide +kernel
theorem dX12_readStatement_77 : decode cX12_readStatement 77 = .ok (.aload_n 0, 1) := by decide +kernel
theorem dX12_readStatement_78 : decode cX12_readStatement 78 = .ok (.getfield 127, 3) := by decide +kernel
theorem dX12_readStatement_81 : decode cX12_readStatement 81 = .ok (.ifCond .eq 7, 3) := by decide +kernel
theorem dX12_readStatement_84 : decode cX12_readStatement 84 = .ok (.iconst 0, 1) := by decide +kernel
theorem dX12_readStatement_85 : decode cX12_readStatement 85 = .ok (.goto 4, 3) := by decide +kernel
theorem dX12_readStatement_88 : decode cX12_readStatement 88 = .ok (.iconst 1, 1) := by decide +kernel
theorem dX12_readStatement_89 : decode cX12_readStatement 89 = .ok (.iadd, 1) := by decide +kernel
theorem dX12_readStatement_90 : decode cX12_readStatement 90 = .ok (.putfield 118, 3) := by decide +kernel
theorem dX12_readStatement_93 : decode cX12_readStatement 93 = .ok (.aload_n 0, 1) := by decide +kernel
theorem dX12_readStatement_94 : decode cX12_readStatement 94 = .ok (.getfield 51, 3) := by decide +kernel
theorem dX12_readStatement_97 : decode cX12_readStatement 97 = .ok (.iload_n 2, 1) := by decide +kernel
theorem dX12_readStatement_98 : decode cX12_readStatement 98 = .ok (.aload_n 0, 1) := by decide +kernel
theorem dX12_readStatement_99 : decode cX12_readStatement 99 = .ok (.getfield 127, 3) := by decide +kernel
theorem dX12_readStatement_102 : decode cX12_readStatement 102 = .ok (.ifCond .eq 7, 3) := by decide +kernel
theorem dX12_readStatement_105 : decode cX12_readStatement 105 = .ok (.iconst 0, 1) := by decide +kernel
theorem dX12_readStatement_106 : decode cX12_readStatement 106 = .ok (.goto 26, 3) := by decide +kernel
theorem dX12_readStatement_109 : decode cX12_readStatement 109 = .ok (.iload_n 1, 1) := by decide +kernel
theorem dX12_readStatement_110 : decode cX12_readStatement 110 = .ok (.bipush 119, 2) := by decide +kernel
theorem dX12_readStatement_112 : decode cX12_readStatement 112 = .ok (.if_icmp .eq 9, 3) := by decide +kernel
theorem dX12_readStatement_115 : decode cX12_readStatement 115 = .ok (.iload_n 1, 1) := by decide +kernel
theorem dX12_readStatement_116 : decode cX12_readStatement 116 = .ok (.bipush 97, 2) := by decide +kernel
theorem dX12_readStatement_118 : decode cX12_readStatement 118 = .ok (.if_icmp .ne 10, 3) := by decide +kernel
theorem dX12_readStatement_121 : decode cX12_readStatement 121 = .ok (.aload_n 0, 1) := by decide +kernel
theorem dX12_readStatement_122 : decode cX12_readStatement 122 = .ok (.invokevirtual 144, 3) := by decide +kernel
theorem dX12_readStatement_125 : decode cX12_readStatement 125 = .ok (.goto 7, 3) := by decide +kernel
theorem dX12_readStatement_128 : decode cX12_readStatement 128 = .ok (.aload_n 0, 1) := by decide +kernel
theorem dX12_readStatement_129 : decode cX12_readStatement 129 = .ok (.invokevirtual 138, 3) := by decide +kernel
theorem dX12_readStatement_132 : decode cX12_readStatement 132 = .ok (.iastore, 1) := by decide +kernel
theorem dX12_readStatement_133 : decode cX12_readStatement 133 = .ok (.iload_n 1, 1) := by decide +kernel
theorem dX12_readStatement_134 : decode cX12_readStatement 134 = .ok (.bipush 114, 2) := by decide +kernel
theorem dX12_readStatement_136 : decode cX12_readStatement 136 = .ok (.if_icmp .eq 9, 3) := by decide +kernel
theorem dX12_readStatement_139 : decode cX12_readStatement 139 = .ok (.iload_n 1, 1) := by decide +kernel
theorem dX12_readStatement_140 : decode cX12_readStatement 140 = .ok (.bipush 109, 2) := by decide +kernel
theorem dX12_readStatement_142 : decode cX12_readStatement 142 = .ok (.if_icmp .ne 13, 3) := by decide +kernel
theorem dX12_readStatement_145 : decode cX12_readStatement 145 = .ok (.aload_n 0, 1) := by decide +kernel
theorem dX12_readStatement_146 : decode cX12_readStatement 146 = .ok (.getfield 54, 3) := by decide +kernel
theorem dX12_readStatement_149 : decode cX12_readStatement 149 = .ok (.iload_n 2, 1) := by decide +kernel
theorem dX12_readStatement_150 : decode cX12_readStatement 150 = .ok (.aload_n 0, 1) := by decide +kernel
theorem dX12_readStatement_151 : decode cX12_readStatement 151 = .ok (.invokevirtual 138, 3) := by decide +kernel
theorem dX12_readStatement_154 : decode cX12_readStatement 154 = .ok (.iastore, 1) := by decide +kernel
theorem dX12_readStatement_155 : decode cX12_readStatement 155 = .ok (.iload_n 1, 1) := by decide +kernel
theorem dX12_readStatement_156 : decode cX12_readStatement 156 = .ok (.bipush 119, 2) := by decide +kernel
theorem dX12_readStatement_158 : decode cX12_readStatement 158 = .ok (.if_icmp .ne 19, 3) := by decide +kernel
theorem dX12_readStatement_161 : decode cX12_readStatement 161 = .ok (.aload_n 0, 1) := by decide +kernel
theorem dX12_readStatement_162 : decode cX12_readStatement 162 = .ok (.bipush 32, 2) := by decide +kernel
theorem dX12_readStatement_164 : decode cX12_readStatement 164 = .ok (.invokevirtual 147, 3) := by decide +kernel
theorem dX12_readStatement_167 : decode cX12_readStatement 167 = .ok (.aload_n 0, 1) := by decide +kernel
theorem dX12_readStatement_168 : decode cX12_readStatement 168 = .ok (.getfield 54, 3) := by decide +kernel
theorem dX12_readStatement_171 : decode cX12_readStatement 171 = .ok (.iload_n 2, 1) := by decide +kernel
theorem dX12_readStatement_172 : decode cX12_readStatement 172 = .ok (.aload_n 0, 1) := by decide +kernel
theorem dX12_readStatement_173 : decode cX12_readStatement 173 = .ok (.invokevirtual 138, 3) := by decide +kernel
theorem dX12_readStatement_176 : decode cX12_readStatement 176 = .ok (.iastore, 1) := by decide +kernel
theorem dX12_readStatement_177 : decode cX12_readStatement 177 = .ok (.aload_n 0, 1) := by decide +kernel
theorem dX12_readStatement_178 : decode cX12_readStatement 178 = .ok (.getfield 127, 3) := by decide +kernel
theorem dX12_readStatement_181 : decode cX12_readStatement 181 = .ok (.ifCond .ne 31, 3) := by decide +kernel
theorem dX12_readStatement_184 : decode cX12_readStatement 184 = .ok (.iload_n 1, 1) := by decide +kernel
theorem dX12_readStatement_185 : decode cX12_readStatement 185 = .ok (.bipush 98, 2) := by decide +kernel
theorem dX12_readStatement_187 : decode cX12_readStatement 187 = .ok (.if_icmp .eq 25, 3) := by decide +kernel
theorem dX12_readStatement_190 : decode cX12_readStatement 190 = .ok (.iload_n 1, 1) := by decide +kernel
theorem dX12_readStatement_191 : decode cX12_readStatement 191 = .ok (.bipush 97, 2) := by decide +kernel
theorem dX12_readStatement_193 : decode cX12_readStatement 193 = .ok (.if_icmp .eq 19, 3) := by decide +kernel
theorem dX12_readStatement_196 : decode cX12_readStatement 196 = .ok (.aload_n 0, 1) := by decide +kernel
theorem dX12_readStatement_197 : decode cX12_readStatement 197 = .ok (.bipush 32, 2) := by decide +kernel
theorem dX12_readStatement_199 : decode cX12_readStatement 199 = .ok (.invokevirtual 147, 3) := by decide +kernel
theorem dX12_readStatement_202 : decode cX12_readStatement 202 = .ok (.aload_n 0, 1) := by decide +kernel
theorem dX12_readStatement_203 : decode cX12_readStatement 203 = .ok (.getfield 57, 3) := by decide +kernel
theorem dX12_readStatement_206 : decode cX12_readStatement 206 = .ok (.iload_n 2, 1) := by decide +kernel
theorem dX12_readStatement_207 : decode cX12_readStatement 207 = .ok (.aload_n 0, 1) := by decide +kernel
theorem dX12_readStatement_208 : decode cX12_readStatement 208 = .ok (.invokevirtual 144, 3) := by decide +kernel
theorem dX12_readStatement_211 : decode cX12_readStatement 211 = .ok (.iastore, 1) := by decide +kernel
theorem dX12_readStatement_212 : decode cX12_readStatement 212 = .ok (.aload_n 0, 1) := by decide +kernel
theorem dX12_readStatement_213 : decode cX12_readStatement 213 = .ok (.bipush 59, 2) := by decide +kernel
theorem dX12_readStatement_215 : decode cX12_readStatement 215 = .ok (.invokevirtual 147, 3) := by decide +kernel
theorem dX12_readStatement_218 : decode cX12_readStatement 218 = .ok (.aload_n 0, 1) := by decide +kernel
theorem dX12_readStatement_219 : decode cX12_readStatement 219 = .ok (.dup, 1) := by decide +kernel
theorem dX12_readStatement_220 : decode cX12_readStatement 220 = .ok (.getfield 141, 3) := by decide +kernel
theorem dX12_readStatement_223 : decode cX12_readStatement 223 = .ok (.iconst 1, 1) := by decide +kernel
theorem dX12_readStatement_224 : decode cX12_readStatement 224 = .ok (.iadd, 1) := by decide +kernel
theorem dX12_readStatement_225 : decode cX12_readStatement 225 = .ok (.putfield 141, 3) := by decide +kernel
theorem dX12_readStatement_228 : decode cX12_readStatement 228 = .ok (.return_, 1) := by decide +kernel
theorem dX12_metTogether_0 : decode cX12_metTogether 0 = .ok (.iconst 0, 1) := by decide +kernel
theorem dX12_metTogether_1 : decode cX12_metTogether 1 = .ok (.istore_n 2, 1) := by decide +kernel
theorem dX12_metTogether_2 : decode cX12_metTogether 2 = .ok (.iconst 0, 1) := by decide +kernel
theorem dX12_metTogether_3 : decode cX12_metTogether 3 = .ok (.istore_n 3, 1) := by decide +kernel
theorem dX12_metTogether_4 : decode cX12_metTogether 4 = .ok (.iload_n 3, 1) := by decide +kernel
theorem dX12_metTogether_5 : decode cX12_metTogether 5 = .ok (.bipush 6, 2) := by decide +kernel
theorem dX12_metTogether_7 : decode cX12_metTogether 7 = .ok (.if_icmp .ge 23, 3) := by decide +kernel
theorem dX12_metTogether_10 : decode cX12_metTogether 10 = .ok (.iload_n 2, 1) := by decide +kernel
theorem dX12_metTogether_11 : decode cX12_metTogether 11 = .ok (.aload_n 0, 1) := by decide +kernel
theorem dX12_metTogether_12 : decode cX12_metTogether 12 = .ok (.getfield 34, 3) := by decide +kernel
theorem dX12_metTogether_15 : decode cX12_metTogether 15 = .ok (.bipush 6, 2) := by decide +kernel
theorem dX12_metTogether_17 : decode cX12_metTogether 17 = .ok (.iload_n 1, 1) := by decide +kernel
theorem dX12_metTogether_18 : decode cX12_metTogether 18 = .ok (.imul, 1) := by decide +kernel
theorem dX12_metTogether_19 : decode cX12_metTogether 19 = .ok (.iload_n 3, 1) := by decide +kernel
theorem dX12_metTogether_20 : decode cX12_metTogether 20 = .ok (.iadd, 1) := by decide +kernel
theorem dX12_metTogether_21 : decode cX12_metTogether 21 = .ok (.iaload, 1) := by decide +kernel
theorem dX12_metTogether_22 : decode cX12_metTogether 22 = .ok (.iadd, 1) := by decide +kernel
theorem dX12_metTogether_23 : decode cX12_metTogether 23 = .ok (.istore_n 2, 1) := by decide +kernel
theorem dX12_metTogether_24 : decode cX12_metTogether 24 = .ok (.iinc 3 1, 3) := by decide +kernel
theorem dX12_metTogether_27 : decode cX12_metTogether 27 = .ok (.goto (-23), 3) := by decide +kernel
theorem dX12_metTogether_30 : decode cX12_metTogether 30 = .ok (.iload_n 2, 1) := by decide +kernel
theorem dX12_metTogether_31 : decode cX12_metTogether 31 = .ok (.ireturn, 1) := by decide +kernel
theorem dX12_comes_0 : decode cX12_comes 0 = .ok (.aload_n 0, 1) := by decide +kernel
theorem dX12_comes_1 : decode cX12_comes 1 = .ok (.getfield 51, 3) := by decide +kernel
theorem dX12_comes_4 : decode cX12_comes 4 = .ok (.iload_n 1, 1) := by decide +kernel
theorem dX12_comes_5 : decode cX12_comes 5 = .ok (.iaload, 1) := by decide +kernel
theorem dX12_comes_6 : decode cX12_comes 6 = .ok (.istore_n 2, 1) := by decide +kernel
theorem dX12_comes_7 : decode cX12_comes 7 = .ok (.aload_n 0, 1) := by decide +kernel
theorem dX12_comes_8 : decode cX12_comes 8 = .ok (.getfield 54, 3) := by decide +kernel
theorem dX12_comes_11 : decode cX12_comes 11 = .ok (.iload_n 1, 1) := by decide +kernel
theorem dX12_comes_12 : decode cX12_comes 12 = .ok (.iaload, 1) := by decide +kernel
theorem dX12_comes_13 : decode cX12_comes 13 = .ok (.istore_n 3, 1) := by decide +kernel
theorem dX12_comes_14 : decode cX12_comes 14 = .ok (.aload_n 0, 1) := by decide +kernel
theorem dX12_comes_15 : decode cX12_comes 15 = .ok (.getfield 57, 3) := by decide +kernel
theorem dX12_comes_18 : decode cX12_comes 18 = .ok (.iload_n 1, 1) := by decide +kernel
theorem dX12_comes_19 : decode cX12_comes 19 = .ok (.iaload, 1) := by decide +kernel
theorem dX12_comes_20 : decode cX12_comes 20 = .ok (.istore 4, 2) := by decide +kernel
theorem dX12_comes_22 : decode cX12_comes 22 = .ok (.aload_n 0, 1) := by decide +kernel
theorem dX12_comes_23 : decode cX12_comes 23 = .ok (.getfield 48, 3) := by decide +kernel
theorem dX12_comes_26 : decode cX12_comes 26 = .ok (.iload_n 1, 1) := by decide +kernel
theorem dX12_comes_27 : decode cX12_comes 27 = .ok (.iaload, 1) := by decide +kernel
theorem dX12_comes_28 : decode cX12_comes 28 = .ok (.lookupswitch 374 #[(98, 344), (109, 281), (114, 52), (115, 225), (119, 136)], 52) := by decide +kernel
theorem dX12_comes_80 : decode cX12_comes 80 = .ok (.iload_n 2, 1) := by decide +kernel
theorem dX12_comes_81 : decode cX12_comes 81 = .ok (.bipush 7, 2) := by decide +kernel
theorem dX12_comes_83 : decode cX12_comes 83 = .ok (.if_icmp .gt 36, 3) := by decide +kernel
theorem dX12_comes_86 : decode cX12_comes 86 = .ok (.iload_n 3, 1) := by decide +kernel
theorem dX12_comes_87 : decode cX12_comes 87 = .ok (.bipush 7, 2) := by decide +kernel
theorem dX12_comes_89 : decode cX12_comes 89 = .ok (.if_icmp .gt 30, 3) := by decide +kernel
theorem dX12_comes_92 : decode cX12_comes 92 = .ok (.iload_n 2, 1) := by decide +kernel
theorem dX12_comes_93 : decode cX12_comes 93 = .ok (.iload_n 3, 1) := by decide +kernel
theorem dX12_comes_94 : decode cX12_comes 94 = .ok (.if_icmp .eq 25, 3) := by decide +kernel
theorem dX12_comes_97 : decode cX12_comes 97 = .ok (.iload 4, 2) := by decide +kernel
theorem dX12_comes_99 : decode cX12_comes 99 = .ok (.i2l, 1) := by decide +kernel
theorem dX12_comes_100 : decode cX12_comes 100 = .ok (.lconst 1, 1) := by decide +kernel
theorem dX12_comes_101 : decode cX12_comes 101 = .ok (.ldc2_w 151, 3) := by decide +kernel
theorem dX12_comes_104 : decode cX12_comes 104 = .ok (.invokestatic 107, 3) := by decide +kernel
theorem dX12_comes_107 : decode cX12_comes 107 = .ok (.ifCond .eq 12, 3) := by decide +kernel
theorem dX12_comes_110 : decode cX12_comes 110 = .ok (.aload_n 0, 1) := by decide +kernel
theorem dX12_comes_111 : decode cX12_comes 111 = .ok (.getfield 153, 3) := by decide +kernel
theorem dX12_comes_114 : decode cX12_comes 114 = .ok (.bipush 16, 2) := by decide +kernel
theorem dX12_comes_116 : decode cX12_comes 116 = .ok (.if_icmp .ne 5, 3) := by decide +kernel
theorem dX12_comes_119 : decode cX12_comes 119 = .ok (.iconst 0, 1) := by decide +kernel
theorem dX12_comes_120 : decode cX12_comes 120 = .ok (.ireturn, 1) := by decide +kernel
theorem dX12_comes_121 : decode cX12_comes 121 = .ok (.aload_n 0, 1) := by decide +kernel
theorem dX12_comes_122 : decode cX12_comes 122 = .ok (.getfield 7, 3) := by decide +kernel
theorem dX12_comes_125 : decode cX12_comes 125 = .ok (.aload_n 0, 1) := by decide +kernel
theorem dX12_comes_126 : decode cX12_comes 126 = .ok (.getfield 153, 3) := by decide +kernel
theorem dX12_comes_129 : decode cX12_comes 129 = .ok (.iload_n 2, 1) := by decide +kernel
theorem dX12_comes_130 : decode cX12_comes 130 = .ok (.iastore, 1) := by decide +kernel
theorem dX12_comes_131 : decode cX12_comes 131 = .ok (.aload_n 0, 1) := by decide +kernel
theorem dX12_comes_132 : decode cX12_comes 132 = .ok (.getfield 13, 3) := by decide +kernel
theorem dX12_comes_135 : decode cX12_comes 135 = .ok (.aload_n 0, 1) := by decide +kernel
theorem dX12_comes_136 : decode cX12_comes 136 = .ok (.getfield 153, 3) := by decide +kernel
theorem dX12_comes_139 : decode cX12_comes 139 = .ok (.iload_n 3, 1) := by decide +kernel
theorem dX12_comes_140 : decode cX12_comes 140 = .ok (.iastore, 1) := by decide +kernel
theorem dX12_comes_141 : decode cX12_comes 141 = .ok (.aload_n 0, 1) := by decide +kernel
theorem dX12_comes_142 : decode cX12_comes 142 = .ok (.getfield 16, 3) := by decide +kernel
theorem dX12_comes_145 : decode cX12_comes 145 = .ok (.aload_n 0, 1) := by decide +kernel
theorem dX12_comes_146 : decode cX12_comes 146 = .ok (.getfield 153, 3) := by decide +kernel
theorem dX12_comes_149 : decode cX12_comes 149 = .ok (.iload 4, 2) := by decide +kernel
theorem dX12_comes_151 : decode cX12_comes 151 = .ok (.iastore, 1) := by decide +kernel
theorem dX12_comes_152 : decode cX12_comes 152 = .ok (.aload_n 0, 1) := by decide +kernel
theorem dX12_comes_153 : decode cX12_comes 153 = .ok (.dup, 1) := by decide +kernel
theorem dX12_comes_154 : decode cX12_comes 154 = .ok (.getfield 153, 3) := by decide +kernel
theorem dX12_comes_157 : decode cX12_comes 157 = .ok (.iconst 1, 1) := by decide +kernel
theorem dX12_comes_158 : decode cX12_comes 158 = .ok (.iadd, 1) := by decide +kernel
theorem dX12_comes_159 : decode cX12_comes 159 = .ok (.putfield 153, 3) := by decide +kernel
theorem dX12_comes_162 : decode cX12_comes 162 = .ok (.iconst 1, 1) := by decide +kernel
theorem dX12_comes_163 : decode cX12_comes 163 = .ok (.ireturn, 1) := by decide +kernel
theorem dX12_comes_164 : decode cX12_comes 164 = .ok (.iload_n 2, 1) := by decide +kernel
theorem dX12_comes_165 : decode cX12_comes 165 = .ok (.i2l, 1) := by decide +kernel
theorem dX12_comes_166 : decode cX12_comes 166 = .ok (.lconst 1, 1) := by decide +kernel
theorem dX12_comes_167 : decode cX12_comes 167 = .ok (.ldc2_w 156, 3) := by decide +kernel
theorem dX12_comes_170 : decode cX12_comes 170 = .ok (.invokestatic 107, 3) := by decide +kernel
theorem dX12_comes_173 : decode cX12_comes 173 = .ok (.ifCond .eq 35, 3) := by decide +kernel
theorem dX12_comes_176 : decode cX12_comes 176 = .ok (.iload_n 3, 1) := by decide +kernel
theorem dX12_comes_177 : decode cX12_comes 177 = .ok (.bipush 7, 2) := by decide +kernel
theorem dX12_comes_179 : decode cX12_comes 179 = .ok (.if_icmp .gt 29, 3) := by decide +kernel
theorem dX12_comes_182 : decode cX12_comes 182 = .ok (.iload 4, 2) := by decide +kernel
theorem dX12_comes_184 : decode cX12_comes 184 = .ok (.ldc 158, 2) := by decide +kernel
theorem dX12_comes_186 : decode cX12_comes 186 = .ok (.if_icmp .gt 22, 3) := by decide +kernel
theorem dX12_comes_189 : decode cX12_comes 189 = .ok (.aload_n 0, 1) := by decide +kernel
theorem dX12_comes_190 : decode cX12_comes 190 = .ok (.getfield 111, 3) := by decide +kernel
theorem dX12_comes_193 : decode cX12_comes 193 = .ok (.iconst 5, 1) := by decide +kernel
theorem dX12_comes_194 : decode cX12_comes 194 = .ok (.if_icmp .eq 14, 3) := by decide +kernel
theorem dX12_comes_197 : decode cX12_comes 197 = .ok (.aload_n 0, 1) := by decide +kernel
theorem dX12_comes_198 : decode cX12_comes 198 = .ok (.invokevirtual 114, 3) := by decide +kernel
theorem dX12_comes_201 : decode cX12_comes 201 = .ok (.iload_n 2, 1) := by decide +kernel
theorem dX12_comes_202 : decode cX12_comes 202 = .ok (.iadd, 1) := by decide +kernel
theorem dX12_comes_203 : decode cX12_comes 203 = .ok (.bipush 100, 2) := by decide +kernel
theorem dX12_comes_205 : decode cX12_comes 205 = .ok (.if_icmp .le 5, 3) := by decide +kernel
theorem dX12_comes_208 : decode cX12_comes 208 = .ok (.iconst 0, 1) := by decide +kernel
theorem dX12_comes_209 : decode cX12_comes 209 = .ok (.ireturn, 1) := by decide +kernel
theorem dX12_comes_210 : decode cX12_comes 210 = .ok (.aload_n 0, 1) := by decide +kernel
theorem dX12_comes_211 : decode cX12_comes 211 = .ok (.getfield 19, 3) := by decide +kernel
theorem dX12_comes_214 : decode cX12_comes 214 = .ok (.aload_n 0, 1) := by decide +kernel
theorem dX12_comes_215 : decode cX12_comes 215 = .ok (.getfield 111, 3) := by decide +kernel
theorem dX12_comes_218 : decode cX12_comes 218 = .ok (.iload_n 2, 1) := by decide +kernel
theorem dX12_comes_219 : decode cX12_comes 219 = .ok (.iastore, 1) := by decide +kernel
theorem dX12_comes_220 : decode cX12_comes 220 = .ok (.aload_n 0, 1) := by decide +kernel
theorem dX12_comes_221 : decode cX12_comes 221 = .ok (.getfield 22, 3) := by decide +kernel
theorem dX12_comes_224 : decode cX12_comes 224 = .ok (.aload_n 0, 1) := by decide +kernel
theorem dX12_comes_225 : decode cX12_comes 225 = .ok (.getfield 111, 3) := by decide +kernel
theorem dX12_comes_228 : decode cX12_comes 228 = .ok (.iload_n 3, 1) := by decide +kernel
theorem dX12_comes_229 : decode cX12_comes 229 = .ok (.iastore, 1) := by decide +kernel
theorem dX12_comes_230 : decode cX12_comes 230 = .ok (.aload_n 0, 1) := by decide +kernel
theorem dX12_comes_231 : decode cX12_comes 231 = .ok (.getfield 25, 3) := by decide +kernel
theorem dX12_comes_234 : decode cX12_comes 234 = .ok (.aload_n 0, 1) := by decide +kernel
theorem dX12_comes_235 : decode cX12_comes 235 = .ok (.getfield 111, 3) := by decide +kernel
theorem dX12_comes_238 : decode cX12_comes 238 = .ok (.iload 4, 2) := by decide +kernel
theorem dX12_comes_240 : decode cX12_comes 240 = .ok (.iastore, 1) := by decide +kernel
theorem dX12_comes_241 : decode cX12_comes 241 = .ok (.aload_n 0, 1) := by decide +kernel
theorem dX12_comes_242 : decode cX12_comes 242 = .ok (.dup, 1) := by decide +kernel
theorem dX12_comes_243 : decode cX12_comes 243 = .ok (.getfield 111, 3) := by decide +kernel
theorem dX12_comes_246 : decode cX12_comes 246 = .ok (.iconst 1, 1) := by decide +kernel
theorem dX12_comes_247 : decode cX12_comes 247 = .ok (.iadd, 1) := by decide +kernel
theorem dX12_comes_248 : decode cX12_comes 248 = .ok (.putfield 111, 3) := by decide +kernel
theorem dX12_comes_251 : decode cX12_comes 251 = .ok (.iconst 1, 1) := by decide +kernel
theorem dX12_comes_252 : decode cX12_comes 252 = .ok (.ireturn, 1) := by decide +kernel
theorem dX12_comes_253 : decode cX12_comes 253 = .ok (.iload_n 2, 1) := by decide +kernel
theorem dX12_comes_254 : decode cX12_comes 254 = .ok (.iconst 4, 1) := by decide +kernel
theorem dX12_comes_255 : decode cX12_comes 255 = .ok (.if_icmp .gt 19, 3) := by decide +kernel
theorem dX12_comes_258 : decode cX12_comes 258 = .ok (.iload 4, 2) := by decide +kernel
theorem dX12_comes_260 : decode cX12_comes 260 = .ok (.bipush 99, 2) := by decide +kernel
theorem dX12_comes_262 : decode cX12_comes 262 = .ok (.if_icmp .gt 12, 3) := by decide +kernel
theorem dX12_comes_265 : decode cX12_comes 265 = .ok (.aload_n 0, 1) := by decide +kernel
theorem dX12_comes_266 : decode cX12_comes 266 = .ok (.getfield 159, 3) := by decide +kernel
theorem dX12_comes_269 : decode cX12_comes 269 = .ok (.bipush 6, 2) := by decide +kernel
theorem dX12_comes_271 : decode cX12_comes 271 = .ok (.if_icmp .ne 5, 3) := by decide +kernel
theorem dX12_comes_274 : decode cX12_comes 274 = .ok (.iconst 0, 1) := by decide +kernel
theorem dX12_comes_275 : decode cX12_comes 275 = .ok (.ireturn, 1) := by decide +kernel
theorem dX12_comes_276 : decode cX12_comes 276 = .ok (.aload_n 0, 1) := by decide +kernel
theorem dX12_comes_277 : decode cX12_comes 277 = .ok (.getfield 28, 3) := by decide +kernel
theorem dX12_comes_280 : decode cX12_comes 280 = .ok (.aload_n 0, 1) := by decide +kernel
theorem dX12_comes_281 : decode cX12_comes 281 = .ok (.getfield 159, 3) := by decide +kernel
theorem dX12_comes_284 : decode cX12_comes 284 = .ok (.iload_n 2, 1) := by decide +kernel
theorem dX12_comes_285 : decode cX12_comes 285 = .ok (.iastore, 1) := by decide +kernel
theorem dX12_comes_286 : decode cX12_comes 286 = .ok (.aload_n 0, 1) := by decide +kernel
theorem dX12_comes_287 : decode cX12_comes 287 = .ok (.getfield 31, 3) := by decide +kernel
theorem dX12_comes_290 : decode cX12_comes 290 = .ok (.aload_n 0, 1) := by decide +kernel
theorem dX12_comes_291 : decode cX12_comes 291 = .ok (.getfield 159, 3) := by decide +kernel
theorem dX12_comes_294 : decode cX12_comes 294 = .ok (.iload 4, 2) := by decide +kernel
theorem dX12_comes_296 : decode cX12_comes 296 = .ok (.iastore, 1) := by decide +kernel
theorem dX12_comes_297 : decode cX12_comes 297 = .ok (.aload_n 0, 1) := by decide +kernel
theorem dX12_comes_298 : decode cX12_comes 298 = .ok (.dup, 1) := by decide +kernel
theorem dX12_comes_299 : decode cX12_comes 299 = .ok (.getfield 159, 3) := by decide +kernel
theorem dX12_comes_302 : decode cX12_comes 302 = .ok (.iconst 1, 1) := by decide +kernel
theorem dX12_comes_303 : decode cX12_comes 303 = .ok (.iadd, 1) := by decide +kernel
theorem dX12_comes_304 : decode cX12_comes 304 = .ok (.putfield 159, 3) := by decide +kernel
theorem dX12_comes_307 : decode cX12_comes 307 = .ok (.iconst 1, 1) := by decide +kernel
theorem dX12_comes_308 : decode cX12_comes 308 = .ok (.ireturn, 1) := by decide +kernel
theorem dX12_comes_309 : decode cX12_comes 309 = .ok (.iload_n 2, 1) := by decide +kernel
theorem dX12_comes_310 : decode cX12_comes 310 = .ok (.bipush 7, 2) := by decide +kernel
theorem dX12_comes_312 : decode cX12_comes 312 = .ok (.if_icmp .gt 43, 3) := by decide +kernel
theorem dX12_comes_315 : decode cX12_comes 315 = .ok (.iload_n 3, 1) := by decide +kernel
theorem dX12_comes_316 : decode cX12_comes 316 = .ok (.aload_n 0, 1) := by decide +kernel
theorem dX12_comes_317 : decode cX12_comes 317 = .ok (.getfield 159, 3) := by decide +kernel
theorem dX12_comes_320 : decode cX12_comes 320 = .ok (.if_icmp .ge 35, 3) := by decide +kernel
theorem dX12_comes_323 : decode cX12_comes 323 = .ok (.iload 4, 2) := by decide +kernel
theorem dX12_comes_325 : decode cX12_comes 325 = .ok (.bipush 100, 2) := by decide +kernel
theorem dX12_comes_327 : decode cX12_comes 327 = .ok (.if_icmp .gt 28, 3) := by decide +kernel
theorem dX12_comes_330 : decode cX12_comes 330 = .ok (.aload_n 0, 1) := by decide +kernel
theorem dX12_comes_331 : decode cX12_comes 331 = .ok (.iload_n 2, 1) := by decide +kernel
theorem dX12_comes_332 : decode cX12_comes 332 = .ok (.invokevirtual 162, 3) := by decide +kernel
theorem dX12_comes_335 : decode cX12_comes 335 = .ok (.aload_n 0, 1) := by decide +kernel
theorem dX12_comes_336 : decode cX12_comes 336 = .ok (.getfield 34, 3) := by decide +kernel
theorem dX12_comes_339 : decode cX12_comes 339 = .ok (.bipush 6, 2) := by decide +kernel
theorem dX12_comes_341 : decode cX12_comes 341 = .ok (.iload_n 2, 1) := by decide +kernel
theorem dX12_comes_342 : decode cX12_comes 342 = .ok (.imul, 1) := by decide +kernel
theorem dX12_comes_343 : decode cX12_comes 343 = .ok (.iload_n 3, 1) := by decide +kernel
theorem dX12_comes_344 : decode cX12_comes 344 = .ok (.iadd, 1) := by decide +kernel
theorem dX12_comes_345 : decode cX12_comes 345 = .ok (.iaload, 1) := by decide +kernel
theorem dX12_comes_346 : decode cX12_comes 346 = .ok (.isub, 1) := by decide +kernel
theorem dX12_comes_347 : decode cX12_comes 347 = .ok (.iload 4, 2) := by decide +kernel
theorem dX12_comes_349 : decode cX12_comes 349 = .ok (.iadd, 1) := by decide +kernel
theorem dX12_comes_350 : decode cX12_comes 350 = .ok (.bipush 100, 2) := by decide +kernel
theorem dX12_comes_352 : decode cX12_comes 352 = .ok (.if_icmp .le 5, 3) := by decide +kernel
theorem dX12_comes_355 : decode cX12_comes 355 = .ok (.iconst 0, 1) := by decide +kernel
theorem dX12_comes_356 : decode cX12_comes 356 = .ok (.ireturn, 1) := by decide +kernel
theorem dX12_comes_357 : decode cX12_comes 357 = .ok (.aload_n 0, 1) := by decide +kernel
theorem dX12_comes_358 : decode cX12_comes 358 = .ok (.getfield 34, 3) := by decide +kernel
theorem dX12_comes_361 : decode cX12_comes 361 = .ok (.bipush 6, 2) := by decide +kernel
theorem dX12_comes_363 : decode cX12_comes 363 = .ok (.iload_n 2, 1) := by decide +kernel
theorem dX12_comes_364 : decode cX12_comes 364 = .ok (.imul, 1) := by decide +kernel
theorem dX12_comes_365 : decode cX12_comes 365 = .ok (.iload_n 3, 1) := by decide +kernel
theorem dX12_comes_366 : decode cX12_comes 366 = .ok (.iadd, 1) := by decide +kernel
theorem dX12_comes_367 : decode cX12_comes 367 = .ok (.iload 4, 2) := by decide +kernel
theorem dX12_comes_369 : decode cX12_comes 369 = .ok (.iastore, 1) := by decide +kernel
theorem dX12_comes_370 : decode cX12_comes 370 = .ok (.iconst 1, 1) := by decide +kernel
theorem dX12_comes_371 : decode cX12_comes 371 = .ok (.ireturn, 1) := by decide +kernel
theorem dX12_comes_372 : decode cX12_comes 372 = .ok (.aload_n 0, 1) := by decide +kernel
theorem dX12_comes_373 : decode cX12_comes 373 = .ok (.iload_n 2, 1) := by decide +kernel
theorem dX12_comes_374 : decode cX12_comes 374 = .ok (.bipush 7, 2) := by decide +kernel
theorem dX12_comes_376 : decode cX12_comes 376 = .ok (.if_icmp .le 10, 3) := by decide +kernel
theorem dX12_comes_379 : decode cX12_comes 379 = .ok (.aload_n 0, 1) := by decide +kernel
theorem dX12_comes_380 : decode cX12_comes 380 = .ok (.getfield 166, 3) := by decide +kernel
theorem dX12_comes_383 : decode cX12_comes 383 = .ok (.goto 4, 3) := by decide +kernel
theorem dX12_comes_386 : decode cX12_comes 386 = .ok (.iload_n 2, 1) := by decide +kernel
theorem dX12_comes_387 : decode cX12_comes 387 = .ok (.putfield 166, 3) := by decide +kernel
theorem dX12_comes_390 : decode cX12_comes 390 = .ok (.iload_n 2, 1) := by decide +kernel
theorem dX12_comes_391 : decode cX12_comes 391 = .ok (.bipush 7, 2) := by decide +kernel
theorem dX12_comes_393 : decode cX12_comes 393 = .ok (.if_icmp .gt 7, 3) := by decide +kernel
theorem dX12_comes_396 : decode cX12_comes 396 = .ok (.iconst 1, 1) := by decide +kernel
theorem dX12_comes_397 : decode cX12_comes 397 = .ok (.goto 4, 3) := by decide +kernel
theorem dX12_comes_400 : decode cX12_comes 400 = .ok (.iconst 0, 1) := by decide +kernel
theorem dX12_comes_401 : decode cX12_comes 401 = .ok (.ireturn, 1) := by decide +kernel
theorem dX12_comes_402 : decode cX12_comes 402 = .ok (.aload_n 0, 1) := by decide +kernel
theorem dX12_comes_403 : decode cX12_comes 403 = .ok (.iload_n 2, 1) := by decide +kernel
theorem dX12_comes_404 : decode cX12_comes 404 = .ok (.bipush 30, 2) := by decide +kernel
theorem dX12_comes_406 : decode cX12_comes 406 = .ok (.if_icmp .le 10, 3) := by decide +kernel
theorem dX12_comes_409 : decode cX12_comes 409 = .ok (.aload_n 0, 1) := by decide +kernel
theorem dX12_comes_410 : decode cX12_comes 410 = .ok (.getfield 37, 3) := by decide +kernel
theorem dX12_comes_413 : decode cX12_comes 413 = .ok (.goto 4, 3) := by decide +kernel
theorem dX12_comes_416 : decode cX12_comes 416 = .ok (.iload_n 2, 1) := by decide +kernel
theorem dX12_comes_417 : decode cX12_comes 417 = .ok (.putfield 37, 3) := by decide +kernel
theorem dX12_comes_420 : decode cX12_comes 420 = .ok (.iload_n 2, 1) := by decide +kernel
theorem dX12_comes_421 : decode cX12_comes 421 = .ok (.bipush 30, 2) := by decide +kernel
theorem dX12_comes_423 : decode cX12_comes 423 = .ok (.if_icmp .gt 7, 3) := by decide +kernel
theorem dX12_comes_426 : decode cX12_comes 426 = .ok (.iconst 1, 1) := by decide +kernel
theorem dX12_comes_427 : decode cX12_comes 427 = .ok (.goto 4, 3) := by decide +kernel
theorem dX12_comes_430 : decode cX12_comes 430 = .ok (.iconst 0, 1) := by decide +kernel
theorem dX12_comes_431 : decode cX12_comes 431 = .ok (.ireturn, 1) := by decide +kernel
theorem dX12_land_0 : decode cX12_land 0 = .ok (.aload_n 0, 1) := by decide +kernel
theorem dX12_land_1 : decode cX12_land 1 = .ok (.iconst 0, 1) := by decide +kernel
theorem dX12_land_2 : decode cX12_land 2 = .ok (.putfield 102, 3) := by decide +kernel
theorem dX12_land_5 : decode cX12_land 5 = .ok (.aload_n 0, 1) := by decide +kernel
theorem dX12_land_6 : decode cX12_land 6 = .ok (.iload_n 1, 1) := by decide +kernel
theorem dX12_land_7 : decode cX12_land 7 = .ok (.invokevirtual 169, 3) := by decide +kernel
theorem dX12_land_10 : decode cX12_land 10 = .ok (.ifCond .ge 11, 3) := by decide +kernel
theorem dX12_land_13 : decode cX12_land 13 = .ok (.aload_n 0, 1) := by decide +kernel
theorem dX12_land_14 : decode cX12_land 14 = .ok (.iload_n 1, 1) := by decide +kernel
theorem dX12_land_15 : decode cX12_land 15 = .ok (.invokevirtual 169, 3) := by decide +kernel
theorem dX12_land_18 : decode cX12_land 18 = .ok (.goto 18, 3) := by decide +kernel
theorem dX12_land_21 : decode cX12_land 21 = .ok (.aload_n 0, 1) := by decide +kernel
theorem dX12_land_22 : decode cX12_land 22 = .ok (.getfield 90, 3) := by decide +kernel
theorem dX12_land_25 : decode cX12_land 25 = .ok (.iload_n 1, 1) := by decide +kernel
theorem dX12_land_26 : decode cX12_land 26 = .ok (.iaload, 1) := by decide +kernel
theorem dX12_land_27 : decode cX12_land 27 = .ok (.ifCond .eq 8, 3) := by decide +kernel
theorem dX12_land_30 : decode cX12_land 30 = .ok (.bipush (-12), 2) := by decide +kernel
theorem dX12_land_32 : decode cX12_land 32 = .ok (.goto 4, 3) := by decide +kernel
theorem dX12_land_35 : decode cX12_land 35 = .ok (.iconst 0, 1) := by decide +kernel
theorem dX12_land_36 : decode cX12_land 36 = .ok (.istore_n 2, 1) := by decide +kernel
theorem dX12_land_37 : decode cX12_land 37 = .ok (.iload_n 2, 1) := by decide +kernel
theorem dX12_land_38 : decode cX12_land 38 = .ok (.ifCond .ge 5, 3) := by decide +kernel
theorem dX12_land_41 : decode cX12_land 41 = .ok (.iload_n 2, 1) := by decide +kernel
theorem dX12_land_42 : decode cX12_land 42 = .ok (.ireturn, 1) := by decide +kernel
theorem dX12_land_43 : decode cX12_land 43 = .ok (.aload_n 0, 1) := by decide +kernel
theorem dX12_land_44 : decode cX12_land 44 = .ok (.bipush 100, 2) := by decide +kernel
theorem dX12_land_46 : decode cX12_land 46 = .ok (.iload_n 1, 1) := by decide +kernel
theorem dX12_land_47 : decode cX12_land 47 = .ok (.imul, 1) := by decide +kernel
theorem dX12_land_48 : decode cX12_land 48 = .ok (.putfield 124, 3) := by decide +kernel
theorem dX12_land_51 : decode cX12_land 51 = .ok (.aload_n 0, 1) := by decide +kernel
theorem dX12_land_52 : decode cX12_land 52 = .ok (.aload_n 0, 1) := by decide +kernel
theorem dX12_land_53 : decode cX12_land 53 = .ok (.getfield 93, 3) := by decide +kernel
theorem dX12_land_56 : decode cX12_land 56 = .ok (.iload_n 1, 1) := by decide +kernel
theorem dX12_land_57 : decode cX12_land 57 = .ok (.iaload, 1) := by decide +kernel
theorem dX12_land_58 : decode cX12_land 58 = .ok (.putfield 121, 3) := by decide +kernel
theorem dX12_land_61 : decode cX12_land 61 = .ok (.aload_n 0, 1) := by decide +kernel
theorem dX12_land_62 : decode cX12_land 62 = .ok (.iconst 0, 1) := by decide +kernel
theorem dX12_land_63 : decode cX12_land 63 = .ok (.putfield 118, 3) := by decide +kernel
theorem dX12_land_66 : decode cX12_land 66 = .ok (.aload_n 0, 1) := by decide +kernel
theorem dX12_land_67 : decode cX12_land 67 = .ok (.iconst 0, 1) := by decide +kernel
theorem dX12_land_68 : decode cX12_land 68 = .ok (.putfield 127, 3) := by decide +kernel
theorem dX12_land_71 : decode cX12_land 71 = .ok (.aload_n 0, 1) := by decide +kernel
theorem dX12_land_72 : decode cX12_land 72 = .ok (.iconst 0, 1) := by decide +kernel
theorem dX12_land_73 : decode cX12_land 73 = .ok (.putfield 141, 3) := by decide +kernel
theorem dX12_land_76 : decode cX12_land 76 = .ok (.aload_n 0, 1) := by decide +kernel
theorem dX12_land_77 : decode cX12_land 77 = .ok (.getfield 127, 3) := by decide +kernel
theorem dX12_land_80 : decode cX12_land 80 = .ok (.ifCond .ne 28, 3) := by decide +kernel
theorem dX12_land_83 : decode cX12_land 83 = .ok (.aload_n 0, 1) := by decide +kernel
theorem dX12_land_84 : decode cX12_land 84 = .ok (.getfield 141, 3) := by decide +kernel
theorem dX12_land_87 : decode cX12_land 87 = .ok (.ifCond .eq 14, 3) := by decide +kernel
theorem dX12_land_90 : decode cX12_land 90 = .ok (.aload_n 0, 1) := by decide +kernel
theorem dX12_land_91 : decode cX12_land 91 = .ok (.getfield 118, 3) := by decide +kernel
theorem dX12_land_94 : decode cX12_land 94 = .ok (.aload_n 0, 1) := by decide +kernel
theorem dX12_land_95 : decode cX12_land 95 = .ok (.getfield 121, 3) := by decide +kernel
theorem dX12_land_98 : decode cX12_land 98 = .ok (.if_icmp .ge 10, 3) := by decide +kernel
theorem dX12_land_101 : decode cX12_land 101 = .ok (.aload_n 0, 1) := by decide +kernel
theorem dX12_land_102 : decode cX12_land 102 = .ok (.invokevirtual 172, 3) := by decide +kernel
theorem dX12_land_105 : decode cX12_land 105 = .ok (.goto (-29), 3) := by decide +kernel
theorem dX12_land_108 : decode cX12_land 108 = .ok (.aload_n 0, 1) := by decide +kernel
theorem dX12_land_109 : decode cX12_land 109 = .ok (.getfield 127, 3) := by decide +kernel
theorem dX12_land_112 : decode cX12_land 112 = .ok (.ifCond .eq 12, 3) := by decide +kernel
theorem dX12_land_115 : decode cX12_land 115 = .ok (.sipush (-1000), 3) := by decide +kernel
theorem dX12_land_118 : decode cX12_land 118 = .ok (.aload_n 0, 1) := by decide +kernel
theorem dX12_land_119 : decode cX12_land 119 = .ok (.getfield 118, 3) := by decide +kernel
theorem dX12_land_122 : decode cX12_land 122 = .ok (.isub, 1) := by decide +kernel
theorem dX12_land_123 : decode cX12_land 123 = .ok (.ireturn, 1) := by decide +kernel
theorem dX12_land_124 : decode cX12_land 124 = .ok (.aload_n 0, 1) := by decide +kernel
theorem dX12_land_125 : decode cX12_land 125 = .ok (.getfield 153, 3) := by decide +kernel
theorem dX12_land_128 : decode cX12_land 128 = .ok (.istore_n 3, 1) := by decide +kernel
theorem dX12_land_129 : decode cX12_land 129 = .ok (.aload_n 0, 1) := by decide +kernel
theorem dX12_land_130 : decode cX12_land 130 = .ok (.getfield 111, 3) := by decide +kernel
theorem dX12_land_133 : decode cX12_land 133 = .ok (.istore 4, 2) := by decide +kernel
theorem dX12_land_135 : decode cX12_land 135 = .ok (.aload_n 0, 1) := by decide +kernel
theorem dX12_land_136 : decode cX12_land 136 = .ok (.getfield 159, 3) := by decide +kernel
theorem dX12_land_139 : decode cX12_land 139 = .ok (.istore 5, 2) := by decide +kernel
theorem dX12_land_141 : decode cX12_land 141 = .ok (.aload_n 0, 1) := by decide +kernel
theorem dX12_land_142 : decode cX12_land 142 = .ok (.getfield 166, 3) := by decide +kernel
theorem dX12_land_145 : decode cX12_land 145 = .ok (.istore 6, 2) := by decide +kernel
theorem dX12_land_147 : decode cX12_land 147 = .ok (.aload_n 0, 1) := by decide +kernel
theorem dX12_land_148 : decode cX12_land 148 = .ok (.getfield 37, 3) := by decide +kernel
theorem dX12_land_151 : decode cX12_land 151 = .ok (.istore 7, 2) := by decide +kernel
theorem dX12_land_153 : decode cX12_land 153 = .ok (.iconst 0, 1) := by decide +kernel
theorem dX12_land_154 : decode cX12_land 154 = .ok (.istore 8, 2) := by decide +kernel
theorem dX12_land_156 : decode cX12_land 156 = .ok (.iload 8, 2) := by decide +kernel
theorem dX12_land_158 : decode cX12_land 158 = .ok (.bipush 48, 2) := by decide +kernel
theorem dX12_land_160 : decode cX12_land 160 = .ok (.if_icmp .ge 23, 3) := by decide +kernel
theorem dX12_land_163 : decode cX12_land 163 = .ok (.aload_n 0, 1) := by decide +kernel
theorem dX12_land_164 : decode cX12_land 164 = .ok (.getfield 60, 3) := by decide +kernel
theorem dX12_land_167 : decode cX12_land 167 = .ok (.iload 8, 2) := by decide +kernel
theorem dX12_land_169 : decode cX12_land 169 = .ok (.aload_n 0, 1) := by decide +kernel
theorem dX12_land_170 : decode cX12_land 170 = .ok (.getfield 34, 3) := by decide +kernel
theorem dX12_land_173 : decode cX12_land 173 = .ok (.iload 8, 2) := by decide +kernel
theorem dX12_land_175 : decode cX12_land 175 = .ok (.iaload, 1) := by decide +kernel
theorem dX12_land_176 : decode cX12_land 176 = .ok (.iastore, 1) := by decide +kernel
theorem dX12_land_177 : decode cX12_land 177 = .ok (.iinc 8 1, 3) := by decide +kernel
theorem dX12_land_180 : decode cX12_land 180 = .ok (.goto (-24), 3) := by decide +kernel
theorem dX12_land_183 : decode cX12_land 183 = .ok (.iconst 0, 1) := by decide +kernel
theorem dX12_land_184 : decode cX12_land 184 = .ok (.istore 8, 2) := by decide +kernel
theorem dX12_land_186 : decode cX12_land 186 = .ok (.iload 8, 2) := by decide +kernel
theorem dX12_land_188 : decode cX12_land 188 = .ok (.aload_n 0, 1) := by decide +kernel
theorem dX12_land_189 : decode cX12_land 189 = .ok (.getfield 141, 3) := by decide +kernel
theorem dX12_land_192 : decode cX12_land 192 = .ok (.if_icmp .ge 89, 3) := by decide +kernel
theorem dX12_land_195 : decode cX12_land 195 = .ok (.aload_n 0, 1) := by decide +kernel
theorem dX12_land_196 : decode cX12_land 196 = .ok (.iload 8, 2) := by decide +kernel
theorem dX12_land_198 : decode cX12_land 198 = .ok (.invokevirtual 175, 3) := by decide +kernel
theorem dX12_land_201 : decode cX12_land 201 = .ok (.ifCond .ne 74, 3) := by decide +kernel
theorem dX12_land_204 : decode cX12_land 204 = .ok (.aload_n 0, 1) := by decide +kernel
theorem dX12_land_205 : decode cX12_land 205 = .ok (.iload_n 3, 1) := by decide +kernel
theorem dX12_land_206 : decode cX12_land 206 = .ok (.putfield 153, 3) := by decide +kernel
theorem dX12_land_209 : decode cX12_land 209 = .ok (.aload_n 0, 1) := by decide +kernel
theorem dX12_land_210 : decode cX12_land 210 = .ok (.iload 4, 2) := by decide +kernel
theorem dX12_land_212 : decode cX12_land 212 = .ok (.putfield 111, 3) := by decide +kernel
theorem dX12_land_215 : decode cX12_land 215 = .ok (.aload_n 0, 1) := by decide +kernel
theorem dX12_land_216 : decode cX12_land 216 = .ok (.iload 5, 2) := by decide +kernel
theorem dX12_land_218 : decode cX12_land 218 = .ok (.putfield 159, 3) := by decide +kernel
theorem dX12_land_221 : decode cX12_land 221 = .ok (.aload_n 0, 1) := by decide +kernel
theorem dX12_land_222 : decode cX12_land 222 = .ok (.iload 6, 2) := by decide +kernel
theorem dX12_land_224 : decode cX12_land 224 = .ok (.putfield 166, 3) := by decide +kernel
theorem dX12_land_227 : decode cX12_land 227 = .ok (.aload_n 0, 1) := by decide +kernel
theorem dX12_land_228 : decode cX12_land 228 = .ok (.iload 7, 2) := by decide +kernel
theorem dX12_land_230 : decode cX12_land 230 = .ok (.putfield 37, 3) := by decide +kernel
theorem dX12_land_233 : decode cX12_land 233 = .ok (.iconst 0, 1) := by decide +kernel
theorem dX12_land_234 : decode cX12_land 234 = .ok (.istore 9, 2) := by decide +kernel
theorem dX12_land_236 : decode cX12_land 236 = .ok (.iload 9, 2) := by decide +kernel
theorem dX12_land_238 : decode cX12_land 238 = .ok (.bipush 48, 2) := by decide +kernel
theorem dX12_land_240 : decode cX12_land 240 = .ok (.if_icmp .ge 23, 3) := by decide +kernel
theorem dX12_land_243 : decode cX12_land 243 = .ok (.aload_n 0, 1) := by decide +kernel
theorem dX12_land_244 : decode cX12_land 244 = .ok (.getfield 34, 3) := by decide +kernel
theorem dX12_land_247 : decode cX12_land 247 = .ok (.iload 9, 2) := by decide +kernel
theorem dX12_land_249 : decode cX12_land 249 = .ok (.aload_n 0, 1) := by decide +kernel
theorem dX12_land_250 : decode cX12_land 250 = .ok (.getfield 60, 3) := by decide +kernel
theorem dX12_land_253 : decode cX12_land 253 = .ok (.iload 9, 2) := by decide +kernel
theorem dX12_land_255 : decode cX12_land 255 = .ok (.iaload, 1) := by decide +kernel
theorem dX12_land_256 : decode cX12_land 256 = .ok (.iastore, 1) := by decide +kernel
theorem dX12_land_257 : decode cX12_land 257 = .ok (.iinc 9 1, 3) := by decide +kernel
theorem dX12_land_260 : decode cX12_land 260 = .ok (.goto (-24), 3) := by decide +kernel
theorem dX12_land_263 : decode cX12_land 263 = .ok (.sipush (-2000), 3) := by decide +kernel
theorem dX12_land_266 : decode cX12_land 266 = .ok (.aload_n 0, 1) := by decide +kernel
theorem dX12_land_267 : decode cX12_land 267 = .ok (.getfield 45, 3) := by decide +kernel
theorem dX12_land_270 : decode cX12_land 270 = .ok (.iload 8, 2) := by decide +kernel
theorem dX12_land_272 : decode cX12_land 272 = .ok (.iaload, 1) := by decide +kernel
theorem dX12_land_273 : decode cX12_land 273 = .ok (.isub, 1) := by decide +kernel
theorem dX12_land_274 : decode cX12_land 274 = .ok (.ireturn, 1) := by decide +kernel
theorem dX12_land_275 : decode cX12_land 275 = .ok (.iinc 8 1, 3) := by decide +kernel
theorem dX12_land_278 : decode cX12_land 278 = .ok (.goto (-92), 3) := by decide +kernel
theorem dX12_land_281 : decode cX12_land 281 = .ok (.aload_n 0, 1) := by decide +kernel
theorem dX12_land_282 : decode cX12_land 282 = .ok (.invokevirtual 179, 3) := by decide +kernel
theorem dX12_land_285 : decode cX12_land 285 = .ok (.aload_n 0, 1) := by decide +kernel
theorem dX12_land_286 : decode cX12_land 286 = .ok (.getfield 141, 3) := by decide +kernel
theorem dX12_land_289 : decode cX12_land 289 = .ok (.ireturn, 1) := by decide +kernel
theorem dX12_thinkAnew_0 : decode cX12_thinkAnew 0 = .ok (.iconst 0, 1) := by decide +kernel
theorem dX12_thinkAnew_1 : decode cX12_thinkAnew 1 = .ok (.istore_n 1, 1) := by decide +kernel
theorem dX12_thinkAnew_2 : decode cX12_thinkAnew 2 = .ok (.iload_n 1, 1) := by decide +kernel
theorem dX12_thinkAnew_3 : decode cX12_thinkAnew 3 = .ok (.aload_n 0, 1) := by decide +kernel
theorem dX12_thinkAnew_4 : decode cX12_thinkAnew 4 = .ok (.getfield 111, 3) := by decide +kernel
theorem dX12_thinkAnew_7 : decode cX12_thinkAnew 7 = .ok (.if_icmp .ge 22, 3) := by decide +kernel
theorem dX12_thinkAnew_10 : decode cX12_thinkAnew 10 = .ok (.aload_n 0, 1) := by decide +kernel
theorem dX12_thinkAnew_11 : decode cX12_thinkAnew 11 = .ok (.getfield 41, 3) := by decide +kernel
theorem dX12_thinkAnew_14 : decode cX12_thinkAnew 14 = .ok (.iload_n 1, 1) := by decide +kernel
theorem dX12_thinkAnew_15 : decode cX12_thinkAnew 15 = .ok (.aload_n 0, 1) := by decide +kernel
theorem dX12_thinkAnew_16 : decode cX12_thinkAnew 16 = .ok (.getfield 19, 3) := by decide +kernel
theorem dX12_thinkAnew_19 : decode cX12_thinkAnew 19 = .ok (.iload_n 1, 1) := by decide +kernel
theorem dX12_thinkAnew_20 : decode cX12_thinkAnew 20 = .ok (.iaload, 1) := by decide +kernel
theorem dX12_thinkAnew_21 : decode cX12_thinkAnew 21 = .ok (.i2l, 1) := by decide +kernel
theorem dX12_thinkAnew_22 : decode cX12_thinkAnew 22 = .ok (.lastore, 1) := by decide +kernel
theorem dX12_thinkAnew_23 : decode cX12_thinkAnew 23 = .ok (.iinc 1 1, 3) := by decide +kernel
theorem dX12_thinkAnew_26 : decode cX12_thinkAnew 26 = .ok (.goto (-24), 3) := by decide +kernel
theorem dX12_thinkAnew_29 : decode cX12_thinkAnew 29 = .ok (.return_, 1) := by decide +kernel
theorem dX12_road_0 : decode cX12_road 0 = .ok (.aload_n 0, 1) := by decide +kernel
theorem dX12_road_1 : decode cX12_road 1 = .ok (.iconst 0, 1) := by decide +kernel
theorem dX12_road_2 : decode cX12_road 2 = .ok (.putfield 102, 3) := by decide +kernel
theorem dX12_road_5 : decode cX12_road 5 = .ok (.iload_n 1, 1) := by decide +kernel
theorem dX12_road_6 : decode cX12_road 6 = .ok (.i2l, 1) := by decide +kernel
theorem dX12_road_7 : decode cX12_road 7 = .ok (.lconst 0, 1) := by decide +kernel
theorem dX12_road_8 : decode cX12_road 8 = .ok (.aload_n 0, 1) := by decide +kernel
theorem dX12_road_9 : decode cX12_road 9 = .ok (.getfield 153, 3) := by decide +kernel
theorem dX12_road_12 : decode cX12_road 12 = .ok (.iconst 1, 1) := by decide +kernel
theorem dX12_road_13 : decode cX12_road 13 = .ok (.isub, 1) := by decide +kernel
theorem dX12_road_14 : decode cX12_road 14 = .ok (.i2l, 1) := by decide +kernel
theorem dX12_road_15 : decode cX12_road 15 = .ok (.invokestatic 107, 3) := by decide +kernel
theorem dX12_road_18 : decode cX12_road 18 = .ok (.ifCond .eq 15, 3) := by decide +kernel
theorem dX12_road_21 : decode cX12_road 21 = .ok (.iload_n 2, 1) := by decide +kernel
theorem dX12_road_22 : decode cX12_road 22 = .ok (.i2l, 1) := by decide +kernel
theorem dX12_road_23 : decode cX12_road 23 = .ok (.lconst 0, 1) := by decide +kernel
theorem dX12_road_24 : decode cX12_road 24 = .ok (.ldc2_w 182, 3) := by decide +kernel
theorem dX12_road_27 : decode cX12_road 27 = .ok (.invokestatic 107, 3) := by decide +kernel
theorem dX12_road_30 : decode cX12_road 30 = .ok (.ifCond .ne 5, 3) := by decide +kernel
theorem dX12_road_33 : decode cX12_road 33 = .ok (.iconst (-1), 1) := by decide +kernel
theorem dX12_road_34 : decode cX12_road 34 = .ok (.ireturn, 1) := by decide +kernel
theorem dX12_road_35 : decode cX12_road 35 = .ok (.iload_n 2, 1) := by decide +kernel
theorem dX12_road_36 : decode cX12_road 36 = .ok (.ifCond .ne 12, 3) := by decide +kernel
theorem dX12_road_39 : decode cX12_road 39 = .ok (.aload_n 0, 1) := by decide +kernel
theorem dX12_road_40 : decode cX12_road 40 = .ok (.getfield 7, 3) := by decide +kernel
theorem dX12_road_43 : decode cX12_road 43 = .ok (.iload_n 1, 1) := by decide +kernel
theorem dX12_road_44 : decode cX12_road 44 = .ok (.iaload, 1) := by decide +kernel
theorem dX12_road_45 : decode cX12_road 45 = .ok (.goto 23, 3) := by decide +kernel
theorem dX12_road_48 : decode cX12_road 48 = .ok (.iload_n 2, 1) := by decide +kernel
theorem dX12_road_49 : decode cX12_road 49 = .ok (.iconst 1, 1) := by decide +kernel
theorem dX12_road_50 : decode cX12_road 50 = .ok (.if_icmp .ne 12, 3) := by decide +kernel
theorem dX12_road_53 : decode cX12_road 53 = .ok (.aload_n 0, 1) := by decide +kernel
theorem dX12_road_54 : decode cX12_road 54 = .ok (.getfield 13, 3) := by decide +kernel
theorem dX12_road_57 : decode cX12_road 57 = .ok (.iload_n 1, 1) := by decide +kernel
theorem dX12_road_58 : decode cX12_road 58 = .ok (.iaload, 1) := by decide +kernel
theorem dX12_road_59 : decode cX12_road 59 = .ok (.goto 9, 3) := by decide +kernel
theorem dX12_road_62 : decode cX12_road 62 = .ok (.aload_n 0, 1) := by decide +kernel
theorem dX12_road_63 : decode cX12_road 63 = .ok (.getfield 16, 3) := by decide +kernel
theorem dX12_road_66 : decode cX12_road 66 = .ok (.iload_n 1, 1) := by decide +kernel
theorem dX12_road_67 : decode cX12_road 67 = .ok (.iaload, 1) := by decide +kernel
theorem dX12_road_68 : decode cX12_road 68 = .ok (.ireturn, 1) := by decide +kernel
theorem dX12_world_0 : decode cX12_world 0 = .ok (.aload_n 0, 1) := by decide +kernel
theorem dX12_world_1 : decode cX12_world 1 = .ok (.iconst 0, 1) := by decide +kernel
theorem dX12_world_2 : decode cX12_world 2 = .ok (.putfield 102, 3) := by decide +kernel
theorem dX12_world_5 : decode cX12_world 5 = .ok (.aload_n 0, 1) := by decide +kernel
theorem dX12_world_6 : decode cX12_world 6 = .ok (.iload_n 1, 1) := by decide +kernel
theorem dX12_world_7 : decode cX12_world 7 = .ok (.invokevirtual 184, 3) := by decide +kernel
theorem dX12_world_10 : decode cX12_world 10 = .ok (.ifCond .eq 15, 3) := by decide +kernel
theorem dX12_world_13 : decode cX12_world 13 = .ok (.iload_n 2, 1) := by decide +kernel
theorem dX12_world_14 : decode cX12_world 14 = .ok (.i2l, 1) := by decide +kernel
theorem dX12_world_15 : decode cX12_world 15 = .ok (.lconst 0, 1) := by decide +kernel
theorem dX12_world_16 : decode cX12_world 16 = .ok (.ldc2_w 182, 3) := by decide +kernel
theorem dX12_world_19 : decode cX12_world 19 = .ok (.invokestatic 107, 3) := by decide +kernel
theorem dX12_world_22 : decode cX12_world 22 = .ok (.ifCond .ne 5, 3) := by decide +kernel
theorem dX12_world_25 : decode cX12_world 25 = .ok (.iconst (-1), 1) := by decide +kernel
theorem dX12_world_26 : decode cX12_world 26 = .ok (.ireturn, 1) := by decide +kernel
theorem dX12_world_27 : decode cX12_world 27 = .ok (.iload_n 2, 1) := by decide +kernel
theorem dX12_world_28 : decode cX12_world 28 = .ok (.ifCond .ne 12, 3) := by decide +kernel
theorem dX12_world_31 : decode cX12_world 31 = .ok (.aload_n 0, 1) := by decide +kernel
theorem dX12_world_32 : decode cX12_world 32 = .ok (.getfield 19, 3) := by decide +kernel
theorem dX12_world_35 : decode cX12_world 35 = .ok (.iload_n 1, 1) := by decide +kernel
theorem dX12_world_36 : decode cX12_world 36 = .ok (.iaload, 1) := by decide +kernel
theorem dX12_world_37 : decode cX12_world 37 = .ok (.goto 23, 3) := by decide +kernel
theorem dX12_world_40 : decode cX12_world 40 = .ok (.iload_n 2, 1) := by decide +kernel
theorem dX12_world_41 : decode cX12_world 41 = .ok (.iconst 1, 1) := by decide +kernel
theorem dX12_world_42 : decode cX12_world 42 = .ok (.if_icmp .ne 12, 3) := by decide +kernel
theorem dX12_world_45 : decode cX12_world 45 = .ok (.aload_n 0, 1) := by decide +kernel
theorem dX12_world_46 : decode cX12_world 46 = .ok (.getfield 22, 3) := by decide +kernel
theorem dX12_world_49 : decode cX12_world 49 = .ok (.iload_n 1, 1) := by decide +kernel
theorem dX12_world_50 : decode cX12_world 50 = .ok (.iaload, 1) := by decide +kernel
theorem dX12_world_51 : decode cX12_world 51 = .ok (.goto 9, 3) := by decide +kernel
theorem dX12_world_54 : decode cX12_world 54 = .ok (.aload_n 0, 1) := by decide +kernel
theorem dX12_world_55 : decode cX12_world 55 = .ok (.getfield 25, 3) := by decide +kernel
theorem dX12_world_58 : decode cX12_world 58 = .ok (.iload_n 1, 1) := by decide +kernel
theorem dX12_world_59 : decode cX12_world 59 = .ok (.iaload, 1) := by decide +kernel
theorem dX12_world_60 : decode cX12_world 60 = .ok (.ireturn, 1) := by decide +kernel
theorem dX12_met_0 : decode cX12_met 0 = .ok (.aload_n 0, 1) := by decide +kernel
theorem dX12_met_1 : decode cX12_met 1 = .ok (.iconst 0, 1) := by decide +kernel
theorem dX12_met_2 : decode cX12_met 2 = .ok (.putfield 102, 3) := by decide +kernel
theorem dX12_met_5 : decode cX12_met 5 = .ok (.aload_n 0, 1) := by decide +kernel
theorem dX12_met_6 : decode cX12_met 6 = .ok (.iload_n 1, 1) := by decide +kernel
theorem dX12_met_7 : decode cX12_met 7 = .ok (.invokevirtual 187, 3) := by decide +kernel
theorem dX12_met_10 : decode cX12_met 10 = .ok (.ifCond .eq 33, 3) := by decide +kernel
theorem dX12_met_13 : decode cX12_met 13 = .ok (.iload_n 2, 1) := by decide +kernel
theorem dX12_met_14 : decode cX12_met 14 = .ok (.i2l, 1) := by decide +kernel
theorem dX12_met_15 : decode cX12_met 15 = .ok (.lconst 0, 1) := by decide +kernel
theorem dX12_met_16 : decode cX12_met 16 = .ok (.aload_n 0, 1) := by decide +kernel
theorem dX12_met_17 : decode cX12_met 17 = .ok (.getfield 159, 3) := by decide +kernel
theorem dX12_met_20 : decode cX12_met 20 = .ok (.iconst 1, 1) := by decide +kernel
theorem dX12_met_21 : decode cX12_met 21 = .ok (.isub, 1) := by decide +kernel
theorem dX12_met_22 : decode cX12_met 22 = .ok (.i2l, 1) := by decide +kernel
theorem dX12_met_23 : decode cX12_met 23 = .ok (.invokestatic 107, 3) := by decide +kernel
theorem dX12_met_26 : decode cX12_met 26 = .ok (.ifCond .eq 17, 3) := by decide +kernel
theorem dX12_met_29 : decode cX12_met 29 = .ok (.aload_n 0, 1) := by decide +kernel
theorem dX12_met_30 : decode cX12_met 30 = .ok (.getfield 34, 3) := by decide +kernel
theorem dX12_met_33 : decode cX12_met 33 = .ok (.bipush 6, 2) := by decide +kernel
theorem dX12_met_35 : decode cX12_met 35 = .ok (.iload_n 1, 1) := by decide +kernel
theorem dX12_met_36 : decode cX12_met 36 = .ok (.imul, 1) := by decide +kernel
theorem dX12_met_37 : decode cX12_met 37 = .ok (.iload_n 2, 1) := by decide +kernel
theorem dX12_met_38 : decode cX12_met 38 = .ok (.iadd, 1) := by decide +kernel
theorem dX12_met_39 : decode cX12_met 39 = .ok (.iaload, 1) := by decide +kernel
theorem dX12_met_40 : decode cX12_met 40 = .ok (.goto 4, 3) := by decide +kernel
theorem dX12_met_43 : decode cX12_met 43 = .ok (.iconst (-1), 1) := by decide +kernel
theorem dX12_met_44 : decode cX12_met 44 = .ok (.ireturn, 1) := by decide +kernel
theorem dX12_set_0 : decode cX12_set 0 = .ok (.aload_n 0, 1) := by decide +kernel
theorem dX12_set_1 : decode cX12_set 1 = .ok (.iconst 0, 1) := by decide +kernel
theorem dX12_set_2 : decode cX12_set 2 = .ok (.putfield 102, 3) := by decide +kernel
theorem dX12_set_5 : decode cX12_set 5 = .ok (.iload_n 1, 1) := by decide +kernel
theorem dX12_set_6 : decode cX12_set 6 = .ok (.i2l, 1) := by decide +kernel
theorem dX12_set_7 : decode cX12_set 7 = .ok (.lconst 0, 1) := by decide +kernel
theorem dX12_set_8 : decode cX12_set 8 = .ok (.lconst 1, 1) := by decide +kernel
theorem dX12_set_9 : decode cX12_set 9 = .ok (.invokestatic 107, 3) := by decide +kernel
theorem dX12_set_12 : decode cX12_set 12 = .ok (.ifCond .eq 25, 3) := by decide +kernel
theorem dX12_set_15 : decode cX12_set 15 = .ok (.iload_n 2, 1) := by decide +kernel
theorem dX12_set_16 : decode cX12_set 16 = .ok (.i2l, 1) := by decide +kernel
theorem dX12_set_17 : decode cX12_set 17 = .ok (.lconst 0, 1) := by decide +kernel
theorem dX12_set_18 : decode cX12_set 18 = .ok (.iload_n 1, 1) := by decide +kernel
theorem dX12_set_19 : decode cX12_set 19 = .ok (.ifCond .ne 9, 3) := by decide +kernel
theorem dX12_set_22 : decode cX12_set 22 = .ok (.ldc2_w 105, 3) := by decide +kernel
theorem dX12_set_25 : decode cX12_set 25 = .ok (.goto 6, 3) := by decide +kernel
theorem dX12_set_28 : decode cX12_set 28 = .ok (.ldc2_w 190, 3) := by decide +kernel
theorem dX12_set_31 : decode cX12_set 31 = .ok (.invokestatic 107, 3) := by decide +kernel
theorem dX12_set_34 : decode cX12_set 34 = .ok (.ifCond .ne 5, 3) := by decide +kernel
theorem dX12_set_37 : decode cX12_set 37 = .ok (.iconst (-1), 1) := by decide +kernel
theorem dX12_set_38 : decode cX12_set 38 = .ok (.ireturn, 1) := by decide +kernel
theorem dX12_set_39 : decode cX12_set 39 = .ok (.iload_n 1, 1) := by decide +kernel
theorem dX12_set_40 : decode cX12_set 40 = .ok (.ifCond .ne 10, 3) := by decide +kernel
theorem dX12_set_43 : decode cX12_set 43 = .ok (.aload_n 0, 1) := by decide +kernel
theorem dX12_set_44 : decode cX12_set 44 = .ok (.getfield 166, 3) := by decide +kernel
theorem dX12_set_47 : decode cX12_set 47 = .ok (.goto 7, 3) := by decide +kernel
theorem dX12_set_50 : decode cX12_set 50 = .ok (.aload_n 0, 1) := by decide +kernel
theorem dX12_set_51 : decode cX12_set 51 = .ok (.getfield 37, 3) := by decide +kernel
theorem dX12_set_54 : decode cX12_set 54 = .ok (.istore_n 3, 1) := by decide +kernel
theorem dX12_set_55 : decode cX12_set 55 = .ok (.aload_n 0, 1) := by decide +kernel
theorem dX12_set_56 : decode cX12_set 56 = .ok (.iload_n 1, 1) := by decide +kernel
theorem dX12_set_57 : decode cX12_set 57 = .ok (.ifCond .ne 7, 3) := by decide +kernel
theorem dX12_set_60 : decode cX12_set 60 = .ok (.iload_n 2, 1) := by decide +kernel
theorem dX12_set_61 : decode cX12_set 61 = .ok (.goto 7, 3) := by decide +kernel
theorem dX12_set_64 : decode cX12_set 64 = .ok (.aload_n 0, 1) := by decide +kernel
theorem dX12_set_65 : decode cX12_set 65 = .ok (.getfield 166, 3) := by decide +kernel
theorem dX12_set_68 : decode cX12_set 68 = .ok (.putfield 166, 3) := by decide +kernel
theorem dX12_set_71 : decode cX12_set 71 = .ok (.aload_n 0, 1) := by decide +kernel
theorem dX12_set_72 : decode cX12_set 72 = .ok (.iload_n 1, 1) := by decide +kernel
theorem dX12_set_73 : decode cX12_set 73 = .ok (.iconst 1, 1) := by decide +kernel
theorem dX12_set_74 : decode cX12_set 74 = .ok (.if_icmp .ne 7, 3) := by decide +kernel
theorem dX12_set_77 : decode cX12_set 77 = .ok (.iload_n 2, 1) := by decide +kernel
theorem dX12_set_78 : decode cX12_set 78 = .ok (.goto 7, 3) := by decide +kernel
theorem dX12_set_81 : decode cX12_set 81 = .ok (.aload_n 0, 1) := by decide +kernel
theorem dX12_set_82 : decode cX12_set 82 = .ok (.getfield 37, 3) := by decide +kernel
theorem dX12_set_85 : decode cX12_set 85 = .ok (.putfield 37, 3) := by decide +kernel
theorem dX12_set_88 : decode cX12_set 88 = .ok (.iload_n 3, 1) := by decide +kernel
theorem dX12_set_89 : decode cX12_set 89 = .ok (.ireturn, 1) := by decide +kernel
theorem dX12_isShut_0 : decode cX12_isShut 0 = .ok (.aload_n 0, 1) := by decide +kernel
theorem dX12_isShut_1 : decode cX12_isShut 1 = .ok (.getfield 25, 3) := by decide +kernel
theorem dX12_isShut_4 : decode cX12_isShut 4 = .ok (.iload_n 1, 1) := by decide +kernel
theorem dX12_isShut_5 : decode cX12_isShut 5 = .ok (.iaload, 1) := by decide +kernel
theorem dX12_isShut_6 : decode cX12_isShut 6 = .ok (.iload_n 2, 1) := by decide +kernel
theorem dX12_isShut_7 : decode cX12_isShut 7 = .ok (.ishr, 1) := by decide +kernel
theorem dX12_isShut_8 : decode cX12_isShut 8 = .ok (.iconst 1, 1) := by decide +kernel
theorem dX12_isShut_9 : decode cX12_isShut 9 = .ok (.iand, 1) := by decide +kernel
theorem dX12_isShut_10 : decode cX12_isShut 10 = .ok (.iconst 1, 1) := by decide +kernel
theorem dX12_isShut_11 : decode cX12_isShut 11 = .ok (.if_icmp .ne 7, 3) := by decide +kernel
theorem dX12_isShut_14 : decode cX12_isShut 14 = .ok (.iconst 1, 1) := by decide +kernel
