theorem dX4_statementsInForm_20 : decode cX4_statementsInForm 20 = .ok (.if_icmp .ge 29, 3) := by decide +kernel
theorem dX4_statementsInForm_23 : decode cX4_statementsInForm 23 = .ok (.aload_n 0, 1) := by decide +kernel
theorem dX4_statementsInForm_24 : decode cX4_statementsInForm 24 = .ok (.iload_n 1, 1) := by decide +kernel
theorem dX4_statementsInForm_25 : decode cX4_statementsInForm 25 = .ok (.invokevirtual 31, 3) := by decide +kernel
theorem dX4_statementsInForm_28 : decode cX4_statementsInForm 28 = .ok (.istore_n 3, 1) := by decide +kernel
theorem dX4_statementsInForm_29 : decode cX4_statementsInForm 29 = .ok (.iload_n 3, 1) := by decide +kernel
theorem dX4_statementsInForm_30 : decode cX4_statementsInForm 30 = .ok (.ifCond .ge 11, 3) := by decide +kernel
theorem dX4_statementsInForm_33 : decode cX4_statementsInForm 33 = .ok (.sipush (-1000), 3) := by decide +kernel
theorem dX4_statementsInForm_36 : decode cX4_statementsInForm 36 = .ok (.iload_n 3, 1) := by decide +kernel
theorem dX4_statementsInForm_37 : decode cX4_statementsInForm 37 = .ok (.iconst (-1), 1) := by decide +kernel
theorem dX4_statementsInForm_38 : decode cX4_statementsInForm 38 = .ok (.ixor, 1) := by decide +kernel
theorem dX4_statementsInForm_39 : decode cX4_statementsInForm 39 = .ok (.isub, 1) := by decide +kernel
theorem dX4_statementsInForm_40 : decode cX4_statementsInForm 40 = .ok (.ireturn, 1) := by decide +kernel
theorem dX4_statementsInForm_41 : decode cX4_statementsInForm 41 = .ok (.iload_n 3, 1) := by decide +kernel
theorem dX4_statementsInForm_42 : decode cX4_statementsInForm 42 = .ok (.istore_n 1, 1) := by decide +kernel
theorem dX4_statementsInForm_43 : decode cX4_statementsInForm 43 = .ok (.iinc 2 1, 3) := by decide +kernel
theorem dX4_statementsInForm_46 : decode cX4_statementsInForm 46 = .ok (.goto (-42), 3) := by decide +kernel
theorem dX4_statementsInForm_49 : decode cX4_statementsInForm 49 = .ok (.iload_n 2, 1) := by decide +kernel
theorem dX4_statementsInForm_50 : decode cX4_statementsInForm 50 = .ok (.ireturn, 1) := by decide +kernel
theorem dX4_tellTo_0 : decode cX4_tellTo 0 = .ok (.iconst 0, 1) := by decide +kernel
theorem dX4_tellTo_1 : decode cX4_tellTo 1 = .ok (.istore_n 3, 1) := by decide +kernel
theorem dX4_tellTo_2 : decode cX4_tellTo 2 = .ok (.iconst 0, 1) := by decide +kernel
theorem dX4_tellTo_3 : decode cX4_tellTo 3 = .ok (.istore 4, 2) := by decide +kernel
theorem dX4_tellTo_5 : decode cX4_tellTo 5 = .ok (.iload 4, 2) := by decide +kernel
theorem dX4_tellTo_7 : decode cX4_tellTo 7 = .ok (.iload_n 2, 1) := by decide +kernel
theorem dX4_tellTo_8 : decode cX4_tellTo 8 = .ok (.if_icmp .ge 38, 3) := by decide +kernel
theorem dX4_tellTo_11 : decode cX4_tellTo 11 = .ok (.aload_n 0, 1) := by decide +kernel
theorem dX4_tellTo_12 : decode cX4_tellTo 12 = .ok (.iload_n 3, 1) := by decide +kernel
theorem dX4_tellTo_13 : decode cX4_tellTo 13 = .ok (.invokevirtual 31, 3) := by decide +kernel
theorem dX4_tellTo_16 : decode cX4_tellTo 16 = .ok (.istore 5, 2) := by decide +kernel
theorem dX4_tellTo_18 : decode cX4_tellTo 18 = .ok (.aload_n 0, 1) := by decide +kernel
theorem dX4_tellTo_19 : decode cX4_tellTo 19 = .ok (.aload_n 0, 1) := by decide +kernel
theorem dX4_tellTo_20 : decode cX4_tellTo 20 = .ok (.iload_n 3, 1) := by decide +kernel
theorem dX4_tellTo_21 : decode cX4_tellTo 21 = .ok (.invokevirtual 35, 3) := by decide +kernel
theorem dX4_tellTo_24 : decode cX4_tellTo 24 = .ok (.aload_n 1, 1) := by decide +kernel
theorem dX4_tellTo_25 : decode cX4_tellTo 25 = .ok (.invokevirtual 38, 3) := by decide +kernel
theorem dX4_tellTo_28 : decode cX4_tellTo 28 = .ok (.ifCond .ne 9, 3) := by decide +kernel
theorem dX4_tellTo_31 : decode cX4_tellTo 31 = .ok (.sipush (-2000), 3) := by decide +kernel
theorem dX4_tellTo_34 : decode cX4_tellTo 34 = .ok (.iload_n 3, 1) := by decide +kernel
theorem dX4_tellTo_35 : decode cX4_tellTo 35 = .ok (.isub, 1) := by decide +kernel
theorem dX4_tellTo_36 : decode cX4_tellTo 36 = .ok (.ireturn, 1) := by decide +kernel
theorem dX4_tellTo_37 : decode cX4_tellTo 37 = .ok (.iload 5, 2) := by decide +kernel
theorem dX4_tellTo_39 : decode cX4_tellTo 39 = .ok (.istore_n 3, 1) := by decide +kernel
theorem dX4_tellTo_40 : decode cX4_tellTo 40 = .ok (.iinc 4 1, 3) := by decide +kernel
theorem dX4_tellTo_43 : decode cX4_tellTo 43 = .ok (.goto (-38), 3) := by decide +kernel
theorem dX4_tellTo_46 : decode cX4_tellTo 46 = .ok (.iload_n 2, 1) := by decide +kernel
theorem dX4_tellTo_47 : decode cX4_tellTo 47 = .ok (.ireturn, 1) := by decide +kernel
theorem dX4_placeBehind_0 : decode cX4_placeBehind 0 = .ok (.aload_n 0, 1) := by decide +kernel
theorem dX4_placeBehind_1 : decode cX4_placeBehind 1 = .ok (.iload_n 1, 1) := by decide +kernel
theorem dX4_placeBehind_2 : decode cX4_placeBehind 2 = .ok (.invokevirtual 35, 3) := by decide +kernel
theorem dX4_placeBehind_5 : decode cX4_placeBehind 5 = .ok (.invokestatic 42, 3) := by decide +kernel
theorem dX4_placeBehind_8 : decode cX4_placeBehind 8 = .ok (.astore_n 2, 1) := by decide +kernel
theorem dX4_placeBehind_9 : decode cX4_placeBehind 9 = .ok (.aload_n 2, 1) := by decide +kernel
theorem dX4_placeBehind_10 : decode cX4_placeBehind 10 = .ok (.invokevirtual 46, 3) := by decide +kernel
theorem dX4_placeBehind_13 : decode cX4_placeBehind 13 = .ok (.ifCond .eq 7, 3) := by decide +kernel
theorem dX4_placeBehind_16 : decode cX4_placeBehind 16 = .ok (.iload_n 1, 1) := by decide +kernel
theorem dX4_placeBehind_17 : decode cX4_placeBehind 17 = .ok (.iconst (-1), 1) := by decide +kernel
theorem dX4_placeBehind_18 : decode cX4_placeBehind 18 = .ok (.ixor, 1) := by decide +kernel
theorem dX4_placeBehind_19 : decode cX4_placeBehind 19 = .ok (.ireturn, 1) := by decide +kernel
theorem dX4_placeBehind_20 : decode cX4_placeBehind 20 = .ok (.iload_n 1, 1) := by decide +kernel
theorem dX4_placeBehind_21 : decode cX4_placeBehind 21 = .ok (.iconst 1, 1) := by decide +kernel
theorem dX4_placeBehind_22 : decode cX4_placeBehind 22 = .ok (.iadd, 1) := by decide +kernel
theorem dX4_placeBehind_23 : decode cX4_placeBehind 23 = .ok (.istore_n 3, 1) := by decide +kernel
theorem dX4_placeBehind_24 : decode cX4_placeBehind 24 = .ok (.iconst 0, 1) := by decide +kernel
theorem dX4_placeBehind_25 : decode cX4_placeBehind 25 = .ok (.istore 4, 2) := by decide +kernel
theorem dX4_placeBehind_27 : decode cX4_placeBehind 27 = .ok (.iconst 0, 1) := by decide +kernel
theorem dX4_placeBehind_28 : decode cX4_placeBehind 28 = .ok (.istore 5, 2) := by decide +kernel
theorem dX4_placeBehind_30 : decode cX4_placeBehind 30 = .ok (.iload 5, 2) := by decide +kernel
theorem dX4_placeBehind_32 : decode cX4_placeBehind 32 = .ok (.aload_n 2, 1) := by decide +kernel
theorem dX4_placeBehind_33 : decode cX4_placeBehind 33 = .ok (.invokevirtual 52, 3) := by decide +kernel
theorem dX4_placeBehind_36 : decode cX4_placeBehind 36 = .ok (.if_icmp .ge 81, 3) := by decide +kernel
theorem dX4_placeBehind_39 : decode cX4_placeBehind 39 = .ok (.aload_n 2, 1) := by decide +kernel
theorem dX4_placeBehind_40 : decode cX4_placeBehind 40 = .ok (.iload 5, 2) := by decide +kernel
theorem dX4_placeBehind_42 : decode cX4_placeBehind 42 = .ok (.invokevirtual 55, 3) := by decide +kernel
theorem dX4_placeBehind_45 : decode cX4_placeBehind 45 = .ok (.istore 6, 2) := by decide +kernel
theorem dX4_placeBehind_47 : decode cX4_placeBehind 47 = .ok (.aload_n 0, 1) := by decide +kernel
theorem dX4_placeBehind_48 : decode cX4_placeBehind 48 = .ok (.iload_n 3, 1) := by decide +kernel
theorem dX4_placeBehind_49 : decode cX4_placeBehind 49 = .ok (.iload 6, 2) := by decide +kernel
theorem dX4_placeBehind_51 : decode cX4_placeBehind 51 = .ok (.invokevirtual 59, 3) := by decide +kernel
theorem dX4_placeBehind_54 : decode cX4_placeBehind 54 = .ok (.istore 7, 2) := by decide +kernel
theorem dX4_placeBehind_56 : decode cX4_placeBehind 56 = .ok (.iload 7, 2) := by decide +kernel
theorem dX4_placeBehind_58 : decode cX4_placeBehind 58 = .ok (.ifCond .ne 7, 3) := by decide +kernel
theorem dX4_placeBehind_61 : decode cX4_placeBehind 61 = .ok (.iload_n 3, 1) := by decide +kernel
theorem dX4_placeBehind_62 : decode cX4_placeBehind 62 = .ok (.iconst (-1), 1) := by decide +kernel
theorem dX4_placeBehind_63 : decode cX4_placeBehind 63 = .ok (.ixor, 1) := by decide +kernel
theorem dX4_placeBehind_64 : decode cX4_placeBehind 64 = .ok (.ireturn, 1) := by decide +kernel
theorem dX4_placeBehind_65 : decode cX4_placeBehind 65 = .ok (.iload 6, 2) := by decide +kernel
theorem dX4_placeBehind_67 : decode cX4_placeBehind 67 = .ok (.bipush 100, 2) := by decide +kernel
theorem dX4_placeBehind_69 : decode cX4_placeBehind 69 = .ok (.if_icmp .eq 10, 3) := by decide +kernel
theorem dX4_placeBehind_72 : decode cX4_placeBehind 72 = .ok (.iload 6, 2) := by decide +kernel
theorem dX4_placeBehind_74 : decode cX4_placeBehind 74 = .ok (.bipush 110, 2) := by decide +kernel
theorem dX4_placeBehind_76 : decode cX4_placeBehind 76 = .ok (.if_icmp .ne 30, 3) := by decide +kernel
theorem dX4_placeBehind_79 : decode cX4_placeBehind 79 = .ok (.iload 4, 2) := by decide +kernel
theorem dX4_placeBehind_81 : decode cX4_placeBehind 81 = .ok (.aload_n 0, 1) := by decide +kernel
theorem dX4_placeBehind_82 : decode cX4_placeBehind 82 = .ok (.getfield 15, 3) := by decide +kernel
theorem dX4_placeBehind_85 : decode cX4_placeBehind 85 = .ok (.arraylength, 1) := by decide +kernel
theorem dX4_placeBehind_86 : decode cX4_placeBehind 86 = .ok (.if_icmp .ge 20, 3) := by decide +kernel
theorem dX4_placeBehind_89 : decode cX4_placeBehind 89 = .ok (.aload_n 0, 1) := by decide +kernel
theorem dX4_placeBehind_90 : decode cX4_placeBehind 90 = .ok (.getfield 15, 3) := by decide +kernel
theorem dX4_placeBehind_93 : decode cX4_placeBehind 93 = .ok (.iload 4, 2) := by decide +kernel
theorem dX4_placeBehind_95 : decode cX4_placeBehind 95 = .ok (.aload_n 0, 1) := by decide +kernel
theorem dX4_placeBehind_96 : decode cX4_placeBehind 96 = .ok (.iload_n 3, 1) := by decide +kernel
theorem dX4_placeBehind_97 : decode cX4_placeBehind 97 = .ok (.iload 7, 2) := by decide +kernel
theorem dX4_placeBehind_99 : decode cX4_placeBehind 99 = .ok (.invokevirtual 63, 3) := by decide +kernel
theorem dX4_placeBehind_102 : decode cX4_placeBehind 102 = .ok (.iastore, 1) := by decide +kernel
theorem dX4_placeBehind_103 : decode cX4_placeBehind 103 = .ok (.iinc 4 1, 3) := by decide +kernel
theorem dX4_placeBehind_106 : decode cX4_placeBehind 106 = .ok (.iload_n 3, 1) := by decide +kernel
theorem dX4_placeBehind_107 : decode cX4_placeBehind 107 = .ok (.iload 7, 2) := by decide +kernel
theorem dX4_placeBehind_109 : decode cX4_placeBehind 109 = .ok (.iadd, 1) := by decide +kernel
theorem dX4_placeBehind_110 : decode cX4_placeBehind 110 = .ok (.istore_n 3, 1) := by decide +kernel
theorem dX4_placeBehind_111 : decode cX4_placeBehind 111 = .ok (.iinc 5 1, 3) := by decide +kernel
theorem dX4_placeBehind_114 : decode cX4_placeBehind 114 = .ok (.goto (-84), 3) := by decide +kernel
theorem dX4_placeBehind_117 : decode cX4_placeBehind 117 = .ok (.iload_n 3, 1) := by decide +kernel
theorem dX4_placeBehind_118 : decode cX4_placeBehind 118 = .ok (.ireturn, 1) := by decide +kernel
theorem dX4_lengthAt_0 : decode cX4_lengthAt 0 = .ok (.iload_n 2, 1) := by decide +kernel
theorem dX4_lengthAt_1 : decode cX4_lengthAt 1 = .ok (.lookupswitch 41 #[(100, 27), (110, 34)], 27) := by decide +kernel
theorem dX4_lengthAt_28 : decode cX4_lengthAt 28 = .ok (.aload_n 0, 1) := by decide +kernel
theorem dX4_lengthAt_29 : decode cX4_lengthAt 29 = .ok (.iload_n 1, 1) := by decide +kernel
theorem dX4_lengthAt_30 : decode cX4_lengthAt 30 = .ok (.iconst 1, 1) := by decide +kernel
theorem dX4_lengthAt_31 : decode cX4_lengthAt 31 = .ok (.invokevirtual 66, 3) := by decide +kernel
theorem dX4_lengthAt_34 : decode cX4_lengthAt 34 = .ok (.ireturn, 1) := by decide +kernel
theorem dX4_lengthAt_35 : decode cX4_lengthAt 35 = .ok (.aload_n 0, 1) := by decide +kernel
theorem dX4_lengthAt_36 : decode cX4_lengthAt 36 = .ok (.iload_n 1, 1) := by decide +kernel
theorem dX4_lengthAt_37 : decode cX4_lengthAt 37 = .ok (.iconst 5, 1) := by decide +kernel
theorem dX4_lengthAt_38 : decode cX4_lengthAt 38 = .ok (.invokevirtual 66, 3) := by decide +kernel
theorem dX4_lengthAt_41 : decode cX4_lengthAt 41 = .ok (.ireturn, 1) := by decide +kernel
theorem dX4_lengthAt_42 : decode cX4_lengthAt 42 = .ok (.aload_n 0, 1) := by decide +kernel
theorem dX4_lengthAt_43 : decode cX4_lengthAt 43 = .ok (.iload_n 1, 1) := by decide +kernel
theorem dX4_lengthAt_44 : decode cX4_lengthAt 44 = .ok (.invokevirtual 35, 3) := by decide +kernel
theorem dX4_lengthAt_47 : decode cX4_lengthAt 47 = .ok (.iload_n 2, 1) := by decide +kernel
theorem dX4_lengthAt_48 : decode cX4_lengthAt 48 = .ok (.if_icmp .ne 7, 3) := by decide +kernel
theorem dX4_lengthAt_51 : decode cX4_lengthAt 51 = .ok (.iconst 1, 1) := by decide +kernel
theorem dX4_lengthAt_52 : decode cX4_lengthAt 52 = .ok (.goto 4, 3) := by decide +kernel
theorem dX4_lengthAt_55 : decode cX4_lengthAt 55 = .ok (.iconst 0, 1) := by decide +kernel
theorem dX4_lengthAt_56 : decode cX4_lengthAt 56 = .ok (.ireturn, 1) := by decide +kernel
theorem dX4_formOf_0 : decode cX4_formOf 0 = .ok (.iload_n 0, 1) := by decide +kernel
theorem dX4_formOf_1 : decode cX4_formOf 1 = .ok (.lookupswitch 74 #[(97, 71), (98, 68), (109, 59), (114, 59), (115, 65), (119, 62)], 59) := by decide +kernel
theorem dX4_formOf_60 : decode cX4_formOf 60 = .ok (.ldc 69, 2) := by decide +kernel
theorem dX4_formOf_62 : decode cX4_formOf 62 = .ok (.areturn, 1) := by decide +kernel
theorem dX4_formOf_63 : decode cX4_formOf 63 = .ok (.ldc 71, 2) := by decide +kernel
theorem dX4_formOf_65 : decode cX4_formOf 65 = .ok (.areturn, 1) := by decide +kernel
theorem dX4_formOf_66 : decode cX4_formOf 66 = .ok (.ldc 73, 2) := by decide +kernel
theorem dX4_formOf_68 : decode cX4_formOf 68 = .ok (.areturn, 1) := by decide +kernel
theorem dX4_formOf_69 : decode cX4_formOf 69 = .ok (.ldc 75, 2) := by decide +kernel
theorem dX4_formOf_71 : decode cX4_formOf 71 = .ok (.areturn, 1) := by decide +kernel
theorem dX4_formOf_72 : decode cX4_formOf 72 = .ok (.ldc 77, 2) := by decide +kernel
theorem dX4_formOf_74 : decode cX4_formOf 74 = .ok (.areturn, 1) := by decide +kernel
theorem dX4_formOf_75 : decode cX4_formOf 75 = .ok (.ldc 79, 2) := by decide +kernel
theorem dX4_formOf_77 : decode cX4_formOf 77 = .ok (.areturn, 1) := by decide +kernel
theorem dX4_byteAt_0 : decode cX4_byteAt 0 = .ok (.iload_n 1, 1) := by decide +kernel
theorem dX4_byteAt_1 : decode cX4_byteAt 1 = .ok (.ifCond .lt 21, 3) := by decide +kernel
theorem dX4_byteAt_4 : decode cX4_byteAt 4 = .ok (.iload_n 1, 1) := by decide +kernel
theorem dX4_byteAt_5 : decode cX4_byteAt 5 = .ok (.aload_n 0, 1) := by decide +kernel
theorem dX4_byteAt_6 : decode cX4_byteAt 6 = .ok (.getfield 9, 3) := by decide +kernel
theorem dX4_byteAt_9 : decode cX4_byteAt 9 = .ok (.arraylength, 1) := by decide +kernel
theorem dX4_byteAt_10 : decode cX4_byteAt 10 = .ok (.if_icmp .ge 12, 3) := by decide +kernel
theorem dX4_byteAt_13 : decode cX4_byteAt 13 = .ok (.aload_n 0, 1) := by decide +kernel
theorem dX4_byteAt_14 : decode cX4_byteAt 14 = .ok (.getfield 9, 3) := by decide +kernel
theorem dX4_byteAt_17 : decode cX4_byteAt 17 = .ok (.iload_n 1, 1) := by decide +kernel
theorem dX4_byteAt_18 : decode cX4_byteAt 18 = .ok (.iaload, 1) := by decide +kernel
theorem dX4_byteAt_19 : decode cX4_byteAt 19 = .ok (.goto 4, 3) := by decide +kernel
theorem dX4_byteAt_22 : decode cX4_byteAt 22 = .ok (.iconst 0, 1) := by decide +kernel
theorem dX4_byteAt_23 : decode cX4_byteAt 23 = .ok (.ireturn, 1) := by decide +kernel
theorem dX4_digitsAt_0 : decode cX4_digitsAt 0 = .ok (.aload_n 0, 1) := by decide +kernel
theorem dX4_digitsAt_1 : decode cX4_digitsAt 1 = .ok (.iload_n 1, 1) := by decide +kernel
theorem dX4_digitsAt_2 : decode cX4_digitsAt 2 = .ok (.invokevirtual 35, 3) := by decide +kernel
theorem dX4_digitsAt_5 : decode cX4_digitsAt 5 = .ok (.bipush 48, 2) := by decide +kernel
theorem dX4_digitsAt_7 : decode cX4_digitsAt 7 = .ok (.if_icmp .ne 5, 3) := by decide +kernel
theorem dX4_digitsAt_10 : decode cX4_digitsAt 10 = .ok (.iconst 1, 1) := by decide +kernel
theorem dX4_digitsAt_11 : decode cX4_digitsAt 11 = .ok (.ireturn, 1) := by decide +kernel
theorem dX4_digitsAt_12 : decode cX4_digitsAt 12 = .ok (.iconst 0, 1) := by decide +kernel
theorem dX4_digitsAt_13 : decode cX4_digitsAt 13 = .ok (.istore_n 3, 1) := by decide +kernel
theorem dX4_digitsAt_14 : decode cX4_digitsAt 14 = .ok (.iconst 0, 1) := by decide +kernel
theorem dX4_digitsAt_15 : decode cX4_digitsAt 15 = .ok (.istore 4, 2) := by decide +kernel
theorem dX4_digitsAt_17 : decode cX4_digitsAt 17 = .ok (.iload 4, 2) := by decide +kernel
theorem dX4_digitsAt_19 : decode cX4_digitsAt 19 = .ok (.iload_n 2, 1) := by decide +kernel
theorem dX4_digitsAt_20 : decode cX4_digitsAt 20 = .ok (.if_icmp .ge 26, 3) := by decide +kernel
theorem dX4_digitsAt_23 : decode cX4_digitsAt 23 = .ok (.aload_n 0, 1) := by decide +kernel
theorem dX4_digitsAt_24 : decode cX4_digitsAt 24 = .ok (.iload_n 1, 1) := by decide +kernel
theorem dX4_digitsAt_25 : decode cX4_digitsAt 25 = .ok (.iload 4, 2) := by decide +kernel
theorem dX4_digitsAt_27 : decode cX4_digitsAt 27 = .ok (.iadd, 1) := by decide +kernel
theorem dX4_digitsAt_28 : decode cX4_digitsAt 28 = .ok (.invokevirtual 35, 3) := by decide +kernel
theorem dX4_digitsAt_31 : decode cX4_digitsAt 31 = .ok (.invokestatic 81, 3) := by decide +kernel
theorem dX4_digitsAt_34 : decode cX4_digitsAt 34 = .ok (.ifCond .eq 12, 3) := by decide +kernel
theorem dX4_digitsAt_37 : decode cX4_digitsAt 37 = .ok (.iinc 3 1, 3) := by decide +kernel
theorem dX4_digitsAt_40 : decode cX4_digitsAt 40 = .ok (.iinc 4 1, 3) := by decide +kernel
theorem dX4_digitsAt_43 : decode cX4_digitsAt 43 = .ok (.goto (-26), 3) := by decide +kernel
theorem dX4_digitsAt_46 : decode cX4_digitsAt 46 = .ok (.iload_n 3, 1) := by decide +kernel
theorem dX4_digitsAt_47 : decode cX4_digitsAt 47 = .ok (.ireturn, 1) := by decide +kernel
theorem dX4_isDigit_0 : decode cX4_isDigit 0 = .ok (.iload_n 0, 1) := by decide +kernel
theorem dX4_isDigit_1 : decode cX4_isDigit 1 = .ok (.bipush 48, 2) := by decide +kernel
theorem dX4_isDigit_3 : decode cX4_isDigit 3 = .ok (.if_icmp .lt 13, 3) := by decide +kernel
theorem dX4_isDigit_6 : decode cX4_isDigit 6 = .ok (.iload_n 0, 1) := by decide +kernel
theorem dX4_isDigit_7 : decode cX4_isDigit 7 = .ok (.bipush 57, 2) := by decide +kernel
theorem dX4_isDigit_9 : decode cX4_isDigit 9 = .ok (.if_icmp .gt 7, 3) := by decide +kernel
theorem dX4_isDigit_12 : decode cX4_isDigit 12 = .ok (.iconst 1, 1) := by decide +kernel
theorem dX4_isDigit_13 : decode cX4_isDigit 13 = .ok (.goto 4, 3) := by decide +kernel
theorem dX4_isDigit_16 : decode cX4_isDigit 16 = .ok (.iconst 0, 1) := by decide +kernel
theorem dX4_isDigit_17 : decode cX4_isDigit 17 = .ok (.ireturn, 1) := by decide +kernel
theorem dX4_numberAt_0 : decode cX4_numberAt 0 = .ok (.iconst 0, 1) := by decide +kernel
theorem dX4_numberAt_1 : decode cX4_numberAt 1 = .ok (.istore_n 3, 1) := by decide +kernel
theorem dX4_numberAt_2 : decode cX4_numberAt 2 = .ok (.iconst 0, 1) := by decide +kernel
theorem dX4_numberAt_3 : decode cX4_numberAt 3 = .ok (.istore 4, 2) := by decide +kernel
theorem dX4_numberAt_5 : decode cX4_numberAt 5 = .ok (.iload 4, 2) := by decide +kernel
theorem dX4_numberAt_7 : decode cX4_numberAt 7 = .ok (.iload_n 2, 1) := by decide +kernel
theorem dX4_numberAt_8 : decode cX4_numberAt 8 = .ok (.if_icmp .ge 26, 3) := by decide +kernel
theorem dX4_numberAt_11 : decode cX4_numberAt 11 = .ok (.iload_n 3, 1) := by decide +kernel
theorem dX4_numberAt_12 : decode cX4_numberAt 12 = .ok (.bipush 10, 2) := by decide +kernel
theorem dX4_numberAt_14 : decode cX4_numberAt 14 = .ok (.imul, 1) := by decide +kernel
theorem dX4_numberAt_15 : decode cX4_numberAt 15 = .ok (.aload_n 0, 1) := by decide +kernel
theorem dX4_numberAt_16 : decode cX4_numberAt 16 = .ok (.iload_n 1, 1) := by decide +kernel
theorem dX4_numberAt_17 : decode cX4_numberAt 17 = .ok (.iload 4, 2) := by decide +kernel
theorem dX4_numberAt_19 : decode cX4_numberAt 19 = .ok (.iadd, 1) := by decide +kernel
theorem dX4_numberAt_20 : decode cX4_numberAt 20 = .ok (.invokevirtual 35, 3) := by decide +kernel
theorem dX4_numberAt_23 : decode cX4_numberAt 23 = .ok (.iadd, 1) := by decide +kernel
theorem dX4_numberAt_24 : decode cX4_numberAt 24 = .ok (.bipush 48, 2) := by decide +kernel
theorem dX4_numberAt_26 : decode cX4_numberAt 26 = .ok (.isub, 1) := by decide +kernel
theorem dX4_numberAt_27 : decode cX4_numberAt 27 = .ok (.istore_n 3, 1) := by decide +kernel
theorem dX4_numberAt_28 : decode cX4_numberAt 28 = .ok (.iinc 4 1, 3) := by decide +kernel
theorem dX4_numberAt_31 : decode cX4_numberAt 31 = .ok (.goto (-26), 3) := by decide +kernel
theorem dX4_numberAt_34 : decode cX4_numberAt 34 = .ok (.iload_n 3, 1) := by decide +kernel
theorem dX4_numberAt_35 : decode cX4_numberAt 35 = .ok (.ireturn, 1) := by decide +kernel
theorem dX4_isTold_0 : decode cX4_isTold 0 = .ok (.iload_n 1, 1) := by decide +kernel
theorem dX4_isTold_1 : decode cX4_isTold 1 = .ok (.lookupswitch 167 #[(97, 156), (98, 145), (109, 122), (114, 59), (115, 105), (119, 82)], 59) := by decide +kernel
theorem dX4_isTold_60 : decode cX4_isTold 60 = .ok (.aload_n 2, 1) := by decide +kernel
theorem dX4_isTold_61 : decode cX4_isTold 61 = .ok (.aload_n 0, 1) := by decide +kernel
theorem dX4_isTold_62 : decode cX4_isTold 62 = .ok (.getfield 15, 3) := by decide +kernel
theorem dX4_isTold_65 : decode cX4_isTold 65 = .ok (.iconst 0, 1) := by decide +kernel
theorem dX4_isTold_66 : decode cX4_isTold 66 = .ok (.iaload, 1) := by decide +kernel
theorem dX4_isTold_67 : decode cX4_isTold 67 = .ok (.aload_n 0, 1) := by decide +kernel
theorem dX4_isTold_68 : decode cX4_isTold 68 = .ok (.getfield 15, 3) := by decide +kernel
theorem dX4_isTold_71 : decode cX4_isTold 71 = .ok (.iconst 1, 1) := by decide +kernel
theorem dX4_isTold_72 : decode cX4_isTold 72 = .ok (.iaload, 1) := by decide +kernel
theorem dX4_isTold_73 : decode cX4_isTold 73 = .ok (.aload_n 0, 1) := by decide +kernel
theorem dX4_isTold_74 : decode cX4_isTold 74 = .ok (.getfield 15, 3) := by decide +kernel
theorem dX4_isTold_77 : decode cX4_isTold 77 = .ok (.iconst 2, 1) := by decide +kernel
theorem dX4_isTold_78 : decode cX4_isTold 78 = .ok (.iaload, 1) := by decide +kernel
theorem dX4_isTold_79 : decode cX4_isTold 79 = .ok (.invokevirtual 85, 3) := by decide +kernel
theorem dX4_isTold_82 : decode cX4_isTold 82 = .ok (.ireturn, 1) := by decide +kernel
theorem dX4_isTold_83 : decode cX4_isTold 83 = .ok (.aload_n 2, 1) := by decide +kernel
theorem dX4_isTold_84 : decode cX4_isTold 84 = .ok (.aload_n 0, 1) := by decide +kernel
theorem dX4_isTold_85 : decode cX4_isTold 85 = .ok (.getfield 15, 3) := by decide +kernel
theorem dX4_isTold_88 : decode cX4_isTold 88 = .ok (.iconst 0, 1) := by decide +kernel
theorem dX4_isTold_89 : decode cX4_isTold 89 = .ok (.iaload, 1) := by decide +kernel
theorem dX4_isTold_90 : decode cX4_isTold 90 = .ok (.aload_n 0, 1) := by decide +kernel
theorem dX4_isTold_91 : decode cX4_isTold 91 = .ok (.getfield 15, 3) := by decide +kernel
theorem dX4_isTold_94 : decode cX4_isTold 94 = .ok (.iconst 1, 1) := by decide +kernel
theorem dX4_isTold_95 : decode cX4_isTold 95 = .ok (.iaload, 1) := by decide +kernel
theorem dX4_isTold_96 : decode cX4_isTold 96 = .ok (.aload_n 0, 1) := by decide +kernel
theorem dX4_isTold_97 : decode cX4_isTold 97 = .ok (.getfield 15, 3) := by decide +kernel
theorem dX4_isTold_100 : decode cX4_isTold 100 = .ok (.iconst 2, 1) := by decide +kernel
theorem dX4_isTold_101 : decode cX4_isTold 101 = .ok (.iaload, 1) := by decide +kernel
theorem dX4_isTold_102 : decode cX4_isTold 102 = .ok (.invokevirtual 91, 3) := by decide +kernel
theorem dX4_isTold_105 : decode cX4_isTold 105 = .ok (.ireturn, 1) := by decide +kernel
theorem dX4_isTold_106 : decode cX4_isTold 106 = .ok (.aload_n 2, 1) := by decide +kernel
theorem dX4_isTold_107 : decode cX4_isTold 107 = .ok (.aload_n 0, 1) := by decide +kernel
theorem dX4_isTold_108 : decode cX4_isTold 108 = .ok (.getfield 15, 3) := by decide +kernel
theorem dX4_isTold_111 : decode cX4_isTold 111 = .ok (.iconst 0, 1) := by decide +kernel
theorem dX4_isTold_112 : decode cX4_isTold 112 = .ok (.iaload, 1) := by decide +kernel
theorem dX4_isTold_113 : decode cX4_isTold 113 = .ok (.aload_n 0, 1) := by decide +kernel
theorem dX4_isTold_114 : decode cX4_isTold 114 = .ok (.getfield 15, 3) := by decide +kernel
theorem dX4_isTold_117 : decode cX4_isTold 117 = .ok (.iconst 1, 1) := by decide +kernel
theorem dX4_isTold_118 : decode cX4_isTold 118 = .ok (.iaload, 1) := by decide +kernel
theorem dX4_isTold_119 : decode cX4_isTold 119 = .ok (.invokevirtual 94, 3) := by decide +kernel
theorem dX4_isTold_122 : decode cX4_isTold 122 = .ok (.ireturn, 1) := by decide +kernel
theorem dX4_isTold_123 : decode cX4_isTold 123 = .ok (.aload_n 2, 1) := by decide +kernel
theorem dX4_isTold_124 : decode cX4_isTold 124 = .ok (.aload_n 0, 1) := by decide +kernel
theorem dX4_isTold_125 : decode cX4_isTold 125 = .ok (.getfield 15, 3) := by decide +kernel
theorem dX4_isTold_128 : decode cX4_isTold 128 = .ok (.iconst 0, 1) := by decide +kernel
theorem dX4_isTold_129 : decode cX4_isTold 129 = .ok (.iaload, 1) := by decide +kernel
theorem dX4_isTold_130 : decode cX4_isTold 130 = .ok (.aload_n 0, 1) := by decide +kernel
theorem dX4_isTold_131 : decode cX4_isTold 131 = .ok (.getfield 15, 3) := by decide +kernel
theorem dX4_isTold_134 : decode cX4_isTold 134 = .ok (.iconst 1, 1) := by decide +kernel
theorem dX4_isTold_135 : decode cX4_isTold 135 = .ok (.iaload, 1) := by decide +kernel
theorem dX4_isTold_136 : decode cX4_isTold 136 = .ok (.aload_n 0, 1) := by decide +kernel
theorem dX4_isTold_137 : decode cX4_isTold 137 = .ok (.getfield 15, 3) := by decide +kernel
theorem dX4_isTold_140 : decode cX4_isTold 140 = .ok (.iconst 2, 1) := by decide +kernel
theorem dX4_isTold_141 : decode cX4_isTold 141 = .ok (.iaload, 1) := by decide +kernel
theorem dX4_isTold_142 : decode cX4_isTold 142 = .ok (.invokevirtual 98, 3) := by decide +kernel
theorem dX4_isTold_145 : decode cX4_isTold 145 = .ok (.ireturn, 1) := by decide +kernel
theorem dX4_isTold_146 : decode cX4_isTold 146 = .ok (.aload_n 2, 1) := by decide +kernel
theorem dX4_isTold_147 : decode cX4_isTold 147 = .ok (.aload_n 0, 1) := by decide +kernel
theorem dX4_isTold_148 : decode cX4_isTold 148 = .ok (.getfield 15, 3) := by decide +kernel
theorem dX4_isTold_151 : decode cX4_isTold 151 = .ok (.iconst 0, 1) := by decide +kernel
theorem dX4_isTold_152 : decode cX4_isTold 152 = .ok (.iaload, 1) := by decide +kernel
theorem dX4_isTold_153 : decode cX4_isTold 153 = .ok (.invokevirtual 101, 3) := by decide +kernel
theorem dX4_isTold_156 : decode cX4_isTold 156 = .ok (.ireturn, 1) := by decide +kernel
theorem dX4_isTold_157 : decode cX4_isTold 157 = .ok (.aload_n 2, 1) := by decide +kernel
theorem dX4_isTold_158 : decode cX4_isTold 158 = .ok (.aload_n 0, 1) := by decide +kernel
theorem dX4_isTold_159 : decode cX4_isTold 159 = .ok (.getfield 15, 3) := by decide +kernel
theorem dX4_isTold_162 : decode cX4_isTold 162 = .ok (.iconst 0, 1) := by decide +kernel
theorem dX4_isTold_163 : decode cX4_isTold 163 = .ok (.iaload, 1) := by decide +kernel
theorem dX4_isTold_164 : decode cX4_isTold 164 = .ok (.invokevirtual 104, 3) := by decide +kernel
theorem dX4_isTold_167 : decode cX4_isTold 167 = .ok (.ireturn, 1) := by decide +kernel
theorem dX4_isTold_168 : decode cX4_isTold 168 = .ok (.iconst 0, 1) := by decide +kernel
theorem dX4_isTold_169 : decode cX4_isTold 169 = .ok (.ireturn, 1) := by decide +kernel
theorem dX5_init_0 : decode cX5_init 0 = .ok (.aload_n 0, 1) := by decide +kernel
theorem dX5_init_1 : decode cX5_init 1 = .ok (.invokespecial 3, 3) := by decide +kernel
theorem dX5_init_4 : decode cX5_init 4 = .ok (.aload_n 0, 1) := by decide +kernel
theorem dX5_init_5 : decode cX5_init 5 = .ok (.iload_n 1, 1) := by decide +kernel
theorem dX5_init_6 : decode cX5_init 6 = .ok (.putfield 9, 3) := by decide +kernel
theorem dX5_init_9 : decode cX5_init 9 = .ok (.aload_n 0, 1) := by decide +kernel
theorem dX5_init_10 : decode cX5_init 10 = .ok (.iload_n 2, 1) := by decide +kernel
theorem dX5_init_11 : decode cX5_init 11 = .ok (.ifCond .ge 7, 3) := by decide +kernel
theorem dX5_init_14 : decode cX5_init 14 = .ok (.iconst 0, 1) := by decide +kernel
theorem dX5_init_15 : decode cX5_init 15 = .ok (.goto 4, 3) := by decide +kernel
theorem dX5_init_18 : decode cX5_init 18 = .ok (.iload_n 2, 1) := by decide +kernel
theorem dX5_init_19 : decode cX5_init 19 = .ok (.newarray .int, 2) := by decide +kernel
theorem dX5_init_21 : decode cX5_init 21 = .ok (.putfield 15, 3) := by decide +kernel
theorem dX5_init_24 : decode cX5_init 24 = .ok (.return_, 1) := by decide +kernel
theorem dX5_hasPlace_0 : decode cX5_hasPlace 0 = .ok (.iload_n 1, 1) := by decide +kernel
theorem dX5_hasPlace_1 : decode cX5_hasPlace 1 = .ok (.ifCond .lt 16, 3) := by decide +kernel
theorem dX5_hasPlace_4 : decode cX5_hasPlace 4 = .ok (.iload_n 1, 1) := by decide +kernel
theorem dX5_hasPlace_5 : decode cX5_hasPlace 5 = .ok (.aload_n 0, 1) := by decide +kernel
theorem dX5_hasPlace_6 : decode cX5_hasPlace 6 = .ok (.getfield 15, 3) := by decide +kernel
theorem dX5_hasPlace_9 : decode cX5_hasPlace 9 = .ok (.arraylength, 1) := by decide +kernel
theorem dX5_hasPlace_10 : decode cX5_hasPlace 10 = .ok (.if_icmp .ge 7, 3) := by decide +kernel
theorem dX5_hasPlace_13 : decode cX5_hasPlace 13 = .ok (.iconst 1, 1) := by decide +kernel
theorem dX5_hasPlace_14 : decode cX5_hasPlace 14 = .ok (.goto 4, 3) := by decide +kernel
theorem dX5_hasPlace_17 : decode cX5_hasPlace 17 = .ok (.iconst 0, 1) := by decide +kernel
theorem dX5_hasPlace_18 : decode cX5_hasPlace 18 = .ok (.ireturn, 1) := by decide +kernel
theorem dX5_hasPlaces_0 : decode cX5_hasPlaces 0 = .ok (.iload_n 2, 1) := by decide +kernel
theorem dX5_hasPlaces_1 : decode cX5_hasPlaces 1 = .ok (.ifCond .lt 31, 3) := by decide +kernel
theorem dX5_hasPlaces_4 : decode cX5_hasPlaces 4 = .ok (.iload_n 1, 1) := by decide +kernel
theorem dX5_hasPlaces_5 : decode cX5_hasPlaces 5 = .ok (.ifCond .lt 27, 3) := by decide +kernel
theorem dX5_hasPlaces_8 : decode cX5_hasPlaces 8 = .ok (.iload_n 1, 1) := by decide +kernel
theorem dX5_hasPlaces_9 : decode cX5_hasPlaces 9 = .ok (.aload_n 0, 1) := by decide +kernel
theorem dX5_hasPlaces_10 : decode cX5_hasPlaces 10 = .ok (.getfield 15, 3) := by decide +kernel
theorem dX5_hasPlaces_13 : decode cX5_hasPlaces 13 = .ok (.arraylength, 1) := by decide +kernel
theorem dX5_hasPlaces_14 : decode cX5_hasPlaces 14 = .ok (.if_icmp .gt 18, 3) := by decide +kernel
theorem dX5_hasPlaces_17 : decode cX5_hasPlaces 17 = .ok (.iload_n 2, 1) := by decide +kernel
theorem dX5_hasPlaces_18 : decode cX5_hasPlaces 18 = .ok (.aload_n 0, 1) := by decide +kernel
theorem dX5_hasPlaces_19 : decode cX5_hasPlaces 19 = .ok (.getfield 15, 3) := by decide +kernel
theorem dX5_hasPlaces_22 : decode cX5_hasPlaces 22 = .ok (.arraylength, 1) := by decide +kernel
theorem dX5_hasPlaces_23 : decode cX5_hasPlaces 23 = .ok (.iload_n 1, 1) := by decide +kernel
theorem dX5_hasPlaces_24 : decode cX5_hasPlaces 24 = .ok (.isub, 1) := by decide +kernel
theorem dX5_hasPlaces_25 : decode cX5_hasPlaces 25 = .ok (.if_icmp .gt 7, 3) := by decide +kernel
theorem dX5_hasPlaces_28 : decode cX5_hasPlaces 28 = .ok (.iconst 1, 1) := by decide +kernel
theorem dX5_hasPlaces_29 : decode cX5_hasPlaces 29 = .ok (.goto 4, 3) := by decide +kernel
theorem dX5_hasPlaces_32 : decode cX5_hasPlaces 32 = .ok (.iconst 0, 1) := by decide +kernel
theorem dX5_hasPlaces_33 : decode cX5_hasPlaces 33 = .ok (.ireturn, 1) := by decide +kernel
theorem dX5_lowestBits_0 : decode cX5_lowestBits 0 = .ok (.aload_n 0, 1) := by decide +kernel
theorem dX5_lowestBits_1 : decode cX5_lowestBits 1 = .ok (.getfield 9, 3) := by decide +kernel
theorem dX5_lowestBits_4 : decode cX5_lowestBits 4 = .ok (.lookupswitch 34 #[(0, 28), (1, 31)], 28) := by decide +kernel
theorem dX5_lowestBits_32 : decode cX5_lowestBits 32 = .ok (.iload_n 1, 1) := by decide +kernel
theorem dX5_lowestBits_33 : decode cX5_lowestBits 33 = .ok (.i2b, 1) := by decide +kernel
theorem dX5_lowestBits_34 : decode cX5_lowestBits 34 = .ok (.ireturn, 1) := by decide +kernel
theorem dX5_lowestBits_35 : decode cX5_lowestBits 35 = .ok (.iload_n 1, 1) := by decide +kernel
theorem dX5_lowestBits_36 : decode cX5_lowestBits 36 = .ok (.i2s, 1) := by decide +kernel
theorem dX5_lowestBits_37 : decode cX5_lowestBits 37 = .ok (.ireturn, 1) := by decide +kernel
theorem dX5_lowestBits_38 : decode cX5_lowestBits 38 = .ok (.iload_n 1, 1) := by decide +kernel
theorem dX5_lowestBits_39 : decode cX5_lowestBits 39 = .ok (.ireturn, 1) := by decide +kernel
theorem dX5_leastNumber_0 : decode cX5_leastNumber 0 = .ok (.aload_n 0, 1) := by decide +kernel
theorem dX5_leastNumber_1 : decode cX5_leastNumber 1 = .ok (.getfield 9, 3) := by decide +kernel
theorem dX5_leastNumber_4 : decode cX5_leastNumber 4 = .ok (.lookupswitch 35 #[(0, 28), (1, 31)], 28) := by decide +kernel
theorem dX5_leastNumber_32 : decode cX5_leastNumber 32 = .ok (.bipush (-128), 2) := by decide +kernel
theorem dX5_leastNumber_34 : decode cX5_leastNumber 34 = .ok (.ireturn, 1) := by decide +kernel
theorem dX5_leastNumber_35 : decode cX5_leastNumber 35 = .ok (.sipush (-32768), 3) := by decide +kernel
theorem dX5_leastNumber_38 : decode cX5_leastNumber 38 = .ok (.ireturn, 1) := by decide +kernel
theorem dX5_leastNumber_39 : decode cX5_leastNumber 39 = .ok (.ldc 19, 2) := by decide +kernel
theorem dX5_leastNumber_41 : decode cX5_leastNumber 41 = .ok (.ireturn, 1) := by decide +kernel
theorem dX6_init_0 : decode cX6_init 0 = .ok (.aload_n 0, 1) := by decide +kernel
theorem dX6_init_1 : decode cX6_init 1 = .ok (.invokespecial 3, 3) := by decide +kernel
theorem dX6_init_4 : decode cX6_init 4 = .ok (.aload_n 0, 1) := by decide +kernel
theorem dX6_init_5 : decode cX6_init 5 = .ok (.iload_n 1, 1) := by decide +kernel
theorem dX6_init_6 : decode cX6_init 6 = .ok (.putfield 9, 3) := by decide +kernel
theorem dX6_init_9 : decode cX6_init 9 = .ok (.return_, 1) := by decide +kernel
theorem dX6_heaviness_0 : decode cX6_heaviness 0 = .ok (.iconst 3, 1) := by decide +kernel
theorem dX6_heaviness_1 : decode cX6_heaviness 1 = .ok (.ireturn, 1) := by decide +kernel
theorem dX6_asksAtStart_0 : decode cX6_asksAtStart 0 = .ok (.iconst 0, 1) := by decide +kernel
theorem dX6_asksAtStart_1 : decode cX6_asksAtStart 1 = .ok (.ireturn, 1) := by decide +kernel
theorem dX6_asksOnComing_0 : decode cX6_asksOnComing 0 = .ok (.iconst 0, 1) := by decide +kernel
theorem dX6_asksOnComing_1 : decode cX6_asksOnComing 1 = .ok (.ireturn, 1) := by decide +kernel
theorem dX6_toldWorld_0 : decode cX6_toldWorld 0 = .ok (.iconst (-1), 1) := by decide +kernel
theorem dX6_toldWorld_1 : decode cX6_toldWorld 1 = .ok (.ireturn, 1) := by decide +kernel
theorem dX6_hasSecondThoughts_0 : decode cX6_hasSecondThoughts 0 = .ok (.iconst 0, 1) := by decide +kernel
theorem dX6_hasSecondThoughts_1 : decode cX6_hasSecondThoughts 1 = .ok (.ireturn, 1) := by decide +kernel
theorem dX6_fail_0 : decode cX6_fail 0 = .ok (.aload_n 0, 1) := by decide +kernel
theorem dX6_fail_1 : decode cX6_fail 1 = .ok (.getfield 9, 3) := by decide +kernel
theorem dX6_fail_4 : decode cX6_fail 4 = .ok (.ifCond .le 13, 3) := by decide +kernel
theorem dX6_fail_7 : decode cX6_fail 7 = .ok (.new 15, 3) := by decide +kernel
theorem dX6_fail_10 : decode cX6_fail 10 = .ok (.dup, 1) := by decide +kernel
theorem dX6_fail_11 : decode cX6_fail 11 = .ok (.ldc 17, 2) := by decide +kernel
theorem dX6_fail_13 : decode cX6_fail 13 = .ok (.invokespecial 19, 3) := by decide +kernel
theorem dX6_fail_16 : decode cX6_fail 16 = .ok (.athrow, 1) := by decide +kernel
theorem dX6_fail_17 : decode cX6_fail 17 = .ok (.return_, 1) := by decide +kernel
theorem dX7_init_0 : decode cX7_init 0 = .ok (.aload_n 0, 1) := by decide +kernel
theorem dX7_init_1 : decode cX7_init 1 = .ok (.iload_n 1, 1) := by decide +kernel
theorem dX7_init_2 : decode cX7_init 2 = .ok (.invokespecial 1, 3) := by decide +kernel
theorem dX7_init_5 : decode cX7_init 5 = .ok (.return_, 1) := by decide +kernel
theorem dX7_heaviness_0 : decode cX7_heaviness 0 = .ok (.iconst 2, 1) := by decide +kernel
theorem dX7_heaviness_1 : decode cX7_heaviness 1 = .ok (.aload_n 0, 1) := by decide +kernel
theorem dX7_heaviness_2 : decode cX7_heaviness 2 = .ok (.invokespecial 7, 3) := by decide +kernel
theorem dX7_heaviness_5 : decode cX7_heaviness 5 = .ok (.imul, 1) := by decide +kernel
theorem dX7_heaviness_6 : decode cX7_heaviness 6 = .ok (.ireturn, 1) := by decide +kernel
theorem dX7_asksOnComing_0 : decode cX7_asksOnComing 0 = .ok (.iconst 1, 1) := by decide +kernel
theorem dX7_asksOnComing_1 : decode cX7_asksOnComing 1 = .ok (.ireturn, 1) := by decide +kernel
theorem dX8_init_0 : decode cX8_init 0 = .ok (.aload_n 0, 1) := by decide +kernel
theorem dX8_init_1 : decode cX8_init 1 = .ok (.invokespecial 3, 3) := by decide +kernel
theorem dX8_init_4 : decode cX8_init 4 = .ok (.aload_n 0, 1) := by decide +kernel
theorem dX8_init_5 : decode cX8_init 5 = .ok (.iconst 5, 1) := by decide +kernel
theorem dX8_init_6 : decode cX8_init 6 = .ok (.newarray .long, 2) := by decide +kernel
theorem dX8_init_8 : decode cX8_init 8 = .ok (.putfield 9, 3) := by decide +kernel
theorem dX8_init_11 : decode cX8_init 11 = .ok (.aload_n 0, 1) := by decide +kernel
theorem dX8_init_12 : decode cX8_init 12 = .ok (.iconst 5, 1) := by decide +kernel
theorem dX8_init_13 : decode cX8_init 13 = .ok (.newarray .long, 2) := by decide +kernel
theorem dX8_init_15 : decode cX8_init 15 = .ok (.putfield 15, 3) := by decide +kernel
theorem dX8_init_18 : decode cX8_init 18 = .ok (.return_, 1) := by decide +kernel
theorem dX8_becomeChances_0 : decode cX8_becomeChances 0 = .ok (.iconst 0, 1) := by decide +kernel
theorem dX8_becomeChances_1 : decode cX8_becomeChances 1 = .ok (.istore_n 2, 1) := by decide +kernel
theorem dX8_becomeChances_2 : decode cX8_becomeChances 2 = .ok (.iload_n 2, 1) := by decide +kernel
theorem dX8_becomeChances_3 : decode cX8_becomeChances 3 = .ok (.iconst 5, 1) := by decide +kernel
theorem dX8_becomeChances_4 : decode cX8_becomeChances 4 = .ok (.if_icmp .ge 34, 3) := by decide +kernel
theorem dX8_becomeChances_7 : decode cX8_becomeChances 7 = .ok (.aload_n 0, 1) := by decide +kernel
theorem dX8_becomeChances_8 : decode cX8_becomeChances 8 = .ok (.getfield 9, 3) := by decide +kernel
theorem dX8_becomeChances_11 : decode cX8_becomeChances 11 = .ok (.iload_n 2, 1) := by decide +kernel
theorem dX8_becomeChances_12 : decode cX8_becomeChances 12 = .ok (.aload_n 1, 1) := by decide +kernel
theorem dX8_becomeChances_13 : decode cX8_becomeChances 13 = .ok (.iload_n 2, 1) := by decide +kernel
theorem dX8_becomeChances_14 : decode cX8_becomeChances 14 = .ok (.invokevirtual 18, 3) := by decide +kernel
theorem dX8_becomeChances_17 : decode cX8_becomeChances 17 = .ok (.ifCond .eq 13, 3) := by decide +kernel
theorem dX8_becomeChances_20 : decode cX8_becomeChances 20 = .ok (.aload_n 1, 1) := by decide +kernel
theorem dX8_becomeChances_21 : decode cX8_becomeChances 21 = .ok (.getfield 24, 3) := by decide +kernel
theorem dX8_becomeChances_24 : decode cX8_becomeChances 24 = .ok (.iload_n 2, 1) := by decide +kernel
theorem dX8_becomeChances_25 : decode cX8_becomeChances 25 = .ok (.iaload, 1) := by decide +kernel
theorem dX8_becomeChances_26 : decode cX8_becomeChances 26 = .ok (.i2l, 1) := by decide +kernel
theorem dX8_becomeChances_27 : decode cX8_becomeChances 27 = .ok (.goto 4, 3) := by decide +kernel
theorem dX8_becomeChances_30 : decode cX8_becomeChances 30 = .ok (.lconst 0, 1) := by decide +kernel
theorem dX8_becomeChances_31 : decode cX8_becomeChances 31 = .ok (.lastore, 1) := by decide +kernel
theorem dX8_becomeChances_32 : decode cX8_becomeChances 32 = .ok (.iinc 2 1, 3) := by decide +kernel
theorem dX8_becomeChances_35 : decode cX8_becomeChances 35 = .ok (.goto (-33), 3) := by decide +kernel
theorem dX8_becomeChances_38 : decode cX8_becomeChances 38 = .ok (.return_, 1) := by decide +kernel
theorem dX8_becomeLike_0 : decode cX8_becomeLike 0 = .ok (.aload_n 1, 1) := by decide +kernel
theorem dX8_becomeLike_1 : decode cX8_becomeLike 1 = .ok (.getfield 9, 3) := by decide +kernel
theorem dX8_becomeLike_4 : decode cX8_becomeLike 4 = .ok (.iconst 0, 1) := by decide +kernel
theorem dX8_becomeLike_5 : decode cX8_becomeLike 5 = .ok (.aload_n 0, 1) := by decide +kernel
theorem dX8_becomeLike_6 : decode cX8_becomeLike 6 = .ok (.getfield 9, 3) := by decide +kernel
theorem dX8_becomeLike_9 : decode cX8_becomeLike 9 = .ok (.iconst 0, 1) := by decide +kernel
theorem dX8_becomeLike_10 : decode cX8_becomeLike 10 = .ok (.iconst 5, 1) := by decide +kernel
theorem dX8_becomeLike_11 : decode cX8_becomeLike 11 = .ok (.invokestatic 28, 3) := by decide +kernel
theorem dX8_becomeLike_14 : decode cX8_becomeLike 14 = .ok (.return_, 1) := by decide +kernel
theorem dX8_all_0 : decode cX8_all 0 = .ok (.lconst 0, 1) := by decide +kernel
theorem dX8_all_1 : decode cX8_all 1 = .ok (.lstore_n 1, 1) := by decide +kernel
theorem dX8_all_2 : decode cX8_all 2 = .ok (.iconst 0, 1) := by decide +kernel
theorem dX8_all_3 : decode cX8_all 3 = .ok (.istore_n 3, 1) := by decide +kernel
theorem dX8_all_4 : decode cX8_all 4 = .ok (.iload_n 3, 1) := by decide +kernel
theorem dX8_all_5 : decode cX8_all 5 = .ok (.iconst 5, 1) := by decide +kernel
theorem dX8_all_6 : decode cX8_all 6 = .ok (.if_icmp .ge 18, 3) := by decide +kernel
theorem dX8_all_9 : decode cX8_all 9 = .ok (.lload_n 1, 1) := by decide +kernel
theorem dX8_all_10 : decode cX8_all 10 = .ok (.aload_n 0, 1) := by decide +kernel
theorem dX8_all_11 : decode cX8_all 11 = .ok (.getfield 9, 3) := by decide +kernel
theorem dX8_all_14 : decode cX8_all 14 = .ok (.iload_n 3, 1) := by decide +kernel
theorem dX8_all_15 : decode cX8_all 15 = .ok (.laload, 1) := by decide +kernel
theorem dX8_all_16 : decode cX8_all 16 = .ok (.ladd, 1) := by decide +kernel
theorem dX8_all_17 : decode cX8_all 17 = .ok (.lstore_n 1, 1) := by decide +kernel
theorem dX8_all_18 : decode cX8_all 18 = .ok (.iinc 3 1, 3) := by decide +kernel
theorem dX8_all_21 : decode cX8_all 21 = .ok (.goto (-17), 3) := by decide +kernel
theorem dX8_all_24 : decode cX8_all 24 = .ok (.lload_n 1, 1) := by decide +kernel
theorem dX8_all_25 : decode cX8_all 25 = .ok (.lreturn, 1) := by decide +kernel
theorem dX8_likeliest_0 : decode cX8_likeliest 0 = .ok (.iconst 0, 1) := by decide +kernel
theorem dX8_likeliest_1 : decode cX8_likeliest 1 = .ok (.istore_n 1, 1) := by decide +kernel
theorem dX8_likeliest_2 : decode cX8_likeliest 2 = .ok (.iconst 1, 1) := by decide +kernel
theorem dX8_likeliest_3 : decode cX8_likeliest 3 = .ok (.istore_n 2, 1) := by decide +kernel
theorem dX8_likeliest_4 : decode cX8_likeliest 4 = .ok (.iload_n 2, 1) := by decide +kernel
theorem dX8_likeliest_5 : decode cX8_likeliest 5 = .ok (.iconst 5, 1) := by decide +kernel
theorem dX8_likeliest_6 : decode cX8_likeliest 6 = .ok (.if_icmp .ge 27, 3) := by decide +kernel
theorem dX8_likeliest_9 : decode cX8_likeliest 9 = .ok (.aload_n 0, 1) := by decide +kernel
theorem dX8_likeliest_10 : decode cX8_likeliest 10 = .ok (.getfield 9, 3) := by decide +kernel
theorem dX8_likeliest_13 : decode cX8_likeliest 13 = .ok (.iload_n 2, 1) := by decide +kernel
theorem dX8_likeliest_14 : decode cX8_likeliest 14 = .ok (.laload, 1) := by decide +kernel
theorem dX8_likeliest_15 : decode cX8_likeliest 15 = .ok (.aload_n 0, 1) := by decide +kernel
theorem dX8_likeliest_16 : decode cX8_likeliest 16 = .ok (.getfield 9, 3) := by decide +kernel
theorem dX8_likeliest_19 : decode cX8_likeliest 19 = .ok (.iload_n 1, 1) := by decide +kernel
theorem dX8_likeliest_20 : decode cX8_likeliest 20 = .ok (.laload, 1) := by decide +kernel
theorem dX8_likeliest_21 : decode cX8_likeliest 21 = .ok (.lcmp, 1) := by decide +kernel
theorem dX8_likeliest_22 : decode cX8_likeliest 22 = .ok (.ifCond .le 5, 3) := by decide +kernel
theorem dX8_likeliest_25 : decode cX8_likeliest 25 = .ok (.iload_n 2, 1) := by decide +kernel
theorem dX8_likeliest_26 : decode cX8_likeliest 26 = .ok (.istore_n 1, 1) := by decide +kernel
theorem dX8_likeliest_27 : decode cX8_likeliest 27 = .ok (.iinc 2 1, 3) := by decide +kernel
theorem dX8_likeliest_30 : decode cX8_likeliest 30 = .ok (.goto (-26), 3) := by decide +kernel
theorem dX8_likeliest_33 : decode cX8_likeliest 33 = .ok (.iload_n 1, 1) := by decide +kernel
theorem dX8_likeliest_34 : decode cX8_likeliest 34 = .ok (.ireturn, 1) := by decide +kernel
theorem dX8_hundredthsOf_0 : decode cX8_hundredthsOf 0 = .ok (.aload_n 0, 1) := by decide +kernel
theorem dX8_hundredthsOf_1 : decode cX8_hundredthsOf 1 = .ok (.invokevirtual 34, 3) := by decide +kernel
theorem dX8_hundredthsOf_4 : decode cX8_hundredthsOf 4 = .ok (.lstore_n 2, 1) := by decide +kernel
theorem dX8_hundredthsOf_5 : decode cX8_hundredthsOf 5 = .ok (.lload_n 2, 1) := by decide +kernel
theorem dX8_hundredthsOf_6 : decode cX8_hundredthsOf 6 = .ok (.lconst 0, 1) := by decide +kernel
theorem dX8_hundredthsOf_7 : decode cX8_hundredthsOf 7 = .ok (.lcmp, 1) := by decide +kernel
theorem dX8_hundredthsOf_8 : decode cX8_hundredthsOf 8 = .ok (.ifCond .le 18, 3) := by decide +kernel
theorem dX8_hundredthsOf_11 : decode cX8_hundredthsOf 11 = .ok (.ldc2_w 38, 3) := by decide +kernel
theorem dX8_hundredthsOf_14 : decode cX8_hundredthsOf 14 = .ok (.aload_n 0, 1) := by decide +kernel
theorem dX8_hundredthsOf_15 : decode cX8_hundredthsOf 15 = .ok (.getfield 9, 3) := by decide +kernel
theorem dX8_hundredthsOf_18 : decode cX8_hundredthsOf 18 = .ok (.iload_n 1, 1) := by decide +kernel
theorem dX8_hundredthsOf_19 : decode cX8_hundredthsOf 19 = .ok (.laload, 1) := by decide +kernel
theorem dX8_hundredthsOf_20 : decode cX8_hundredthsOf 20 = .ok (.lmul, 1) := by decide +kernel
theorem dX8_hundredthsOf_21 : decode cX8_hundredthsOf 21 = .ok (.lload_n 2, 1) := by decide +kernel
theorem dX8_hundredthsOf_22 : decode cX8_hundredthsOf 22 = .ok (.ldiv, 1) := by decide +kernel
theorem dX8_hundredthsOf_23 : decode cX8_hundredthsOf 23 = .ok (.goto 4, 3) := by decide +kernel
theorem dX8_hundredthsOf_26 : decode cX8_hundredthsOf 26 = .ok (.lconst 0, 1) := by decide +kernel
theorem dX8_hundredthsOf_27 : decode cX8_hundredthsOf 27 = .ok (.lreturn, 1) := by decide +kernel
theorem dX8_hear_0 : decode cX8_hear 0 = .ok (.aload_n 1, 1) := by decide +kernel
theorem dX8_hear_1 : decode cX8_hear 1 = .ok (.getfield 40, 3) := by decide +kernel
theorem dX8_hear_4 : decode cX8_hear 4 = .ok (.iload_n 2, 1) := by decide +kernel
theorem dX8_hear_5 : decode cX8_hear 5 = .ok (.iload_n 3, 1) := by decide +kernel
theorem dX8_hear_6 : decode cX8_hear 6 = .ok (.invokestatic 44, 3) := by decide +kernel
theorem dX8_hear_9 : decode cX8_hear 9 = .ok (.aaload, 1) := by decide +kernel
theorem dX8_hear_10 : decode cX8_hear 10 = .ok (.astore 4, 2) := by decide +kernel
theorem dX8_hear_12 : decode cX8_hear 12 = .ok (.iconst 0, 1) := by decide +kernel
theorem dX8_hear_13 : decode cX8_hear 13 = .ok (.istore 5, 2) := by decide +kernel
theorem dX8_hear_15 : decode cX8_hear 15 = .ok (.iload 5, 2) := by decide +kernel
theorem dX8_hear_17 : decode cX8_hear 17 = .ok (.iconst 5, 1) := by decide +kernel
theorem dX8_hear_18 : decode cX8_hear 18 = .ok (.if_icmp .ge 30, 3) := by decide +kernel
theorem dX8_hear_21 : decode cX8_hear 21 = .ok (.aload_n 0, 1) := by decide +kernel
theorem dX8_hear_22 : decode cX8_hear 22 = .ok (.getfield 15, 3) := by decide +kernel
theorem dX8_hear_25 : decode cX8_hear 25 = .ok (.iload 5, 2) := by decide +kernel
theorem dX8_hear_27 : decode cX8_hear 27 = .ok (.aload_n 0, 1) := by decide +kernel
theorem dX8_hear_28 : decode cX8_hear 28 = .ok (.getfield 9, 3) := by decide +kernel
theorem dX8_hear_31 : decode cX8_hear 31 = .ok (.iload 5, 2) := by decide +kernel
theorem dX8_hear_33 : decode cX8_hear 33 = .ok (.laload, 1) := by decide +kernel
theorem dX8_hear_34 : decode cX8_hear 34 = .ok (.aload 4, 2) := by decide +kernel
theorem dX8_hear_36 : decode cX8_hear 36 = .ok (.iload 5, 2) := by decide +kernel
theorem dX8_hear_38 : decode cX8_hear 38 = .ok (.iaload, 1) := by decide +kernel
theorem dX8_hear_39 : decode cX8_hear 39 = .ok (.i2l, 1) := by decide +kernel
theorem dX8_hear_40 : decode cX8_hear 40 = .ok (.lmul, 1) := by decide +kernel
theorem dX8_hear_41 : decode cX8_hear 41 = .ok (.lastore, 1) := by decide +kernel
theorem dX8_hear_42 : decode cX8_hear 42 = .ok (.iinc 5 1, 3) := by decide +kernel
theorem dX8_hear_45 : decode cX8_hear 45 = .ok (.goto (-30), 3) := by decide +kernel
theorem dX8_hear_48 : decode cX8_hear 48 = .ok (.return_, 1) := by decide +kernel
theorem dX8_hearTwice_0 : decode cX8_hearTwice 0 = .ok (.aload_n 1, 1) := by decide +kernel
theorem dX8_hearTwice_1 : decode cX8_hearTwice 1 = .ok (.getfield 40, 3) := by decide +kernel
theorem dX8_hearTwice_4 : decode cX8_hearTwice 4 = .ok (.iload_n 2, 1) := by decide +kernel
theorem dX8_hearTwice_5 : decode cX8_hearTwice 5 = .ok (.iload_n 3, 1) := by decide +kernel
theorem dX8_hearTwice_6 : decode cX8_hearTwice 6 = .ok (.invokestatic 44, 3) := by decide +kernel
theorem dX8_hearTwice_9 : decode cX8_hearTwice 9 = .ok (.aaload, 1) := by decide +kernel
theorem dX8_hearTwice_10 : decode cX8_hearTwice 10 = .ok (.astore 5, 2) := by decide +kernel
theorem dX8_hearTwice_12 : decode cX8_hearTwice 12 = .ok (.iconst 0, 1) := by decide +kernel
theorem dX8_hearTwice_13 : decode cX8_hearTwice 13 = .ok (.istore 6, 2) := by decide +kernel
theorem dX8_hearTwice_15 : decode cX8_hearTwice 15 = .ok (.iload 6, 2) := by decide +kernel
theorem dX8_hearTwice_17 : decode cX8_hearTwice 17 = .ok (.iconst 5, 1) := by decide +kernel
theorem dX8_hearTwice_18 : decode cX8_hearTwice 18 = .ok (.if_icmp .ge 49, 3) := by decide +kernel
theorem dX8_hearTwice_21 : decode cX8_hearTwice 21 = .ok (.aload_n 0, 1) := by decide +kernel
theorem dX8_hearTwice_22 : decode cX8_hearTwice 22 = .ok (.getfield 15, 3) := by decide +kernel
theorem dX8_hearTwice_25 : decode cX8_hearTwice 25 = .ok (.iload 6, 2) := by decide +kernel
theorem dX8_hearTwice_27 : decode cX8_hearTwice 27 = .ok (.aload_n 0, 1) := by decide +kernel
theorem dX8_hearTwice_28 : decode cX8_hearTwice 28 = .ok (.getfield 9, 3) := by decide +kernel
theorem dX8_hearTwice_31 : decode cX8_hearTwice 31 = .ok (.iload 6, 2) := by decide +kernel
theorem dX8_hearTwice_33 : decode cX8_hearTwice 33 = .ok (.laload, 1) := by decide +kernel
theorem dX8_hearTwice_34 : decode cX8_hearTwice 34 = .ok (.aload 5, 2) := by decide +kernel
theorem dX8_hearTwice_36 : decode cX8_hearTwice 36 = .ok (.iload 6, 2) := by decide +kernel
theorem dX8_hearTwice_38 : decode cX8_hearTwice 38 = .ok (.iaload, 1) := by decide +kernel
theorem dX8_hearTwice_39 : decode cX8_hearTwice 39 = .ok (.i2l, 1) := by decide +kernel
theorem dX8_hearTwice_40 : decode cX8_hearTwice 40 = .ok (.lmul, 1) := by decide +kernel
theorem dX8_hearTwice_41 : decode cX8_hearTwice 41 = .ok (.bipush 100, 2) := by decide +kernel
theorem dX8_hearTwice_43 : decode cX8_hearTwice 43 = .ok (.iload 4, 2) := by decide +kernel
theorem dX8_hearTwice_45 : decode cX8_hearTwice 45 = .ok (.imul, 1) := by decide +kernel
theorem dX8_hearTwice_46 : decode cX8_hearTwice 46 = .ok (.bipush 100, 2) := by decide +kernel
theorem dX8_hearTwice_48 : decode cX8_hearTwice 48 = .ok (.iload 4, 2) := by decide +kernel
theorem dX8_hearTwice_50 : decode cX8_hearTwice 50 = .ok (.isub, 1) := by decide +kernel
theorem dX8_hearTwice_51 : decode cX8_hearTwice 51 = .ok (.aload 5, 2) := by decide +kernel
theorem dX8_hearTwice_53 : decode cX8_hearTwice 53 = .ok (.iload 6, 2) := by decide +kernel
theorem dX8_hearTwice_55 : decode cX8_hearTwice 55 = .ok (.iaload, 1) := by decide +kernel
theorem dX8_hearTwice_56 : decode cX8_hearTwice 56 = .ok (.imul, 1) := by decide +kernel
theorem dX8_hearTwice_57 : decode cX8_hearTwice 57 = .ok (.iadd, 1) := by decide +kernel
theorem dX8_hearTwice_58 : decode cX8_hearTwice 58 = .ok (.i2l, 1) := by decide +kernel
theorem dX8_hearTwice_59 : decode cX8_hearTwice 59 = .ok (.lmul, 1) := by decide +kernel
theorem dX8_hearTwice_60 : decode cX8_hearTwice 60 = .ok (.lastore, 1) := by decide +kernel
theorem dX8_hearTwice_61 : decode cX8_hearTwice 61 = .ok (.iinc 6 1, 3) := by decide +kernel
theorem dX8_hearTwice_64 : decode cX8_hearTwice 64 = .ok (.goto (-49), 3) := by decide +kernel
theorem dX8_hearTwice_67 : decode cX8_hearTwice 67 = .ok (.return_, 1) := by decide +kernel
theorem dX8_findRoad_0 : decode cX8_findRoad 0 = .ok (.iconst 0, 1) := by decide +kernel
theorem dX8_findRoad_1 : decode cX8_findRoad 1 = .ok (.istore 4, 2) := by decide +kernel
theorem dX8_findRoad_3 : decode cX8_findRoad 3 = .ok (.iload 4, 2) := by decide +kernel
theorem dX8_findRoad_5 : decode cX8_findRoad 5 = .ok (.iconst 5, 1) := by decide +kernel
theorem dX8_findRoad_6 : decode cX8_findRoad 6 = .ok (.if_icmp .ge 38, 3) := by decide +kernel
theorem dX8_findRoad_9 : decode cX8_findRoad 9 = .ok (.aload_n 0, 1) := by decide +kernel
theorem dX8_findRoad_10 : decode cX8_findRoad 10 = .ok (.getfield 15, 3) := by decide +kernel
theorem dX8_findRoad_13 : decode cX8_findRoad 13 = .ok (.iload 4, 2) := by decide +kernel
theorem dX8_findRoad_15 : decode cX8_findRoad 15 = .ok (.aload_n 1, 1) := by decide +kernel
theorem dX8_findRoad_16 : decode cX8_findRoad 16 = .ok (.iload 4, 2) := by decide +kernel
theorem dX8_findRoad_18 : decode cX8_findRoad 18 = .ok (.iload_n 2, 1) := by decide +kernel
theorem dX8_findRoad_19 : decode cX8_findRoad 19 = .ok (.invokevirtual 48, 3) := by decide +kernel
theorem dX8_findRoad_22 : decode cX8_findRoad 22 = .ok (.iload_n 3, 1) := by decide +kernel
theorem dX8_findRoad_23 : decode cX8_findRoad 23 = .ok (.if_icmp .ne 7, 3) := by decide +kernel
theorem dX8_findRoad_26 : decode cX8_findRoad 26 = .ok (.lconst 0, 1) := by decide +kernel
theorem dX8_findRoad_27 : decode cX8_findRoad 27 = .ok (.goto 10, 3) := by decide +kernel
theorem dX8_findRoad_30 : decode cX8_findRoad 30 = .ok (.aload_n 0, 1) := by decide +kernel
theorem dX8_findRoad_31 : decode cX8_findRoad 31 = .ok (.getfield 9, 3) := by decide +kernel
theorem dX8_findRoad_34 : decode cX8_findRoad 34 = .ok (.iload 4, 2) := by decide +kernel
theorem dX8_findRoad_36 : decode cX8_findRoad 36 = .ok (.laload, 1) := by decide +kernel
theorem dX8_findRoad_37 : decode cX8_findRoad 37 = .ok (.lastore, 1) := by decide +kernel
theorem dX8_findRoad_38 : decode cX8_findRoad 38 = .ok (.iinc 4 1, 3) := by decide +kernel
theorem dX8_findRoad_41 : decode cX8_findRoad 41 = .ok (.goto (-38), 3) := by decide +kernel
theorem dX8_findRoad_44 : decode cX8_findRoad 44 = .ok (.return_, 1) := by decide +kernel
theorem dX8_findNoGoal_0 : decode cX8_findNoGoal 0 = .ok (.iconst 0, 1) := by decide +kernel
theorem dX8_findNoGoal_1 : decode cX8_findNoGoal 1 = .ok (.istore_n 3, 1) := by decide +kernel
theorem dX8_findNoGoal_2 : decode cX8_findNoGoal 2 = .ok (.iload_n 3, 1) := by decide +kernel
theorem dX8_findNoGoal_3 : decode cX8_findNoGoal 3 = .ok (.iconst 5, 1) := by decide +kernel
theorem dX8_findNoGoal_4 : decode cX8_findNoGoal 4 = .ok (.if_icmp .ge 35, 3) := by decide +kernel
theorem dX8_findNoGoal_7 : decode cX8_findNoGoal 7 = .ok (.aload_n 0, 1) := by decide +kernel
theorem dX8_findNoGoal_8 : decode cX8_findNoGoal 8 = .ok (.getfield 15, 3) := by decide +kernel
theorem dX8_findNoGoal_11 : decode cX8_findNoGoal 11 = .ok (.iload_n 3, 1) := by decide +kernel
theorem dX8_findNoGoal_12 : decode cX8_findNoGoal 12 = .ok (.aload_n 1, 1) := by decide +kernel
theorem dX8_findNoGoal_13 : decode cX8_findNoGoal 13 = .ok (.getfield 52, 3) := by decide +kernel
theorem dX8_findNoGoal_16 : decode cX8_findNoGoal 16 = .ok (.iload_n 3, 1) := by decide +kernel
theorem dX8_findNoGoal_17 : decode cX8_findNoGoal 17 = .ok (.iaload, 1) := by decide +kernel
theorem dX8_findNoGoal_18 : decode cX8_findNoGoal 18 = .ok (.iload_n 2, 1) := by decide +kernel
theorem dX8_findNoGoal_19 : decode cX8_findNoGoal 19 = .ok (.if_icmp .ne 7, 3) := by decide +kernel
theorem dX8_findNoGoal_22 : decode cX8_findNoGoal 22 = .ok (.lconst 0, 1) := by decide +kernel
theorem dX8_findNoGoal_23 : decode cX8_findNoGoal 23 = .ok (.goto 9, 3) := by decide +kernel
theorem dX8_findNoGoal_26 : decode cX8_findNoGoal 26 = .ok (.aload_n 0, 1) := by decide +kernel
theorem dX8_findNoGoal_27 : decode cX8_findNoGoal 27 = .ok (.getfield 9, 3) := by decide +kernel
theorem dX8_findNoGoal_30 : decode cX8_findNoGoal 30 = .ok (.iload_n 3, 1) := by decide +kernel
theorem dX8_findNoGoal_31 : decode cX8_findNoGoal 31 = .ok (.laload, 1) := by decide +kernel
theorem dX8_findNoGoal_32 : decode cX8_findNoGoal 32 = .ok (.lastore, 1) := by decide +kernel
theorem dX8_findNoGoal_33 : decode cX8_findNoGoal 33 = .ok (.iinc 3 1, 3) := by decide +kernel
theorem dX8_findNoGoal_36 : decode cX8_findNoGoal 36 = .ok (.goto (-34), 3) := by decide +kernel
theorem dX8_findNoGoal_39 : decode cX8_findNoGoal 39 = .ok (.return_, 1) := by decide +kernel
theorem dX8_giveUp_0 : decode cX8_giveUp 0 = .ok (.iconst 0, 1) := by decide +kernel
theorem dX8_giveUp_1 : decode cX8_giveUp 1 = .ok (.istore_n 2, 1) := by decide +kernel
theorem dX8_giveUp_2 : decode cX8_giveUp 2 = .ok (.iload_n 2, 1) := by decide +kernel
theorem dX8_giveUp_3 : decode cX8_giveUp 3 = .ok (.iconst 5, 1) := by decide +kernel
theorem dX8_giveUp_4 : decode cX8_giveUp 4 = .ok (.if_icmp .ge 30, 3) := by decide +kernel
theorem dX8_giveUp_7 : decode cX8_giveUp 7 = .ok (.aload_n 0, 1) := by decide +kernel
theorem dX8_giveUp_8 : decode cX8_giveUp 8 = .ok (.getfield 15, 3) := by decide +kernel
theorem dX8_giveUp_11 : decode cX8_giveUp 11 = .ok (.iload_n 2, 1) := by decide +kernel
theorem dX8_giveUp_12 : decode cX8_giveUp 12 = .ok (.iload_n 2, 1) := by decide +kernel
theorem dX8_giveUp_13 : decode cX8_giveUp 13 = .ok (.iload_n 1, 1) := by decide +kernel
theorem dX8_giveUp_14 : decode cX8_giveUp 14 = .ok (.if_icmp .ne 7, 3) := by decide +kernel
theorem dX8_giveUp_17 : decode cX8_giveUp 17 = .ok (.lconst 0, 1) := by decide +kernel
theorem dX8_giveUp_18 : decode cX8_giveUp 18 = .ok (.goto 9, 3) := by decide +kernel
theorem dX8_giveUp_21 : decode cX8_giveUp 21 = .ok (.aload_n 0, 1) := by decide +kernel
theorem dX8_giveUp_22 : decode cX8_giveUp 22 = .ok (.getfield 9, 3) := by decide +kernel
theorem dX8_giveUp_25 : decode cX8_giveUp 25 = .ok (.iload_n 2, 1) := by decide +kernel
theorem dX8_giveUp_26 : decode cX8_giveUp 26 = .ok (.laload, 1) := by decide +kernel
theorem dX8_giveUp_27 : decode cX8_giveUp 27 = .ok (.lastore, 1) := by decide +kernel
theorem dX8_giveUp_28 : decode cX8_giveUp 28 = .ok (.iinc 2 1, 3) := by decide +kernel
theorem dX8_giveUp_31 : decode cX8_giveUp 31 = .ok (.goto (-29), 3) := by decide +kernel
theorem dX8_giveUp_34 : decode cX8_giveUp 34 = .ok (.return_, 1) := by decide +kernel
theorem dX8_believe_0 : decode cX8_believe 0 = .ok (.iconst 0, 1) := by decide +kernel
theorem dX8_believe_1 : decode cX8_believe 1 = .ok (.istore_n 2, 1) := by decide +kernel
theorem dX8_believe_2 : decode cX8_believe 2 = .ok (.iload_n 2, 1) := by decide +kernel
theorem dX8_believe_3 : decode cX8_believe 3 = .ok (.iconst 5, 1) := by decide +kernel
theorem dX8_believe_4 : decode cX8_believe 4 = .ok (.if_icmp .ge 30, 3) := by decide +kernel
theorem dX8_believe_7 : decode cX8_believe 7 = .ok (.aload_n 0, 1) := by decide +kernel
theorem dX8_believe_8 : decode cX8_believe 8 = .ok (.getfield 15, 3) := by decide +kernel
theorem dX8_believe_11 : decode cX8_believe 11 = .ok (.iload_n 2, 1) := by decide +kernel
theorem dX8_believe_12 : decode cX8_believe 12 = .ok (.iload_n 2, 1) := by decide +kernel
theorem dX8_believe_13 : decode cX8_believe 13 = .ok (.iload_n 1, 1) := by decide +kernel
theorem dX8_believe_14 : decode cX8_believe 14 = .ok (.if_icmp .ne 12, 3) := by decide +kernel
theorem dX8_believe_17 : decode cX8_believe 17 = .ok (.aload_n 0, 1) := by decide +kernel
theorem dX8_believe_18 : decode cX8_believe 18 = .ok (.getfield 9, 3) := by decide +kernel
theorem dX8_believe_21 : decode cX8_believe 21 = .ok (.iload_n 2, 1) := by decide +kernel
theorem dX8_believe_22 : decode cX8_believe 22 = .ok (.laload, 1) := by decide +kernel
theorem dX8_believe_23 : decode cX8_believe 23 = .ok (.goto 4, 3) := by decide +kernel
theorem dX8_believe_26 : decode cX8_believe 26 = .ok (.lconst 0, 1) := by decide +kernel
theorem dX8_believe_27 : decode cX8_believe 27 = .ok (.lastore, 1) := by decide +kernel
theorem dX8_believe_28 : decode cX8_believe 28 = .ok (.iinc 2 1, 3) := by decide +kernel
theorem dX8_believe_31 : decode cX8_believe 31 = .ok (.goto (-29), 3) := by decide +kernel
theorem dX8_believe_34 : decode cX8_believe 34 = .ok (.return_, 1) := by decide +kernel
theorem dX8_settles_0 : decode cX8_settles 0 = .ok (.lconst 0, 1) := by decide +kernel
theorem dX8_settles_1 : decode cX8_settles 1 = .ok (.lstore_n 1, 1) := by decide +kernel
theorem dX8_settles_2 : decode cX8_settles 2 = .ok (.lconst 0, 1) := by decide +kernel
theorem dX8_settles_3 : decode cX8_settles 3 = .ok (.lstore_n 3, 1) := by decide +kernel
theorem dX8_settles_4 : decode cX8_settles 4 = .ok (.iconst 0, 1) := by decide +kernel
theorem dX8_settles_5 : decode cX8_settles 5 = .ok (.istore 5, 2) := by decide +kernel
theorem dX8_settles_7 : decode cX8_settles 7 = .ok (.iload 5, 2) := by decide +kernel
theorem dX8_settles_9 : decode cX8_settles 9 = .ok (.iconst 5, 1) := by decide +kernel
theorem dX8_settles_10 : decode cX8_settles 10 = .ok (.if_icmp .ge 33, 3) := by decide +kernel
theorem dX8_settles_13 : decode cX8_settles 13 = .ok (.lload_n 1, 1) := by decide +kernel
theorem dX8_settles_14 : decode cX8_settles 14 = .ok (.aload_n 0, 1) := by decide +kernel
theorem dX8_settles_15 : decode cX8_settles 15 = .ok (.getfield 15, 3) := by decide +kernel
theorem dX8_settles_18 : decode cX8_settles 18 = .ok (.iload 5, 2) := by decide +kernel
theorem dX8_settles_20 : decode cX8_settles 20 = .ok (.laload, 1) := by decide +kernel
theorem dX8_settles_21 : decode cX8_settles 21 = .ok (.invokestatic 55, 3) := by decide +kernel
theorem dX8_settles_24 : decode cX8_settles 24 = .ok (.lstore_n 1, 1) := by decide +kernel
theorem dX8_settles_25 : decode cX8_settles 25 = .ok (.lload_n 3, 1) := by decide +kernel
theorem dX8_settles_26 : decode cX8_settles 26 = .ok (.aload_n 0, 1) := by decide +kernel
theorem dX8_settles_27 : decode cX8_settles 27 = .ok (.getfield 15, 3) := by decide +kernel
theorem dX8_settles_30 : decode cX8_settles 30 = .ok (.iload 5, 2) := by decide +kernel
theorem dX8_settles_32 : decode cX8_settles 32 = .ok (.laload, 1) := by decide +kernel
theorem dX8_settles_33 : decode cX8_settles 33 = .ok (.invokestatic 59, 3) := by decide +kernel
theorem dX8_settles_36 : decode cX8_settles 36 = .ok (.lstore_n 3, 1) := by decide +kernel
theorem dX8_settles_37 : decode cX8_settles 37 = .ok (.iinc 5 1, 3) := by decide +kernel
theorem dX8_settles_40 : decode cX8_settles 40 = .ok (.goto (-33), 3) := by decide +kernel
theorem dX8_settles_43 : decode cX8_settles 43 = .ok (.lload_n 1, 1) := by decide +kernel
theorem dX8_settles_44 : decode cX8_settles 44 = .ok (.lconst 0, 1) := by decide +kernel
theorem dX8_settles_45 : decode cX8_settles 45 = .ok (.lcmp, 1) := by decide +kernel
theorem dX8_settles_46 : decode cX8_settles 46 = .ok (.ifCond .gt 5, 3) := by decide +kernel
theorem dX8_settles_49 : decode cX8_settles 49 = .ok (.iconst 0, 1) := by decide +kernel
theorem dX8_settles_50 : decode cX8_settles 50 = .ok (.ireturn, 1) := by decide +kernel
theorem dX8_settles_51 : decode cX8_settles 51 = .ok (.iconst 0, 1) := by decide +kernel
theorem dX8_settles_52 : decode cX8_settles 52 = .ok (.istore 5, 2) := by decide +kernel
theorem dX8_settles_54 : decode cX8_settles 54 = .ok (.iload 5, 2) := by decide +kernel
theorem dX8_settles_56 : decode cX8_settles 56 = .ok (.iconst 5, 1) := by decide +kernel
theorem dX8_settles_57 : decode cX8_settles 57 = .ok (.if_icmp .ge 25, 3) := by decide +kernel
theorem dX8_settles_60 : decode cX8_settles 60 = .ok (.aload_n 0, 1) := by decide +kernel
theorem dX8_settles_61 : decode cX8_settles 61 = .ok (.getfield 9, 3) := by decide +kernel
theorem dX8_settles_64 : decode cX8_settles 64 = .ok (.iload 5, 2) := by decide +kernel
theorem dX8_settles_66 : decode cX8_settles 66 = .ok (.aload_n 0, 1) := by decide +kernel
theorem dX8_settles_67 : decode cX8_settles 67 = .ok (.getfield 15, 3) := by decide +kernel
theorem dX8_settles_70 : decode cX8_settles 70 = .ok (.iload 5, 2) := by decide +kernel
theorem dX8_settles_72 : decode cX8_settles 72 = .ok (.laload, 1) := by decide +kernel
theorem dX8_settles_73 : decode cX8_settles 73 = .ok (.lload_n 1, 1) := by decide +kernel
theorem dX8_settles_74 : decode cX8_settles 74 = .ok (.ldiv, 1) := by decide +kernel
theorem dX8_settles_75 : decode cX8_settles 75 = .ok (.lastore, 1) := by decide +kernel
theorem dX8_settles_76 : decode cX8_settles 76 = .ok (.iinc 5 1, 3) := by decide +kernel
theorem dX8_settles_79 : decode cX8_settles 79 = .ok (.goto (-25), 3) := by decide +kernel
theorem dX8_settles_82 : decode cX8_settles 82 = .ok (.lload_n 3, 1) := by decide +kernel
theorem dX8_settles_83 : decode cX8_settles 83 = .ok (.lload_n 1, 1) := by decide +kernel
theorem dX8_settles_84 : decode cX8_settles 84 = .ok (.ldiv, 1) := by decide +kernel
theorem dX8_settles_85 : decode cX8_settles 85 = .ok (.lstore_n 3, 1) := by decide +kernel
theorem dX8_settles_86 : decode cX8_settles 86 = .ok (.iconst 0, 1) := by decide +kernel
theorem dX8_settles_87 : decode cX8_settles 87 = .ok (.istore 5, 2) := by decide +kernel
theorem dX8_settles_89 : decode cX8_settles 89 = .ok (.iload 5, 2) := by decide +kernel
theorem dX8_settles_91 : decode cX8_settles 91 = .ok (.bipush 64, 2) := by decide +kernel
theorem dX8_settles_93 : decode cX8_settles 93 = .ok (.if_icmp .ge 27, 3) := by decide +kernel
theorem dX8_settles_96 : decode cX8_settles 96 = .ok (.lload_n 3, 1) := by decide +kernel
theorem dX8_settles_97 : decode cX8_settles 97 = .ok (.ldc2_w 64, 3) := by decide +kernel
theorem dX8_settles_100 : decode cX8_settles 100 = .ok (.lcmp, 1) := by decide +kernel
theorem dX8_settles_101 : decode cX8_settles 101 = .ok (.ifCond .le 19, 3) := by decide +kernel
theorem dX8_settles_104 : decode cX8_settles 104 = .ok (.aload_n 0, 1) := by decide +kernel
theorem dX8_settles_105 : decode cX8_settles 105 = .ok (.invokevirtual 66, 3) := by decide +kernel
theorem dX8_settles_108 : decode cX8_settles 108 = .ok (.lload_n 3, 1) := by decide +kernel
theorem dX8_settles_109 : decode cX8_settles 109 = .ok (.ldc2_w 69, 3) := by decide +kernel
theorem dX8_settles_112 : decode cX8_settles 112 = .ok (.ldiv, 1) := by decide +kernel
theorem dX8_settles_113 : decode cX8_settles 113 = .ok (.lstore_n 3, 1) := by decide +kernel
theorem dX8_settles_114 : decode cX8_settles 114 = .ok (.iinc 5 1, 3) := by decide +kernel
theorem dX8_settles_117 : decode cX8_settles 117 = .ok (.goto (-28), 3) := by decide +kernel
theorem dX8_settles_120 : decode cX8_settles 120 = .ok (.iconst 1, 1) := by decide +kernel
theorem dX8_settles_121 : decode cX8_settles 121 = .ok (.ireturn, 1) := by decide +kernel
theorem dX8_halve_0 : decode cX8_halve 0 = .ok (.iconst 0, 1) := by decide +kernel
theorem dX8_halve_1 : decode cX8_halve 1 = .ok (.istore_n 1, 1) := by decide +kernel
theorem dX8_halve_2 : decode cX8_halve 2 = .ok (.iload_n 1, 1) := by decide +kernel
theorem dX8_halve_3 : decode cX8_halve 3 = .ok (.iconst 5, 1) := by decide +kernel
theorem dX8_halve_4 : decode cX8_halve 4 = .ok (.if_icmp .ge 32, 3) := by decide +kernel
theorem dX8_halve_7 : decode cX8_halve 7 = .ok (.aload_n 0, 1) := by decide +kernel
theorem dX8_halve_8 : decode cX8_halve 8 = .ok (.getfield 9, 3) := by decide +kernel
theorem dX8_halve_11 : decode cX8_halve 11 = .ok (.iload_n 1, 1) := by decide +kernel
theorem dX8_halve_12 : decode cX8_halve 12 = .ok (.laload, 1) := by decide +kernel
theorem dX8_halve_13 : decode cX8_halve 13 = .ok (.lconst 1, 1) := by decide +kernel
theorem dX8_halve_14 : decode cX8_halve 14 = .ok (.lcmp, 1) := by decide +kernel
theorem dX8_halve_15 : decode cX8_halve 15 = .ok (.ifCond .le 15, 3) := by decide +kernel
theorem dX8_halve_18 : decode cX8_halve 18 = .ok (.aload_n 0, 1) := by decide +kernel
theorem dX8_halve_19 : decode cX8_halve 19 = .ok (.getfield 9, 3) := by decide +kernel
theorem dX8_halve_22 : decode cX8_halve 22 = .ok (.iload_n 1, 1) := by decide +kernel
theorem dX8_halve_23 : decode cX8_halve 23 = .ok (.dup2, 1) := by decide +kernel
theorem dX8_halve_24 : decode cX8_halve 24 = .ok (.laload, 1) := by decide +kernel
theorem dX8_halve_25 : decode cX8_halve 25 = .ok (.ldc2_w 69, 3) := by decide +kernel
theorem dX8_halve_28 : decode cX8_halve 28 = .ok (.ldiv, 1) := by decide +kernel
theorem dX8_halve_29 : decode cX8_halve 29 = .ok (.lastore, 1) := by decide +kernel
theorem dX8_halve_30 : decode cX8_halve 30 = .ok (.iinc 1 1, 3) := by decide +kernel
theorem dX8_halve_33 : decode cX8_halve 33 = .ok (.goto (-31), 3) := by decide +kernel
theorem dX8_halve_36 : decode cX8_halve 36 = .ok (.return_, 1) := by decide +kernel
theorem dX8_greatestDivisor_0 : decode cX8_greatestDivisor 0 = .ok (.lload_n 0, 1) := by decide +kernel
theorem dX8_greatestDivisor_1 : decode cX8_greatestDivisor 1 = .ok (.lstore 4, 2) := by decide +kernel
theorem dX8_greatestDivisor_3 : decode cX8_greatestDivisor 3 = .ok (.lload_n 2, 1) := by decide +kernel
theorem dX8_greatestDivisor_4 : decode cX8_greatestDivisor 4 = .ok (.lstore 6, 2) := by decide +kernel
theorem dX8_greatestDivisor_6 : decode cX8_greatestDivisor 6 = .ok (.iconst 0, 1) := by decide +kernel
theorem dX8_greatestDivisor_7 : decode cX8_greatestDivisor 7 = .ok (.istore 8, 2) := by decide +kernel
theorem dX8_greatestDivisor_9 : decode cX8_greatestDivisor 9 = .ok (.iload 8, 2) := by decide +kernel
theorem dX8_greatestDivisor_11 : decode cX8_greatestDivisor 11 = .ok (.bipush 100, 2) := by decide +kernel
theorem dX8_greatestDivisor_13 : decode cX8_greatestDivisor 13 = .ok (.if_icmp .ge 31, 3) := by decide +kernel
theorem dX8_greatestDivisor_16 : decode cX8_greatestDivisor 16 = .ok (.lload 6, 2) := by decide +kernel
theorem dX8_greatestDivisor_18 : decode cX8_greatestDivisor 18 = .ok (.lconst 0, 1) := by decide +kernel
theorem dX8_greatestDivisor_19 : decode cX8_greatestDivisor 19 = .ok (.lcmp, 1) := by decide +kernel
theorem dX8_greatestDivisor_20 : decode cX8_greatestDivisor 20 = .ok (.ifCond .eq 24, 3) := by decide +kernel
theorem dX8_greatestDivisor_23 : decode cX8_greatestDivisor 23 = .ok (.lload 4, 2) := by decide +kernel
theorem dX8_greatestDivisor_25 : decode cX8_greatestDivisor 25 = .ok (.lload 6, 2) := by decide +kernel
theorem dX8_greatestDivisor_27 : decode cX8_greatestDivisor 27 = .ok (.lrem, 1) := by decide +kernel
theorem dX8_greatestDivisor_28 : decode cX8_greatestDivisor 28 = .ok (.lstore 9, 2) := by decide +kernel
theorem dX8_greatestDivisor_30 : decode cX8_greatestDivisor 30 = .ok (.lload 6, 2) := by decide +kernel
theorem dX8_greatestDivisor_32 : decode cX8_greatestDivisor 32 = .ok (.lstore 4, 2) := by decide +kernel
theorem dX8_greatestDivisor_34 : decode cX8_greatestDivisor 34 = .ok (.lload 9, 2) := by decide +kernel
theorem dX8_greatestDivisor_36 : decode cX8_greatestDivisor 36 = .ok (.lstore 6, 2) := by decide +kernel
theorem dX8_greatestDivisor_38 : decode cX8_greatestDivisor 38 = .ok (.iinc 8 1, 3) := by decide +kernel
theorem dX8_greatestDivisor_41 : decode cX8_greatestDivisor 41 = .ok (.goto (-32), 3) := by decide +kernel
theorem dX8_greatestDivisor_44 : decode cX8_greatestDivisor 44 = .ok (.lload 4, 2) := by decide +kernel
theorem dX8_greatestDivisor_46 : decode cX8_greatestDivisor 46 = .ok (.lreturn, 1) := by decide +kernel
theorem dX9_init_0 : decode cX9_init 0 = .ok (.aload_n 0, 1) := by decide +kernel
theorem dX9_init_1 : decode cX9_init 1 = .ok (.iload_n 1, 1) := by decide +kernel
theorem dX9_init_2 : decode cX9_init 2 = .ok (.invokespecial 1, 3) := by decide +kernel
theorem dX9_init_5 : decode cX9_init 5 = .ok (.return_, 1) := by decide +kernel
theorem dX9_heaviness_0 : decode cX9_heaviness 0 = .ok (.aload_n 0, 1) := by decide +kernel
theorem dX9_heaviness_1 : decode cX9_heaviness 1 = .ok (.invokespecial 7, 3) := by decide +kernel
theorem dX9_heaviness_4 : decode cX9_heaviness 4 = .ok (.bipush 10, 2) := by decide +kernel
theorem dX9_heaviness_6 : decode cX9_heaviness 6 = .ok (.aload_n 0, 1) := by decide +kernel
theorem dX9_heaviness_7 : decode cX9_heaviness 7 = .ok (.getfield 11, 3) := by decide +kernel
theorem dX9_heaviness_10 : decode cX9_heaviness 10 = .ok (.imul, 1) := by decide +kernel
theorem dX9_heaviness_11 : decode cX9_heaviness 11 = .ok (.iadd, 1) := by decide +kernel
theorem dX9_heaviness_12 : decode cX9_heaviness 12 = .ok (.ireturn, 1) := by decide +kernel
theorem dX9_toldWorld_0 : decode cX9_toldWorld 0 = .ok (.aload_n 0, 1) := by decide +kernel
theorem dX9_toldWorld_1 : decode cX9_toldWorld 1 = .ok (.getfield 11, 3) := by decide +kernel
theorem dX9_toldWorld_4 : decode cX9_toldWorld 4 = .ok (.ireturn, 1) := by decide +kernel
theorem dX9_hasSecondThoughts_0 : decode cX9_hasSecondThoughts 0 = .ok (.iconst 1, 1) := by decide +kernel
theorem dX9_hasSecondThoughts_1 : decode cX9_hasSecondThoughts 1 = .ok (.ireturn, 1) := by decide +kernel
theorem dX9_fail_0 : decode cX9_fail 0 = .ok (.return_, 1) := by decide +kernel
theorem dX10_init_0 : decode cX10_init 0 = .ok (.aload_n 0, 1) := by decide +kernel
theorem dX10_init_1 : decode cX10_init 1 = .ok (.invokespecial 3, 3) := by decide +kernel
theorem dX10_init_4 : decode cX10_init 4 = .ok (.aload_n 0, 1) := by decide +kernel
theorem dX10_init_5 : decode cX10_init 5 = .ok (.new 9, 3) := by decide +kernel
theorem dX10_init_8 : decode cX10_init 8 = .ok (.dup, 1) := by decide +kernel
theorem dX10_init_9 : decode cX10_init 9 = .ok (.invokespecial 11, 3) := by decide +kernel
theorem dX10_init_12 : decode cX10_init 12 = .ok (.putfield 12, 3) := by decide +kernel
theorem dX10_init_15 : decode cX10_init 15 = .ok (.aload_n 0, 1) := by decide +kernel
theorem dX10_init_16 : decode cX10_init 16 = .ok (.new 18, 3) := by decide +kernel
theorem dX10_init_19 : decode cX10_init 19 = .ok (.dup, 1) := by decide +kernel
theorem dX10_init_20 : decode cX10_init 20 = .ok (.invokespecial 20, 3) := by decide +kernel
theorem dX10_init_23 : decode cX10_init 23 = .ok (.putfield 21, 3) := by decide +kernel
theorem dX10_init_26 : decode cX10_init 26 = .ok (.aload_n 0, 1) := by decide +kernel
theorem dX10_init_27 : decode cX10_init 27 = .ok (.iconst 5, 1) := by decide +kernel
theorem dX10_init_28 : decode cX10_init 28 = .ok (.newarray .int, 2) := by decide +kernel
theorem dX10_init_30 : decode cX10_init 30 = .ok (.putfield 25, 3) := by decide +kernel
theorem dX10_init_33 : decode cX10_init 33 = .ok (.aload_n 0, 1) := by decide +kernel
theorem dX10_init_34 : decode cX10_init 34 = .ok (.new 29, 3) := by decide +kernel
theorem dX10_init_37 : decode cX10_init 37 = .ok (.dup, 1) := by decide +kernel
theorem dX10_init_38 : decode cX10_init 38 = .ok (.iconst 0, 1) := by decide +kernel
theorem dX10_init_39 : decode cX10_init 39 = .ok (.invokespecial 31, 3) := by decide +kernel
theorem dX10_init_42 : decode cX10_init 42 = .ok (.putfield 34, 3) := by decide +kernel
theorem dX10_init_45 : decode cX10_init 45 = .ok (.aload_n 0, 1) := by decide +kernel
theorem dX10_init_46 : decode cX10_init 46 = .ok (.iconst (-1), 1) := by decide +kernel
theorem dX10_init_47 : decode cX10_init 47 = .ok (.putfield 38, 3) := by decide +kernel
theorem dX10_init_50 : decode cX10_init 50 = .ok (.return_, 1) := by decide +kernel
theorem dX10_setOutByMind_0 : decode cX10_setOutByMind 0 = .ok (.aload_n 0, 1) := by decide +kernel
theorem dX10_setOutByMind_1 : decode cX10_setOutByMind 1 = .ok (.aload_n 1, 1) := by decide +kernel
theorem dX10_setOutByMind_2 : decode cX10_setOutByMind 2 = .ok (.iload_n 3, 1) := by decide +kernel
theorem dX10_setOutByMind_3 : decode cX10_setOutByMind 3 = .ok (.iload 4, 2) := by decide +kernel
theorem dX10_setOutByMind_5 : decode cX10_setOutByMind 5 = .ok (.iconst (-1), 1) := by decide +kernel
theorem dX10_setOutByMind_6 : decode cX10_setOutByMind 6 = .ok (.invokevirtual 42, 3) := by decide +kernel
theorem dX10_setOutByMind_9 : decode cX10_setOutByMind 9 = .ok (.aload_n 0, 1) := by decide +kernel
theorem dX10_setOutByMind_10 : decode cX10_setOutByMind 10 = .ok (.getfield 21, 3) := by decide +kernel
theorem dX10_setOutByMind_13 : decode cX10_setOutByMind 13 = .ok (.aload_n 2, 1) := by decide +kernel
theorem dX10_setOutByMind_14 : decode cX10_setOutByMind 14 = .ok (.invokevirtual 46, 3) := by decide +kernel
theorem dX10_setOutByMind_17 : decode cX10_setOutByMind 17 = .ok (.return_, 1) := by decide +kernel
theorem dX10_setOutByRule_0 : decode cX10_setOutByRule 0 = .ok (.aload_n 0, 1) := by decide +kernel
theorem dX10_setOutByRule_1 : decode cX10_setOutByRule 1 = .ok (.aload_n 1, 1) := by decide +kernel
theorem dX10_setOutByRule_2 : decode cX10_setOutByRule 2 = .ok (.iload_n 2, 1) := by decide +kernel
theorem dX10_setOutByRule_3 : decode cX10_setOutByRule 3 = .ok (.aload_n 0, 1) := by decide +kernel
theorem dX10_setOutByRule_4 : decode cX10_setOutByRule 4 = .ok (.getfield 12, 3) := by decide +kernel
theorem dX10_setOutByRule_7 : decode cX10_setOutByRule 7 = .ok (.getfield 50, 3) := by decide +kernel
theorem dX10_setOutByRule_10 : decode cX10_setOutByRule 10 = .ok (.iload 4, 2) := by decide +kernel
theorem dX10_setOutByRule_12 : decode cX10_setOutByRule 12 = .ok (.invokevirtual 42, 3) := by decide +kernel
theorem dX10_setOutByRule_15 : decode cX10_setOutByRule 15 = .ok (.aload_n 0, 1) := by decide +kernel
theorem dX10_setOutByRule_16 : decode cX10_setOutByRule 16 = .ok (.iload_n 3, 1) := by decide +kernel
theorem dX10_setOutByRule_17 : decode cX10_setOutByRule 17 = .ok (.putfield 53, 3) := by decide +kernel
theorem dX10_setOutByRule_20 : decode cX10_setOutByRule 20 = .ok (.aload_n 0, 1) := by decide +kernel
theorem dX10_setOutByRule_21 : decode cX10_setOutByRule 21 = .ok (.getfield 21, 3) := by decide +kernel
theorem dX10_setOutByRule_24 : decode cX10_setOutByRule 24 = .ok (.aload_n 0, 1) := by decide +kernel
theorem dX10_setOutByRule_25 : decode cX10_setOutByRule 25 = .ok (.getfield 12, 3) := by decide +kernel
theorem dX10_setOutByRule_28 : decode cX10_setOutByRule 28 = .ok (.invokevirtual 56, 3) := by decide +kernel
theorem dX10_setOutByRule_31 : decode cX10_setOutByRule 31 = .ok (.aload_n 0, 1) := by decide +kernel
theorem dX10_setOutByRule_32 : decode cX10_setOutByRule 32 = .ok (.invokevirtual 60, 3) := by decide +kernel
theorem dX10_setOutByRule_35 : decode cX10_setOutByRule 35 = .ok (.ifCond .ne 7, 3) := by decide +kernel
theorem dX10_setOutByRule_38 : decode cX10_setOutByRule 38 = .ok (.aload_n 0, 1) := by decide +kernel
theorem dX10_setOutByRule_39 : decode cX10_setOutByRule 39 = .ok (.invokevirtual 64, 3) := by decide +kernel
theorem dX10_setOutByRule_42 : decode cX10_setOutByRule 42 = .ok (.return_, 1) := by decide +kernel
theorem dX10_setOut_0 : decode cX10_setOut 0 = .ok (.aload_n 0, 1) := by decide +kernel
theorem dX10_setOut_1 : decode cX10_setOut 1 = .ok (.aload_n 1, 1) := by decide +kernel
theorem dX10_setOut_2 : decode cX10_setOut 2 = .ok (.putfield 34, 3) := by decide +kernel
theorem dX10_setOut_5 : decode cX10_setOut 5 = .ok (.aload_n 0, 1) := by decide +kernel
theorem dX10_setOut_6 : decode cX10_setOut 6 = .ok (.iload_n 2, 1) := by decide +kernel
theorem dX10_setOut_7 : decode cX10_setOut 7 = .ok (.putfield 67, 3) := by decide +kernel
theorem dX10_setOut_10 : decode cX10_setOut 10 = .ok (.aload_n 0, 1) := by decide +kernel
theorem dX10_setOut_11 : decode cX10_setOut 11 = .ok (.iload_n 3, 1) := by decide +kernel
theorem dX10_setOut_12 : decode cX10_setOut 12 = .ok (.putfield 70, 3) := by decide +kernel
theorem dX10_setOut_15 : decode cX10_setOut 15 = .ok (.aload_n 0, 1) := by decide +kernel
theorem dX10_setOut_16 : decode cX10_setOut 16 = .ok (.iload 4, 2) := by decide +kernel
theorem dX10_setOut_18 : decode cX10_setOut 18 = .ok (.putfield 38, 3) := by decide +kernel
theorem dX10_setOut_21 : decode cX10_setOut 21 = .ok (.aload_n 0, 1) := by decide +kernel
theorem dX10_setOut_22 : decode cX10_setOut 22 = .ok (.iconst 0, 1) := by decide +kernel
theorem dX10_setOut_23 : decode cX10_setOut 23 = .ok (.putfield 73, 3) := by decide +kernel
theorem dX10_setOut_26 : decode cX10_setOut 26 = .ok (.aload_n 0, 1) := by decide +kernel
theorem dX10_setOut_27 : decode cX10_setOut 27 = .ok (.iconst 0, 1) := by decide +kernel
theorem dX10_setOut_28 : decode cX10_setOut 28 = .ok (.putfield 76, 3) := by decide +kernel
theorem dX10_setOut_31 : decode cX10_setOut 31 = .ok (.aload_n 0, 1) := by decide +kernel
theorem dX10_setOut_32 : decode cX10_setOut 32 = .ok (.iconst 0, 1) := by decide +kernel
theorem dX10_setOut_33 : decode cX10_setOut 33 = .ok (.putfield 79, 3) := by decide +kernel
theorem dX10_setOut_36 : decode cX10_setOut 36 = .ok (.aload_n 0, 1) := by decide +kernel
theorem dX10_setOut_37 : decode cX10_setOut 37 = .ok (.iconst 0, 1) := by decide +kernel
theorem dX10_setOut_38 : decode cX10_setOut 38 = .ok (.putfield 82, 3) := by decide +kernel
theorem dX10_setOut_41 : decode cX10_setOut 41 = .ok (.return_, 1) := by decide +kernel
theorem dX10_isThere_0 : decode cX10_isThere 0 = .ok (.aload_n 0, 1) := by decide +kernel
theorem dX10_isThere_1 : decode cX10_isThere 1 = .ok (.getfield 70, 3) := by decide +kernel
theorem dX10_isThere_4 : decode cX10_isThere 4 = .ok (.aload_n 0, 1) := by decide +kernel
theorem dX10_isThere_5 : decode cX10_isThere 5 = .ok (.getfield 12, 3) := by decide +kernel
theorem dX10_isThere_8 : decode cX10_isThere 8 = .ok (.getfield 86, 3) := by decide +kernel
theorem dX10_isThere_11 : decode cX10_isThere 11 = .ok (.aload_n 0, 1) := by decide +kernel
theorem dX10_isThere_12 : decode cX10_isThere 12 = .ok (.getfield 67, 3) := by decide +kernel
theorem dX10_isThere_15 : decode cX10_isThere 15 = .ok (.iaload, 1) := by decide +kernel
theorem dX10_isThere_16 : decode cX10_isThere 16 = .ok (.if_icmp .ne 7, 3) := by decide +kernel
theorem dX10_isThere_19 : decode cX10_isThere 19 = .ok (.iconst 1, 1) := by decide +kernel
theorem dX10_isThere_20 : decode cX10_isThere 20 = .ok (.goto 4, 3) := by decide +kernel
theorem dX10_isThere_23 : decode cX10_isThere 23 = .ok (.iconst 0, 1) := by decide +kernel
theorem dX10_isThere_24 : decode cX10_isThere 24 = .ok (.ireturn, 1) := by decide +kernel
theorem dX10_minutesThere_0 : decode cX10_minutesThere 0 = .ok (.aload_n 0, 1) := by decide +kernel
theorem dX10_minutesThere_1 : decode cX10_minutesThere 1 = .ok (.invokevirtual 89, 3) := by decide +kernel
theorem dX10_minutesThere_4 : decode cX10_minutesThere 4 = .ok (.iconst 0, 1) := by decide +kernel
theorem dX10_minutesThere_5 : decode cX10_minutesThere 5 = .ok (.istore_n 1, 1) := by decide +kernel
theorem dX10_minutesThere_6 : decode cX10_minutesThere 6 = .ok (.iload_n 1, 1) := by decide +kernel
theorem dX10_minutesThere_7 : decode cX10_minutesThere 7 = .ok (.sipush 200, 3) := by decide +kernel
theorem dX10_minutesThere_10 : decode cX10_minutesThere 10 = .ok (.if_icmp .ge 57, 3) := by decide +kernel
theorem dX10_minutesThere_13 : decode cX10_minutesThere 13 = .ok (.aload_n 0, 1) := by decide +kernel
theorem dX10_minutesThere_14 : decode cX10_minutesThere 14 = .ok (.invokevirtual 60, 3) := by decide +kernel
theorem dX10_minutesThere_17 : decode cX10_minutesThere 17 = .ok (.ifCond .ne 50, 3) := by decide +kernel
theorem dX10_minutesThere_20 : decode cX10_minutesThere 20 = .ok (.aload_n 0, 1) := by decide +kernel
theorem dX10_minutesThere_21 : decode cX10_minutesThere 21 = .ok (.getfield 79, 3) := by decide +kernel
theorem dX10_minutesThere_24 : decode cX10_minutesThere 24 = .ok (.istore_n 2, 1) := by decide +kernel
theorem dX10_minutesThere_25 : decode cX10_minutesThere 25 = .ok (.aload_n 0, 1) := by decide +kernel
theorem dX10_minutesThere_26 : decode cX10_minutesThere 26 = .ok (.invokevirtual 92, 3) := by decide +kernel
theorem dX10_minutesThere_29 : decode cX10_minutesThere 29 = .ok (.aload_n 0, 1) := by decide +kernel
theorem dX10_minutesThere_30 : decode cX10_minutesThere 30 = .ok (.getfield 21, 3) := by decide +kernel
theorem dX10_minutesThere_33 : decode cX10_minutesThere 33 = .ok (.invokevirtual 95, 3) := by decide +kernel
theorem dX10_minutesThere_36 : decode cX10_minutesThere 36 = .ok (.ifCond .ne 13, 3) := by decide +kernel
theorem dX10_minutesThere_39 : decode cX10_minutesThere 39 = .ok (.aload_n 0, 1) := by decide +kernel
theorem dX10_minutesThere_40 : decode cX10_minutesThere 40 = .ok (.invokevirtual 98, 3) := by decide +kernel
theorem dX10_minutesThere_43 : decode cX10_minutesThere 43 = .ok (.ifCond .ne 6, 3) := by decide +kernel
theorem dX10_minutesThere_46 : decode cX10_minutesThere 46 = .ok (.ldc 101, 2) := by decide +kernel
theorem dX10_minutesThere_48 : decode cX10_minutesThere 48 = .ok (.ireturn, 1) := by decide +kernel
theorem dX10_minutesThere_49 : decode cX10_minutesThere 49 = .ok (.aload_n 0, 1) := by decide +kernel
theorem dX10_minutesThere_50 : decode cX10_minutesThere 50 = .ok (.getfield 79, 3) := by decide +kernel
theorem dX10_minutesThere_53 : decode cX10_minutesThere 53 = .ok (.iload_n 2, 1) := by decide +kernel
theorem dX10_minutesThere_54 : decode cX10_minutesThere 54 = .ok (.if_icmp .le 7, 3) := by decide +kernel
theorem dX10_minutesThere_57 : decode cX10_minutesThere 57 = .ok (.aload_n 0, 1) := by decide +kernel
theorem dX10_minutesThere_58 : decode cX10_minutesThere 58 = .ok (.invokevirtual 89, 3) := by decide +kernel
theorem dX10_minutesThere_61 : decode cX10_minutesThere 61 = .ok (.iinc 1 1, 3) := by decide +kernel
theorem dX10_minutesThere_64 : decode cX10_minutesThere 64 = .ok (.goto (-58), 3) := by decide +kernel
theorem dX10_minutesThere_67 : decode cX10_minutesThere 67 = .ok (.aload_n 0, 1) := by decide +kernel
theorem dX10_minutesThere_68 : decode cX10_minutesThere 68 = .ok (.invokevirtual 60, 3) := by decide +kernel
theorem dX10_minutesThere_71 : decode cX10_minutesThere 71 = .ok (.ifCond .eq 10, 3) := by decide +kernel
theorem dX10_minutesThere_74 : decode cX10_minutesThere 74 = .ok (.aload_n 0, 1) := by decide +kernel
theorem dX10_minutesThere_75 : decode cX10_minutesThere 75 = .ok (.getfield 73, 3) := by decide +kernel
theorem dX10_minutesThere_78 : decode cX10_minutesThere 78 = .ok (.goto 5, 3) := by decide +kernel
theorem dX10_minutesThere_81 : decode cX10_minutesThere 81 = .ok (.ldc 101, 2) := by decide +kernel
theorem dX10_minutesThere_83 : decode cX10_minutesThere 83 = .ok (.ireturn, 1) := by decide +kernel
theorem dX10_comeHere_0 : decode cX10_comeHere 0 = .ok (.aload_n 0, 1) := by decide +kernel
theorem dX10_comeHere_1 : decode cX10_comeHere 1 = .ok (.invokevirtual 60, 3) := by decide +kernel
theorem dX10_comeHere_4 : decode cX10_comeHere 4 = .ok (.ifCond .ne 17, 3) := by decide +kernel
theorem dX10_comeHere_7 : decode cX10_comeHere 7 = .ok (.aload_n 0, 1) := by decide +kernel
theorem dX10_comeHere_8 : decode cX10_comeHere 8 = .ok (.getfield 34, 3) := by decide +kernel
theorem dX10_comeHere_11 : decode cX10_comeHere 11 = .ok (.aload_n 0, 1) := by decide +kernel
theorem dX10_comeHere_12 : decode cX10_comeHere 12 = .ok (.getfield 21, 3) := by decide +kernel
theorem dX10_comeHere_15 : decode cX10_comeHere 15 = .ok (.invokevirtual 102, 3) := by decide +kernel
theorem dX10_comeHere_18 : decode cX10_comeHere 18 = .ok (.ifCond .ne 4, 3) := by decide +kernel
theorem dX10_comeHere_21 : decode cX10_comeHere 21 = .ok (.return_, 1) := by decide +kernel
theorem dX10_comeHere_22 : decode cX10_comeHere 22 = .ok (.aload_n 0, 1) := by decide +kernel
theorem dX10_comeHere_23 : decode cX10_comeHere 23 = .ok (.invokevirtual 106, 3) := by decide +kernel
theorem dX10_comeHere_26 : decode cX10_comeHere 26 = .ok (.istore_n 1, 1) := by decide +kernel
theorem dX10_comeHere_27 : decode cX10_comeHere 27 = .ok (.aload_n 0, 1) := by decide +kernel
theorem dX10_comeHere_28 : decode cX10_comeHere 28 = .ok (.getfield 70, 3) := by decide +kernel
theorem dX10_comeHere_31 : decode cX10_comeHere 31 = .ok (.aload_n 0, 1) := by decide +kernel
theorem dX10_comeHere_32 : decode cX10_comeHere 32 = .ok (.getfield 38, 3) := by decide +kernel
theorem dX10_comeHere_35 : decode cX10_comeHere 35 = .ok (.if_icmp .ne 14, 3) := by decide +kernel
theorem dX10_comeHere_38 : decode cX10_comeHere 38 = .ok (.aload_n 0, 1) := by decide +kernel
theorem dX10_comeHere_39 : decode cX10_comeHere 39 = .ok (.getfield 21, 3) := by decide +kernel
theorem dX10_comeHere_42 : decode cX10_comeHere 42 = .ok (.iload_n 1, 1) := by decide +kernel
theorem dX10_comeHere_43 : decode cX10_comeHere 43 = .ok (.invokevirtual 110, 3) := by decide +kernel
theorem dX10_comeHere_46 : decode cX10_comeHere 46 = .ok (.goto 19, 3) := by decide +kernel
theorem dX10_comeHere_49 : decode cX10_comeHere 49 = .ok (.aload_n 0, 1) := by decide +kernel
theorem dX10_comeHere_50 : decode cX10_comeHere 50 = .ok (.getfield 21, 3) := by decide +kernel
theorem dX10_comeHere_53 : decode cX10_comeHere 53 = .ok (.aload_n 0, 1) := by decide +kernel
theorem dX10_comeHere_54 : decode cX10_comeHere 54 = .ok (.getfield 12, 3) := by decide +kernel
theorem dX10_comeHere_57 : decode cX10_comeHere 57 = .ok (.aload_n 0, 1) := by decide +kernel
theorem dX10_comeHere_58 : decode cX10_comeHere 58 = .ok (.getfield 70, 3) := by decide +kernel
theorem dX10_comeHere_61 : decode cX10_comeHere 61 = .ok (.iload_n 1, 1) := by decide +kernel
theorem dX10_comeHere_62 : decode cX10_comeHere 62 = .ok (.invokevirtual 113, 3) := by decide +kernel
theorem dX10_comeHere_65 : decode cX10_comeHere 65 = .ok (.aload_n 0, 1) := by decide +kernel
theorem dX10_comeHere_66 : decode cX10_comeHere 66 = .ok (.getfield 21, 3) := by decide +kernel
theorem dX10_comeHere_69 : decode cX10_comeHere 69 = .ok (.invokevirtual 95, 3) := by decide +kernel
theorem dX10_comeHere_72 : decode cX10_comeHere 72 = .ok (.pop, 1) := by decide +kernel
theorem dX10_comeHere_73 : decode cX10_comeHere 73 = .ok (.return_, 1) := by decide +kernel
theorem dX10_stepOn_0 : decode cX10_stepOn 0 = .ok (.aload_n 0, 1) := by decide +kernel
theorem dX10_stepOn_1 : decode cX10_stepOn 1 = .ok (.getfield 21, 3) := by decide +kernel
theorem dX10_stepOn_4 : decode cX10_stepOn 4 = .ok (.invokevirtual 117, 3) := by decide +kernel
theorem dX10_stepOn_7 : decode cX10_stepOn 7 = .ok (.istore_n 1, 1) := by decide +kernel
theorem dX10_stepOn_8 : decode cX10_stepOn 8 = .ok (.aload_n 0, 1) := by decide +kernel
theorem dX10_stepOn_9 : decode cX10_stepOn 9 = .ok (.getfield 12, 3) := by decide +kernel
theorem dX10_stepOn_12 : decode cX10_stepOn 12 = .ok (.getfield 120, 3) := by decide +kernel
theorem dX10_stepOn_15 : decode cX10_stepOn 15 = .ok (.iload_n 1, 1) := by decide +kernel
theorem dX10_stepOn_16 : decode cX10_stepOn 16 = .ok (.aaload, 1) := by decide +kernel
theorem dX10_stepOn_17 : decode cX10_stepOn 17 = .ok (.aload_n 0, 1) := by decide +kernel
theorem dX10_stepOn_18 : decode cX10_stepOn 18 = .ok (.getfield 70, 3) := by decide +kernel
theorem dX10_stepOn_21 : decode cX10_stepOn 21 = .ok (.iaload, 1) := by decide +kernel
theorem dX10_stepOn_22 : decode cX10_stepOn 22 = .ok (.istore_n 2, 1) := by decide +kernel
theorem dX10_stepOn_23 : decode cX10_stepOn 23 = .ok (.aload_n 0, 1) := by decide +kernel
theorem dX10_stepOn_24 : decode cX10_stepOn 24 = .ok (.getfield 12, 3) := by decide +kernel
theorem dX10_stepOn_27 : decode cX10_stepOn 27 = .ok (.getfield 86, 3) := by decide +kernel
theorem dX10_stepOn_30 : decode cX10_stepOn 30 = .ok (.iload_n 1, 1) := by decide +kernel
theorem dX10_stepOn_31 : decode cX10_stepOn 31 = .ok (.iaload, 1) := by decide +kernel
theorem dX10_stepOn_32 : decode cX10_stepOn 32 = .ok (.aload_n 0, 1) := by decide +kernel
theorem dX10_stepOn_33 : decode cX10_stepOn 33 = .ok (.getfield 70, 3) := by decide +kernel
theorem dX10_stepOn_36 : decode cX10_stepOn 36 = .ok (.if_icmp .ne 21, 3) := by decide +kernel
theorem dX10_stepOn_39 : decode cX10_stepOn 39 = .ok (.aload_n 0, 1) := by decide +kernel
theorem dX10_stepOn_40 : decode cX10_stepOn 40 = .ok (.getfield 21, 3) := by decide +kernel
theorem dX10_stepOn_43 : decode cX10_stepOn 43 = .ok (.aload_n 0, 1) := by decide +kernel
theorem dX10_stepOn_44 : decode cX10_stepOn 44 = .ok (.getfield 12, 3) := by decide +kernel
theorem dX10_stepOn_47 : decode cX10_stepOn 47 = .ok (.aload_n 0, 1) := by decide +kernel
theorem dX10_stepOn_48 : decode cX10_stepOn 48 = .ok (.getfield 70, 3) := by decide +kernel
theorem dX10_stepOn_51 : decode cX10_stepOn 51 = .ok (.invokevirtual 124, 3) := by decide +kernel
theorem dX10_stepOn_54 : decode cX10_stepOn 54 = .ok (.goto 113, 3) := by decide +kernel
theorem dX10_stepOn_57 : decode cX10_stepOn 57 = .ok (.aload_n 0, 1) := by decide +kernel
theorem dX10_stepOn_58 : decode cX10_stepOn 58 = .ok (.getfield 12, 3) := by decide +kernel
theorem dX10_stepOn_61 : decode cX10_stepOn 61 = .ok (.iload_n 2, 1) := by decide +kernel
