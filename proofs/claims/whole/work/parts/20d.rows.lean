/-! rows by their places (3) -/
theorem r_230_0 : xrow 230 0 = some (.lload_n 0, 1, 0, 0, 0, 0) := by decide +kernel
theorem r_230_1 : xrow 230 1 = some (.lconst 0, 1, 0, 0, 0, 0) := by decide +kernel
theorem r_230_2 : xrow 230 2 = some (.lcmp, 1, 0, 0, 0, 0) := by decide +kernel
theorem r_230_3 : xrow 230 3 = some (.ifCond .ge 8, 3, 11, 0, 0, 0) := by decide +kernel
theorem r_230_6 : xrow 230 6 = some (.lload_n 0, 1, 0, 0, 0, 0) := by decide +kernel
theorem r_230_7 : xrow 230 7 = some (.lneg, 1, 0, 0, 0, 0) := by decide +kernel
theorem r_230_8 : xrow 230 8 = some (.goto 4, 3, 12, 0, 0, 0) := by decide +kernel
theorem r_230_11 : xrow 230 11 = some (.lload_n 0, 1, 0, 0, 0, 0) := by decide +kernel
theorem r_230_12 : xrow 230 12 = some (.lstore 4, 2, 0, 0, 0, 0) := by decide +kernel
theorem r_230_14 : xrow 230 14 = some (.lload_n 2, 1, 0, 0, 0, 0) := by decide +kernel
theorem r_230_15 : xrow 230 15 = some (.lstore 6, 2, 0, 0, 0, 0) := by decide +kernel
theorem r_230_17 : xrow 230 17 = some (.lload 6, 2, 0, 0, 0, 0) := by decide +kernel
theorem r_230_19 : xrow 230 19 = some (.lconst 0, 1, 0, 0, 0, 0) := by decide +kernel
theorem r_230_20 : xrow 230 20 = some (.lcmp, 1, 0, 0, 0, 0) := by decide +kernel
theorem r_230_21 : xrow 230 21 = some (.ifCond .eq 21, 3, 42, 0, 0, 0) := by decide +kernel
theorem r_230_24 : xrow 230 24 = some (.lload 4, 2, 0, 0, 0, 0) := by decide +kernel
theorem r_230_26 : xrow 230 26 = some (.lload 6, 2, 0, 0, 0, 0) := by decide +kernel
theorem r_230_28 : xrow 230 28 = some (.lrem, 1, 0, 0, 0, 0) := by decide +kernel
theorem r_230_29 : xrow 230 29 = some (.lstore 8, 2, 0, 0, 0, 0) := by decide +kernel
theorem r_230_31 : xrow 230 31 = some (.lload 6, 2, 0, 0, 0, 0) := by decide +kernel
theorem r_230_33 : xrow 230 33 = some (.lstore 4, 2, 0, 0, 0, 0) := by decide +kernel
theorem r_230_35 : xrow 230 35 = some (.lload 8, 2, 0, 0, 0, 0) := by decide +kernel
theorem r_230_37 : xrow 230 37 = some (.lstore 6, 2, 0, 0, 0, 0) := by decide +kernel
theorem r_230_39 : xrow 230 39 = some (.goto (-22), 3, 17, 0, 0, 0) := by decide +kernel
theorem r_230_42 : xrow 230 42 = some (.lload 4, 2, 0, 0, 0, 0) := by decide +kernel
theorem r_230_44 : xrow 230 44 = some (.lreturn, 1, 0, 0, 0, 0) := by decide +kernel
theorem r_231_0 : xrow 231 0 = some (.lload_n 0, 1, 0, 0, 0, 0) := by decide +kernel
theorem r_231_1 : xrow 231 1 = some (.lload_n 2, 1, 0, 0, 0, 0) := by decide +kernel
theorem r_231_2 : xrow 231 2 = some (.invokestatic 430, 3, 230, 0, 0, 1105) := by decide +kernel
theorem r_231_5 : xrow 231 5 = some (.lstore 5, 2, 0, 0, 0, 0) := by decide +kernel
theorem r_231_7 : xrow 231 7 = some (.iload 4, 2, 0, 0, 0, 0) := by decide +kernel
theorem r_231_9 : xrow 231 9 = some (.ifCond .eq 10, 3, 19, 0, 0, 0) := by decide +kernel
theorem r_231_12 : xrow 231 12 = some (.lload_n 2, 1, 0, 0, 0, 0) := by decide +kernel
theorem r_231_13 : xrow 231 13 = some (.lload 5, 2, 0, 0, 0, 0) := by decide +kernel
theorem r_231_15 : xrow 231 15 = some (.ldiv, 1, 0, 0, 0, 0) := by decide +kernel
theorem r_231_16 : xrow 231 16 = some (.goto 7, 3, 23, 0, 0, 0) := by decide +kernel
theorem r_231_19 : xrow 231 19 = some (.lload_n 0, 1, 0, 0, 0, 0) := by decide +kernel
theorem r_231_20 : xrow 231 20 = some (.lload 5, 2, 0, 0, 0, 0) := by decide +kernel
theorem r_231_22 : xrow 231 22 = some (.ldiv, 1, 0, 0, 0, 0) := by decide +kernel
theorem r_231_23 : xrow 231 23 = some (.lreturn, 1, 0, 0, 0, 0) := by decide +kernel
theorem r_232_0 : xrow 232 0 = some (.aload_n 0, 1, 0, 0, 0, 0) := by decide +kernel
theorem r_232_1 : xrow 232 1 = some (.invokevirtual 249, 3, 164, 0, 0, 1051) := by decide +kernel
theorem r_232_4 : xrow 232 4 = some (.aload_n 0, 1, 0, 0, 0, 0) := by decide +kernel
theorem r_232_5 : xrow 232 5 = some (.iload_n 1, 1, 0, 0, 0, 0) := by decide +kernel
theorem r_232_6 : xrow 232 6 = some (.invokevirtual 347, 3, 197, 0, 0, 1078) := by decide +kernel
theorem r_232_9 : xrow 232 9 = some (.ifCond .eq 11, 3, 20, 0, 0, 0) := by decide +kernel
theorem r_232_12 : xrow 232 12 = some (.aload_n 0, 1, 0, 0, 0, 0) := by decide +kernel
theorem r_232_13 : xrow 232 13 = some (.iload_n 2, 1, 0, 0, 0, 0) := by decide +kernel
theorem r_232_14 : xrow 232 14 = some (.invokevirtual 347, 3, 197, 0, 0, 1078) := by decide +kernel
theorem r_232_17 : xrow 232 17 = some (.ifCond .ne 12, 3, 29, 0, 0, 0) := by decide +kernel
theorem r_232_20 : xrow 232 20 = some (.aload_n 0, 1, 0, 0, 0, 0) := by decide +kernel
theorem r_232_21 : xrow 232 21 = some (.iconst 1, 1, 0, 0, 0, 0) := by decide +kernel
theorem r_232_22 : xrow 232 22 = some (.putfield 134, 3, 22, 39, 0, 1023) := by decide +kernel
theorem r_232_25 : xrow 232 25 = some (.ldc2_w 434, 3, 2, 0, 0, 1106) := by decide +kernel
theorem r_232_28 : xrow 232 28 = some (.lreturn, 1, 0, 0, 0, 0) := by decide +kernel
theorem r_232_29 : xrow 232 29 = some (.aload_n 0, 1, 0, 0, 0, 0) := by decide +kernel
theorem r_232_30 : xrow 232 30 = some (.iload_n 1, 1, 0, 0, 0, 0) := by decide +kernel
theorem r_232_31 : xrow 232 31 = some (.iload_n 2, 1, 0, 0, 0, 0) := by decide +kernel
theorem r_232_32 : xrow 232 32 = some (.iconst 1, 1, 0, 0, 0, 0) := by decide +kernel
theorem r_232_33 : xrow 232 33 = some (.invokevirtual 426, 3, 228, 0, 0, 1104) := by decide +kernel
theorem r_232_36 : xrow 232 36 = some (.lstore 4, 2, 0, 0, 0, 0) := by decide +kernel
theorem r_232_38 : xrow 232 38 = some (.lload 4, 2, 0, 0, 0, 0) := by decide +kernel
theorem r_232_40 : xrow 232 40 = some (.lconst 0, 1, 0, 0, 0, 0) := by decide +kernel
theorem r_232_41 : xrow 232 41 = some (.lcmp, 1, 0, 0, 0, 0) := by decide +kernel
theorem r_232_42 : xrow 232 42 = some (.ifCond .ge 13, 3, 55, 0, 0, 0) := by decide +kernel
theorem r_232_45 : xrow 232 45 = some (.aload_n 0, 1, 0, 0, 0, 0) := by decide +kernel
theorem r_232_46 : xrow 232 46 = some (.bipush 6, 2, 0, 0, 0, 0) := by decide +kernel
theorem r_232_48 : xrow 232 48 = some (.putfield 134, 3, 22, 39, 0, 1023) := by decide +kernel
theorem r_232_51 : xrow 232 51 = some (.ldc2_w 434, 3, 2, 0, 0, 1106) := by decide +kernel
theorem r_232_54 : xrow 232 54 = some (.lreturn, 1, 0, 0, 0, 0) := by decide +kernel
theorem r_232_55 : xrow 232 55 = some (.lload 4, 2, 0, 0, 0, 0) := by decide +kernel
theorem r_232_57 : xrow 232 57 = some (.aload_n 0, 1, 0, 0, 0, 0) := by decide +kernel
theorem r_232_58 : xrow 232 58 = some (.aload_n 0, 1, 0, 0, 0, 0) := by decide +kernel
theorem r_232_59 : xrow 232 59 = some (.invokevirtual 421, 3, 215, 0, 0, 1102) := by decide +kernel
theorem r_232_62 : xrow 232 62 = some (.invokevirtual 411, 3, 218, 0, 0, 1099) := by decide +kernel
theorem r_232_65 : xrow 232 65 = some (.iload_n 3, 1, 0, 0, 0, 0) := by decide +kernel
theorem r_232_66 : xrow 232 66 = some (.invokestatic 436, 3, 231, 0, 0, 1107) := by decide +kernel
theorem r_232_69 : xrow 232 69 = some (.lreturn, 1, 0, 0, 0, 0) := by decide +kernel
theorem r_233_0 : xrow 233 0 = some (.iload_n 1, 1, 0, 0, 0, 0) := by decide +kernel
theorem r_233_1 : xrow 233 1 = some (.aload_n 0, 1, 0, 0, 0, 0) := by decide +kernel
theorem r_233_2 : xrow 233 2 = some (.getfield 78, 3, 22, 49, 0, 1005) := by decide +kernel
theorem r_233_5 : xrow 233 5 = some (.if_icmp .ne 5, 3, 10, 0, 0, 0) := by decide +kernel
theorem r_233_8 : xrow 233 8 = some (.iconst 4, 1, 0, 0, 0, 0) := by decide +kernel
theorem r_233_9 : xrow 233 9 = some (.ireturn, 1, 0, 0, 0, 0) := by decide +kernel
theorem r_233_10 : xrow 233 10 = some (.aload_n 0, 1, 0, 0, 0, 0) := by decide +kernel
theorem r_233_11 : xrow 233 11 = some (.iload_n 2, 1, 0, 0, 0, 0) := by decide +kernel
theorem r_233_12 : xrow 233 12 = some (.invokevirtual 401, 3, 224, 0, 0, 1096) := by decide +kernel
theorem r_233_15 : xrow 233 15 = some (.aload_n 0, 1, 0, 0, 0, 0) := by decide +kernel
theorem r_233_16 : xrow 233 16 = some (.getfield 392, 3, 22, 50, 0, 1093) := by decide +kernel
theorem r_233_19 : xrow 233 19 = some (.ifCond .eq 11, 3, 30, 0, 0, 0) := by decide +kernel
theorem r_233_22 : xrow 233 22 = some (.aload_n 0, 1, 0, 0, 0, 0) := by decide +kernel
theorem r_233_23 : xrow 233 23 = some (.iload_n 2, 1, 0, 0, 0, 0) := by decide +kernel
theorem r_233_24 : xrow 233 24 = some (.invokevirtual 411, 3, 218, 0, 0, 1099) := by decide +kernel
theorem r_233_27 : xrow 233 27 = some (.goto 4, 3, 31, 0, 0, 0) := by decide +kernel
theorem r_233_30 : xrow 233 30 = some (.lconst 1, 1, 0, 0, 0, 0) := by decide +kernel
theorem r_233_31 : xrow 233 31 = some (.lstore_n 3, 1, 0, 0, 0, 0) := by decide +kernel
theorem r_233_32 : xrow 233 32 = some (.iconst 0, 1, 0, 0, 0, 0) := by decide +kernel
theorem r_233_33 : xrow 233 33 = some (.istore 5, 2, 0, 0, 0, 0) := by decide +kernel
theorem r_233_35 : xrow 233 35 = some (.iload 5, 2, 0, 0, 0, 0) := by decide +kernel
theorem r_233_37 : xrow 233 37 = some (.iconst 4, 1, 0, 0, 0, 0) := by decide +kernel
theorem r_233_38 : xrow 233 38 = some (.if_icmp .ge 89, 3, 127, 0, 0, 0) := by decide +kernel
theorem r_233_41 : xrow 233 41 = some (.aload_n 0, 1, 0, 0, 0, 0) := by decide +kernel
theorem r_233_42 : xrow 233 42 = some (.getfield 119, 3, 22, 70, 2, 1018) := by decide +kernel
theorem r_233_45 : xrow 233 45 = some (.iconst 4, 1, 0, 0, 0, 0) := by decide +kernel
theorem r_233_46 : xrow 233 46 = some (.iload_n 1, 1, 0, 0, 0, 0) := by decide +kernel
theorem r_233_47 : xrow 233 47 = some (.imul, 1, 0, 0, 0, 0) := by decide +kernel
theorem r_233_48 : xrow 233 48 = some (.iload 5, 2, 0, 0, 0, 0) := by decide +kernel
theorem r_233_50 : xrow 233 50 = some (.iadd, 1, 0, 0, 0, 0) := by decide +kernel
theorem r_233_51 : xrow 233 51 = some (.iaload, 1, 0, 0, 0, 0) := by decide +kernel
theorem r_233_52 : xrow 233 52 = some (.ifCond .ne 6, 3, 58, 0, 0, 0) := by decide +kernel
theorem r_233_55 : xrow 233 55 = some (.goto 66, 3, 121, 0, 0, 0) := by decide +kernel
theorem r_233_58 : xrow 233 58 = some (.aload_n 0, 1, 0, 0, 0, 0) := by decide +kernel
theorem r_233_59 : xrow 233 59 = some (.getfield 74, 3, 22, 48, 2, 1004) := by decide +kernel
theorem r_233_62 : xrow 233 62 = some (.bipush 100, 2, 0, 0, 0, 0) := by decide +kernel
theorem r_233_64 : xrow 233 64 = some (.iload_n 2, 1, 0, 0, 0, 0) := by decide +kernel
theorem r_233_65 : xrow 233 65 = some (.imul, 1, 0, 0, 0, 0) := by decide +kernel
theorem r_233_66 : xrow 233 66 = some (.aload_n 0, 1, 0, 0, 0, 0) := by decide +kernel
theorem r_233_67 : xrow 233 67 = some (.iload_n 1, 1, 0, 0, 0, 0) := by decide +kernel
theorem r_233_68 : xrow 233 68 = some (.iload 5, 2, 0, 0, 0, 0) := by decide +kernel
theorem r_233_70 : xrow 233 70 = some (.invokevirtual 353, 3, 206, 0, 0, 1080) := by decide +kernel
theorem r_233_73 : xrow 233 73 = some (.iadd, 1, 0, 0, 0, 0) := by decide +kernel
theorem r_233_74 : xrow 233 74 = some (.laload, 1, 0, 0, 0, 0) := by decide +kernel
theorem r_233_75 : xrow 233 75 = some (.lstore 6, 2, 0, 0, 0, 0) := by decide +kernel
theorem r_233_77 : xrow 233 77 = some (.lload 6, 2, 0, 0, 0, 0) := by decide +kernel
theorem r_233_79 : xrow 233 79 = some (.ldc2_w 390, 3, 3, 0, 0, 1092) := by decide +kernel
theorem r_233_82 : xrow 233 82 = some (.lcmp, 1, 0, 0, 0, 0) := by decide +kernel
theorem r_233_83 : xrow 233 83 = some (.ifCond .ge 38, 3, 121, 0, 0, 0) := by decide +kernel
theorem r_233_86 : xrow 233 86 = some (.lload 6, 2, 0, 0, 0, 0) := by decide +kernel
theorem r_233_88 : xrow 233 88 = some (.lload_n 3, 1, 0, 0, 0, 0) := by decide +kernel
theorem r_233_89 : xrow 233 89 = some (.aload_n 0, 1, 0, 0, 0, 0) := by decide +kernel
theorem r_233_90 : xrow 233 90 = some (.getfield 119, 3, 22, 70, 2, 1018) := by decide +kernel
theorem r_233_93 : xrow 233 93 = some (.iconst 4, 1, 0, 0, 0, 0) := by decide +kernel
theorem r_233_94 : xrow 233 94 = some (.iload_n 1, 1, 0, 0, 0, 0) := by decide +kernel
theorem r_233_95 : xrow 233 95 = some (.imul, 1, 0, 0, 0, 0) := by decide +kernel
theorem r_233_96 : xrow 233 96 = some (.iload 5, 2, 0, 0, 0, 0) := by decide +kernel
theorem r_233_98 : xrow 233 98 = some (.iadd, 1, 0, 0, 0, 0) := by decide +kernel
theorem r_233_99 : xrow 233 99 = some (.iaload, 1, 0, 0, 0, 0) := by decide +kernel
theorem r_233_100 : xrow 233 100 = some (.i2l, 1, 0, 0, 0, 0) := by decide +kernel
theorem r_233_101 : xrow 233 101 = some (.lmul, 1, 0, 0, 0, 0) := by decide +kernel
theorem r_233_102 : xrow 233 102 = some (.ladd, 1, 0, 0, 0, 0) := by decide +kernel
theorem r_233_103 : xrow 233 103 = some (.aload_n 0, 1, 0, 0, 0, 0) := by decide +kernel
theorem r_233_104 : xrow 233 104 = some (.getfield 74, 3, 22, 48, 2, 1004) := by decide +kernel
theorem r_233_107 : xrow 233 107 = some (.bipush 100, 2, 0, 0, 0, 0) := by decide +kernel
theorem r_233_109 : xrow 233 109 = some (.iload_n 2, 1, 0, 0, 0, 0) := by decide +kernel
theorem r_233_110 : xrow 233 110 = some (.imul, 1, 0, 0, 0, 0) := by decide +kernel
theorem r_233_111 : xrow 233 111 = some (.iload_n 1, 1, 0, 0, 0, 0) := by decide +kernel
theorem r_233_112 : xrow 233 112 = some (.iadd, 1, 0, 0, 0, 0) := by decide +kernel
theorem r_233_113 : xrow 233 113 = some (.laload, 1, 0, 0, 0, 0) := by decide +kernel
theorem r_233_114 : xrow 233 114 = some (.lcmp, 1, 0, 0, 0, 0) := by decide +kernel
theorem r_233_115 : xrow 233 115 = some (.ifCond .ne 6, 3, 121, 0, 0, 0) := by decide +kernel
theorem r_233_118 : xrow 233 118 = some (.iload 5, 2, 0, 0, 0, 0) := by decide +kernel
theorem r_233_120 : xrow 233 120 = some (.ireturn, 1, 0, 0, 0, 0) := by decide +kernel
theorem r_233_121 : xrow 233 121 = some (.iinc 5 1, 3, 0, 0, 0, 0) := by decide +kernel
theorem r_233_124 : xrow 233 124 = some (.goto (-89), 3, 35, 0, 0, 0) := by decide +kernel
theorem r_233_127 : xrow 233 127 = some (.iconst 4, 1, 0, 0, 0, 0) := by decide +kernel
theorem r_233_128 : xrow 233 128 = some (.ireturn, 1, 0, 0, 0, 0) := by decide +kernel
theorem r_234_0 : xrow 234 0 = some (.aload_n 0, 1, 0, 0, 0, 0) := by decide +kernel
theorem r_234_1 : xrow 234 1 = some (.invokevirtual 249, 3, 164, 0, 0, 1051) := by decide +kernel
theorem r_234_4 : xrow 234 4 = some (.aload_n 0, 1, 0, 0, 0, 0) := by decide +kernel
theorem r_234_5 : xrow 234 5 = some (.iload_n 1, 1, 0, 0, 0, 0) := by decide +kernel
theorem r_234_6 : xrow 234 6 = some (.invokevirtual 347, 3, 197, 0, 0, 1078) := by decide +kernel
theorem r_234_9 : xrow 234 9 = some (.ifCond .eq 11, 3, 20, 0, 0, 0) := by decide +kernel
theorem r_234_12 : xrow 234 12 = some (.aload_n 0, 1, 0, 0, 0, 0) := by decide +kernel
theorem r_234_13 : xrow 234 13 = some (.iload_n 2, 1, 0, 0, 0, 0) := by decide +kernel
theorem r_234_14 : xrow 234 14 = some (.invokevirtual 347, 3, 197, 0, 0, 1078) := by decide +kernel
theorem r_234_17 : xrow 234 17 = some (.ifCond .ne 9, 3, 26, 0, 0, 0) := by decide +kernel
theorem r_234_20 : xrow 234 20 = some (.aload_n 0, 1, 0, 0, 0, 0) := by decide +kernel
theorem r_234_21 : xrow 234 21 = some (.iconst 1, 1, 0, 0, 0, 0) := by decide +kernel
theorem r_234_22 : xrow 234 22 = some (.invokevirtual 252, 3, 165, 0, 0, 1052) := by decide +kernel
theorem r_234_25 : xrow 234 25 = some (.ireturn, 1, 0, 0, 0, 0) := by decide +kernel
theorem r_234_26 : xrow 234 26 = some (.iconst 0, 1, 0, 0, 0, 0) := by decide +kernel
theorem r_234_27 : xrow 234 27 = some (.istore 4, 2, 0, 0, 0, 0) := by decide +kernel
theorem r_234_29 : xrow 234 29 = some (.iload 4, 2, 0, 0, 0, 0) := by decide +kernel
theorem r_234_31 : xrow 234 31 = some (.aload_n 0, 1, 0, 0, 0, 0) := by decide +kernel
theorem r_234_32 : xrow 234 32 = some (.getfield 281, 3, 22, 37, 0, 1061) := by decide +kernel
theorem r_234_35 : xrow 234 35 = some (.if_icmp .ge 36, 3, 71, 0, 0, 0) := by decide +kernel
theorem r_234_38 : xrow 234 38 = some (.aload_n 0, 1, 0, 0, 0, 0) := by decide +kernel
theorem r_234_39 : xrow 234 39 = some (.getfield 64, 3, 22, 45, 2, 1000) := by decide +kernel
theorem r_234_42 : xrow 234 42 = some (.iload 4, 2, 0, 0, 0, 0) := by decide +kernel
theorem r_234_44 : xrow 234 44 = some (.iaload, 1, 0, 0, 0, 0) := by decide +kernel
theorem r_234_45 : xrow 234 45 = some (.iconst (-1), 1, 0, 0, 0, 0) := by decide +kernel
theorem r_234_46 : xrow 234 46 = some (.if_icmp .ne 19, 3, 65, 0, 0, 0) := by decide +kernel
theorem r_234_49 : xrow 234 49 = some (.aload_n 0, 1, 0, 0, 0, 0) := by decide +kernel
theorem r_234_50 : xrow 234 50 = some (.iload_n 1, 1, 0, 0, 0, 0) := by decide +kernel
theorem r_234_51 : xrow 234 51 = some (.iload 4, 2, 0, 0, 0, 0) := by decide +kernel
theorem r_234_53 : xrow 234 53 = some (.invokevirtual 384, 3, 220, 0, 0, 1090) := by decide +kernel
theorem r_234_56 : xrow 234 56 = some (.ifCond .eq 9, 3, 65, 0, 0, 0) := by decide +kernel
theorem r_234_59 : xrow 234 59 = some (.aload_n 0, 1, 0, 0, 0, 0) := by decide +kernel
theorem r_234_60 : xrow 234 60 = some (.iconst 5, 1, 0, 0, 0, 0) := by decide +kernel
theorem r_234_61 : xrow 234 61 = some (.invokevirtual 252, 3, 165, 0, 0, 1052) := by decide +kernel
theorem r_234_64 : xrow 234 64 = some (.ireturn, 1, 0, 0, 0, 0) := by decide +kernel
theorem r_234_65 : xrow 234 65 = some (.iinc 4 1, 3, 0, 0, 0, 0) := by decide +kernel
theorem r_234_68 : xrow 234 68 = some (.goto (-39), 3, 29, 0, 0, 0) := by decide +kernel
theorem r_234_71 : xrow 234 71 = some (.aload_n 0, 1, 0, 0, 0, 0) := by decide +kernel
theorem r_234_72 : xrow 234 72 = some (.iload_n 1, 1, 0, 0, 0, 0) := by decide +kernel
theorem r_234_73 : xrow 234 73 = some (.iload_n 2, 1, 0, 0, 0, 0) := by decide +kernel
theorem r_234_74 : xrow 234 74 = some (.iload_n 3, 1, 0, 0, 0, 0) := by decide +kernel
theorem r_234_75 : xrow 234 75 = some (.invokevirtual 426, 3, 228, 0, 0, 1104) := by decide +kernel
theorem r_234_78 : xrow 234 78 = some (.lconst 0, 1, 0, 0, 0, 0) := by decide +kernel
theorem r_234_79 : xrow 234 79 = some (.lcmp, 1, 0, 0, 0, 0) := by decide +kernel
theorem r_234_80 : xrow 234 80 = some (.ifCond .ge 10, 3, 90, 0, 0, 0) := by decide +kernel
theorem r_234_83 : xrow 234 83 = some (.aload_n 0, 1, 0, 0, 0, 0) := by decide +kernel
theorem r_234_84 : xrow 234 84 = some (.bipush 6, 2, 0, 0, 0, 0) := by decide +kernel
theorem r_234_86 : xrow 234 86 = some (.invokevirtual 252, 3, 165, 0, 0, 1052) := by decide +kernel
theorem r_234_89 : xrow 234 89 = some (.ireturn, 1, 0, 0, 0, 0) := by decide +kernel
theorem r_234_90 : xrow 234 90 = some (.aload_n 0, 1, 0, 0, 0, 0) := by decide +kernel
theorem r_234_91 : xrow 234 91 = some (.iload_n 1, 1, 0, 0, 0, 0) := by decide +kernel
theorem r_234_92 : xrow 234 92 = some (.aload_n 0, 1, 0, 0, 0, 0) := by decide +kernel
theorem r_234_93 : xrow 234 93 = some (.invokevirtual 421, 3, 215, 0, 0, 1102) := by decide +kernel
theorem r_234_96 : xrow 234 96 = some (.invokevirtual 440, 3, 233, 0, 0, 1108) := by decide +kernel
theorem r_234_99 : xrow 234 99 = some (.ireturn, 1, 0, 0, 0, 0) := by decide +kernel
theorem r_235_0 : xrow 235 0 = some (.iconst 1, 1, 0, 0, 0, 0) := by decide +kernel
theorem r_235_1 : xrow 235 1 = some (.istore_n 1, 1, 0, 0, 0, 0) := by decide +kernel
theorem r_235_2 : xrow 235 2 = some (.iconst 0, 1, 0, 0, 0, 0) := by decide +kernel
theorem r_235_3 : xrow 235 3 = some (.istore_n 2, 1, 0, 0, 0, 0) := by decide +kernel
theorem r_235_4 : xrow 235 4 = some (.iload_n 2, 1, 0, 0, 0, 0) := by decide +kernel
theorem r_235_5 : xrow 235 5 = some (.aload_n 0, 1, 0, 0, 0, 0) := by decide +kernel
theorem r_235_6 : xrow 235 6 = some (.getfield 281, 3, 22, 37, 0, 1061) := by decide +kernel
theorem r_235_9 : xrow 235 9 = some (.if_icmp .ge 32, 3, 41, 0, 0, 0) := by decide +kernel
theorem r_235_12 : xrow 235 12 = some (.aload_n 0, 1, 0, 0, 0, 0) := by decide +kernel
theorem r_235_13 : xrow 235 13 = some (.getfield 64, 3, 22, 45, 2, 1000) := by decide +kernel
theorem r_235_16 : xrow 235 16 = some (.iload_n 2, 1, 0, 0, 0, 0) := by decide +kernel
theorem r_235_17 : xrow 235 17 = some (.iaload, 1, 0, 0, 0, 0) := by decide +kernel
theorem r_235_18 : xrow 235 18 = some (.iconst (-1), 1, 0, 0, 0, 0) := by decide +kernel
theorem r_235_19 : xrow 235 19 = some (.if_icmp .ne 14, 3, 33, 0, 0, 0) := by decide +kernel
theorem r_235_22 : xrow 235 22 = some (.iload_n 1, 1, 0, 0, 0, 0) := by decide +kernel
theorem r_235_23 : xrow 235 23 = some (.aload_n 0, 1, 0, 0, 0, 0) := by decide +kernel
theorem r_235_24 : xrow 235 24 = some (.getfield 85, 3, 22, 53, 2, 1007) := by decide +kernel
theorem r_235_27 : xrow 235 27 = some (.iload_n 2, 1, 0, 0, 0, 0) := by decide +kernel
theorem r_235_28 : xrow 235 28 = some (.iaload, 1, 0, 0, 0, 0) := by decide +kernel
theorem r_235_29 : xrow 235 29 = some (.imul, 1, 0, 0, 0, 0) := by decide +kernel
theorem r_235_30 : xrow 235 30 = some (.goto 4, 3, 34, 0, 0, 0) := by decide +kernel
theorem r_235_33 : xrow 235 33 = some (.iload_n 1, 1, 0, 0, 0, 0) := by decide +kernel
theorem r_235_34 : xrow 235 34 = some (.istore_n 1, 1, 0, 0, 0, 0) := by decide +kernel
theorem r_235_35 : xrow 235 35 = some (.iinc 2 1, 3, 0, 0, 0, 0) := by decide +kernel
theorem r_235_38 : xrow 235 38 = some (.goto (-34), 3, 4, 0, 0, 0) := by decide +kernel
theorem r_235_41 : xrow 235 41 = some (.iload_n 1, 1, 0, 0, 0, 0) := by decide +kernel
theorem r_235_42 : xrow 235 42 = some (.ireturn, 1, 0, 0, 0, 0) := by decide +kernel
theorem r_236_0 : xrow 236 0 = some (.aload_n 0, 1, 0, 0, 0, 0) := by decide +kernel
theorem r_236_1 : xrow 236 1 = some (.iconst 0, 1, 0, 0, 0, 0) := by decide +kernel
theorem r_236_2 : xrow 236 2 = some (.putfield 131, 3, 22, 0, 0, 1022) := by decide +kernel
theorem r_236_5 : xrow 236 5 = some (.aload_n 0, 1, 0, 0, 0, 0) := by decide +kernel
theorem r_236_6 : xrow 236 6 = some (.getfield 275, 3, 22, 34, 0, 1059) := by decide +kernel
theorem r_236_9 : xrow 236 9 = some (.ifCond .ne 5, 3, 14, 0, 0, 0) := by decide +kernel
theorem r_236_12 : xrow 236 12 = some (.iconst 0, 1, 0, 0, 0, 0) := by decide +kernel
theorem r_236_13 : xrow 236 13 = some (.ireturn, 1, 0, 0, 0, 0) := by decide +kernel
theorem r_236_14 : xrow 236 14 = some (.aload_n 0, 1, 0, 0, 0, 0) := by decide +kernel
theorem r_236_15 : xrow 236 15 = some (.invokevirtual 381, 3, 214, 0, 0, 1089) := by decide +kernel
theorem r_236_18 : xrow 236 18 = some (.aload_n 0, 1, 0, 0, 0, 0) := by decide +kernel
theorem r_236_19 : xrow 236 19 = some (.invokevirtual 443, 3, 235, 0, 0, 1109) := by decide +kernel
theorem r_236_22 : xrow 236 22 = some (.ireturn, 1, 0, 0, 0, 0) := by decide +kernel
theorem r_237_0 : xrow 237 0 = some (.aload_n 0, 1, 0, 0, 0, 0) := by decide +kernel
theorem r_237_1 : xrow 237 1 = some (.invokevirtual 421, 3, 215, 0, 0, 1102) := by decide +kernel
theorem r_237_4 : xrow 237 4 = some (.istore_n 2, 1, 0, 0, 0, 0) := by decide +kernel
theorem r_237_5 : xrow 237 5 = some (.iload_n 1, 1, 0, 0, 0, 0) := by decide +kernel
theorem r_237_6 : xrow 237 6 = some (.istore_n 3, 1, 0, 0, 0, 0) := by decide +kernel
theorem r_237_7 : xrow 237 7 = some (.aload_n 0, 1, 0, 0, 0, 0) := by decide +kernel
theorem r_237_8 : xrow 237 8 = some (.getfield 281, 3, 22, 37, 0, 1061) := by decide +kernel
theorem r_237_11 : xrow 237 11 = some (.iconst 1, 1, 0, 0, 0, 0) := by decide +kernel
theorem r_237_12 : xrow 237 12 = some (.isub, 1, 0, 0, 0, 0) := by decide +kernel
theorem r_237_13 : xrow 237 13 = some (.istore 4, 2, 0, 0, 0, 0) := by decide +kernel
theorem r_237_15 : xrow 237 15 = some (.iload 4, 2, 0, 0, 0, 0) := by decide +kernel
theorem r_237_17 : xrow 237 17 = some (.ifCond .lt 53, 3, 70, 0, 0, 0) := by decide +kernel
theorem r_237_20 : xrow 237 20 = some (.aload_n 0, 1, 0, 0, 0, 0) := by decide +kernel
theorem r_237_21 : xrow 237 21 = some (.getfield 64, 3, 22, 45, 2, 1000) := by decide +kernel
theorem r_237_24 : xrow 237 24 = some (.iload 4, 2, 0, 0, 0, 0) := by decide +kernel
theorem r_237_26 : xrow 237 26 = some (.iaload, 1, 0, 0, 0, 0) := by decide +kernel
theorem r_237_27 : xrow 237 27 = some (.iconst (-1), 1, 0, 0, 0, 0) := by decide +kernel
theorem r_237_28 : xrow 237 28 = some (.if_icmp .eq 6, 3, 34, 0, 0, 0) := by decide +kernel
theorem r_237_31 : xrow 237 31 = some (.goto 33, 3, 64, 0, 0, 0) := by decide +kernel
theorem r_237_34 : xrow 237 34 = some (.iload_n 2, 1, 0, 0, 0, 0) := by decide +kernel
theorem r_237_35 : xrow 237 35 = some (.iload_n 3, 1, 0, 0, 0, 0) := by decide +kernel
theorem r_237_36 : xrow 237 36 = some (.aload_n 0, 1, 0, 0, 0, 0) := by decide +kernel
theorem r_237_37 : xrow 237 37 = some (.getfield 85, 3, 22, 53, 2, 1007) := by decide +kernel
theorem r_237_40 : xrow 237 40 = some (.iload 4, 2, 0, 0, 0, 0) := by decide +kernel
theorem r_237_42 : xrow 237 42 = some (.iaload, 1, 0, 0, 0, 0) := by decide +kernel
theorem r_237_43 : xrow 237 43 = some (.irem, 1, 0, 0, 0, 0) := by decide +kernel
theorem r_237_44 : xrow 237 44 = some (.iconst 1, 1, 0, 0, 0, 0) := by decide +kernel
theorem r_237_45 : xrow 237 45 = some (.iadd, 1, 0, 0, 0, 0) := by decide +kernel
theorem r_237_46 : xrow 237 46 = some (.iload 4, 2, 0, 0, 0, 0) := by decide +kernel
theorem r_237_48 : xrow 237 48 = some (.invokestatic 368, 3, 212, 0, 0, 1085) := by decide +kernel
theorem r_237_51 : xrow 237 51 = some (.imul, 1, 0, 0, 0, 0) := by decide +kernel
theorem r_237_52 : xrow 237 52 = some (.iadd, 1, 0, 0, 0, 0) := by decide +kernel
theorem r_237_53 : xrow 237 53 = some (.istore_n 2, 1, 0, 0, 0, 0) := by decide +kernel
theorem r_237_54 : xrow 237 54 = some (.iload_n 3, 1, 0, 0, 0, 0) := by decide +kernel
theorem r_237_55 : xrow 237 55 = some (.aload_n 0, 1, 0, 0, 0, 0) := by decide +kernel
theorem r_237_56 : xrow 237 56 = some (.getfield 85, 3, 22, 53, 2, 1007) := by decide +kernel
theorem r_237_59 : xrow 237 59 = some (.iload 4, 2, 0, 0, 0, 0) := by decide +kernel
theorem r_237_61 : xrow 237 61 = some (.iaload, 1, 0, 0, 0, 0) := by decide +kernel
theorem r_237_62 : xrow 237 62 = some (.idiv, 1, 0, 0, 0, 0) := by decide +kernel
theorem r_237_63 : xrow 237 63 = some (.istore_n 3, 1, 0, 0, 0, 0) := by decide +kernel
theorem r_237_64 : xrow 237 64 = some (.iinc 4 (-1), 3, 0, 0, 0, 0) := by decide +kernel
theorem r_237_67 : xrow 237 67 = some (.goto (-52), 3, 15, 0, 0, 0) := by decide +kernel
theorem r_237_70 : xrow 237 70 = some (.iload_n 2, 1, 0, 0, 0, 0) := by decide +kernel
theorem r_237_71 : xrow 237 71 = some (.ireturn, 1, 0, 0, 0, 0) := by decide +kernel
theorem r_238_0 : xrow 238 0 = some (.aload_n 0, 1, 0, 0, 0, 0) := by decide +kernel
theorem r_238_1 : xrow 238 1 = some (.iconst 0, 1, 0, 0, 0, 0) := by decide +kernel
theorem r_238_2 : xrow 238 2 = some (.putfield 131, 3, 22, 0, 0, 1022) := by decide +kernel
theorem r_238_5 : xrow 238 5 = some (.aload_n 0, 1, 0, 0, 0, 0) := by decide +kernel
theorem r_238_6 : xrow 238 6 = some (.iload_n 2, 1, 0, 0, 0, 0) := by decide +kernel
theorem r_238_7 : xrow 238 7 = some (.invokevirtual 350, 3, 198, 0, 0, 1079) := by decide +kernel
theorem r_238_10 : xrow 238 10 = some (.ifCond .ne 5, 3, 15, 0, 0, 0) := by decide +kernel
theorem r_238_13 : xrow 238 13 = some (.iconst (-1), 1, 0, 0, 0, 0) := by decide +kernel
theorem r_238_14 : xrow 238 14 = some (.ireturn, 1, 0, 0, 0, 0) := by decide +kernel
theorem r_238_15 : xrow 238 15 = some (.aload_n 0, 1, 0, 0, 0, 0) := by decide +kernel
theorem r_238_16 : xrow 238 16 = some (.invokevirtual 381, 3, 214, 0, 0, 1089) := by decide +kernel
theorem r_238_19 : xrow 238 19 = some (.iload_n 1, 1, 0, 0, 0, 0) := by decide +kernel
theorem r_238_20 : xrow 238 20 = some (.iconst 0, 1, 0, 0, 0, 0) := by decide +kernel
theorem r_238_21 : xrow 238 21 = some (.aload_n 0, 1, 0, 0, 0, 0) := by decide +kernel
theorem r_238_22 : xrow 238 22 = some (.invokevirtual 443, 3, 235, 0, 0, 1109) := by decide +kernel
theorem r_238_25 : xrow 238 25 = some (.iconst 1, 1, 0, 0, 0, 0) := by decide +kernel
theorem r_238_26 : xrow 238 26 = some (.isub, 1, 0, 0, 0, 0) := by decide +kernel
theorem r_238_27 : xrow 238 27 = some (.invokestatic 220, 3, 167, 0, 0, 1042) := by decide +kernel
theorem r_238_30 : xrow 238 30 = some (.ifCond .ne 5, 3, 35, 0, 0, 0) := by decide +kernel
theorem r_238_33 : xrow 238 33 = some (.iconst (-1), 1, 0, 0, 0, 0) := by decide +kernel
theorem r_238_34 : xrow 238 34 = some (.ireturn, 1, 0, 0, 0, 0) := by decide +kernel
theorem r_238_35 : xrow 238 35 = some (.aload_n 0, 1, 0, 0, 0, 0) := by decide +kernel
theorem r_238_36 : xrow 238 36 = some (.getfield 82, 3, 22, 52, 2, 1006) := by decide +kernel
theorem r_238_39 : xrow 238 39 = some (.iconst 4, 1, 0, 0, 0, 0) := by decide +kernel
theorem r_238_40 : xrow 238 40 = some (.iload_n 2, 1, 0, 0, 0, 0) := by decide +kernel
theorem r_238_41 : xrow 238 41 = some (.imul, 1, 0, 0, 0, 0) := by decide +kernel
theorem r_238_42 : xrow 238 42 = some (.aload_n 0, 1, 0, 0, 0, 0) := by decide +kernel
theorem r_238_43 : xrow 238 43 = some (.iload_n 1, 1, 0, 0, 0, 0) := by decide +kernel
theorem r_238_44 : xrow 238 44 = some (.invokevirtual 446, 3, 237, 0, 0, 1110) := by decide +kernel
theorem r_238_47 : xrow 238 47 = some (.iload_n 2, 1, 0, 0, 0, 0) := by decide +kernel
theorem r_238_48 : xrow 238 48 = some (.invokestatic 374, 3, 213, 0, 0, 1087) := by decide +kernel
theorem r_238_51 : xrow 238 51 = some (.iadd, 1, 0, 0, 0, 0) := by decide +kernel
theorem r_238_52 : xrow 238 52 = some (.iconst 1, 1, 0, 0, 0, 0) := by decide +kernel
theorem r_238_53 : xrow 238 53 = some (.isub, 1, 0, 0, 0, 0) := by decide +kernel
theorem r_238_54 : xrow 238 54 = some (.iaload, 1, 0, 0, 0, 0) := by decide +kernel
theorem r_238_55 : xrow 238 55 = some (.ireturn, 1, 0, 0, 0, 0) := by decide +kernel
theorem r_239_0 : xrow 239 0 = some (.iload_n 1, 1, 0, 0, 0, 0) := by decide +kernel
theorem r_239_1 : xrow 239 1 = some (.istore 4, 2, 0, 0, 0, 0) := by decide +kernel
theorem r_239_3 : xrow 239 3 = some (.iconst 0, 1, 0, 0, 0, 0) := by decide +kernel
theorem r_239_4 : xrow 239 4 = some (.istore 5, 2, 0, 0, 0, 0) := by decide +kernel
theorem r_239_6 : xrow 239 6 = some (.iload 5, 2, 0, 0, 0, 0) := by decide +kernel
theorem r_239_8 : xrow 239 8 = some (.aload_n 0, 1, 0, 0, 0, 0) := by decide +kernel
theorem r_239_9 : xrow 239 9 = some (.getfield 281, 3, 22, 37, 0, 1061) := by decide +kernel
theorem r_239_12 : xrow 239 12 = some (.if_icmp .ge 46, 3, 58, 0, 0, 0) := by decide +kernel
theorem r_239_15 : xrow 239 15 = some (.iload 4, 2, 0, 0, 0, 0) := by decide +kernel
theorem r_239_17 : xrow 239 17 = some (.iload 5, 2, 0, 0, 0, 0) := by decide +kernel
theorem r_239_19 : xrow 239 19 = some (.invokestatic 374, 3, 213, 0, 0, 1087) := by decide +kernel
theorem r_239_22 : xrow 239 22 = some (.ifCond .ne 30, 3, 52, 0, 0, 0) := by decide +kernel
theorem r_239_25 : xrow 239 25 = some (.aload_n 0, 1, 0, 0, 0, 0) := by decide +kernel
theorem r_239_26 : xrow 239 26 = some (.iload_n 2, 1, 0, 0, 0, 0) := by decide +kernel
theorem r_239_27 : xrow 239 27 = some (.iload 5, 2, 0, 0, 0, 0) := by decide +kernel
theorem r_239_29 : xrow 239 29 = some (.invokevirtual 384, 3, 220, 0, 0, 1090) := by decide +kernel
theorem r_239_32 : xrow 239 32 = some (.ifCond .eq 20, 3, 52, 0, 0, 0) := by decide +kernel
theorem r_239_35 : xrow 239 35 = some (.iload 4, 2, 0, 0, 0, 0) := by decide +kernel
theorem r_239_37 : xrow 239 37 = some (.iload_n 3, 1, 0, 0, 0, 0) := by decide +kernel
theorem r_239_38 : xrow 239 38 = some (.iload 5, 2, 0, 0, 0, 0) := by decide +kernel
theorem r_239_40 : xrow 239 40 = some (.invokestatic 374, 3, 213, 0, 0, 1087) := by decide +kernel
theorem r_239_43 : xrow 239 43 = some (.iload 5, 2, 0, 0, 0, 0) := by decide +kernel
theorem r_239_45 : xrow 239 45 = some (.invokestatic 368, 3, 212, 0, 0, 1085) := by decide +kernel
theorem r_239_48 : xrow 239 48 = some (.imul, 1, 0, 0, 0, 0) := by decide +kernel
theorem r_239_49 : xrow 239 49 = some (.iadd, 1, 0, 0, 0, 0) := by decide +kernel
theorem r_239_50 : xrow 239 50 = some (.istore 4, 2, 0, 0, 0, 0) := by decide +kernel
theorem r_239_52 : xrow 239 52 = some (.iinc 5 1, 3, 0, 0, 0, 0) := by decide +kernel
theorem r_239_55 : xrow 239 55 = some (.goto (-49), 3, 6, 0, 0, 0) := by decide +kernel
theorem r_239_58 : xrow 239 58 = some (.iload 4, 2, 0, 0, 0, 0) := by decide +kernel
theorem r_239_60 : xrow 239 60 = some (.ireturn, 1, 0, 0, 0, 0) := by decide +kernel
theorem r_240_0 : xrow 240 0 = some (.aload_n 0, 1, 0, 0, 0, 0) := by decide +kernel
theorem r_240_1 : xrow 240 1 = some (.iload_n 2, 1, 0, 0, 0, 0) := by decide +kernel
theorem r_240_2 : xrow 240 2 = some (.invokevirtual 446, 3, 237, 0, 0, 1110) := by decide +kernel
theorem r_240_5 : xrow 240 5 = some (.istore_n 3, 1, 0, 0, 0, 0) := by decide +kernel
theorem r_240_6 : xrow 240 6 = some (.aload_n 0, 1, 0, 0, 0, 0) := by decide +kernel
theorem r_240_7 : xrow 240 7 = some (.invokevirtual 421, 3, 215, 0, 0, 1102) := by decide +kernel
theorem r_240_10 : xrow 240 10 = some (.istore 4, 2, 0, 0, 0, 0) := by decide +kernel
theorem r_240_12 : xrow 240 12 = some (.iload_n 1, 1, 0, 0, 0, 0) := by decide +kernel
theorem r_240_13 : xrow 240 13 = some (.istore 5, 2, 0, 0, 0, 0) := by decide +kernel
theorem r_240_15 : xrow 240 15 = some (.iconst 0, 1, 0, 0, 0, 0) := by decide +kernel
theorem r_240_16 : xrow 240 16 = some (.istore 6, 2, 0, 0, 0, 0) := by decide +kernel
theorem r_240_18 : xrow 240 18 = some (.aload_n 0, 1, 0, 0, 0, 0) := by decide +kernel
theorem r_240_19 : xrow 240 19 = some (.iconst 0, 1, 0, 0, 0, 0) := by decide +kernel
theorem r_240_20 : xrow 240 20 = some (.putfield 449, 3, 22, 55, 0, 1111) := by decide +kernel
theorem r_240_23 : xrow 240 23 = some (.iconst 1, 1, 0, 0, 0, 0) := by decide +kernel
theorem r_240_24 : xrow 240 24 = some (.istore 7, 2, 0, 0, 0, 0) := by decide +kernel
theorem r_240_26 : xrow 240 26 = some (.iload 7, 2, 0, 0, 0, 0) := by decide +kernel
theorem r_240_28 : xrow 240 28 = some (.ifCond .eq 96, 3, 124, 0, 0, 0) := by decide +kernel
theorem r_240_31 : xrow 240 31 = some (.aload_n 0, 1, 0, 0, 0, 0) := by decide +kernel
theorem r_240_32 : xrow 240 32 = some (.getfield 88, 3, 22, 54, 2, 1008) := by decide +kernel
theorem r_240_35 : xrow 240 35 = some (.aload_n 0, 1, 0, 0, 0, 0) := by decide +kernel
theorem r_240_36 : xrow 240 36 = some (.getfield 449, 3, 22, 55, 0, 1111) := by decide +kernel
theorem r_240_39 : xrow 240 39 = some (.iload 5, 2, 0, 0, 0, 0) := by decide +kernel
theorem r_240_41 : xrow 240 41 = some (.iastore, 1, 0, 0, 0, 0) := by decide +kernel
theorem r_240_42 : xrow 240 42 = some (.aload_n 0, 1, 0, 0, 0, 0) := by decide +kernel
theorem r_240_43 : xrow 240 43 = some (.dup, 1, 0, 0, 0, 0) := by decide +kernel
theorem r_240_44 : xrow 240 44 = some (.getfield 449, 3, 22, 55, 0, 1111) := by decide +kernel
theorem r_240_47 : xrow 240 47 = some (.iconst 1, 1, 0, 0, 0, 0) := by decide +kernel
theorem r_240_48 : xrow 240 48 = some (.iadd, 1, 0, 0, 0, 0) := by decide +kernel
theorem r_240_49 : xrow 240 49 = some (.putfield 449, 3, 22, 55, 0, 1111) := by decide +kernel
theorem r_240_52 : xrow 240 52 = some (.aload_n 0, 1, 0, 0, 0, 0) := by decide +kernel
theorem r_240_53 : xrow 240 53 = some (.iload 4, 2, 0, 0, 0, 0) := by decide +kernel
theorem r_240_55 : xrow 240 55 = some (.iload 5, 2, 0, 0, 0, 0) := by decide +kernel
theorem r_240_57 : xrow 240 57 = some (.iload_n 3, 1, 0, 0, 0, 0) := by decide +kernel
theorem r_240_58 : xrow 240 58 = some (.invokevirtual 452, 3, 239, 0, 0, 1112) := by decide +kernel
theorem r_240_61 : xrow 240 61 = some (.istore 4, 2, 0, 0, 0, 0) := by decide +kernel
theorem r_240_63 : xrow 240 63 = some (.aload_n 0, 1, 0, 0, 0, 0) := by decide +kernel
theorem r_240_64 : xrow 240 64 = some (.iload 5, 2, 0, 0, 0, 0) := by decide +kernel
theorem r_240_66 : xrow 240 66 = some (.iload 4, 2, 0, 0, 0, 0) := by decide +kernel
theorem r_240_68 : xrow 240 68 = some (.invokevirtual 440, 3, 233, 0, 0, 1108) := by decide +kernel
theorem r_240_71 : xrow 240 71 = some (.istore 8, 2, 0, 0, 0, 0) := by decide +kernel
theorem r_240_73 : xrow 240 73 = some (.iload 8, 2, 0, 0, 0, 0) := by decide +kernel
theorem r_240_75 : xrow 240 75 = some (.iconst 4, 1, 0, 0, 0, 0) := by decide +kernel
theorem r_240_76 : xrow 240 76 = some (.if_icmp .ge 7, 3, 83, 0, 0, 0) := by decide +kernel
theorem r_240_79 : xrow 240 79 = some (.iconst 1, 1, 0, 0, 0, 0) := by decide +kernel
theorem r_240_80 : xrow 240 80 = some (.goto 4, 3, 84, 0, 0, 0) := by decide +kernel
theorem r_240_83 : xrow 240 83 = some (.iconst 0, 1, 0, 0, 0, 0) := by decide +kernel
theorem r_240_84 : xrow 240 84 = some (.istore 7, 2, 0, 0, 0, 0) := by decide +kernel
theorem r_240_86 : xrow 240 86 = some (.iload 7, 2, 0, 0, 0, 0) := by decide +kernel
theorem r_240_88 : xrow 240 88 = some (.ifCond .ne 6, 3, 94, 0, 0, 0) := by decide +kernel
theorem r_240_91 : xrow 240 91 = some (.goto (-65), 3, 26, 0, 0, 0) := by decide +kernel
theorem r_240_94 : xrow 240 94 = some (.iload 6, 2, 0, 0, 0, 0) := by decide +kernel
theorem r_240_96 : xrow 240 96 = some (.aload_n 0, 1, 0, 0, 0, 0) := by decide +kernel
theorem r_240_97 : xrow 240 97 = some (.getfield 119, 3, 22, 70, 2, 1018) := by decide +kernel
theorem r_240_100 : xrow 240 100 = some (.iconst 4, 1, 0, 0, 0, 0) := by decide +kernel
theorem r_240_101 : xrow 240 101 = some (.iload 5, 2, 0, 0, 0, 0) := by decide +kernel
theorem r_240_103 : xrow 240 103 = some (.imul, 1, 0, 0, 0, 0) := by decide +kernel
theorem r_240_104 : xrow 240 104 = some (.iload 8, 2, 0, 0, 0, 0) := by decide +kernel
theorem r_240_106 : xrow 240 106 = some (.iadd, 1, 0, 0, 0, 0) := by decide +kernel
theorem r_240_107 : xrow 240 107 = some (.iaload, 1, 0, 0, 0, 0) := by decide +kernel
theorem r_240_108 : xrow 240 108 = some (.iadd, 1, 0, 0, 0, 0) := by decide +kernel
theorem r_240_109 : xrow 240 109 = some (.istore 6, 2, 0, 0, 0, 0) := by decide +kernel
theorem r_240_111 : xrow 240 111 = some (.aload_n 0, 1, 0, 0, 0, 0) := by decide +kernel
theorem r_240_112 : xrow 240 112 = some (.iload 5, 2, 0, 0, 0, 0) := by decide +kernel
theorem r_240_114 : xrow 240 114 = some (.iload 8, 2, 0, 0, 0, 0) := by decide +kernel
theorem r_240_116 : xrow 240 116 = some (.invokevirtual 353, 3, 206, 0, 0, 1080) := by decide +kernel
theorem r_240_119 : xrow 240 119 = some (.istore 5, 2, 0, 0, 0, 0) := by decide +kernel
theorem r_240_121 : xrow 240 121 = some (.goto (-95), 3, 26, 0, 0, 0) := by decide +kernel
theorem r_240_124 : xrow 240 124 = some (.iload 6, 2, 0, 0, 0, 0) := by decide +kernel
theorem r_240_126 : xrow 240 126 = some (.ireturn, 1, 0, 0, 0, 0) := by decide +kernel
theorem r_241_0 : xrow 241 0 = some (.aload_n 0, 1, 0, 0, 0, 0) := by decide +kernel
theorem r_241_1 : xrow 241 1 = some (.invokevirtual 249, 3, 164, 0, 0, 1051) := by decide +kernel
theorem r_241_4 : xrow 241 4 = some (.aload_n 0, 1, 0, 0, 0, 0) := by decide +kernel
theorem r_241_5 : xrow 241 5 = some (.iload_n 1, 1, 0, 0, 0, 0) := by decide +kernel
theorem r_241_6 : xrow 241 6 = some (.invokevirtual 347, 3, 197, 0, 0, 1078) := by decide +kernel
theorem r_241_9 : xrow 241 9 = some (.ifCond .eq 11, 3, 20, 0, 0, 0) := by decide +kernel
theorem r_241_12 : xrow 241 12 = some (.aload_n 0, 1, 0, 0, 0, 0) := by decide +kernel
theorem r_241_13 : xrow 241 13 = some (.iload_n 2, 1, 0, 0, 0, 0) := by decide +kernel
theorem r_241_14 : xrow 241 14 = some (.invokevirtual 347, 3, 197, 0, 0, 1078) := by decide +kernel
theorem r_241_17 : xrow 241 17 = some (.ifCond .ne 9, 3, 26, 0, 0, 0) := by decide +kernel
theorem r_241_20 : xrow 241 20 = some (.aload_n 0, 1, 0, 0, 0, 0) := by decide +kernel
theorem r_241_21 : xrow 241 21 = some (.iconst 1, 1, 0, 0, 0, 0) := by decide +kernel
theorem r_241_22 : xrow 241 22 = some (.invokevirtual 252, 3, 165, 0, 0, 1052) := by decide +kernel
theorem r_241_25 : xrow 241 25 = some (.ireturn, 1, 0, 0, 0, 0) := by decide +kernel
theorem r_241_26 : xrow 241 26 = some (.aload_n 0, 1, 0, 0, 0, 0) := by decide +kernel
theorem r_241_27 : xrow 241 27 = some (.invokevirtual 381, 3, 214, 0, 0, 1089) := by decide +kernel
theorem r_241_30 : xrow 241 30 = some (.iload 4, 2, 0, 0, 0, 0) := by decide +kernel
theorem r_241_32 : xrow 241 32 = some (.iconst 0, 1, 0, 0, 0, 0) := by decide +kernel
theorem r_241_33 : xrow 241 33 = some (.aload_n 0, 1, 0, 0, 0, 0) := by decide +kernel
theorem r_241_34 : xrow 241 34 = some (.invokevirtual 443, 3, 235, 0, 0, 1109) := by decide +kernel
theorem r_241_37 : xrow 241 37 = some (.iconst 1, 1, 0, 0, 0, 0) := by decide +kernel
theorem r_241_38 : xrow 241 38 = some (.isub, 1, 0, 0, 0, 0) := by decide +kernel
theorem r_241_39 : xrow 241 39 = some (.invokestatic 220, 3, 167, 0, 0, 1042) := by decide +kernel
theorem r_241_42 : xrow 241 42 = some (.ifCond .ne 9, 3, 51, 0, 0, 0) := by decide +kernel
theorem r_241_45 : xrow 241 45 = some (.aload_n 0, 1, 0, 0, 0, 0) := by decide +kernel
theorem r_241_46 : xrow 241 46 = some (.iconst 1, 1, 0, 0, 0, 0) := by decide +kernel
theorem r_241_47 : xrow 241 47 = some (.invokevirtual 252, 3, 165, 0, 0, 1052) := by decide +kernel
theorem r_241_50 : xrow 241 50 = some (.ireturn, 1, 0, 0, 0, 0) := by decide +kernel
theorem r_241_51 : xrow 241 51 = some (.aload_n 0, 1, 0, 0, 0, 0) := by decide +kernel
theorem r_241_52 : xrow 241 52 = some (.iload_n 1, 1, 0, 0, 0, 0) := by decide +kernel
theorem r_241_53 : xrow 241 53 = some (.iload_n 2, 1, 0, 0, 0, 0) := by decide +kernel
theorem r_241_54 : xrow 241 54 = some (.iload_n 3, 1, 0, 0, 0, 0) := by decide +kernel
theorem r_241_55 : xrow 241 55 = some (.invokevirtual 426, 3, 228, 0, 0, 1104) := by decide +kernel
theorem r_241_58 : xrow 241 58 = some (.lconst 0, 1, 0, 0, 0, 0) := by decide +kernel
theorem r_241_59 : xrow 241 59 = some (.lcmp, 1, 0, 0, 0, 0) := by decide +kernel
theorem r_241_60 : xrow 241 60 = some (.ifCond .ge 10, 3, 70, 0, 0, 0) := by decide +kernel
theorem r_241_63 : xrow 241 63 = some (.aload_n 0, 1, 0, 0, 0, 0) := by decide +kernel
theorem r_241_64 : xrow 241 64 = some (.bipush 6, 2, 0, 0, 0, 0) := by decide +kernel
theorem r_241_66 : xrow 241 66 = some (.invokevirtual 252, 3, 165, 0, 0, 1052) := by decide +kernel
theorem r_241_69 : xrow 241 69 = some (.ireturn, 1, 0, 0, 0, 0) := by decide +kernel
theorem r_241_70 : xrow 241 70 = some (.aload_n 0, 1, 0, 0, 0, 0) := by decide +kernel
theorem r_241_71 : xrow 241 71 = some (.iconst 1, 1, 0, 0, 0, 0) := by decide +kernel
theorem r_241_72 : xrow 241 72 = some (.putfield 455, 3, 22, 73, 3, 1113) := by decide +kernel
theorem r_241_75 : xrow 241 75 = some (.aload_n 0, 1, 0, 0, 0, 0) := by decide +kernel
theorem r_241_76 : xrow 241 76 = some (.iload_n 1, 1, 0, 0, 0, 0) := by decide +kernel
theorem r_241_77 : xrow 241 77 = some (.iload 4, 2, 0, 0, 0, 0) := by decide +kernel
theorem r_241_79 : xrow 241 79 = some (.invokevirtual 458, 3, 240, 0, 0, 1114) := by decide +kernel
theorem r_241_82 : xrow 241 82 = some (.ireturn, 1, 0, 0, 0, 0) := by decide +kernel
theorem r_242_0 : xrow 242 0 = some (.aload_n 0, 1, 0, 0, 0, 0) := by decide +kernel
theorem r_242_1 : xrow 242 1 = some (.aload_n 0, 1, 0, 0, 0, 0) := by decide +kernel
theorem r_242_2 : xrow 242 2 = some (.getfield 455, 3, 22, 73, 0, 1113) := by decide +kernel
theorem r_242_5 : xrow 242 5 = some (.ifCond .eq 21, 3, 26, 0, 0, 0) := by decide +kernel
theorem r_242_8 : xrow 242 8 = some (.iload_n 1, 1, 0, 0, 0, 0) := by decide +kernel
theorem r_242_9 : xrow 242 9 = some (.iconst 0, 1, 0, 0, 0, 0) := by decide +kernel
theorem r_242_10 : xrow 242 10 = some (.aload_n 0, 1, 0, 0, 0, 0) := by decide +kernel
theorem r_242_11 : xrow 242 11 = some (.getfield 449, 3, 22, 55, 0, 1111) := by decide +kernel
theorem r_242_14 : xrow 242 14 = some (.iconst 1, 1, 0, 0, 0, 0) := by decide +kernel
theorem r_242_15 : xrow 242 15 = some (.isub, 1, 0, 0, 0, 0) := by decide +kernel
theorem r_242_16 : xrow 242 16 = some (.invokestatic 220, 3, 167, 0, 0, 1042) := by decide +kernel
theorem r_242_19 : xrow 242 19 = some (.ifCond .eq 7, 3, 26, 0, 0, 0) := by decide +kernel
theorem r_242_22 : xrow 242 22 = some (.iconst 0, 1, 0, 0, 0, 0) := by decide +kernel
theorem r_242_23 : xrow 242 23 = some (.goto 4, 3, 27, 0, 0, 0) := by decide +kernel
theorem r_242_26 : xrow 242 26 = some (.iconst 1, 1, 0, 0, 0, 0) := by decide +kernel
theorem r_242_27 : xrow 242 27 = some (.putfield 131, 3, 22, 0, 0, 1022) := by decide +kernel
theorem r_242_30 : xrow 242 30 = some (.aload_n 0, 1, 0, 0, 0, 0) := by decide +kernel
theorem r_242_31 : xrow 242 31 = some (.getfield 131, 3, 22, 0, 0, 1022) := by decide +kernel
theorem r_242_34 : xrow 242 34 = some (.ifCond .le 7, 3, 41, 0, 0, 0) := by decide +kernel
theorem r_242_37 : xrow 242 37 = some (.iconst 0, 1, 0, 0, 0, 0) := by decide +kernel
theorem r_242_38 : xrow 242 38 = some (.goto 9, 3, 47, 0, 0, 0) := by decide +kernel
theorem r_242_41 : xrow 242 41 = some (.aload_n 0, 1, 0, 0, 0, 0) := by decide +kernel
theorem r_242_42 : xrow 242 42 = some (.getfield 88, 3, 22, 54, 2, 1008) := by decide +kernel
theorem r_242_45 : xrow 242 45 = some (.iload_n 1, 1, 0, 0, 0, 0) := by decide +kernel
theorem r_242_46 : xrow 242 46 = some (.iaload, 1, 0, 0, 0, 0) := by decide +kernel
theorem r_242_47 : xrow 242 47 = some (.ireturn, 1, 0, 0, 0, 0) := by decide +kernel
theorem r_243_0 : xrow 243 0 = some (.aload_n 0, 1, 0, 0, 0, 0) := by decide +kernel
theorem r_243_1 : xrow 243 1 = some (.invokevirtual 249, 3, 164, 0, 0, 1051) := by decide +kernel
theorem r_243_4 : xrow 243 4 = some (.aload_n 0, 1, 0, 0, 0, 0) := by decide +kernel
theorem r_243_5 : xrow 243 5 = some (.iload_n 1, 1, 0, 0, 0, 0) := by decide +kernel
theorem r_243_6 : xrow 243 6 = some (.invokevirtual 347, 3, 197, 0, 0, 1078) := by decide +kernel
theorem r_243_9 : xrow 243 9 = some (.ifCond .eq 11, 3, 20, 0, 0, 0) := by decide +kernel
theorem r_243_12 : xrow 243 12 = some (.aload_n 0, 1, 0, 0, 0, 0) := by decide +kernel
theorem r_243_13 : xrow 243 13 = some (.iload_n 2, 1, 0, 0, 0, 0) := by decide +kernel
theorem r_243_14 : xrow 243 14 = some (.invokevirtual 347, 3, 197, 0, 0, 1078) := by decide +kernel
theorem r_243_17 : xrow 243 17 = some (.ifCond .ne 9, 3, 26, 0, 0, 0) := by decide +kernel
theorem r_243_20 : xrow 243 20 = some (.aload_n 0, 1, 0, 0, 0, 0) := by decide +kernel
theorem r_243_21 : xrow 243 21 = some (.iconst 1, 1, 0, 0, 0, 0) := by decide +kernel
theorem r_243_22 : xrow 243 22 = some (.invokevirtual 252, 3, 165, 0, 0, 1052) := by decide +kernel
theorem r_243_25 : xrow 243 25 = some (.ireturn, 1, 0, 0, 0, 0) := by decide +kernel
theorem r_243_26 : xrow 243 26 = some (.aload_n 0, 1, 0, 0, 0, 0) := by decide +kernel
theorem r_243_27 : xrow 243 27 = some (.iload_n 1, 1, 0, 0, 0, 0) := by decide +kernel
theorem r_243_28 : xrow 243 28 = some (.iload_n 2, 1, 0, 0, 0, 0) := by decide +kernel
theorem r_243_29 : xrow 243 29 = some (.iconst 0, 1, 0, 0, 0, 0) := by decide +kernel
theorem r_243_30 : xrow 243 30 = some (.invokevirtual 426, 3, 228, 0, 0, 1104) := by decide +kernel
theorem r_243_33 : xrow 243 33 = some (.lconst 0, 1, 0, 0, 0, 0) := by decide +kernel
theorem r_243_34 : xrow 243 34 = some (.lcmp, 1, 0, 0, 0, 0) := by decide +kernel
theorem r_243_35 : xrow 243 35 = some (.ifCond .ge 10, 3, 45, 0, 0, 0) := by decide +kernel
theorem r_243_38 : xrow 243 38 = some (.aload_n 0, 1, 0, 0, 0, 0) := by decide +kernel
theorem r_243_39 : xrow 243 39 = some (.bipush 6, 2, 0, 0, 0, 0) := by decide +kernel
theorem r_243_41 : xrow 243 41 = some (.invokevirtual 252, 3, 165, 0, 0, 1052) := by decide +kernel
theorem r_243_44 : xrow 243 44 = some (.ireturn, 1, 0, 0, 0, 0) := by decide +kernel
theorem r_243_45 : xrow 243 45 = some (.aload_n 0, 1, 0, 0, 0, 0) := by decide +kernel
theorem r_243_46 : xrow 243 46 = some (.getfield 449, 3, 22, 55, 0, 1111) := by decide +kernel
theorem r_243_49 : xrow 243 49 = some (.istore_n 3, 1, 0, 0, 0, 0) := by decide +kernel
theorem r_243_50 : xrow 243 50 = some (.iconst 0, 1, 0, 0, 0, 0) := by decide +kernel
theorem r_243_51 : xrow 243 51 = some (.istore 4, 2, 0, 0, 0, 0) := by decide +kernel
theorem r_243_53 : xrow 243 53 = some (.iload 4, 2, 0, 0, 0, 0) := by decide +kernel
theorem r_243_55 : xrow 243 55 = some (.iload_n 3, 1, 0, 0, 0, 0) := by decide +kernel
theorem r_243_56 : xrow 243 56 = some (.if_icmp .ge 23, 3, 79, 0, 0, 0) := by decide +kernel
theorem r_243_59 : xrow 243 59 = some (.aload_n 0, 1, 0, 0, 0, 0) := by decide +kernel
theorem r_243_60 : xrow 243 60 = some (.getfield 128, 3, 22, 74, 2, 1021) := by decide +kernel
theorem r_243_63 : xrow 243 63 = some (.iload 4, 2, 0, 0, 0, 0) := by decide +kernel
theorem r_243_65 : xrow 243 65 = some (.aload_n 0, 1, 0, 0, 0, 0) := by decide +kernel
theorem r_243_66 : xrow 243 66 = some (.getfield 88, 3, 22, 54, 2, 1008) := by decide +kernel
theorem r_243_69 : xrow 243 69 = some (.iload 4, 2, 0, 0, 0, 0) := by decide +kernel
theorem r_243_71 : xrow 243 71 = some (.iaload, 1, 0, 0, 0, 0) := by decide +kernel
theorem r_243_72 : xrow 243 72 = some (.iastore, 1, 0, 0, 0, 0) := by decide +kernel
theorem r_243_73 : xrow 243 73 = some (.iinc 4 1, 3, 0, 0, 0, 0) := by decide +kernel
theorem r_243_76 : xrow 243 76 = some (.goto (-23), 3, 53, 0, 0, 0) := by decide +kernel
theorem r_243_79 : xrow 243 79 = some (.iconst 0, 1, 0, 0, 0, 0) := by decide +kernel
theorem r_243_80 : xrow 243 80 = some (.istore 4, 2, 0, 0, 0, 0) := by decide +kernel
theorem r_243_82 : xrow 243 82 = some (.iconst 0, 1, 0, 0, 0, 0) := by decide +kernel
theorem r_243_83 : xrow 243 83 = some (.istore 5, 2, 0, 0, 0, 0) := by decide +kernel
theorem r_243_85 : xrow 243 85 = some (.iload 5, 2, 0, 0, 0, 0) := by decide +kernel
theorem r_243_87 : xrow 243 87 = some (.aload_n 0, 1, 0, 0, 0, 0) := by decide +kernel
theorem r_243_88 : xrow 243 88 = some (.invokevirtual 443, 3, 235, 0, 0, 1109) := by decide +kernel
theorem r_243_91 : xrow 243 91 = some (.if_icmp .ge 52, 3, 143, 0, 0, 0) := by decide +kernel
theorem r_243_94 : xrow 243 94 = some (.aload_n 0, 1, 0, 0, 0, 0) := by decide +kernel
theorem r_243_95 : xrow 243 95 = some (.iload_n 1, 1, 0, 0, 0, 0) := by decide +kernel
theorem r_243_96 : xrow 243 96 = some (.iload 5, 2, 0, 0, 0, 0) := by decide +kernel
theorem r_243_98 : xrow 243 98 = some (.invokevirtual 458, 3, 240, 0, 0, 1114) := by decide +kernel
theorem r_243_101 : xrow 243 101 = some (.aload_n 0, 1, 0, 0, 0, 0) := by decide +kernel
theorem r_243_102 : xrow 243 102 = some (.getfield 74, 3, 22, 48, 2, 1004) := by decide +kernel
theorem r_243_105 : xrow 243 105 = some (.bipush 100, 2, 0, 0, 0, 0) := by decide +kernel
theorem r_243_107 : xrow 243 107 = some (.aload_n 0, 1, 0, 0, 0, 0) := by decide +kernel
theorem r_243_108 : xrow 243 108 = some (.iload 5, 2, 0, 0, 0, 0) := by decide +kernel
theorem r_243_110 : xrow 243 110 = some (.invokevirtual 446, 3, 237, 0, 0, 1110) := by decide +kernel
theorem r_243_113 : xrow 243 113 = some (.imul, 1, 0, 0, 0, 0) := by decide +kernel
theorem r_243_114 : xrow 243 114 = some (.iload_n 1, 1, 0, 0, 0, 0) := by decide +kernel
theorem r_243_115 : xrow 243 115 = some (.iadd, 1, 0, 0, 0, 0) := by decide +kernel
theorem r_243_116 : xrow 243 116 = some (.laload, 1, 0, 0, 0, 0) := by decide +kernel
theorem r_243_117 : xrow 243 117 = some (.l2i, 1, 0, 0, 0, 0) := by decide +kernel
theorem r_243_118 : xrow 243 118 = some (.isub, 1, 0, 0, 0, 0) := by decide +kernel
theorem r_243_119 : xrow 243 119 = some (.istore 6, 2, 0, 0, 0, 0) := by decide +kernel
theorem r_243_121 : xrow 243 121 = some (.iload 6, 2, 0, 0, 0, 0) := by decide +kernel
theorem r_243_123 : xrow 243 123 = some (.iload 4, 2, 0, 0, 0, 0) := by decide +kernel
theorem r_243_125 : xrow 243 125 = some (.if_icmp .le 8, 3, 133, 0, 0, 0) := by decide +kernel
theorem r_243_128 : xrow 243 128 = some (.iload 6, 2, 0, 0, 0, 0) := by decide +kernel
theorem r_243_130 : xrow 243 130 = some (.goto 5, 3, 135, 0, 0, 0) := by decide +kernel
theorem r_243_133 : xrow 243 133 = some (.iload 4, 2, 0, 0, 0, 0) := by decide +kernel
theorem r_243_135 : xrow 243 135 = some (.istore 4, 2, 0, 0, 0, 0) := by decide +kernel
theorem r_243_137 : xrow 243 137 = some (.iinc 5 1, 3, 0, 0, 0, 0) := by decide +kernel
theorem r_243_140 : xrow 243 140 = some (.goto (-55), 3, 85, 0, 0, 0) := by decide +kernel
theorem r_243_143 : xrow 243 143 = some (.aload_n 0, 1, 0, 0, 0, 0) := by decide +kernel
theorem r_243_144 : xrow 243 144 = some (.iload_n 3, 1, 0, 0, 0, 0) := by decide +kernel
theorem r_243_145 : xrow 243 145 = some (.putfield 449, 3, 22, 55, 0, 1111) := by decide +kernel
theorem r_243_148 : xrow 243 148 = some (.iconst 0, 1, 0, 0, 0, 0) := by decide +kernel
theorem r_243_149 : xrow 243 149 = some (.istore 5, 2, 0, 0, 0, 0) := by decide +kernel
theorem r_243_151 : xrow 243 151 = some (.iload 5, 2, 0, 0, 0, 0) := by decide +kernel
theorem r_243_153 : xrow 243 153 = some (.iload_n 3, 1, 0, 0, 0, 0) := by decide +kernel
theorem r_243_154 : xrow 243 154 = some (.if_icmp .ge 23, 3, 177, 0, 0, 0) := by decide +kernel
theorem r_243_157 : xrow 243 157 = some (.aload_n 0, 1, 0, 0, 0, 0) := by decide +kernel
theorem r_243_158 : xrow 243 158 = some (.getfield 88, 3, 22, 54, 2, 1008) := by decide +kernel
theorem r_243_161 : xrow 243 161 = some (.iload 5, 2, 0, 0, 0, 0) := by decide +kernel
theorem r_243_163 : xrow 243 163 = some (.aload_n 0, 1, 0, 0, 0, 0) := by decide +kernel
theorem r_243_164 : xrow 243 164 = some (.getfield 128, 3, 22, 74, 2, 1021) := by decide +kernel
theorem r_243_167 : xrow 243 167 = some (.iload 5, 2, 0, 0, 0, 0) := by decide +kernel
theorem r_243_169 : xrow 243 169 = some (.iaload, 1, 0, 0, 0, 0) := by decide +kernel
theorem r_243_170 : xrow 243 170 = some (.iastore, 1, 0, 0, 0, 0) := by decide +kernel
theorem r_243_171 : xrow 243 171 = some (.iinc 5 1, 3, 0, 0, 0, 0) := by decide +kernel
theorem r_243_174 : xrow 243 174 = some (.goto (-23), 3, 151, 0, 0, 0) := by decide +kernel
theorem r_243_177 : xrow 243 177 = some (.iload 4, 2, 0, 0, 0, 0) := by decide +kernel
theorem r_243_179 : xrow 243 179 = some (.ireturn, 1, 0, 0, 0, 0) := by decide +kernel
theorem r_244_0 : xrow 244 0 = some (.aload_n 0, 1, 0, 0, 0, 0) := by decide +kernel
theorem r_244_1 : xrow 244 1 = some (.invokevirtual 249, 3, 164, 0, 0, 1051) := by decide +kernel
theorem r_244_4 : xrow 244 4 = some (.aload_n 0, 1, 0, 0, 0, 0) := by decide +kernel
theorem r_244_5 : xrow 244 5 = some (.aload_n 0, 1, 0, 0, 0, 0) := by decide +kernel
theorem r_244_6 : xrow 244 6 = some (.iload_n 1, 1, 0, 0, 0, 0) := by decide +kernel
theorem r_244_7 : xrow 244 7 = some (.invokevirtual 350, 3, 198, 0, 0, 1079) := by decide +kernel
theorem r_244_10 : xrow 244 10 = some (.ifCond .eq 19, 3, 29, 0, 0, 0) := by decide +kernel
theorem r_244_13 : xrow 244 13 = some (.aload_n 0, 1, 0, 0, 0, 0) := by decide +kernel
theorem r_244_14 : xrow 244 14 = some (.iload_n 2, 1, 0, 0, 0, 0) := by decide +kernel
theorem r_244_15 : xrow 244 15 = some (.invokevirtual 347, 3, 197, 0, 0, 1078) := by decide +kernel
theorem r_244_18 : xrow 244 18 = some (.ifCond .eq 11, 3, 29, 0, 0, 0) := by decide +kernel
theorem r_244_21 : xrow 244 21 = some (.aload_n 0, 1, 0, 0, 0, 0) := by decide +kernel
theorem r_244_22 : xrow 244 22 = some (.iload_n 3, 1, 0, 0, 0, 0) := by decide +kernel
theorem r_244_23 : xrow 244 23 = some (.invokevirtual 347, 3, 197, 0, 0, 1078) := by decide +kernel
theorem r_244_26 : xrow 244 26 = some (.ifCond .ne 7, 3, 33, 0, 0, 0) := by decide +kernel
theorem r_244_29 : xrow 244 29 = some (.iconst 1, 1, 0, 0, 0, 0) := by decide +kernel
theorem r_244_30 : xrow 244 30 = some (.goto 18, 3, 48, 0, 0, 0) := by decide +kernel
theorem r_244_33 : xrow 244 33 = some (.aload_n 0, 1, 0, 0, 0, 0) := by decide +kernel
theorem r_244_34 : xrow 244 34 = some (.getfield 64, 3, 22, 45, 2, 1000) := by decide +kernel
theorem r_244_37 : xrow 244 37 = some (.iload_n 1, 1, 0, 0, 0, 0) := by decide +kernel
theorem r_244_38 : xrow 244 38 = some (.iaload, 1, 0, 0, 0, 0) := by decide +kernel
theorem r_244_39 : xrow 244 39 = some (.iconst (-1), 1, 0, 0, 0, 0) := by decide +kernel
theorem r_244_40 : xrow 244 40 = some (.if_icmp .eq 7, 3, 47, 0, 0, 0) := by decide +kernel
theorem r_244_43 : xrow 244 43 = some (.iconst 5, 1, 0, 0, 0, 0) := by decide +kernel
theorem r_244_44 : xrow 244 44 = some (.goto 4, 3, 48, 0, 0, 0) := by decide +kernel
theorem r_244_47 : xrow 244 47 = some (.iconst 0, 1, 0, 0, 0, 0) := by decide +kernel
theorem r_244_48 : xrow 244 48 = some (.putfield 134, 3, 22, 39, 0, 1023) := by decide +kernel
theorem r_244_51 : xrow 244 51 = some (.aload_n 0, 1, 0, 0, 0, 0) := by decide +kernel
theorem r_244_52 : xrow 244 52 = some (.getfield 134, 3, 22, 39, 0, 1023) := by decide +kernel
theorem r_244_55 : xrow 244 55 = some (.ifCond .le 7, 3, 62, 0, 0, 0) := by decide +kernel
theorem r_244_58 : xrow 244 58 = some (.ldc2_w 434, 3, 2, 0, 0, 1106) := by decide +kernel
theorem r_244_61 : xrow 244 61 = some (.lreturn, 1, 0, 0, 0, 0) := by decide +kernel
theorem r_244_62 : xrow 244 62 = some (.aload_n 0, 1, 0, 0, 0, 0) := by decide +kernel
theorem r_244_63 : xrow 244 63 = some (.iload_n 2, 1, 0, 0, 0, 0) := by decide +kernel
theorem r_244_64 : xrow 244 64 = some (.iload_n 3, 1, 0, 0, 0, 0) := by decide +kernel
theorem r_244_65 : xrow 244 65 = some (.iconst 1, 1, 0, 0, 0, 0) := by decide +kernel
theorem r_244_66 : xrow 244 66 = some (.invokevirtual 426, 3, 228, 0, 0, 1104) := by decide +kernel
theorem r_244_69 : xrow 244 69 = some (.lstore 5, 2, 0, 0, 0, 0) := by decide +kernel
theorem r_244_71 : xrow 244 71 = some (.lload 5, 2, 0, 0, 0, 0) := by decide +kernel
theorem r_244_73 : xrow 244 73 = some (.lconst 0, 1, 0, 0, 0, 0) := by decide +kernel
theorem r_244_74 : xrow 244 74 = some (.lcmp, 1, 0, 0, 0, 0) := by decide +kernel
theorem r_244_75 : xrow 244 75 = some (.ifCond .ge 13, 3, 88, 0, 0, 0) := by decide +kernel
theorem r_244_78 : xrow 244 78 = some (.aload_n 0, 1, 0, 0, 0, 0) := by decide +kernel
theorem r_244_79 : xrow 244 79 = some (.bipush 6, 2, 0, 0, 0, 0) := by decide +kernel
theorem r_244_81 : xrow 244 81 = some (.putfield 134, 3, 22, 39, 0, 1023) := by decide +kernel
theorem r_244_84 : xrow 244 84 = some (.ldc2_w 434, 3, 2, 0, 0, 1106) := by decide +kernel
theorem r_244_87 : xrow 244 87 = some (.lreturn, 1, 0, 0, 0, 0) := by decide +kernel
theorem r_244_88 : xrow 244 88 = some (.aload_n 0, 1, 0, 0, 0, 0) := by decide +kernel
theorem r_244_89 : xrow 244 89 = some (.invokevirtual 421, 3, 215, 0, 0, 1102) := by decide +kernel
theorem r_244_92 : xrow 244 92 = some (.istore 7, 2, 0, 0, 0, 0) := by decide +kernel
theorem r_244_94 : xrow 244 94 = some (.aload_n 0, 1, 0, 0, 0, 0) := by decide +kernel
theorem r_244_95 : xrow 244 95 = some (.iload 7, 2, 0, 0, 0, 0) := by decide +kernel
theorem r_244_97 : xrow 244 97 = some (.invokevirtual 411, 3, 218, 0, 0, 1099) := by decide +kernel
theorem r_244_100 : xrow 244 100 = some (.lstore 8, 2, 0, 0, 0, 0) := by decide +kernel
theorem r_244_102 : xrow 244 102 = some (.iconst 0, 1, 0, 0, 0, 0) := by decide +kernel
theorem r_244_103 : xrow 244 103 = some (.istore 10, 2, 0, 0, 0, 0) := by decide +kernel
theorem r_244_105 : xrow 244 105 = some (.iload 10, 2, 0, 0, 0, 0) := by decide +kernel
theorem r_244_107 : xrow 244 107 = some (.aload_n 0, 1, 0, 0, 0, 0) := by decide +kernel
theorem r_244_108 : xrow 244 108 = some (.getfield 85, 3, 22, 53, 2, 1007) := by decide +kernel
theorem r_244_111 : xrow 244 111 = some (.iload_n 1, 1, 0, 0, 0, 0) := by decide +kernel
theorem r_244_112 : xrow 244 112 = some (.iaload, 1, 0, 0, 0, 0) := by decide +kernel
theorem r_244_113 : xrow 244 113 = some (.if_icmp .ge 45, 3, 158, 0, 0, 0) := by decide +kernel
theorem r_244_116 : xrow 244 116 = some (.lload 5, 2, 0, 0, 0, 0) := by decide +kernel
theorem r_244_118 : xrow 244 118 = some (.aload_n 0, 1, 0, 0, 0, 0) := by decide +kernel
theorem r_244_119 : xrow 244 119 = some (.iload_n 1, 1, 0, 0, 0, 0) := by decide +kernel
theorem r_244_120 : xrow 244 120 = some (.iload 10, 2, 0, 0, 0, 0) := by decide +kernel
theorem r_244_122 : xrow 244 122 = some (.invokevirtual 371, 3, 216, 0, 0, 1086) := by decide +kernel
theorem r_244_125 : xrow 244 125 = some (.i2l, 1, 0, 0, 0, 0) := by decide +kernel
theorem r_244_126 : xrow 244 126 = some (.aload_n 0, 1, 0, 0, 0, 0) := by decide +kernel
theorem r_244_127 : xrow 244 127 = some (.getfield 74, 3, 22, 48, 2, 1004) := by decide +kernel
theorem r_244_130 : xrow 244 130 = some (.bipush 100, 2, 0, 0, 0, 0) := by decide +kernel
theorem r_244_132 : xrow 244 132 = some (.iload 7, 2, 0, 0, 0, 0) := by decide +kernel
theorem r_244_134 : xrow 244 134 = some (.iload 10, 2, 0, 0, 0, 0) := by decide +kernel
theorem r_244_136 : xrow 244 136 = some (.iconst 1, 1, 0, 0, 0, 0) := by decide +kernel
theorem r_244_137 : xrow 244 137 = some (.iadd, 1, 0, 0, 0, 0) := by decide +kernel
theorem r_244_138 : xrow 244 138 = some (.iload_n 1, 1, 0, 0, 0, 0) := by decide +kernel
theorem r_244_139 : xrow 244 139 = some (.invokestatic 368, 3, 212, 0, 0, 1085) := by decide +kernel
theorem r_244_142 : xrow 244 142 = some (.imul, 1, 0, 0, 0, 0) := by decide +kernel
theorem r_244_143 : xrow 244 143 = some (.iadd, 1, 0, 0, 0, 0) := by decide +kernel
theorem r_244_144 : xrow 244 144 = some (.imul, 1, 0, 0, 0, 0) := by decide +kernel
theorem r_244_145 : xrow 244 145 = some (.iload_n 2, 1, 0, 0, 0, 0) := by decide +kernel
theorem r_244_146 : xrow 244 146 = some (.iadd, 1, 0, 0, 0, 0) := by decide +kernel
theorem r_244_147 : xrow 244 147 = some (.laload, 1, 0, 0, 0, 0) := by decide +kernel
theorem r_244_148 : xrow 244 148 = some (.lmul, 1, 0, 0, 0, 0) := by decide +kernel
theorem r_244_149 : xrow 244 149 = some (.lsub, 1, 0, 0, 0, 0) := by decide +kernel
theorem r_244_150 : xrow 244 150 = some (.lstore 5, 2, 0, 0, 0, 0) := by decide +kernel
theorem r_244_152 : xrow 244 152 = some (.iinc 10 1, 3, 0, 0, 0, 0) := by decide +kernel
theorem r_244_155 : xrow 244 155 = some (.goto (-50), 3, 105, 0, 0, 0) := by decide +kernel
theorem r_244_158 : xrow 244 158 = some (.lload 5, 2, 0, 0, 0, 0) := by decide +kernel
theorem r_244_160 : xrow 244 160 = some (.lload 8, 2, 0, 0, 0, 0) := by decide +kernel
theorem r_244_162 : xrow 244 162 = some (.iload 4, 2, 0, 0, 0, 0) := by decide +kernel
theorem r_244_164 : xrow 244 164 = some (.invokestatic 436, 3, 231, 0, 0, 1107) := by decide +kernel
theorem r_244_167 : xrow 244 167 = some (.lreturn, 1, 0, 0, 0, 0) := by decide +kernel
theorem r_245_0 : xrow 245 0 = some (.aload_n 0, 1, 0, 0, 0, 0) := by decide +kernel
theorem r_245_1 : xrow 245 1 = some (.invokevirtual 249, 3, 164, 0, 0, 1051) := by decide +kernel
theorem r_245_4 : xrow 245 4 = some (.aload_n 0, 1, 0, 0, 0, 0) := by decide +kernel
theorem r_245_5 : xrow 245 5 = some (.iload_n 1, 1, 0, 0, 0, 0) := by decide +kernel
theorem r_245_6 : xrow 245 6 = some (.invokevirtual 350, 3, 198, 0, 0, 1079) := by decide +kernel
theorem r_245_9 : xrow 245 9 = some (.ifCond .eq 19, 3, 28, 0, 0, 0) := by decide +kernel
theorem r_245_12 : xrow 245 12 = some (.aload_n 0, 1, 0, 0, 0, 0) := by decide +kernel
theorem r_245_13 : xrow 245 13 = some (.iload_n 2, 1, 0, 0, 0, 0) := by decide +kernel
theorem r_245_14 : xrow 245 14 = some (.invokevirtual 347, 3, 197, 0, 0, 1078) := by decide +kernel
theorem r_245_17 : xrow 245 17 = some (.ifCond .eq 11, 3, 28, 0, 0, 0) := by decide +kernel
theorem r_245_20 : xrow 245 20 = some (.aload_n 0, 1, 0, 0, 0, 0) := by decide +kernel
theorem r_245_21 : xrow 245 21 = some (.iload_n 3, 1, 0, 0, 0, 0) := by decide +kernel
theorem r_245_22 : xrow 245 22 = some (.invokevirtual 347, 3, 197, 0, 0, 1078) := by decide +kernel
theorem r_245_25 : xrow 245 25 = some (.ifCond .ne 7, 3, 32, 0, 0, 0) := by decide +kernel
theorem r_245_28 : xrow 245 28 = some (.iconst 1, 1, 0, 0, 0, 0) := by decide +kernel
theorem r_245_29 : xrow 245 29 = some (.goto 18, 3, 47, 0, 0, 0) := by decide +kernel
theorem r_245_32 : xrow 245 32 = some (.aload_n 0, 1, 0, 0, 0, 0) := by decide +kernel
theorem r_245_33 : xrow 245 33 = some (.getfield 64, 3, 22, 45, 2, 1000) := by decide +kernel
theorem r_245_36 : xrow 245 36 = some (.iload_n 1, 1, 0, 0, 0, 0) := by decide +kernel
theorem r_245_37 : xrow 245 37 = some (.iaload, 1, 0, 0, 0, 0) := by decide +kernel
theorem r_245_38 : xrow 245 38 = some (.iconst (-1), 1, 0, 0, 0, 0) := by decide +kernel
theorem r_245_39 : xrow 245 39 = some (.if_icmp .eq 7, 3, 46, 0, 0, 0) := by decide +kernel
theorem r_245_42 : xrow 245 42 = some (.iconst 5, 1, 0, 0, 0, 0) := by decide +kernel
theorem r_245_43 : xrow 245 43 = some (.goto 4, 3, 47, 0, 0, 0) := by decide +kernel
theorem r_245_46 : xrow 245 46 = some (.iconst 0, 1, 0, 0, 0, 0) := by decide +kernel
theorem r_245_47 : xrow 245 47 = some (.istore 4, 2, 0, 0, 0, 0) := by decide +kernel
theorem r_245_49 : xrow 245 49 = some (.iload 4, 2, 0, 0, 0, 0) := by decide +kernel
theorem r_245_51 : xrow 245 51 = some (.ifCond .le 10, 3, 61, 0, 0, 0) := by decide +kernel
theorem r_245_54 : xrow 245 54 = some (.aload_n 0, 1, 0, 0, 0, 0) := by decide +kernel
theorem r_245_55 : xrow 245 55 = some (.iload 4, 2, 0, 0, 0, 0) := by decide +kernel
theorem r_245_57 : xrow 245 57 = some (.invokevirtual 252, 3, 165, 0, 0, 1052) := by decide +kernel
theorem r_245_60 : xrow 245 60 = some (.ireturn, 1, 0, 0, 0, 0) := by decide +kernel
theorem r_245_61 : xrow 245 61 = some (.aload_n 0, 1, 0, 0, 0, 0) := by decide +kernel
theorem r_245_62 : xrow 245 62 = some (.iload_n 2, 1, 0, 0, 0, 0) := by decide +kernel
theorem r_245_63 : xrow 245 63 = some (.iload_n 3, 1, 0, 0, 0, 0) := by decide +kernel
theorem r_245_64 : xrow 245 64 = some (.iconst 0, 1, 0, 0, 0, 0) := by decide +kernel
theorem r_245_65 : xrow 245 65 = some (.invokevirtual 426, 3, 228, 0, 0, 1104) := by decide +kernel
theorem r_245_68 : xrow 245 68 = some (.lstore 5, 2, 0, 0, 0, 0) := by decide +kernel
theorem r_245_70 : xrow 245 70 = some (.lload 5, 2, 0, 0, 0, 0) := by decide +kernel
theorem r_245_72 : xrow 245 72 = some (.lconst 0, 1, 0, 0, 0, 0) := by decide +kernel
theorem r_245_73 : xrow 245 73 = some (.lcmp, 1, 0, 0, 0, 0) := by decide +kernel
theorem r_245_74 : xrow 245 74 = some (.ifCond .ge 10, 3, 84, 0, 0, 0) := by decide +kernel
theorem r_245_77 : xrow 245 77 = some (.aload_n 0, 1, 0, 0, 0, 0) := by decide +kernel
theorem r_245_78 : xrow 245 78 = some (.bipush 6, 2, 0, 0, 0, 0) := by decide +kernel
theorem r_245_80 : xrow 245 80 = some (.invokevirtual 252, 3, 165, 0, 0, 1052) := by decide +kernel
theorem r_245_83 : xrow 245 83 = some (.ireturn, 1, 0, 0, 0, 0) := by decide +kernel
theorem r_245_84 : xrow 245 84 = some (.lconst 0, 1, 0, 0, 0, 0) := by decide +kernel
theorem r_245_85 : xrow 245 85 = some (.lstore 7, 2, 0, 0, 0, 0) := by decide +kernel
theorem r_245_87 : xrow 245 87 = some (.iconst 0, 1, 0, 0, 0, 0) := by decide +kernel
theorem r_245_88 : xrow 245 88 = some (.istore 9, 2, 0, 0, 0, 0) := by decide +kernel
theorem r_245_90 : xrow 245 90 = some (.iload 9, 2, 0, 0, 0, 0) := by decide +kernel
theorem r_245_92 : xrow 245 92 = some (.aload_n 0, 1, 0, 0, 0, 0) := by decide +kernel
theorem r_245_93 : xrow 245 93 = some (.getfield 85, 3, 22, 53, 2, 1007) := by decide +kernel
theorem r_245_96 : xrow 245 96 = some (.iload_n 1, 1, 0, 0, 0, 0) := by decide +kernel
theorem r_245_97 : xrow 245 97 = some (.iaload, 1, 0, 0, 0, 0) := by decide +kernel
theorem r_245_98 : xrow 245 98 = some (.if_icmp .ge 52, 3, 150, 0, 0, 0) := by decide +kernel
theorem r_245_101 : xrow 245 101 = some (.aload_n 0, 1, 0, 0, 0, 0) := by decide +kernel
theorem r_245_102 : xrow 245 102 = some (.getfield 74, 3, 22, 48, 2, 1004) := by decide +kernel
theorem r_245_105 : xrow 245 105 = some (.bipush 100, 2, 0, 0, 0, 0) := by decide +kernel
theorem r_245_107 : xrow 245 107 = some (.aload_n 0, 1, 0, 0, 0, 0) := by decide +kernel
theorem r_245_108 : xrow 245 108 = some (.invokevirtual 421, 3, 215, 0, 0, 1102) := by decide +kernel
theorem r_245_111 : xrow 245 111 = some (.iload 9, 2, 0, 0, 0, 0) := by decide +kernel
theorem r_245_113 : xrow 245 113 = some (.iconst 1, 1, 0, 0, 0, 0) := by decide +kernel
theorem r_245_114 : xrow 245 114 = some (.iadd, 1, 0, 0, 0, 0) := by decide +kernel
theorem r_245_115 : xrow 245 115 = some (.iload_n 1, 1, 0, 0, 0, 0) := by decide +kernel
theorem r_245_116 : xrow 245 116 = some (.invokestatic 368, 3, 212, 0, 0, 1085) := by decide +kernel
theorem r_245_119 : xrow 245 119 = some (.imul, 1, 0, 0, 0, 0) := by decide +kernel
theorem r_245_120 : xrow 245 120 = some (.iadd, 1, 0, 0, 0, 0) := by decide +kernel
theorem r_245_121 : xrow 245 121 = some (.imul, 1, 0, 0, 0, 0) := by decide +kernel
theorem r_245_122 : xrow 245 122 = some (.iload_n 2, 1, 0, 0, 0, 0) := by decide +kernel
theorem r_245_123 : xrow 245 123 = some (.iadd, 1, 0, 0, 0, 0) := by decide +kernel
theorem r_245_124 : xrow 245 124 = some (.laload, 1, 0, 0, 0, 0) := by decide +kernel
theorem r_245_125 : xrow 245 125 = some (.lstore 10, 2, 0, 0, 0, 0) := by decide +kernel
theorem r_245_127 : xrow 245 127 = some (.lload 10, 2, 0, 0, 0, 0) := by decide +kernel
theorem r_245_129 : xrow 245 129 = some (.lload 7, 2, 0, 0, 0, 0) := by decide +kernel
theorem r_245_131 : xrow 245 131 = some (.lcmp, 1, 0, 0, 0, 0) := by decide +kernel
theorem r_245_132 : xrow 245 132 = some (.ifCond .le 8, 3, 140, 0, 0, 0) := by decide +kernel
theorem r_245_135 : xrow 245 135 = some (.lload 10, 2, 0, 0, 0, 0) := by decide +kernel
theorem r_245_137 : xrow 245 137 = some (.goto 5, 3, 142, 0, 0, 0) := by decide +kernel
theorem r_245_140 : xrow 245 140 = some (.lload 7, 2, 0, 0, 0, 0) := by decide +kernel
theorem r_245_142 : xrow 245 142 = some (.lstore 7, 2, 0, 0, 0, 0) := by decide +kernel
theorem r_245_144 : xrow 245 144 = some (.iinc 9 1, 3, 0, 0, 0, 0) := by decide +kernel
theorem r_245_147 : xrow 245 147 = some (.goto (-57), 3, 90, 0, 0, 0) := by decide +kernel
theorem r_245_150 : xrow 245 150 = some (.lload 5, 2, 0, 0, 0, 0) := by decide +kernel
theorem r_245_152 : xrow 245 152 = some (.lload 7, 2, 0, 0, 0, 0) := by decide +kernel
theorem r_245_154 : xrow 245 154 = some (.lsub, 1, 0, 0, 0, 0) := by decide +kernel
theorem r_245_155 : xrow 245 155 = some (.l2i, 1, 0, 0, 0, 0) := by decide +kernel
theorem r_245_156 : xrow 245 156 = some (.ireturn, 1, 0, 0, 0, 0) := by decide +kernel
theorem r_246_0 : xrow 246 0 = some (.sipush 512, 3, 0, 0, 0, 0) := by decide +kernel
theorem r_246_3 : xrow 246 3 = some (.aload_n 0, 1, 0, 0, 0, 0) := by decide +kernel
theorem r_246_4 : xrow 246 4 = some (.getfield 278, 3, 22, 40, 0, 1060) := by decide +kernel
theorem r_246_7 : xrow 246 7 = some (.imul, 1, 0, 0, 0, 0) := by decide +kernel
theorem r_246_8 : xrow 246 8 = some (.iconst 4, 1, 0, 0, 0, 0) := by decide +kernel
theorem r_246_9 : xrow 246 9 = some (.aload_n 0, 1, 0, 0, 0, 0) := by decide +kernel
theorem r_246_10 : xrow 246 10 = some (.getfield 461, 3, 22, 58, 0, 1115) := by decide +kernel
theorem r_246_13 : xrow 246 13 = some (.imul, 1, 0, 0, 0, 0) := by decide +kernel
theorem r_246_14 : xrow 246 14 = some (.iadd, 1, 0, 0, 0, 0) := by decide +kernel
theorem r_246_15 : xrow 246 15 = some (.istore 5, 2, 0, 0, 0, 0) := by decide +kernel
theorem r_246_17 : xrow 246 17 = some (.aload_n 0, 1, 0, 0, 0, 0) := by decide +kernel
theorem r_246_18 : xrow 246 18 = some (.getfield 278, 3, 22, 40, 0, 1060) := by decide +kernel
theorem r_246_21 : xrow 246 21 = some (.bipush 8, 2, 0, 0, 0, 0) := by decide +kernel
theorem r_246_23 : xrow 246 23 = some (.if_icmp .ge 52, 3, 75, 0, 0, 0) := by decide +kernel
theorem r_246_26 : xrow 246 26 = some (.aload_n 0, 1, 0, 0, 0, 0) := by decide +kernel
theorem r_246_27 : xrow 246 27 = some (.getfield 461, 3, 22, 58, 0, 1115) := by decide +kernel
theorem r_246_30 : xrow 246 30 = some (.sipush 128, 3, 0, 0, 0, 0) := by decide +kernel
theorem r_246_33 : xrow 246 33 = some (.if_icmp .ge 42, 3, 75, 0, 0, 0) := by decide +kernel
theorem r_246_36 : xrow 246 36 = some (.aload_n 0, 1, 0, 0, 0, 0) := by decide +kernel
theorem r_246_37 : xrow 246 37 = some (.getfield 91, 3, 22, 56, 2, 1009) := by decide +kernel
theorem r_246_40 : xrow 246 40 = some (.iload 5, 2, 0, 0, 0, 0) := by decide +kernel
theorem r_246_42 : xrow 246 42 = some (.iload_n 1, 1, 0, 0, 0, 0) := by decide +kernel
theorem r_246_43 : xrow 246 43 = some (.iastore, 1, 0, 0, 0, 0) := by decide +kernel
theorem r_246_44 : xrow 246 44 = some (.aload_n 0, 1, 0, 0, 0, 0) := by decide +kernel
theorem r_246_45 : xrow 246 45 = some (.getfield 91, 3, 22, 56, 2, 1009) := by decide +kernel
theorem r_246_48 : xrow 246 48 = some (.iload 5, 2, 0, 0, 0, 0) := by decide +kernel
theorem r_246_50 : xrow 246 50 = some (.iconst 1, 1, 0, 0, 0, 0) := by decide +kernel
theorem r_246_51 : xrow 246 51 = some (.iadd, 1, 0, 0, 0, 0) := by decide +kernel
theorem r_246_52 : xrow 246 52 = some (.iload_n 2, 1, 0, 0, 0, 0) := by decide +kernel
theorem r_246_53 : xrow 246 53 = some (.iastore, 1, 0, 0, 0, 0) := by decide +kernel
theorem r_246_54 : xrow 246 54 = some (.aload_n 0, 1, 0, 0, 0, 0) := by decide +kernel
theorem r_246_55 : xrow 246 55 = some (.getfield 91, 3, 22, 56, 2, 1009) := by decide +kernel
theorem r_246_58 : xrow 246 58 = some (.iload 5, 2, 0, 0, 0, 0) := by decide +kernel
theorem r_246_60 : xrow 246 60 = some (.iconst 2, 1, 0, 0, 0, 0) := by decide +kernel
theorem r_246_61 : xrow 246 61 = some (.iadd, 1, 0, 0, 0, 0) := by decide +kernel
theorem r_246_62 : xrow 246 62 = some (.iload_n 3, 1, 0, 0, 0, 0) := by decide +kernel
theorem r_246_63 : xrow 246 63 = some (.iastore, 1, 0, 0, 0, 0) := by decide +kernel
theorem r_246_64 : xrow 246 64 = some (.aload_n 0, 1, 0, 0, 0, 0) := by decide +kernel
theorem r_246_65 : xrow 246 65 = some (.getfield 91, 3, 22, 56, 2, 1009) := by decide +kernel
theorem r_246_68 : xrow 246 68 = some (.iload 5, 2, 0, 0, 0, 0) := by decide +kernel
theorem r_246_70 : xrow 246 70 = some (.iconst 3, 1, 0, 0, 0, 0) := by decide +kernel
theorem r_246_71 : xrow 246 71 = some (.iadd, 1, 0, 0, 0, 0) := by decide +kernel
theorem r_246_72 : xrow 246 72 = some (.iload 4, 2, 0, 0, 0, 0) := by decide +kernel
theorem r_246_74 : xrow 246 74 = some (.iastore, 1, 0, 0, 0, 0) := by decide +kernel
theorem r_246_75 : xrow 246 75 = some (.aload_n 0, 1, 0, 0, 0, 0) := by decide +kernel
theorem r_246_76 : xrow 246 76 = some (.dup, 1, 0, 0, 0, 0) := by decide +kernel
theorem r_246_77 : xrow 246 77 = some (.getfield 461, 3, 22, 58, 0, 1115) := by decide +kernel
theorem r_246_80 : xrow 246 80 = some (.iconst 1, 1, 0, 0, 0, 0) := by decide +kernel
theorem r_246_81 : xrow 246 81 = some (.iadd, 1, 0, 0, 0, 0) := by decide +kernel
theorem r_246_82 : xrow 246 82 = some (.putfield 461, 3, 22, 58, 0, 1115) := by decide +kernel
theorem r_246_85 : xrow 246 85 = some (.aload_n 0, 1, 0, 0, 0, 0) := by decide +kernel
theorem r_246_86 : xrow 246 86 = some (.getfield 461, 3, 22, 58, 0, 1115) := by decide +kernel
theorem r_246_89 : xrow 246 89 = some (.iconst 1, 1, 0, 0, 0, 0) := by decide +kernel
theorem r_246_90 : xrow 246 90 = some (.isub, 1, 0, 0, 0, 0) := by decide +kernel
theorem r_246_91 : xrow 246 91 = some (.ireturn, 1, 0, 0, 0, 0) := by decide +kernel
theorem r_247_0 : xrow 247 0 = some (.aload_n 0, 1, 0, 0, 0, 0) := by decide +kernel
theorem r_247_1 : xrow 247 1 = some (.getfield 278, 3, 22, 40, 0, 1060) := by decide +kernel
theorem r_247_4 : xrow 247 4 = some (.bipush 8, 2, 0, 0, 0, 0) := by decide +kernel
theorem r_247_6 : xrow 247 6 = some (.if_icmp .ge 26, 3, 32, 0, 0, 0) := by decide +kernel
theorem r_247_9 : xrow 247 9 = some (.aload_n 0, 1, 0, 0, 0, 0) := by decide +kernel
theorem r_247_10 : xrow 247 10 = some (.getfield 91, 3, 22, 56, 2, 1009) := by decide +kernel
theorem r_247_13 : xrow 247 13 = some (.sipush 512, 3, 0, 0, 0, 0) := by decide +kernel
theorem r_247_16 : xrow 247 16 = some (.aload_n 0, 1, 0, 0, 0, 0) := by decide +kernel
theorem r_247_17 : xrow 247 17 = some (.getfield 278, 3, 22, 40, 0, 1060) := by decide +kernel
theorem r_247_20 : xrow 247 20 = some (.imul, 1, 0, 0, 0, 0) := by decide +kernel
theorem r_247_21 : xrow 247 21 = some (.iconst 4, 1, 0, 0, 0, 0) := by decide +kernel
theorem r_247_22 : xrow 247 22 = some (.iload_n 1, 1, 0, 0, 0, 0) := by decide +kernel
theorem r_247_23 : xrow 247 23 = some (.imul, 1, 0, 0, 0, 0) := by decide +kernel
theorem r_247_24 : xrow 247 24 = some (.iadd, 1, 0, 0, 0, 0) := by decide +kernel
theorem r_247_25 : xrow 247 25 = some (.iconst 3, 1, 0, 0, 0, 0) := by decide +kernel
theorem r_247_26 : xrow 247 26 = some (.iadd, 1, 0, 0, 0, 0) := by decide +kernel
theorem r_247_27 : xrow 247 27 = some (.aload_n 0, 1, 0, 0, 0, 0) := by decide +kernel
theorem r_247_28 : xrow 247 28 = some (.getfield 461, 3, 22, 58, 0, 1115) := by decide +kernel
theorem r_247_31 : xrow 247 31 = some (.iastore, 1, 0, 0, 0, 0) := by decide +kernel
theorem r_247_32 : xrow 247 32 = some (.return_, 1, 0, 0, 0, 0) := by decide +kernel
theorem r_248_0 : xrow 248 0 = some (.aload_n 0, 1, 0, 0, 0, 0) := by decide +kernel
theorem r_248_1 : xrow 248 1 = some (.ldc 212, 2, 33, 1, 0, 0) := by decide +kernel
theorem r_248_3 : xrow 248 3 = some (.invokevirtual 192, 3, 175, 0, 0, 1040) := by decide +kernel
theorem r_248_6 : xrow 248 6 = some (.ifCond .eq 7, 3, 13, 0, 0, 0) := by decide +kernel
theorem r_248_9 : xrow 248 9 = some (.iconst 0, 1, 0, 0, 0, 0) := by decide +kernel
theorem r_248_10 : xrow 248 10 = some (.goto 43, 3, 53, 0, 0, 0) := by decide +kernel
theorem r_248_13 : xrow 248 13 = some (.aload_n 0, 1, 0, 0, 0, 0) := by decide +kernel
theorem r_248_14 : xrow 248 14 = some (.ldc 214, 2, 34, 1, 0, 0) := by decide +kernel
theorem r_248_16 : xrow 248 16 = some (.invokevirtual 192, 3, 175, 0, 0, 1040) := by decide +kernel
theorem r_248_19 : xrow 248 19 = some (.ifCond .eq 7, 3, 26, 0, 0, 0) := by decide +kernel
theorem r_248_22 : xrow 248 22 = some (.iconst 1, 1, 0, 0, 0, 0) := by decide +kernel
theorem r_248_23 : xrow 248 23 = some (.goto 30, 3, 53, 0, 0, 0) := by decide +kernel
theorem r_248_26 : xrow 248 26 = some (.aload_n 0, 1, 0, 0, 0, 0) := by decide +kernel
theorem r_248_27 : xrow 248 27 = some (.ldc 216, 2, 35, 1, 0, 0) := by decide +kernel
theorem r_248_29 : xrow 248 29 = some (.invokevirtual 192, 3, 175, 0, 0, 1040) := by decide +kernel
theorem r_248_32 : xrow 248 32 = some (.ifCond .eq 7, 3, 39, 0, 0, 0) := by decide +kernel
theorem r_248_35 : xrow 248 35 = some (.iconst 2, 1, 0, 0, 0, 0) := by decide +kernel
theorem r_248_36 : xrow 248 36 = some (.goto 17, 3, 53, 0, 0, 0) := by decide +kernel
theorem r_248_39 : xrow 248 39 = some (.aload_n 0, 1, 0, 0, 0, 0) := by decide +kernel
theorem r_248_40 : xrow 248 40 = some (.ldc 218, 2, 36, 1, 0, 0) := by decide +kernel
theorem r_248_42 : xrow 248 42 = some (.invokevirtual 192, 3, 175, 0, 0, 1040) := by decide +kernel
theorem r_248_45 : xrow 248 45 = some (.ifCond .eq 7, 3, 52, 0, 0, 0) := by decide +kernel
theorem r_248_48 : xrow 248 48 = some (.iconst 3, 1, 0, 0, 0, 0) := by decide +kernel
theorem r_248_49 : xrow 248 49 = some (.goto 4, 3, 53, 0, 0, 0) := by decide +kernel
theorem r_248_52 : xrow 248 52 = some (.iconst (-1), 1, 0, 0, 0, 0) := by decide +kernel
theorem r_248_53 : xrow 248 53 = some (.ireturn, 1, 0, 0, 0, 0) := by decide +kernel
theorem r_249_0 : xrow 249 0 = some (.aload_n 0, 1, 0, 0, 0, 0) := by decide +kernel
theorem r_249_1 : xrow 249 1 = some (.invokevirtual 464, 3, 248, 0, 0, 1116) := by decide +kernel
theorem r_249_4 : xrow 249 4 = some (.istore_n 2, 1, 0, 0, 0, 0) := by decide +kernel
theorem r_249_5 : xrow 249 5 = some (.aload_n 0, 1, 0, 0, 0, 0) := by decide +kernel
theorem r_249_6 : xrow 249 6 = some (.ldc 206, 2, 30, 1, 0, 0) := by decide +kernel
theorem r_249_8 : xrow 249 8 = some (.invokevirtual 192, 3, 175, 0, 0, 1040) := by decide +kernel
theorem r_249_11 : xrow 249 11 = some (.istore_n 3, 1, 0, 0, 0, 0) := by decide +kernel
theorem r_249_12 : xrow 249 12 = some (.iload_n 2, 1, 0, 0, 0, 0) := by decide +kernel
theorem r_249_13 : xrow 249 13 = some (.ifCond .ge 17, 3, 30, 0, 0, 0) := by decide +kernel
theorem r_249_16 : xrow 249 16 = some (.iload_n 3, 1, 0, 0, 0, 0) := by decide +kernel
theorem r_249_17 : xrow 249 17 = some (.ifCond .ne 13, 3, 30, 0, 0, 0) := by decide +kernel
theorem r_249_20 : xrow 249 20 = some (.aload_n 0, 1, 0, 0, 0, 0) := by decide +kernel
theorem r_249_21 : xrow 249 21 = some (.iconst 1, 1, 0, 0, 0, 0) := by decide +kernel
theorem r_249_22 : xrow 249 22 = some (.aload_n 0, 1, 0, 0, 0, 0) := by decide +kernel
theorem r_249_23 : xrow 249 23 = some (.getfield 150, 3, 22, 4, 0, 1028) := by decide +kernel
theorem r_249_26 : xrow 249 26 = some (.invokevirtual 196, 3, 174, 0, 0, 1041) := by decide +kernel
theorem r_249_29 : xrow 249 29 = some (.ireturn, 1, 1, 0, 0, 0) := by decide +kernel
theorem r_249_30 : xrow 249 30 = some (.aload_n 0, 1, 0, 0, 0, 0) := by decide +kernel
theorem r_249_31 : xrow 249 31 = some (.getfield 467, 3, 22, 59, 0, 1117) := by decide +kernel
theorem r_249_34 : xrow 249 34 = some (.bipush 40, 2, 0, 0, 0, 0) := by decide +kernel
theorem r_249_36 : xrow 249 36 = some (.if_icmp .ne 13, 3, 49, 0, 0, 0) := by decide +kernel
theorem r_249_39 : xrow 249 39 = some (.aload_n 0, 1, 0, 0, 0, 0) := by decide +kernel
theorem r_249_40 : xrow 249 40 = some (.iconst 5, 1, 0, 0, 0, 0) := by decide +kernel
theorem r_249_41 : xrow 249 41 = some (.aload_n 0, 1, 0, 0, 0, 0) := by decide +kernel
theorem r_249_42 : xrow 249 42 = some (.getfield 150, 3, 22, 4, 0, 1028) := by decide +kernel
theorem r_249_45 : xrow 249 45 = some (.invokevirtual 196, 3, 174, 0, 0, 1041) := by decide +kernel
theorem r_249_48 : xrow 249 48 = some (.ireturn, 1, 1, 0, 0, 0) := by decide +kernel
theorem r_249_49 : xrow 249 49 = some (.aload_n 0, 1, 0, 0, 0, 0) := by decide +kernel
theorem r_249_50 : xrow 249 50 = some (.dup, 1, 0, 0, 0, 0) := by decide +kernel
theorem r_249_51 : xrow 249 51 = some (.getfield 467, 3, 22, 59, 0, 1117) := by decide +kernel
theorem r_249_54 : xrow 249 54 = some (.iconst 1, 1, 0, 0, 0, 0) := by decide +kernel
theorem r_249_55 : xrow 249 55 = some (.iadd, 1, 0, 0, 0, 0) := by decide +kernel
theorem r_249_56 : xrow 249 56 = some (.putfield 467, 3, 22, 59, 0, 1117) := by decide +kernel
theorem r_249_59 : xrow 249 59 = some (.aload_n 0, 1, 0, 0, 0, 0) := by decide +kernel
theorem r_249_60 : xrow 249 60 = some (.invokevirtual 173, 3, 172, 0, 0, 1035) := by decide +kernel
theorem r_249_63 : xrow 249 63 = some (.iload_n 3, 1, 0, 0, 0, 0) := by decide +kernel
theorem r_249_64 : xrow 249 64 = some (.ifCond .ne 35, 3, 99, 0, 0, 0) := by decide +kernel
theorem r_249_67 : xrow 249 67 = some (.iconst 1, 1, 0, 0, 0, 0) := by decide +kernel
theorem r_249_68 : xrow 249 68 = some (.istore 4, 2, 0, 0, 0, 0) := by decide +kernel
theorem r_249_70 : xrow 249 70 = some (.aload_n 0, 1, 0, 0, 0, 0) := by decide +kernel
theorem r_249_71 : xrow 249 71 = some (.getfield 159, 3, 22, 6, 0, 1031) := by decide +kernel
theorem r_249_74 : xrow 249 74 = some (.iconst 3, 1, 0, 0, 0, 0) := by decide +kernel
theorem r_249_75 : xrow 249 75 = some (.if_icmp .ne 12, 3, 87, 0, 0, 0) := by decide +kernel
theorem r_249_78 : xrow 249 78 = some (.aload_n 0, 1, 0, 0, 0, 0) := by decide +kernel
theorem r_249_79 : xrow 249 79 = some (.iconst 1, 1, 0, 0, 0, 0) := by decide +kernel
theorem r_249_80 : xrow 249 80 = some (.bipush 9, 2, 0, 0, 0, 0) := by decide +kernel
theorem r_249_82 : xrow 249 82 = some (.invokevirtual 297, 3, 179, 0, 0, 1066) := by decide +kernel
theorem r_249_85 : xrow 249 85 = some (.istore 4, 2, 0, 0, 0, 0) := by decide +kernel
theorem r_249_87 : xrow 249 87 = some (.aload_n 0, 1, 0, 0, 0, 0) := by decide +kernel
theorem r_249_88 : xrow 249 88 = some (.iconst 0, 1, 0, 0, 0, 0) := by decide +kernel
theorem r_249_89 : xrow 249 89 = some (.iload_n 2, 1, 0, 0, 0, 0) := by decide +kernel
theorem r_249_90 : xrow 249 90 = some (.iload 4, 2, 0, 0, 0, 0) := by decide +kernel
theorem r_249_92 : xrow 249 92 = some (.iconst 0, 1, 0, 0, 0, 0) := by decide +kernel
theorem r_249_93 : xrow 249 93 = some (.invokevirtual 470, 3, 246, 0, 0, 1118) := by decide +kernel
theorem r_249_96 : xrow 249 96 = some (.pop, 1, 0, 0, 0, 0) := by decide +kernel
theorem r_249_97 : xrow 249 97 = some (.iconst 0, 1, 0, 0, 0, 0) := by decide +kernel
theorem r_249_98 : xrow 249 98 = some (.ireturn, 1, 1, 0, 0, 0) := by decide +kernel
theorem r_249_99 : xrow 249 99 = some (.aload_n 0, 1, 0, 0, 0, 0) := by decide +kernel
theorem r_249_100 : xrow 249 100 = some (.getfield 159, 3, 22, 6, 0, 1031) := by decide +kernel
theorem r_249_103 : xrow 249 103 = some (.iconst 3, 1, 0, 0, 0, 0) := by decide +kernel
theorem r_249_104 : xrow 249 104 = some (.if_icmp .eq 13, 3, 117, 0, 0, 0) := by decide +kernel
theorem r_249_107 : xrow 249 107 = some (.aload_n 0, 1, 0, 0, 0, 0) := by decide +kernel
theorem r_249_108 : xrow 249 108 = some (.iconst 1, 1, 0, 0, 0, 0) := by decide +kernel
theorem r_249_109 : xrow 249 109 = some (.aload_n 0, 1, 0, 0, 0, 0) := by decide +kernel
theorem r_249_110 : xrow 249 110 = some (.getfield 150, 3, 22, 4, 0, 1028) := by decide +kernel
theorem r_249_113 : xrow 249 113 = some (.invokevirtual 196, 3, 174, 0, 0, 1041) := by decide +kernel
theorem r_249_116 : xrow 249 116 = some (.ireturn, 1, 1, 0, 0, 0) := by decide +kernel
theorem r_249_117 : xrow 249 117 = some (.aload_n 0, 1, 0, 0, 0, 0) := by decide +kernel
theorem r_249_118 : xrow 249 118 = some (.getfield 156, 3, 22, 7, 0, 1030) := by decide +kernel
theorem r_249_121 : xrow 249 121 = some (.istore 4, 2, 0, 0, 0, 0) := by decide +kernel
theorem r_249_123 : xrow 249 123 = some (.iload 4, 2, 0, 0, 0, 0) := by decide +kernel
theorem r_249_125 : xrow 249 125 = some (.aload_n 0, 1, 0, 0, 0, 0) := by decide +kernel
theorem r_249_126 : xrow 249 126 = some (.getfield 281, 3, 22, 37, 0, 1061) := by decide +kernel
theorem r_249_129 : xrow 249 129 = some (.if_icmp .lt 13, 3, 142, 0, 0, 0) := by decide +kernel
theorem r_249_132 : xrow 249 132 = some (.aload_n 0, 1, 0, 0, 0, 0) := by decide +kernel
theorem r_249_133 : xrow 249 133 = some (.iconst 2, 1, 0, 0, 0, 0) := by decide +kernel
theorem r_249_134 : xrow 249 134 = some (.aload_n 0, 1, 0, 0, 0, 0) := by decide +kernel
theorem r_249_135 : xrow 249 135 = some (.getfield 150, 3, 22, 4, 0, 1028) := by decide +kernel
theorem r_249_138 : xrow 249 138 = some (.invokevirtual 196, 3, 174, 0, 0, 1041) := by decide +kernel
theorem r_249_141 : xrow 249 141 = some (.ireturn, 1, 1, 0, 0, 0) := by decide +kernel
theorem r_249_142 : xrow 249 142 = some (.aload_n 0, 1, 0, 0, 0, 0) := by decide +kernel
theorem r_249_143 : xrow 249 143 = some (.invokevirtual 173, 3, 172, 0, 0, 1035) := by decide +kernel
theorem r_249_146 : xrow 249 146 = some (.aload_n 0, 1, 0, 0, 0, 0) := by decide +kernel
theorem r_249_147 : xrow 249 147 = some (.ldc 208, 2, 31, 1, 0, 0) := by decide +kernel
theorem r_249_149 : xrow 249 149 = some (.invokevirtual 294, 3, 176, 0, 0, 1065) := by decide +kernel
theorem r_249_152 : xrow 249 152 = some (.pop, 1, 0, 0, 0, 0) := by decide +kernel
theorem r_249_153 : xrow 249 153 = some (.aload_n 0, 1, 0, 0, 0, 0) := by decide +kernel
theorem r_249_154 : xrow 249 154 = some (.getfield 169, 3, 22, 13, 0, 1034) := by decide +kernel
theorem r_249_157 : xrow 249 157 = some (.ifCond .eq 5, 3, 162, 0, 0, 0) := by decide +kernel
theorem r_249_160 : xrow 249 160 = some (.iconst 0, 1, 0, 0, 0, 0) := by decide +kernel
theorem r_249_161 : xrow 249 161 = some (.ireturn, 1, 1, 0, 0, 0) := by decide +kernel
theorem r_249_162 : xrow 249 162 = some (.aload_n 0, 1, 0, 0, 0, 0) := by decide +kernel
theorem r_249_163 : xrow 249 163 = some (.invokevirtual 308, 3, 177, 0, 0, 1068) := by decide +kernel
theorem r_249_166 : xrow 249 166 = some (.ifCond .ne 13, 3, 179, 0, 0, 0) := by decide +kernel
theorem r_249_169 : xrow 249 169 = some (.aload_n 0, 1, 0, 0, 0, 0) := by decide +kernel
theorem r_249_170 : xrow 249 170 = some (.iconst 1, 1, 0, 0, 0, 0) := by decide +kernel
theorem r_249_171 : xrow 249 171 = some (.aload_n 0, 1, 0, 0, 0, 0) := by decide +kernel
theorem r_249_172 : xrow 249 172 = some (.getfield 150, 3, 22, 4, 0, 1028) := by decide +kernel
theorem r_249_175 : xrow 249 175 = some (.invokevirtual 196, 3, 174, 0, 0, 1041) := by decide +kernel
theorem r_249_178 : xrow 249 178 = some (.ireturn, 1, 1, 0, 0, 0) := by decide +kernel
theorem r_249_179 : xrow 249 179 = some (.aload_n 0, 1, 0, 0, 0, 0) := by decide +kernel
theorem r_249_180 : xrow 249 180 = some (.aload_n 0, 1, 0, 0, 0, 0) := by decide +kernel
theorem r_249_181 : xrow 249 181 = some (.getfield 16, 3, 22, 14, 2, 984) := by decide +kernel
theorem r_249_184 : xrow 249 184 = some (.aload_n 0, 1, 0, 0, 0, 0) := by decide +kernel
theorem r_249_185 : xrow 249 185 = some (.getfield 19, 3, 22, 15, 2, 985) := by decide +kernel
theorem r_249_188 : xrow 249 188 = some (.aload_n 0, 1, 0, 0, 0, 0) := by decide +kernel
theorem r_249_189 : xrow 249 189 = some (.getfield 228, 3, 22, 22, 0, 1044) := by decide +kernel
theorem r_249_192 : xrow 249 192 = some (.invokevirtual 312, 3, 178, 0, 0, 1069) := by decide +kernel
theorem r_249_195 : xrow 249 195 = some (.istore 5, 2, 0, 0, 0, 0) := by decide +kernel
theorem r_249_197 : xrow 249 197 = some (.iload 5, 2, 0, 0, 0, 0) := by decide +kernel
theorem r_249_199 : xrow 249 199 = some (.ifCond .ge 13, 3, 212, 0, 0, 0) := by decide +kernel
theorem r_249_202 : xrow 249 202 = some (.aload_n 0, 1, 0, 0, 0, 0) := by decide +kernel
theorem r_249_203 : xrow 249 203 = some (.iconst 2, 1, 0, 0, 0, 0) := by decide +kernel
theorem r_249_204 : xrow 249 204 = some (.aload_n 0, 1, 0, 0, 0, 0) := by decide +kernel
theorem r_249_205 : xrow 249 205 = some (.getfield 150, 3, 22, 4, 0, 1028) := by decide +kernel
theorem r_249_208 : xrow 249 208 = some (.invokevirtual 196, 3, 174, 0, 0, 1041) := by decide +kernel
theorem r_249_211 : xrow 249 211 = some (.ireturn, 1, 1, 0, 0, 0) := by decide +kernel
theorem r_249_212 : xrow 249 212 = some (.aload_n 0, 1, 0, 0, 0, 0) := by decide +kernel
theorem r_249_213 : xrow 249 213 = some (.invokevirtual 173, 3, 172, 0, 0, 1035) := by decide +kernel
theorem r_249_216 : xrow 249 216 = some (.aload_n 0, 1, 0, 0, 0, 0) := by decide +kernel
theorem r_249_217 : xrow 249 217 = some (.getfield 159, 3, 22, 6, 0, 1031) := by decide +kernel
theorem r_249_220 : xrow 249 220 = some (.bipush 40, 2, 0, 0, 0, 0) := by decide +kernel
theorem r_249_222 : xrow 249 222 = some (.if_icmp .eq 13, 3, 235, 0, 0, 0) := by decide +kernel
theorem r_249_225 : xrow 249 225 = some (.aload_n 0, 1, 0, 0, 0, 0) := by decide +kernel
theorem r_249_226 : xrow 249 226 = some (.iconst 1, 1, 0, 0, 0, 0) := by decide +kernel
theorem r_249_227 : xrow 249 227 = some (.aload_n 0, 1, 0, 0, 0, 0) := by decide +kernel
theorem r_249_228 : xrow 249 228 = some (.getfield 150, 3, 22, 4, 0, 1028) := by decide +kernel
theorem r_249_231 : xrow 249 231 = some (.invokevirtual 196, 3, 174, 0, 0, 1041) := by decide +kernel
theorem r_249_234 : xrow 249 234 = some (.ireturn, 1, 1, 0, 0, 0) := by decide +kernel
theorem r_249_235 : xrow 249 235 = some (.iload_n 1, 1, 0, 0, 0, 0) := by decide +kernel
theorem r_249_236 : xrow 249 236 = some (.bipush 6, 2, 0, 0, 0, 0) := by decide +kernel
theorem r_249_238 : xrow 249 238 = some (.if_icmp .ne 13, 3, 251, 0, 0, 0) := by decide +kernel
theorem r_249_241 : xrow 249 241 = some (.aload_n 0, 1, 0, 0, 0, 0) := by decide +kernel
theorem r_249_242 : xrow 249 242 = some (.iconst 5, 1, 0, 0, 0, 0) := by decide +kernel
theorem r_249_243 : xrow 249 243 = some (.aload_n 0, 1, 0, 0, 0, 0) := by decide +kernel
theorem r_249_244 : xrow 249 244 = some (.getfield 150, 3, 22, 4, 0, 1028) := by decide +kernel
theorem r_249_247 : xrow 249 247 = some (.invokevirtual 196, 3, 174, 0, 0, 1041) := by decide +kernel
theorem r_249_250 : xrow 249 250 = some (.ireturn, 1, 1, 0, 0, 0) := by decide +kernel
theorem r_249_251 : xrow 249 251 = some (.aload_n 0, 1, 0, 0, 0, 0) := by decide +kernel
theorem r_249_252 : xrow 249 252 = some (.invokevirtual 173, 3, 172, 0, 0, 1035) := by decide +kernel
theorem r_249_255 : xrow 249 255 = some (.aload_n 0, 1, 0, 0, 0, 0) := by decide +kernel
theorem r_249_256 : xrow 249 256 = some (.getfield 97, 3, 22, 60, 2, 1011) := by decide +kernel
theorem r_249_259 : xrow 249 259 = some (.iload_n 1, 1, 0, 0, 0, 0) := by decide +kernel
theorem r_249_260 : xrow 249 260 = some (.aload_n 0, 1, 0, 0, 0, 0) := by decide +kernel
theorem r_249_261 : xrow 249 261 = some (.iconst 1, 1, 0, 0, 0, 0) := by decide +kernel
theorem r_249_262 : xrow 249 262 = some (.iload 4, 2, 0, 0, 0, 0) := by decide +kernel
theorem r_249_264 : xrow 249 264 = some (.iload 5, 2, 0, 0, 0, 0) := by decide +kernel
theorem r_249_266 : xrow 249 266 = some (.iconst 0, 1, 0, 0, 0, 0) := by decide +kernel
theorem r_249_267 : xrow 249 267 = some (.invokevirtual 470, 3, 246, 0, 0, 1118) := by decide +kernel
theorem r_249_270 : xrow 249 270 = some (.iastore, 1, 0, 0, 0, 0) := by decide +kernel
theorem r_249_271 : xrow 249 271 = some (.aload_n 0, 1, 0, 0, 0, 0) := by decide +kernel
theorem r_249_272 : xrow 249 272 = some (.getfield 103, 3, 22, 62, 2, 1013) := by decide +kernel
theorem r_249_275 : xrow 249 275 = some (.iload_n 1, 1, 0, 0, 0, 0) := by decide +kernel
theorem r_249_276 : xrow 249 276 = some (.iconst 0, 1, 0, 0, 0, 0) := by decide +kernel
theorem r_249_277 : xrow 249 277 = some (.bastore, 1, 0, 0, 0, 0) := by decide +kernel
theorem r_249_278 : xrow 249 278 = some (.iconst 1, 1, 0, 0, 0, 0) := by decide +kernel
theorem r_249_279 : xrow 249 279 = some (.ireturn, 1, 1, 0, 0, 0) := by decide +kernel
theorem r_250_0 : xrow 250 0 = some (.iconst 0, 1, 0, 0, 0, 0) := by decide +kernel
theorem r_250_1 : xrow 250 1 = some (.istore_n 1, 1, 0, 0, 0, 0) := by decide +kernel
theorem r_250_2 : xrow 250 2 = some (.iconst 1, 1, 0, 0, 0, 0) := by decide +kernel
theorem r_250_3 : xrow 250 3 = some (.istore_n 2, 1, 0, 0, 0, 0) := by decide +kernel
theorem r_250_4 : xrow 250 4 = some (.iload_n 2, 1, 0, 0, 0, 0) := by decide +kernel
theorem r_250_5 : xrow 250 5 = some (.ifCond .eq 218, 3, 223, 0, 0, 0) := by decide +kernel
theorem r_250_8 : xrow 250 8 = some (.aload_n 0, 1, 0, 0, 0, 0) := by decide +kernel
theorem r_250_9 : xrow 250 9 = some (.iload_n 1, 1, 0, 0, 0, 0) := by decide +kernel
theorem r_250_10 : xrow 250 10 = some (.invokevirtual 474, 3, 249, 0, 0, 1119) := by decide +kernel
theorem r_250_13 : xrow 250 13 = some (.istore_n 3, 1, 0, 0, 0, 0) := by decide +kernel
theorem r_250_14 : xrow 250 14 = some (.aload_n 0, 1, 0, 0, 0, 0) := by decide +kernel
theorem r_250_15 : xrow 250 15 = some (.getfield 169, 3, 22, 13, 0, 1034) := by decide +kernel
theorem r_250_18 : xrow 250 18 = some (.ifCond .eq 4, 3, 22, 0, 0, 0) := by decide +kernel
theorem r_250_21 : xrow 250 21 = some (.return_, 1, 0, 0, 0, 0) := by decide +kernel
theorem r_250_22 : xrow 250 22 = some (.iload_n 3, 1, 0, 0, 0, 0) := by decide +kernel
theorem r_250_23 : xrow 250 23 = some (.ifCond .eq 9, 3, 32, 0, 0, 0) := by decide +kernel
theorem r_250_26 : xrow 250 26 = some (.iinc 1 1, 3, 0, 0, 0, 0) := by decide +kernel
theorem r_250_29 : xrow 250 29 = some (.goto (-25), 3, 4, 0, 0, 0) := by decide +kernel
theorem r_250_32 : xrow 250 32 = some (.iconst 1, 1, 0, 0, 0, 0) := by decide +kernel
theorem r_250_33 : xrow 250 33 = some (.istore 4, 2, 0, 0, 0, 0) := by decide +kernel
theorem r_250_35 : xrow 250 35 = some (.iload 4, 2, 0, 0, 0, 0) := by decide +kernel
theorem r_250_37 : xrow 250 37 = some (.ifCond .eq 152, 3, 189, 0, 0, 0) := by decide +kernel
theorem r_250_40 : xrow 250 40 = some (.iload_n 1, 1, 0, 0, 0, 0) := by decide +kernel
theorem r_250_41 : xrow 250 41 = some (.ifCond .le 148, 3, 189, 0, 0, 0) := by decide +kernel
theorem r_250_44 : xrow 250 44 = some (.aload_n 0, 1, 0, 0, 0, 0) := by decide +kernel
theorem r_250_45 : xrow 250 45 = some (.getfield 159, 3, 22, 6, 0, 1031) := by decide +kernel
theorem r_250_48 : xrow 250 48 = some (.bipush 41, 2, 0, 0, 0, 0) := by decide +kernel
theorem r_250_50 : xrow 250 50 = some (.if_icmp .ne 139, 3, 189, 0, 0, 0) := by decide +kernel
theorem r_250_53 : xrow 250 53 = some (.aload_n 0, 1, 0, 0, 0, 0) := by decide +kernel
theorem r_250_54 : xrow 250 54 = some (.invokevirtual 173, 3, 172, 0, 0, 1035) := by decide +kernel
theorem r_250_57 : xrow 250 57 = some (.iinc 1 (-1), 3, 0, 0, 0, 0) := by decide +kernel
theorem r_250_60 : xrow 250 60 = some (.aload_n 0, 1, 0, 0, 0, 0) := by decide +kernel
theorem r_250_61 : xrow 250 61 = some (.getfield 103, 3, 22, 62, 2, 1013) := by decide +kernel
theorem r_250_64 : xrow 250 64 = some (.iload_n 1, 1, 0, 0, 0, 0) := by decide +kernel
theorem r_250_65 : xrow 250 65 = some (.baload, 1, 0, 0, 0, 0) := by decide +kernel
theorem r_250_66 : xrow 250 66 = some (.ifCond .ne 16, 3, 82, 0, 0, 0) := by decide +kernel
theorem r_250_69 : xrow 250 69 = some (.aload_n 0, 1, 0, 0, 0, 0) := by decide +kernel
theorem r_250_70 : xrow 250 70 = some (.ldc 210, 2, 32, 1, 0, 0) := by decide +kernel
theorem r_250_72 : xrow 250 72 = some (.invokevirtual 192, 3, 175, 0, 0, 1040) := by decide +kernel
theorem r_250_75 : xrow 250 75 = some (.ifCond .eq 7, 3, 82, 0, 0, 0) := by decide +kernel
theorem r_250_78 : xrow 250 78 = some (.iconst 1, 1, 0, 0, 0, 0) := by decide +kernel
theorem r_250_79 : xrow 250 79 = some (.goto 4, 3, 83, 0, 0, 0) := by decide +kernel
theorem r_250_82 : xrow 250 82 = some (.iconst 0, 1, 0, 0, 0, 0) := by decide +kernel
theorem r_250_83 : xrow 250 83 = some (.istore 5, 2, 0, 0, 0, 0) := by decide +kernel
theorem r_250_85 : xrow 250 85 = some (.iload 5, 2, 0, 0, 0, 0) := by decide +kernel
theorem r_250_87 : xrow 250 87 = some (.ifCond .eq 71, 3, 158, 0, 0, 0) := by decide +kernel
theorem r_250_90 : xrow 250 90 = some (.aload_n 0, 1, 0, 0, 0, 0) := by decide +kernel
theorem r_250_91 : xrow 250 91 = some (.invokevirtual 173, 3, 172, 0, 0, 1035) := by decide +kernel
theorem r_250_94 : xrow 250 94 = some (.aload_n 0, 1, 0, 0, 0, 0) := by decide +kernel
theorem r_250_95 : xrow 250 95 = some (.getfield 159, 3, 22, 6, 0, 1031) := by decide +kernel
theorem r_250_98 : xrow 250 98 = some (.bipush 40, 2, 0, 0, 0, 0) := by decide +kernel
theorem r_250_100 : xrow 250 100 = some (.if_icmp .eq 14, 3, 114, 0, 0, 0) := by decide +kernel
theorem r_250_103 : xrow 250 103 = some (.aload_n 0, 1, 0, 0, 0, 0) := by decide +kernel
theorem r_250_104 : xrow 250 104 = some (.iconst 1, 1, 0, 0, 0, 0) := by decide +kernel
theorem r_250_105 : xrow 250 105 = some (.aload_n 0, 1, 0, 0, 0, 0) := by decide +kernel
theorem r_250_106 : xrow 250 106 = some (.getfield 150, 3, 22, 4, 0, 1028) := by decide +kernel
theorem r_250_109 : xrow 250 109 = some (.invokevirtual 196, 3, 174, 0, 0, 1041) := by decide +kernel
theorem r_250_112 : xrow 250 112 = some (.pop, 1, 0, 0, 0, 0) := by decide +kernel
theorem r_250_113 : xrow 250 113 = some (.return_, 1, 0, 0, 0, 0) := by decide +kernel
theorem r_250_114 : xrow 250 114 = some (.aload_n 0, 1, 0, 0, 0, 0) := by decide +kernel
theorem r_250_115 : xrow 250 115 = some (.invokevirtual 173, 3, 172, 0, 0, 1035) := by decide +kernel
theorem r_250_118 : xrow 250 118 = some (.aload_n 0, 1, 0, 0, 0, 0) := by decide +kernel
theorem r_250_119 : xrow 250 119 = some (.getfield 100, 3, 22, 61, 2, 1012) := by decide +kernel
theorem r_250_122 : xrow 250 122 = some (.iload_n 1, 1, 0, 0, 0, 0) := by decide +kernel
theorem r_250_123 : xrow 250 123 = some (.aload_n 0, 1, 0, 0, 0, 0) := by decide +kernel
theorem r_250_124 : xrow 250 124 = some (.iconst 2, 1, 0, 0, 0, 0) := by decide +kernel
theorem r_250_125 : xrow 250 125 = some (.iconst 0, 1, 0, 0, 0, 0) := by decide +kernel
theorem r_250_126 : xrow 250 126 = some (.iconst 0, 1, 0, 0, 0, 0) := by decide +kernel
theorem r_250_127 : xrow 250 127 = some (.iconst 0, 1, 0, 0, 0, 0) := by decide +kernel
theorem r_250_128 : xrow 250 128 = some (.invokevirtual 470, 3, 246, 0, 0, 1118) := by decide +kernel
theorem r_250_131 : xrow 250 131 = some (.iastore, 1, 0, 0, 0, 0) := by decide +kernel
theorem r_250_132 : xrow 250 132 = some (.aload_n 0, 1, 0, 0, 0, 0) := by decide +kernel
theorem r_250_133 : xrow 250 133 = some (.aload_n 0, 1, 0, 0, 0, 0) := by decide +kernel
theorem r_250_134 : xrow 250 134 = some (.getfield 97, 3, 22, 60, 2, 1011) := by decide +kernel
theorem r_250_137 : xrow 250 137 = some (.iload_n 1, 1, 0, 0, 0, 0) := by decide +kernel
theorem r_250_138 : xrow 250 138 = some (.iaload, 1, 0, 0, 0, 0) := by decide +kernel
theorem r_250_139 : xrow 250 139 = some (.invokevirtual 477, 3, 247, 0, 0, 1120) := by decide +kernel
theorem r_250_142 : xrow 250 142 = some (.aload_n 0, 1, 0, 0, 0, 0) := by decide +kernel
theorem r_250_143 : xrow 250 143 = some (.getfield 103, 3, 22, 62, 2, 1013) := by decide +kernel
theorem r_250_146 : xrow 250 146 = some (.iload_n 1, 1, 0, 0, 0, 0) := by decide +kernel
theorem r_250_147 : xrow 250 147 = some (.iconst 1, 1, 0, 0, 0, 0) := by decide +kernel
theorem r_250_148 : xrow 250 148 = some (.bastore, 1, 0, 0, 0, 0) := by decide +kernel
theorem r_250_149 : xrow 250 149 = some (.iinc 1 1, 3, 0, 0, 0, 0) := by decide +kernel
theorem r_250_152 : xrow 250 152 = some (.iconst 0, 1, 0, 0, 0, 0) := by decide +kernel
theorem r_250_153 : xrow 250 153 = some (.istore 4, 2, 0, 0, 0, 0) := by decide +kernel
theorem r_250_155 : xrow 250 155 = some (.goto 31, 3, 186, 0, 0, 0) := by decide +kernel
theorem r_250_158 : xrow 250 158 = some (.aload_n 0, 1, 0, 0, 0, 0) := by decide +kernel
theorem r_250_159 : xrow 250 159 = some (.aload_n 0, 1, 0, 0, 0, 0) := by decide +kernel
theorem r_250_160 : xrow 250 160 = some (.getfield 103, 3, 22, 62, 2, 1013) := by decide +kernel
theorem r_250_163 : xrow 250 163 = some (.iload_n 1, 1, 0, 0, 0, 0) := by decide +kernel
theorem r_250_164 : xrow 250 164 = some (.baload, 1, 0, 0, 0, 0) := by decide +kernel
theorem r_250_165 : xrow 250 165 = some (.ifCond .eq 12, 3, 177, 0, 0, 0) := by decide +kernel
theorem r_250_168 : xrow 250 168 = some (.aload_n 0, 1, 0, 0, 0, 0) := by decide +kernel
theorem r_250_169 : xrow 250 169 = some (.getfield 100, 3, 22, 61, 2, 1012) := by decide +kernel
theorem r_250_172 : xrow 250 172 = some (.iload_n 1, 1, 0, 0, 0, 0) := by decide +kernel
theorem r_250_173 : xrow 250 173 = some (.iaload, 1, 0, 0, 0, 0) := by decide +kernel
theorem r_250_174 : xrow 250 174 = some (.goto 9, 3, 183, 0, 0, 0) := by decide +kernel
theorem r_250_177 : xrow 250 177 = some (.aload_n 0, 1, 0, 0, 0, 0) := by decide +kernel
theorem r_250_178 : xrow 250 178 = some (.getfield 97, 3, 22, 60, 2, 1011) := by decide +kernel
theorem r_250_181 : xrow 250 181 = some (.iload_n 1, 1, 0, 0, 0, 0) := by decide +kernel
theorem r_250_182 : xrow 250 182 = some (.iaload, 1, 0, 0, 0, 0) := by decide +kernel
theorem r_250_183 : xrow 250 183 = some (.invokevirtual 477, 3, 247, 0, 0, 1120) := by decide +kernel
theorem r_250_186 : xrow 250 186 = some (.goto (-151), 3, 35, 0, 0, 0) := by decide +kernel
theorem r_250_189 : xrow 250 189 = some (.iload 4, 2, 0, 0, 0, 0) := by decide +kernel
theorem r_250_191 : xrow 250 191 = some (.ifCond .ne 6, 3, 197, 0, 0, 0) := by decide +kernel
theorem r_250_194 : xrow 250 194 = some (.goto (-190), 3, 4, 0, 0, 0) := by decide +kernel
theorem r_250_197 : xrow 250 197 = some (.aload_n 0, 1, 0, 0, 0, 0) := by decide +kernel
theorem r_250_198 : xrow 250 198 = some (.getfield 159, 3, 22, 6, 0, 1031) := by decide +kernel
theorem r_250_201 : xrow 250 201 = some (.bipush 59, 2, 0, 0, 0, 0) := by decide +kernel
theorem r_250_203 : xrow 250 203 = some (.if_icmp .ne 7, 3, 210, 0, 0, 0) := by decide +kernel
theorem r_250_206 : xrow 250 206 = some (.iconst 1, 1, 0, 0, 0, 0) := by decide +kernel
theorem r_250_207 : xrow 250 207 = some (.goto 4, 3, 211, 0, 0, 0) := by decide +kernel
theorem r_250_210 : xrow 250 210 = some (.iconst 0, 1, 0, 0, 0, 0) := by decide +kernel
theorem r_250_211 : xrow 250 211 = some (.istore_n 2, 1, 0, 0, 0, 0) := by decide +kernel
theorem r_250_212 : xrow 250 212 = some (.iload_n 2, 1, 0, 0, 0, 0) := by decide +kernel
theorem r_250_213 : xrow 250 213 = some (.ifCond .eq 7, 3, 220, 0, 0, 0) := by decide +kernel
theorem r_250_216 : xrow 250 216 = some (.aload_n 0, 1, 0, 0, 0, 0) := by decide +kernel
theorem r_250_217 : xrow 250 217 = some (.invokevirtual 173, 3, 172, 0, 0, 1035) := by decide +kernel
theorem r_250_220 : xrow 250 220 = some (.goto (-216), 3, 4, 0, 0, 0) := by decide +kernel
theorem r_250_223 : xrow 250 223 = some (.iload_n 1, 1, 0, 0, 0, 0) := by decide +kernel
theorem r_250_224 : xrow 250 224 = some (.ifCond .gt 10, 3, 234, 0, 0, 0) := by decide +kernel
theorem r_250_227 : xrow 250 227 = some (.aload_n 0, 1, 0, 0, 0, 0) := by decide +kernel
theorem r_250_228 : xrow 250 228 = some (.getfield 159, 3, 22, 6, 0, 1031) := by decide +kernel
theorem r_250_231 : xrow 250 231 = some (.ifCond .eq 13, 3, 244, 0, 0, 0) := by decide +kernel
theorem r_250_234 : xrow 250 234 = some (.aload_n 0, 1, 0, 0, 0, 0) := by decide +kernel
theorem r_250_235 : xrow 250 235 = some (.iconst 1, 1, 0, 0, 0, 0) := by decide +kernel
theorem r_250_236 : xrow 250 236 = some (.aload_n 0, 1, 0, 0, 0, 0) := by decide +kernel
theorem r_250_237 : xrow 250 237 = some (.getfield 150, 3, 22, 4, 0, 1028) := by decide +kernel
theorem r_250_240 : xrow 250 240 = some (.invokevirtual 196, 3, 174, 0, 0, 1041) := by decide +kernel
theorem r_250_243 : xrow 250 243 = some (.pop, 1, 0, 0, 0, 0) := by decide +kernel
theorem r_250_244 : xrow 250 244 = some (.return_, 1, 0, 0, 0, 0) := by decide +kernel
theorem r_251_0 : xrow 251 0 = some (.aload_n 0, 1, 0, 0, 0, 0) := by decide +kernel
theorem r_251_1 : xrow 251 1 = some (.invokevirtual 249, 3, 164, 0, 0, 1051) := by decide +kernel
theorem r_251_4 : xrow 251 4 = some (.aload_n 0, 1, 0, 0, 0, 0) := by decide +kernel
theorem r_251_5 : xrow 251 5 = some (.getfield 275, 3, 22, 34, 0, 1059) := by decide +kernel
theorem r_251_8 : xrow 251 8 = some (.ifCond .ne 9, 3, 17, 0, 0, 0) := by decide +kernel
theorem r_251_11 : xrow 251 11 = some (.aload_n 0, 1, 0, 0, 0, 0) := by decide +kernel
theorem r_251_12 : xrow 251 12 = some (.iconst 1, 1, 0, 0, 0, 0) := by decide +kernel
theorem r_251_13 : xrow 251 13 = some (.invokevirtual 252, 3, 165, 0, 0, 1052) := by decide +kernel
theorem r_251_16 : xrow 251 16 = some (.ireturn, 1, 0, 0, 0, 0) := by decide +kernel
theorem r_251_17 : xrow 251 17 = some (.iload_n 1, 1, 0, 0, 0, 0) := by decide +kernel
theorem r_251_18 : xrow 251 18 = some (.iconst 0, 1, 0, 0, 0, 0) := by decide +kernel
theorem r_251_19 : xrow 251 19 = some (.aload_n 0, 1, 0, 0, 0, 0) := by decide +kernel
theorem r_251_20 : xrow 251 20 = some (.getfield 137, 3, 22, 2, 0, 1024) := by decide +kernel
theorem r_251_23 : xrow 251 23 = some (.invokestatic 220, 3, 167, 0, 0, 1042) := by decide +kernel
theorem r_251_26 : xrow 251 26 = some (.ifCond .ne 9, 3, 35, 0, 0, 0) := by decide +kernel
theorem r_251_29 : xrow 251 29 = some (.aload_n 0, 1, 0, 0, 0, 0) := by decide +kernel
theorem r_251_30 : xrow 251 30 = some (.iconst 2, 1, 0, 0, 0, 0) := by decide +kernel
theorem r_251_31 : xrow 251 31 = some (.invokevirtual 252, 3, 165, 0, 0, 1052) := by decide +kernel
theorem r_251_34 : xrow 251 34 = some (.ireturn, 1, 0, 0, 0, 0) := by decide +kernel
theorem r_251_35 : xrow 251 35 = some (.aload_n 0, 1, 0, 0, 0, 0) := by decide +kernel
theorem r_251_36 : xrow 251 36 = some (.iconst 0, 1, 0, 0, 0, 0) := by decide +kernel
theorem r_251_37 : xrow 251 37 = some (.putfield 137, 3, 22, 2, 0, 1024) := by decide +kernel
theorem r_251_40 : xrow 251 40 = some (.aload_n 0, 1, 0, 0, 0, 0) := by decide +kernel
theorem r_251_41 : xrow 251 41 = some (.iconst 0, 1, 0, 0, 0, 0) := by decide +kernel
theorem r_251_42 : xrow 251 42 = some (.putfield 176, 3, 22, 9, 0, 1036) := by decide +kernel
theorem r_251_45 : xrow 251 45 = some (.aload_n 0, 1, 0, 0, 0, 0) := by decide +kernel
theorem r_251_46 : xrow 251 46 = some (.iconst 0, 1, 0, 0, 0, 0) := by decide +kernel
theorem r_251_47 : xrow 251 47 = some (.putfield 461, 3, 22, 58, 0, 1115) := by decide +kernel
theorem r_251_50 : xrow 251 50 = some (.aload_n 0, 1, 0, 0, 0, 0) := by decide +kernel
theorem r_251_51 : xrow 251 51 = some (.iconst 0, 1, 0, 0, 0, 0) := by decide +kernel
theorem r_251_52 : xrow 251 52 = some (.putfield 467, 3, 22, 59, 0, 1117) := by decide +kernel
theorem r_251_55 : xrow 251 55 = some (.aload_n 0, 1, 0, 0, 0, 0) := by decide +kernel
theorem r_251_56 : xrow 251 56 = some (.iload_n 1, 1, 0, 0, 0, 0) := by decide +kernel
theorem r_251_57 : xrow 251 57 = some (.invokevirtual 262, 3, 173, 0, 0, 1055) := by decide +kernel
theorem r_251_60 : xrow 251 60 = some (.aload_n 0, 1, 0, 0, 0, 0) := by decide +kernel
theorem r_251_61 : xrow 251 61 = some (.invokevirtual 480, 3, 250, 0, 0, 1121) := by decide +kernel
theorem r_251_64 : xrow 251 64 = some (.aload_n 0, 1, 0, 0, 0, 0) := by decide +kernel
theorem r_251_65 : xrow 251 65 = some (.getfield 169, 3, 22, 13, 0, 1034) := by decide +kernel
theorem r_251_68 : xrow 251 68 = some (.ifCond .eq 9, 3, 77, 0, 0, 0) := by decide +kernel
theorem r_251_71 : xrow 251 71 = some (.aload_n 0, 1, 0, 0, 0, 0) := by decide +kernel
theorem r_251_72 : xrow 251 72 = some (.iconst 4, 1, 0, 0, 0, 0) := by decide +kernel
theorem r_251_73 : xrow 251 73 = some (.invokevirtual 252, 3, 165, 0, 0, 1052) := by decide +kernel
theorem r_251_76 : xrow 251 76 = some (.ireturn, 1, 0, 0, 0, 0) := by decide +kernel
theorem r_251_77 : xrow 251 77 = some (.aload_n 0, 1, 0, 0, 0, 0) := by decide +kernel
theorem r_251_78 : xrow 251 78 = some (.getfield 278, 3, 22, 40, 0, 1060) := by decide +kernel
theorem r_251_81 : xrow 251 81 = some (.bipush 8, 2, 0, 0, 0, 0) := by decide +kernel
theorem r_251_83 : xrow 251 83 = some (.if_icmp .ne 9, 3, 92, 0, 0, 0) := by decide +kernel
theorem r_251_86 : xrow 251 86 = some (.aload_n 0, 1, 0, 0, 0, 0) := by decide +kernel
theorem r_251_87 : xrow 251 87 = some (.iconst 3, 1, 0, 0, 0, 0) := by decide +kernel
theorem r_251_88 : xrow 251 88 = some (.invokevirtual 252, 3, 165, 0, 0, 1052) := by decide +kernel
theorem r_251_91 : xrow 251 91 = some (.ireturn, 1, 0, 0, 0, 0) := by decide +kernel
theorem r_251_92 : xrow 251 92 = some (.aload_n 0, 1, 0, 0, 0, 0) := by decide +kernel
theorem r_251_93 : xrow 251 93 = some (.getfield 94, 3, 22, 57, 2, 1010) := by decide +kernel
theorem r_251_96 : xrow 251 96 = some (.aload_n 0, 1, 0, 0, 0, 0) := by decide +kernel
theorem r_251_97 : xrow 251 97 = some (.getfield 278, 3, 22, 40, 0, 1060) := by decide +kernel
theorem r_251_100 : xrow 251 100 = some (.aload_n 0, 1, 0, 0, 0, 0) := by decide +kernel
theorem r_251_101 : xrow 251 101 = some (.getfield 461, 3, 22, 58, 0, 1115) := by decide +kernel
theorem r_251_104 : xrow 251 104 = some (.iastore, 1, 0, 0, 0, 0) := by decide +kernel
theorem r_251_105 : xrow 251 105 = some (.aload_n 0, 1, 0, 0, 0, 0) := by decide +kernel
theorem r_251_106 : xrow 251 106 = some (.dup, 1, 0, 0, 0, 0) := by decide +kernel
theorem r_251_107 : xrow 251 107 = some (.getfield 278, 3, 22, 40, 0, 1060) := by decide +kernel
theorem r_251_110 : xrow 251 110 = some (.iconst 1, 1, 0, 0, 0, 0) := by decide +kernel
theorem r_251_111 : xrow 251 111 = some (.iadd, 1, 0, 0, 0, 0) := by decide +kernel
theorem r_251_112 : xrow 251 112 = some (.putfield 278, 3, 22, 40, 0, 1060) := by decide +kernel
theorem r_251_115 : xrow 251 115 = some (.aload_n 0, 1, 0, 0, 0, 0) := by decide +kernel
theorem r_251_116 : xrow 251 116 = some (.getfield 278, 3, 22, 40, 0, 1060) := by decide +kernel
theorem r_251_119 : xrow 251 119 = some (.iconst 1, 1, 0, 0, 0, 0) := by decide +kernel
theorem r_251_120 : xrow 251 120 = some (.isub, 1, 0, 0, 0, 0) := by decide +kernel
theorem r_251_121 : xrow 251 121 = some (.ireturn, 1, 0, 0, 0, 0) := by decide +kernel
theorem r_252_0 : xrow 252 0 = some (.aload_n 0, 1, 0, 0, 0, 0) := by decide +kernel
theorem r_252_1 : xrow 252 1 = some (.iload 4, 2, 0, 0, 0, 0) := by decide +kernel
theorem r_252_3 : xrow 252 3 = some (.invokevirtual 446, 3, 237, 0, 0, 1110) := by decide +kernel
theorem r_252_6 : xrow 252 6 = some (.istore 5, 2, 0, 0, 0, 0) := by decide +kernel
theorem r_252_8 : xrow 252 8 = some (.iload_n 2, 1, 0, 0, 0, 0) := by decide +kernel
theorem r_252_9 : xrow 252 9 = some (.istore 6, 2, 0, 0, 0, 0) := by decide +kernel
theorem r_252_11 : xrow 252 11 = some (.aload_n 0, 1, 0, 0, 0, 0) := by decide +kernel
theorem r_252_12 : xrow 252 12 = some (.aload_n 0, 1, 0, 0, 0, 0) := by decide +kernel
theorem r_252_13 : xrow 252 13 = some (.invokevirtual 421, 3, 215, 0, 0, 1102) := by decide +kernel
theorem r_252_16 : xrow 252 16 = some (.iload 6, 2, 0, 0, 0, 0) := by decide +kernel
theorem r_252_18 : xrow 252 18 = some (.iload 5, 2, 0, 0, 0, 0) := by decide +kernel
theorem r_252_20 : xrow 252 20 = some (.invokevirtual 452, 3, 239, 0, 0, 1112) := by decide +kernel
theorem r_252_23 : xrow 252 23 = some (.istore 7, 2, 0, 0, 0, 0) := by decide +kernel
theorem r_252_25 : xrow 252 25 = some (.aload_n 0, 1, 0, 0, 0, 0) := by decide +kernel
theorem r_252_26 : xrow 252 26 = some (.iconst 0, 1, 0, 0, 0, 0) := by decide +kernel
theorem r_252_27 : xrow 252 27 = some (.putfield 483, 3, 22, 66, 0, 1122) := by decide +kernel
theorem r_252_30 : xrow 252 30 = some (.aload_n 0, 1, 0, 0, 0, 0) := by decide +kernel
theorem r_252_31 : xrow 252 31 = some (.iconst 0, 1, 0, 0, 0, 0) := by decide +kernel
theorem r_252_32 : xrow 252 32 = some (.putfield 486, 3, 22, 67, 0, 1123) := by decide +kernel
theorem r_252_35 : xrow 252 35 = some (.iconst 0, 1, 0, 0, 0, 0) := by decide +kernel
theorem r_252_36 : xrow 252 36 = some (.istore 8, 2, 0, 0, 0, 0) := by decide +kernel
theorem r_252_38 : xrow 252 38 = some (.iload 8, 2, 0, 0, 0, 0) := by decide +kernel
theorem r_252_40 : xrow 252 40 = some (.aload_n 0, 1, 0, 0, 0, 0) := by decide +kernel
theorem r_252_41 : xrow 252 41 = some (.getfield 94, 3, 22, 57, 2, 1010) := by decide +kernel
theorem r_252_44 : xrow 252 44 = some (.iload_n 1, 1, 0, 0, 0, 0) := by decide +kernel
theorem r_252_45 : xrow 252 45 = some (.iaload, 1, 0, 0, 0, 0) := by decide +kernel
theorem r_252_46 : xrow 252 46 = some (.if_icmp .ge 241, 3, 287, 0, 0, 0) := by decide +kernel
theorem r_252_49 : xrow 252 49 = some (.sipush 512, 3, 0, 0, 0, 0) := by decide +kernel
theorem r_252_52 : xrow 252 52 = some (.iload_n 1, 1, 0, 0, 0, 0) := by decide +kernel
theorem r_252_53 : xrow 252 53 = some (.imul, 1, 0, 0, 0, 0) := by decide +kernel
theorem r_252_54 : xrow 252 54 = some (.iconst 4, 1, 0, 0, 0, 0) := by decide +kernel
theorem r_252_55 : xrow 252 55 = some (.iload 8, 2, 0, 0, 0, 0) := by decide +kernel
theorem r_252_57 : xrow 252 57 = some (.imul, 1, 0, 0, 0, 0) := by decide +kernel
theorem r_252_58 : xrow 252 58 = some (.iadd, 1, 0, 0, 0, 0) := by decide +kernel
theorem r_252_59 : xrow 252 59 = some (.istore 9, 2, 0, 0, 0, 0) := by decide +kernel
theorem r_252_61 : xrow 252 61 = some (.aload_n 0, 1, 0, 0, 0, 0) := by decide +kernel
theorem r_252_62 : xrow 252 62 = some (.getfield 91, 3, 22, 56, 2, 1009) := by decide +kernel
theorem r_252_65 : xrow 252 65 = some (.iload 9, 2, 0, 0, 0, 0) := by decide +kernel
theorem r_252_67 : xrow 252 67 = some (.iconst 1, 1, 0, 0, 0, 0) := by decide +kernel
theorem r_252_68 : xrow 252 68 = some (.iadd, 1, 0, 0, 0, 0) := by decide +kernel
theorem r_252_69 : xrow 252 69 = some (.iaload, 1, 0, 0, 0, 0) := by decide +kernel
theorem r_252_70 : xrow 252 70 = some (.istore 10, 2, 0, 0, 0, 0) := by decide +kernel
theorem r_252_72 : xrow 252 72 = some (.aload_n 0, 1, 0, 0, 0, 0) := by decide +kernel
theorem r_252_73 : xrow 252 73 = some (.getfield 91, 3, 22, 56, 2, 1009) := by decide +kernel
theorem r_252_76 : xrow 252 76 = some (.iload 9, 2, 0, 0, 0, 0) := by decide +kernel
theorem r_252_78 : xrow 252 78 = some (.iconst 2, 1, 0, 0, 0, 0) := by decide +kernel
theorem r_252_79 : xrow 252 79 = some (.iadd, 1, 0, 0, 0, 0) := by decide +kernel
theorem r_252_80 : xrow 252 80 = some (.iaload, 1, 0, 0, 0, 0) := by decide +kernel
theorem r_252_81 : xrow 252 81 = some (.istore 11, 2, 0, 0, 0, 0) := by decide +kernel
theorem r_252_83 : xrow 252 83 = some (.iinc 8 1, 3, 0, 0, 0, 0) := by decide +kernel
theorem r_252_86 : xrow 252 86 = some (.aload_n 0, 1, 0, 0, 0, 0) := by decide +kernel
theorem r_252_87 : xrow 252 87 = some (.getfield 91, 3, 22, 56, 2, 1009) := by decide +kernel
theorem r_252_90 : xrow 252 90 = some (.iload 9, 2, 0, 0, 0, 0) := by decide +kernel
theorem r_252_92 : xrow 252 92 = some (.iaload, 1, 0, 0, 0, 0) := by decide +kernel
theorem r_252_93 : xrow 252 93 = some (.iconst 2, 1, 0, 0, 0, 0) := by decide +kernel
theorem r_252_94 : xrow 252 94 = some (.if_icmp .ne 17, 3, 111, 0, 0, 0) := by decide +kernel
theorem r_252_97 : xrow 252 97 = some (.aload_n 0, 1, 0, 0, 0, 0) := by decide +kernel
theorem r_252_98 : xrow 252 98 = some (.getfield 91, 3, 22, 56, 2, 1009) := by decide +kernel
theorem r_252_101 : xrow 252 101 = some (.iload 9, 2, 0, 0, 0, 0) := by decide +kernel
theorem r_252_103 : xrow 252 103 = some (.iconst 3, 1, 0, 0, 0, 0) := by decide +kernel
theorem r_252_104 : xrow 252 104 = some (.iadd, 1, 0, 0, 0, 0) := by decide +kernel
theorem r_252_105 : xrow 252 105 = some (.iaload, 1, 0, 0, 0, 0) := by decide +kernel
theorem r_252_106 : xrow 252 106 = some (.istore 8, 2, 0, 0, 0, 0) := by decide +kernel
theorem r_252_108 : xrow 252 108 = some (.goto 176, 3, 284, 0, 0, 0) := by decide +kernel
theorem r_252_111 : xrow 252 111 = some (.aload_n 0, 1, 0, 0, 0, 0) := by decide +kernel
theorem r_252_112 : xrow 252 112 = some (.getfield 91, 3, 22, 56, 2, 1009) := by decide +kernel
theorem r_252_115 : xrow 252 115 = some (.iload 9, 2, 0, 0, 0, 0) := by decide +kernel
theorem r_252_117 : xrow 252 117 = some (.iaload, 1, 0, 0, 0, 0) := by decide +kernel
theorem r_252_118 : xrow 252 118 = some (.iconst 1, 1, 0, 0, 0, 0) := by decide +kernel
theorem r_252_119 : xrow 252 119 = some (.if_icmp .ne 53, 3, 172, 0, 0, 0) := by decide +kernel
theorem r_252_122 : xrow 252 122 = some (.iload 7, 2, 0, 0, 0, 0) := by decide +kernel
theorem r_252_124 : xrow 252 124 = some (.iload 10, 2, 0, 0, 0, 0) := by decide +kernel
theorem r_252_126 : xrow 252 126 = some (.invokestatic 374, 3, 213, 0, 0, 1087) := by decide +kernel
theorem r_252_129 : xrow 252 129 = some (.ifCond .ne 5, 3, 134, 0, 0, 0) := by decide +kernel
theorem r_252_132 : xrow 252 132 = some (.iconst 5, 1, 0, 0, 0, 0) := by decide +kernel
theorem r_252_133 : xrow 252 133 = some (.ireturn, 1, 0, 0, 0, 0) := by decide +kernel
theorem r_252_134 : xrow 252 134 = some (.aload_n 0, 1, 0, 0, 0, 0) := by decide +kernel
theorem r_252_135 : xrow 252 135 = some (.getfield 82, 3, 22, 52, 2, 1006) := by decide +kernel
theorem r_252_138 : xrow 252 138 = some (.iconst 4, 1, 0, 0, 0, 0) := by decide +kernel
theorem r_252_139 : xrow 252 139 = some (.iload 10, 2, 0, 0, 0, 0) := by decide +kernel
theorem r_252_141 : xrow 252 141 = some (.imul, 1, 0, 0, 0, 0) := by decide +kernel
theorem r_252_142 : xrow 252 142 = some (.iload 5, 2, 0, 0, 0, 0) := by decide +kernel
theorem r_252_144 : xrow 252 144 = some (.iload 10, 2, 0, 0, 0, 0) := by decide +kernel
theorem r_252_146 : xrow 252 146 = some (.invokestatic 374, 3, 213, 0, 0, 1087) := by decide +kernel
theorem r_252_149 : xrow 252 149 = some (.iadd, 1, 0, 0, 0, 0) := by decide +kernel
theorem r_252_150 : xrow 252 150 = some (.iconst 1, 1, 0, 0, 0, 0) := by decide +kernel
theorem r_252_151 : xrow 252 151 = some (.isub, 1, 0, 0, 0, 0) := by decide +kernel
theorem r_252_152 : xrow 252 152 = some (.iaload, 1, 0, 0, 0, 0) := by decide +kernel
theorem r_252_153 : xrow 252 153 = some (.iload 11, 2, 0, 0, 0, 0) := by decide +kernel
theorem r_252_155 : xrow 252 155 = some (.if_icmp .eq 129, 3, 284, 0, 0, 0) := by decide +kernel
theorem r_252_158 : xrow 252 158 = some (.aload_n 0, 1, 0, 0, 0, 0) := by decide +kernel
theorem r_252_159 : xrow 252 159 = some (.getfield 91, 3, 22, 56, 2, 1009) := by decide +kernel
theorem r_252_162 : xrow 252 162 = some (.iload 9, 2, 0, 0, 0, 0) := by decide +kernel
theorem r_252_164 : xrow 252 164 = some (.iconst 3, 1, 0, 0, 0, 0) := by decide +kernel
theorem r_252_165 : xrow 252 165 = some (.iadd, 1, 0, 0, 0, 0) := by decide +kernel
theorem r_252_166 : xrow 252 166 = some (.iaload, 1, 0, 0, 0, 0) := by decide +kernel
theorem r_252_167 : xrow 252 167 = some (.istore 8, 2, 0, 0, 0, 0) := by decide +kernel
theorem r_252_169 : xrow 252 169 = some (.goto 115, 3, 284, 0, 0, 0) := by decide +kernel
theorem r_252_172 : xrow 252 172 = some (.iconst 0, 1, 0, 0, 0, 0) := by decide +kernel
theorem r_252_173 : xrow 252 173 = some (.istore 12, 2, 0, 0, 0, 0) := by decide +kernel
theorem r_252_175 : xrow 252 175 = some (.iload 12, 2, 0, 0, 0, 0) := by decide +kernel
theorem r_252_177 : xrow 252 177 = some (.iload 11, 2, 0, 0, 0, 0) := by decide +kernel
theorem r_252_179 : xrow 252 179 = some (.if_icmp .ge 105, 3, 284, 0, 0, 0) := by decide +kernel
theorem r_252_182 : xrow 252 182 = some (.aload_n 0, 1, 0, 0, 0, 0) := by decide +kernel
theorem r_252_183 : xrow 252 183 = some (.iload 6, 2, 0, 0, 0, 0) := by decide +kernel
theorem r_252_185 : xrow 252 185 = some (.iload 10, 2, 0, 0, 0, 0) := by decide +kernel
theorem r_252_187 : xrow 252 187 = some (.invokevirtual 353, 3, 206, 0, 0, 1080) := by decide +kernel
theorem r_252_190 : xrow 252 190 = some (.istore 13, 2, 0, 0, 0, 0) := by decide +kernel
theorem r_252_192 : xrow 252 192 = some (.iload 13, 2, 0, 0, 0, 0) := by decide +kernel
theorem r_252_194 : xrow 252 194 = some (.ifCond .ge 7, 3, 201, 0, 0, 0) := by decide +kernel
theorem r_252_197 : xrow 252 197 = some (.iconst 1, 1, 0, 0, 0, 0) := by decide +kernel
theorem r_252_198 : xrow 252 198 = some (.goto 19, 3, 217, 0, 0, 0) := by decide +kernel
theorem r_252_201 : xrow 252 201 = some (.aload_n 0, 1, 0, 0, 0, 0) := by decide +kernel
theorem r_252_202 : xrow 252 202 = some (.iload 6, 2, 0, 0, 0, 0) := by decide +kernel
theorem r_252_204 : xrow 252 204 = some (.iload 10, 2, 0, 0, 0, 0) := by decide +kernel
theorem r_252_206 : xrow 252 206 = some (.aload_n 0, 1, 0, 0, 0, 0) := by decide +kernel
theorem r_252_207 : xrow 252 207 = some (.iload 13, 2, 0, 0, 0, 0) := by decide +kernel
theorem r_252_209 : xrow 252 209 = some (.iload 5, 2, 0, 0, 0, 0) := by decide +kernel
theorem r_252_211 : xrow 252 211 = some (.invokevirtual 387, 3, 222, 0, 0, 1091) := by decide +kernel
theorem r_252_214 : xrow 252 214 = some (.invokevirtual 362, 3, 209, 0, 0, 1083) := by decide +kernel
theorem r_252_217 : xrow 252 217 = some (.istore 14, 2, 0, 0, 0, 0) := by decide +kernel
theorem r_252_219 : xrow 252 219 = some (.iload 14, 2, 0, 0, 0, 0) := by decide +kernel
theorem r_252_221 : xrow 252 221 = some (.ifCond .le 6, 3, 227, 0, 0, 0) := by decide +kernel
theorem r_252_224 : xrow 252 224 = some (.iload 14, 2, 0, 0, 0, 0) := by decide +kernel
theorem r_252_226 : xrow 252 226 = some (.ireturn, 1, 0, 0, 0, 0) := by decide +kernel
theorem r_252_227 : xrow 252 227 = some (.aload_n 0, 1, 0, 0, 0, 0) := by decide +kernel
theorem r_252_228 : xrow 252 228 = some (.dup, 1, 0, 0, 0, 0) := by decide +kernel
theorem r_252_229 : xrow 252 229 = some (.getfield 486, 3, 22, 67, 0, 1123) := by decide +kernel
theorem r_252_232 : xrow 252 232 = some (.aload_n 0, 1, 0, 0, 0, 0) := by decide +kernel
theorem r_252_233 : xrow 252 233 = some (.iload 6, 2, 0, 0, 0, 0) := by decide +kernel
theorem r_252_235 : xrow 252 235 = some (.iload 10, 2, 0, 0, 0, 0) := by decide +kernel
theorem r_252_237 : xrow 252 237 = some (.aload_n 0, 1, 0, 0, 0, 0) := by decide +kernel
theorem r_252_238 : xrow 252 238 = some (.iload 13, 2, 0, 0, 0, 0) := by decide +kernel
theorem r_252_240 : xrow 252 240 = some (.iload 5, 2, 0, 0, 0, 0) := by decide +kernel
theorem r_252_242 : xrow 252 242 = some (.invokevirtual 387, 3, 222, 0, 0, 1091) := by decide +kernel
theorem r_252_245 : xrow 252 245 = some (.invokevirtual 366, 3, 210, 0, 0, 1084) := by decide +kernel
theorem r_252_248 : xrow 252 248 = some (.iadd, 1, 0, 0, 0, 0) := by decide +kernel
theorem r_252_249 : xrow 252 249 = some (.putfield 486, 3, 22, 67, 0, 1123) := by decide +kernel
theorem r_252_252 : xrow 252 252 = some (.aload_n 0, 1, 0, 0, 0, 0) := by decide +kernel
theorem r_252_253 : xrow 252 253 = some (.dup, 1, 0, 0, 0, 0) := by decide +kernel
theorem r_252_254 : xrow 252 254 = some (.getfield 483, 3, 22, 66, 0, 1122) := by decide +kernel
theorem r_252_257 : xrow 252 257 = some (.iconst 1, 1, 0, 0, 0, 0) := by decide +kernel
theorem r_252_258 : xrow 252 258 = some (.iadd, 1, 0, 0, 0, 0) := by decide +kernel
theorem r_252_259 : xrow 252 259 = some (.putfield 483, 3, 22, 66, 0, 1122) := by decide +kernel
theorem r_252_262 : xrow 252 262 = some (.iload 13, 2, 0, 0, 0, 0) := by decide +kernel
theorem r_252_264 : xrow 252 264 = some (.istore 6, 2, 0, 0, 0, 0) := by decide +kernel
theorem r_252_266 : xrow 252 266 = some (.aload_n 0, 1, 0, 0, 0, 0) := by decide +kernel
theorem r_252_267 : xrow 252 267 = some (.iload 7, 2, 0, 0, 0, 0) := by decide +kernel
theorem r_252_269 : xrow 252 269 = some (.iload 6, 2, 0, 0, 0, 0) := by decide +kernel
theorem r_252_271 : xrow 252 271 = some (.iload 5, 2, 0, 0, 0, 0) := by decide +kernel
theorem r_252_273 : xrow 252 273 = some (.invokevirtual 452, 3, 239, 0, 0, 1112) := by decide +kernel
theorem r_252_276 : xrow 252 276 = some (.istore 7, 2, 0, 0, 0, 0) := by decide +kernel
theorem r_252_278 : xrow 252 278 = some (.iinc 12 1, 3, 0, 0, 0, 0) := by decide +kernel
theorem r_252_281 : xrow 252 281 = some (.goto (-106), 3, 175, 0, 0, 0) := by decide +kernel
theorem r_252_284 : xrow 252 284 = some (.goto (-246), 3, 38, 0, 0, 0) := by decide +kernel
theorem r_252_287 : xrow 252 287 = some (.iload 6, 2, 0, 0, 0, 0) := by decide +kernel
theorem r_252_289 : xrow 252 289 = some (.iload_n 3, 1, 0, 0, 0, 0) := by decide +kernel
theorem r_252_290 : xrow 252 290 = some (.if_icmp .ne 7, 3, 297, 0, 0, 0) := by decide +kernel
theorem r_252_293 : xrow 252 293 = some (.iconst 0, 1, 0, 0, 0, 0) := by decide +kernel
theorem r_252_294 : xrow 252 294 = some (.goto 5, 3, 299, 0, 0, 0) := by decide +kernel
theorem r_252_297 : xrow 252 297 = some (.bipush 6, 2, 0, 0, 0, 0) := by decide +kernel
theorem r_252_299 : xrow 252 299 = some (.ireturn, 1, 0, 0, 0, 0) := by decide +kernel
theorem r_253_0 : xrow 253 0 = some (.aload_n 0, 1, 0, 0, 0, 0) := by decide +kernel
theorem r_253_1 : xrow 253 1 = some (.invokevirtual 249, 3, 164, 0, 0, 1051) := by decide +kernel
theorem r_253_4 : xrow 253 4 = some (.aload_n 0, 1, 0, 0, 0, 0) := by decide +kernel
theorem r_253_5 : xrow 253 5 = some (.getfield 275, 3, 22, 34, 0, 1059) := by decide +kernel
theorem r_253_8 : xrow 253 8 = some (.ifCond .eq 33, 3, 41, 0, 0, 0) := by decide +kernel
theorem r_253_11 : xrow 253 11 = some (.iload_n 1, 1, 0, 0, 0, 0) := by decide +kernel
theorem r_253_12 : xrow 253 12 = some (.iconst 0, 1, 0, 0, 0, 0) := by decide +kernel
theorem r_253_13 : xrow 253 13 = some (.aload_n 0, 1, 0, 0, 0, 0) := by decide +kernel
theorem r_253_14 : xrow 253 14 = some (.getfield 278, 3, 22, 40, 0, 1060) := by decide +kernel
theorem r_253_17 : xrow 253 17 = some (.iconst 1, 1, 0, 0, 0, 0) := by decide +kernel
theorem r_253_18 : xrow 253 18 = some (.isub, 1, 0, 0, 0, 0) := by decide +kernel
theorem r_253_19 : xrow 253 19 = some (.invokestatic 220, 3, 167, 0, 0, 1042) := by decide +kernel
theorem r_253_22 : xrow 253 22 = some (.ifCond .eq 19, 3, 41, 0, 0, 0) := by decide +kernel
theorem r_253_25 : xrow 253 25 = some (.aload_n 0, 1, 0, 0, 0, 0) := by decide +kernel
theorem r_253_26 : xrow 253 26 = some (.iload_n 2, 1, 0, 0, 0, 0) := by decide +kernel
theorem r_253_27 : xrow 253 27 = some (.invokevirtual 347, 3, 197, 0, 0, 1078) := by decide +kernel
theorem r_253_30 : xrow 253 30 = some (.ifCond .eq 11, 3, 41, 0, 0, 0) := by decide +kernel
theorem r_253_33 : xrow 253 33 = some (.aload_n 0, 1, 0, 0, 0, 0) := by decide +kernel
theorem r_253_34 : xrow 253 34 = some (.iload_n 3, 1, 0, 0, 0, 0) := by decide +kernel
theorem r_253_35 : xrow 253 35 = some (.invokevirtual 347, 3, 197, 0, 0, 1078) := by decide +kernel
theorem r_253_38 : xrow 253 38 = some (.ifCond .ne 9, 3, 47, 0, 0, 0) := by decide +kernel
theorem r_253_41 : xrow 253 41 = some (.aload_n 0, 1, 0, 0, 0, 0) := by decide +kernel
theorem r_253_42 : xrow 253 42 = some (.iconst 1, 1, 0, 0, 0, 0) := by decide +kernel
theorem r_253_43 : xrow 253 43 = some (.invokevirtual 252, 3, 165, 0, 0, 1052) := by decide +kernel
theorem r_253_46 : xrow 253 46 = some (.ireturn, 1, 0, 0, 0, 0) := by decide +kernel
theorem r_253_47 : xrow 253 47 = some (.iload 4, 2, 0, 0, 0, 0) := by decide +kernel
theorem r_253_49 : xrow 253 49 = some (.iconst 0, 1, 0, 0, 0, 0) := by decide +kernel
theorem r_253_50 : xrow 253 50 = some (.ldc_w 489, 3, 9999999, 0, 0, 1124) := by decide +kernel
theorem r_253_53 : xrow 253 53 = some (.invokestatic 220, 3, 167, 0, 0, 1042) := by decide +kernel
theorem r_253_56 : xrow 253 56 = some (.ifCond .ne 9, 3, 65, 0, 0, 0) := by decide +kernel
theorem r_253_59 : xrow 253 59 = some (.aload_n 0, 1, 0, 0, 0, 0) := by decide +kernel
theorem r_253_60 : xrow 253 60 = some (.iconst 2, 1, 0, 0, 0, 0) := by decide +kernel
theorem r_253_61 : xrow 253 61 = some (.invokevirtual 252, 3, 165, 0, 0, 1052) := by decide +kernel
theorem r_253_64 : xrow 253 64 = some (.ireturn, 1, 0, 0, 0, 0) := by decide +kernel
theorem r_253_65 : xrow 253 65 = some (.aload_n 0, 1, 0, 0, 0, 0) := by decide +kernel
theorem r_253_66 : xrow 253 66 = some (.invokevirtual 381, 3, 214, 0, 0, 1089) := by decide +kernel
theorem r_253_69 : xrow 253 69 = some (.iconst 0, 1, 0, 0, 0, 0) := by decide +kernel
theorem r_253_70 : xrow 253 70 = some (.istore 5, 2, 0, 0, 0, 0) := by decide +kernel
theorem r_253_72 : xrow 253 72 = some (.aload_n 0, 1, 0, 0, 0, 0) := by decide +kernel
theorem r_253_73 : xrow 253 73 = some (.bipush (-2), 2, 0, 0, 0, 0) := by decide +kernel
theorem r_253_75 : xrow 253 75 = some (.putfield 107, 3, 22, 63, 0, 1014) := by decide +kernel
theorem r_253_78 : xrow 253 78 = some (.aload_n 0, 1, 0, 0, 0, 0) := by decide +kernel
theorem r_253_79 : xrow 253 79 = some (.bipush (-2), 2, 0, 0, 0, 0) := by decide +kernel
theorem r_253_81 : xrow 253 81 = some (.putfield 110, 3, 22, 64, 0, 1015) := by decide +kernel
theorem r_253_84 : xrow 253 84 = some (.aload_n 0, 1, 0, 0, 0, 0) := by decide +kernel
theorem r_253_85 : xrow 253 85 = some (.bipush (-2), 2, 0, 0, 0, 0) := by decide +kernel
theorem r_253_87 : xrow 253 87 = some (.putfield 113, 3, 22, 65, 0, 1016) := by decide +kernel
theorem r_253_90 : xrow 253 90 = some (.iconst 0, 1, 0, 0, 0, 0) := by decide +kernel
theorem r_253_91 : xrow 253 91 = some (.istore 6, 2, 0, 0, 0, 0) := by decide +kernel
theorem r_253_93 : xrow 253 93 = some (.iload 6, 2, 0, 0, 0, 0) := by decide +kernel
theorem r_253_95 : xrow 253 95 = some (.aload_n 0, 1, 0, 0, 0, 0) := by decide +kernel
theorem r_253_96 : xrow 253 96 = some (.invokevirtual 443, 3, 235, 0, 0, 1109) := by decide +kernel
theorem r_253_99 : xrow 253 99 = some (.if_icmp .ge 79, 3, 178, 0, 0, 0) := by decide +kernel
theorem r_253_102 : xrow 253 102 = some (.aload_n 0, 1, 0, 0, 0, 0) := by decide +kernel
theorem r_253_103 : xrow 253 103 = some (.iload_n 1, 1, 0, 0, 0, 0) := by decide +kernel
theorem r_253_104 : xrow 253 104 = some (.iload_n 2, 1, 0, 0, 0, 0) := by decide +kernel
theorem r_253_105 : xrow 253 105 = some (.iload_n 3, 1, 0, 0, 0, 0) := by decide +kernel
theorem r_253_106 : xrow 253 106 = some (.iload 6, 2, 0, 0, 0, 0) := by decide +kernel
theorem r_253_108 : xrow 253 108 = some (.invokevirtual 490, 3, 252, 0, 0, 1125) := by decide +kernel
theorem r_253_111 : xrow 253 111 = some (.istore 7, 2, 0, 0, 0, 0) := by decide +kernel
theorem r_253_113 : xrow 253 113 = some (.iload 7, 2, 0, 0, 0, 0) := by decide +kernel
theorem r_253_115 : xrow 253 115 = some (.ifCond .ne 17, 3, 132, 0, 0, 0) := by decide +kernel
theorem r_253_118 : xrow 253 118 = some (.aload_n 0, 1, 0, 0, 0, 0) := by decide +kernel
theorem r_253_119 : xrow 253 119 = some (.getfield 486, 3, 22, 67, 0, 1123) := by decide +kernel
theorem r_253_122 : xrow 253 122 = some (.iload 4, 2, 0, 0, 0, 0) := by decide +kernel
theorem r_253_124 : xrow 253 124 = some (.if_icmp .le 8, 3, 132, 0, 0, 0) := by decide +kernel
theorem r_253_127 : xrow 253 127 = some (.bipush 7, 2, 0, 0, 0, 0) := by decide +kernel
theorem r_253_129 : xrow 253 129 = some (.goto 5, 3, 134, 0, 0, 0) := by decide +kernel
theorem r_253_132 : xrow 253 132 = some (.iload 7, 2, 0, 0, 0, 0) := by decide +kernel
theorem r_253_134 : xrow 253 134 = some (.istore 7, 2, 0, 0, 0, 0) := by decide +kernel
theorem r_253_136 : xrow 253 136 = some (.iload 7, 2, 0, 0, 0, 0) := by decide +kernel
theorem r_253_138 : xrow 253 138 = some (.ifCond .ne 6, 3, 144, 0, 0, 0) := by decide +kernel
theorem r_253_141 : xrow 253 141 = some (.goto 31, 3, 172, 0, 0, 0) := by decide +kernel
theorem r_253_144 : xrow 253 144 = some (.iload 5, 2, 0, 0, 0, 0) := by decide +kernel
theorem r_253_146 : xrow 253 146 = some (.ifCond .ne 23, 3, 169, 0, 0, 0) := by decide +kernel
theorem r_253_149 : xrow 253 149 = some (.aload_n 0, 1, 0, 0, 0, 0) := by decide +kernel
theorem r_253_150 : xrow 253 150 = some (.iload 6, 2, 0, 0, 0, 0) := by decide +kernel
theorem r_253_152 : xrow 253 152 = some (.putfield 107, 3, 22, 63, 0, 1014) := by decide +kernel
theorem r_253_155 : xrow 253 155 = some (.aload_n 0, 1, 0, 0, 0, 0) := by decide +kernel
theorem r_253_156 : xrow 253 156 = some (.iload 7, 2, 0, 0, 0, 0) := by decide +kernel
theorem r_253_158 : xrow 253 158 = some (.putfield 110, 3, 22, 64, 0, 1015) := by decide +kernel
theorem r_253_161 : xrow 253 161 = some (.aload_n 0, 1, 0, 0, 0, 0) := by decide +kernel
theorem r_253_162 : xrow 253 162 = some (.aload_n 0, 1, 0, 0, 0, 0) := by decide +kernel
theorem r_253_163 : xrow 253 163 = some (.getfield 483, 3, 22, 66, 0, 1122) := by decide +kernel
theorem r_253_166 : xrow 253 166 = some (.putfield 113, 3, 22, 65, 0, 1016) := by decide +kernel
theorem r_253_169 : xrow 253 169 = some (.iinc 5 1, 3, 0, 0, 0, 0) := by decide +kernel
theorem r_253_172 : xrow 253 172 = some (.iinc 6 1, 3, 0, 0, 0, 0) := by decide +kernel
theorem r_253_175 : xrow 253 175 = some (.goto (-82), 3, 93, 0, 0, 0) := by decide +kernel
theorem r_253_178 : xrow 253 178 = some (.iload 5, 2, 0, 0, 0, 0) := by decide +kernel
theorem r_253_180 : xrow 253 180 = some (.ireturn, 1, 0, 0, 0, 0) := by decide +kernel
theorem r_254_0 : xrow 254 0 = some (.aload_n 0, 1, 0, 0, 0, 0) := by decide +kernel
theorem r_254_1 : xrow 254 1 = some (.iconst 0, 1, 0, 0, 0, 0) := by decide +kernel
theorem r_254_2 : xrow 254 2 = some (.putfield 131, 3, 22, 0, 0, 1022) := by decide +kernel
theorem r_254_5 : xrow 254 5 = some (.iload_n 1, 1, 0, 0, 0, 0) := by decide +kernel
theorem r_254_6 : xrow 254 6 = some (.ifCond .ne 10, 3, 16, 0, 0, 0) := by decide +kernel
theorem r_254_9 : xrow 254 9 = some (.aload_n 0, 1, 0, 0, 0, 0) := by decide +kernel
theorem r_254_10 : xrow 254 10 = some (.getfield 107, 3, 22, 63, 0, 1014) := by decide +kernel
theorem r_254_13 : xrow 254 13 = some (.goto 28, 3, 41, 0, 0, 0) := by decide +kernel
theorem r_254_16 : xrow 254 16 = some (.iload_n 1, 1, 0, 0, 0, 0) := by decide +kernel
theorem r_254_17 : xrow 254 17 = some (.iconst 1, 1, 0, 0, 0, 0) := by decide +kernel
theorem r_254_18 : xrow 254 18 = some (.if_icmp .ne 10, 3, 28, 0, 0, 0) := by decide +kernel
theorem r_254_21 : xrow 254 21 = some (.aload_n 0, 1, 0, 0, 0, 0) := by decide +kernel
theorem r_254_22 : xrow 254 22 = some (.getfield 110, 3, 22, 64, 0, 1015) := by decide +kernel
theorem r_254_25 : xrow 254 25 = some (.goto 16, 3, 41, 0, 0, 0) := by decide +kernel
theorem r_254_28 : xrow 254 28 = some (.iload_n 1, 1, 0, 0, 0, 0) := by decide +kernel
theorem r_254_29 : xrow 254 29 = some (.iconst 2, 1, 0, 0, 0, 0) := by decide +kernel
theorem r_254_30 : xrow 254 30 = some (.if_icmp .ne 10, 3, 40, 0, 0, 0) := by decide +kernel
theorem r_254_33 : xrow 254 33 = some (.aload_n 0, 1, 0, 0, 0, 0) := by decide +kernel
theorem r_254_34 : xrow 254 34 = some (.getfield 113, 3, 22, 65, 0, 1016) := by decide +kernel
theorem r_254_37 : xrow 254 37 = some (.goto 4, 3, 41, 0, 0, 0) := by decide +kernel
theorem r_254_40 : xrow 254 40 = some (.iconst (-1), 1, 0, 0, 0, 0) := by decide +kernel
theorem r_254_41 : xrow 254 41 = some (.ireturn, 1, 0, 0, 0, 0) := by decide +kernel
theorem r_255_0 : xrow 255 0 = some (.aload_n 0, 1, 0, 0, 0, 0) := by decide +kernel
theorem r_255_1 : xrow 255 1 = some (.invokevirtual 249, 3, 164, 0, 0, 1051) := by decide +kernel
theorem r_255_4 : xrow 255 4 = some (.aload_n 0, 1, 0, 0, 0, 0) := by decide +kernel
theorem r_255_5 : xrow 255 5 = some (.getfield 275, 3, 22, 34, 0, 1059) := by decide +kernel
theorem r_255_8 : xrow 255 8 = some (.ifCond .eq 33, 3, 41, 0, 0, 0) := by decide +kernel
theorem r_255_11 : xrow 255 11 = some (.iload_n 1, 1, 0, 0, 0, 0) := by decide +kernel
theorem r_255_12 : xrow 255 12 = some (.iconst 0, 1, 0, 0, 0, 0) := by decide +kernel
theorem r_255_13 : xrow 255 13 = some (.aload_n 0, 1, 0, 0, 0, 0) := by decide +kernel
theorem r_255_14 : xrow 255 14 = some (.getfield 278, 3, 22, 40, 0, 1060) := by decide +kernel
theorem r_255_17 : xrow 255 17 = some (.iconst 1, 1, 0, 0, 0, 0) := by decide +kernel
theorem r_255_18 : xrow 255 18 = some (.isub, 1, 0, 0, 0, 0) := by decide +kernel
theorem r_255_19 : xrow 255 19 = some (.invokestatic 220, 3, 167, 0, 0, 1042) := by decide +kernel
theorem r_255_22 : xrow 255 22 = some (.ifCond .eq 19, 3, 41, 0, 0, 0) := by decide +kernel
theorem r_255_25 : xrow 255 25 = some (.aload_n 0, 1, 0, 0, 0, 0) := by decide +kernel
theorem r_255_26 : xrow 255 26 = some (.iload_n 2, 1, 0, 0, 0, 0) := by decide +kernel
theorem r_255_27 : xrow 255 27 = some (.invokevirtual 347, 3, 197, 0, 0, 1078) := by decide +kernel
theorem r_255_30 : xrow 255 30 = some (.ifCond .eq 11, 3, 41, 0, 0, 0) := by decide +kernel
theorem r_255_33 : xrow 255 33 = some (.aload_n 0, 1, 0, 0, 0, 0) := by decide +kernel
theorem r_255_34 : xrow 255 34 = some (.iload_n 3, 1, 0, 0, 0, 0) := by decide +kernel
theorem r_255_35 : xrow 255 35 = some (.invokevirtual 347, 3, 197, 0, 0, 1078) := by decide +kernel
theorem r_255_38 : xrow 255 38 = some (.ifCond .ne 9, 3, 47, 0, 0, 0) := by decide +kernel
theorem r_255_41 : xrow 255 41 = some (.aload_n 0, 1, 0, 0, 0, 0) := by decide +kernel
theorem r_255_42 : xrow 255 42 = some (.iconst 1, 1, 0, 0, 0, 0) := by decide +kernel
theorem r_255_43 : xrow 255 43 = some (.invokevirtual 252, 3, 165, 0, 0, 1052) := by decide +kernel
theorem r_255_46 : xrow 255 46 = some (.ireturn, 1, 0, 0, 0, 0) := by decide +kernel
theorem r_255_47 : xrow 255 47 = some (.aload_n 0, 1, 0, 0, 0, 0) := by decide +kernel
theorem r_255_48 : xrow 255 48 = some (.invokevirtual 381, 3, 214, 0, 0, 1089) := by decide +kernel
theorem r_255_51 : xrow 255 51 = some (.iconst 0, 1, 0, 0, 0, 0) := by decide +kernel
theorem r_255_52 : xrow 255 52 = some (.istore 4, 2, 0, 0, 0, 0) := by decide +kernel
theorem r_255_54 : xrow 255 54 = some (.iconst 0, 1, 0, 0, 0, 0) := by decide +kernel
theorem r_255_55 : xrow 255 55 = some (.istore 5, 2, 0, 0, 0, 0) := by decide +kernel
theorem r_255_57 : xrow 255 57 = some (.iload 5, 2, 0, 0, 0, 0) := by decide +kernel
theorem r_255_59 : xrow 255 59 = some (.aload_n 0, 1, 0, 0, 0, 0) := by decide +kernel
theorem r_255_60 : xrow 255 60 = some (.invokevirtual 443, 3, 235, 0, 0, 1109) := by decide +kernel
theorem r_255_63 : xrow 255 63 = some (.if_icmp .ge 48, 3, 111, 0, 0, 0) := by decide +kernel
theorem r_255_66 : xrow 255 66 = some (.aload_n 0, 1, 0, 0, 0, 0) := by decide +kernel
theorem r_255_67 : xrow 255 67 = some (.iload_n 1, 1, 0, 0, 0, 0) := by decide +kernel
theorem r_255_68 : xrow 255 68 = some (.iload_n 2, 1, 0, 0, 0, 0) := by decide +kernel
theorem r_255_69 : xrow 255 69 = some (.iload_n 3, 1, 0, 0, 0, 0) := by decide +kernel
theorem r_255_70 : xrow 255 70 = some (.iload 5, 2, 0, 0, 0, 0) := by decide +kernel
theorem r_255_72 : xrow 255 72 = some (.invokevirtual 490, 3, 252, 0, 0, 1125) := by decide +kernel
theorem r_255_75 : xrow 255 75 = some (.ifCond .le 10, 3, 85, 0, 0, 0) := by decide +kernel
theorem r_255_78 : xrow 255 78 = some (.aload_n 0, 1, 0, 0, 0, 0) := by decide +kernel
theorem r_255_79 : xrow 255 79 = some (.bipush 6, 2, 0, 0, 0, 0) := by decide +kernel
theorem r_255_81 : xrow 255 81 = some (.invokevirtual 252, 3, 165, 0, 0, 1052) := by decide +kernel
theorem r_255_84 : xrow 255 84 = some (.ireturn, 1, 0, 0, 0, 0) := by decide +kernel
theorem r_255_85 : xrow 255 85 = some (.aload_n 0, 1, 0, 0, 0, 0) := by decide +kernel
theorem r_255_86 : xrow 255 86 = some (.getfield 486, 3, 22, 67, 0, 1123) := by decide +kernel
theorem r_255_89 : xrow 255 89 = some (.iload 4, 2, 0, 0, 0, 0) := by decide +kernel
theorem r_255_91 : xrow 255 91 = some (.if_icmp .le 10, 3, 101, 0, 0, 0) := by decide +kernel
theorem r_255_94 : xrow 255 94 = some (.aload_n 0, 1, 0, 0, 0, 0) := by decide +kernel
theorem r_255_95 : xrow 255 95 = some (.getfield 486, 3, 22, 67, 0, 1123) := by decide +kernel
theorem r_255_98 : xrow 255 98 = some (.goto 5, 3, 103, 0, 0, 0) := by decide +kernel
theorem r_255_101 : xrow 255 101 = some (.iload 4, 2, 0, 0, 0, 0) := by decide +kernel
theorem r_255_103 : xrow 255 103 = some (.istore 4, 2, 0, 0, 0, 0) := by decide +kernel
theorem r_255_105 : xrow 255 105 = some (.iinc 5 1, 3, 0, 0, 0, 0) := by decide +kernel
theorem r_255_108 : xrow 255 108 = some (.goto (-51), 3, 57, 0, 0, 0) := by decide +kernel
theorem r_255_111 : xrow 255 111 = some (.iload 4, 2, 0, 0, 0, 0) := by decide +kernel
theorem r_255_113 : xrow 255 113 = some (.ireturn, 1, 0, 0, 0, 0) := by decide +kernel
theorem r_256_0 : xrow 256 0 = some (.aload_n 0, 1, 0, 0, 0, 0) := by decide +kernel
theorem r_256_1 : xrow 256 1 = some (.invokevirtual 249, 3, 164, 0, 0, 1051) := by decide +kernel
theorem r_256_4 : xrow 256 4 = some (.aload_n 0, 1, 0, 0, 0, 0) := by decide +kernel
theorem r_256_5 : xrow 256 5 = some (.getfield 269, 3, 22, 12, 0, 1057) := by decide +kernel
theorem r_256_8 : xrow 256 8 = some (.ifCond .eq 17, 3, 25, 0, 0, 0) := by decide +kernel
theorem r_256_11 : xrow 256 11 = some (.iload_n 1, 1, 0, 0, 0, 0) := by decide +kernel
theorem r_256_12 : xrow 256 12 = some (.iconst 0, 1, 0, 0, 0, 0) := by decide +kernel
theorem r_256_13 : xrow 256 13 = some (.aload_n 0, 1, 0, 0, 0, 0) := by decide +kernel
theorem r_256_14 : xrow 256 14 = some (.getfield 234, 3, 22, 24, 0, 1046) := by decide +kernel
theorem r_256_17 : xrow 256 17 = some (.iconst 1, 1, 0, 0, 0, 0) := by decide +kernel
theorem r_256_18 : xrow 256 18 = some (.isub, 1, 0, 0, 0, 0) := by decide +kernel
theorem r_256_19 : xrow 256 19 = some (.invokestatic 220, 3, 167, 0, 0, 1042) := by decide +kernel
theorem r_256_22 : xrow 256 22 = some (.ifCond .ne 9, 3, 31, 0, 0, 0) := by decide +kernel
theorem r_256_25 : xrow 256 25 = some (.aload_n 0, 1, 0, 0, 0, 0) := by decide +kernel
theorem r_256_26 : xrow 256 26 = some (.iconst 1, 1, 0, 0, 0, 0) := by decide +kernel
theorem r_256_27 : xrow 256 27 = some (.invokevirtual 338, 3, 166, 0, 0, 1075) := by decide +kernel
theorem r_256_30 : xrow 256 30 = some (.ireturn, 1, 1, 0, 0, 0) := by decide +kernel
theorem r_256_31 : xrow 256 31 = some (.iload_n 2, 1, 0, 0, 0, 0) := by decide +kernel
theorem r_256_32 : xrow 256 32 = some (.iconst 0, 1, 0, 0, 0, 0) := by decide +kernel
theorem r_256_33 : xrow 256 33 = some (.iconst 4, 1, 0, 0, 0, 0) := by decide +kernel
theorem r_256_34 : xrow 256 34 = some (.invokestatic 220, 3, 167, 0, 0, 1042) := by decide +kernel
theorem r_256_37 : xrow 256 37 = some (.ifCond .ne 9, 3, 46, 0, 0, 0) := by decide +kernel
theorem r_256_40 : xrow 256 40 = some (.aload_n 0, 1, 0, 0, 0, 0) := by decide +kernel
theorem r_256_41 : xrow 256 41 = some (.iconst 2, 1, 0, 0, 0, 0) := by decide +kernel
theorem r_256_42 : xrow 256 42 = some (.invokevirtual 338, 3, 166, 0, 0, 1075) := by decide +kernel
theorem r_256_45 : xrow 256 45 = some (.ireturn, 1, 1, 0, 0, 0) := by decide +kernel
theorem r_256_46 : xrow 256 46 = some (.aload_n 0, 1, 0, 0, 0, 0) := by decide +kernel
theorem r_256_47 : xrow 256 47 = some (.getfield 70, 3, 22, 47, 2, 1002) := by decide +kernel
theorem r_256_50 : xrow 256 50 = some (.iload_n 1, 1, 0, 0, 0, 0) := by decide +kernel
theorem r_256_51 : xrow 256 51 = some (.iload_n 2, 1, 0, 0, 0, 0) := by decide +kernel
theorem r_256_52 : xrow 256 52 = some (.iastore, 1, 0, 0, 0, 0) := by decide +kernel
theorem r_256_53 : xrow 256 53 = some (.iconst 1, 1, 0, 0, 0, 0) := by decide +kernel
theorem r_256_54 : xrow 256 54 = some (.ireturn, 1, 1, 0, 0, 0) := by decide +kernel
theorem r_257_0 : xrow 257 0 = some (.iconst 0, 1, 0, 0, 0, 0) := by decide +kernel
theorem r_257_1 : xrow 257 1 = some (.istore_n 1, 1, 0, 0, 0, 0) := by decide +kernel
theorem r_257_2 : xrow 257 2 = some (.aload_n 0, 1, 0, 0, 0, 0) := by decide +kernel
theorem r_257_3 : xrow 257 3 = some (.getfield 234, 3, 22, 24, 0, 1046) := by decide +kernel
theorem r_257_6 : xrow 257 6 = some (.iconst 1, 1, 0, 0, 0, 0) := by decide +kernel
theorem r_257_7 : xrow 257 7 = some (.isub, 1, 0, 0, 0, 0) := by decide +kernel
theorem r_257_8 : xrow 257 8 = some (.istore_n 2, 1, 0, 0, 0, 0) := by decide +kernel
theorem r_257_9 : xrow 257 9 = some (.iload_n 2, 1, 0, 0, 0, 0) := by decide +kernel
theorem r_257_10 : xrow 257 10 = some (.ifCond .lt 20, 3, 30, 0, 0, 0) := by decide +kernel
theorem r_257_13 : xrow 257 13 = some (.iconst 5, 1, 0, 0, 0, 0) := by decide +kernel
theorem r_257_14 : xrow 257 14 = some (.iload_n 1, 1, 0, 0, 0, 0) := by decide +kernel
theorem r_257_15 : xrow 257 15 = some (.imul, 1, 0, 0, 0, 0) := by decide +kernel
theorem r_257_16 : xrow 257 16 = some (.aload_n 0, 1, 0, 0, 0, 0) := by decide +kernel
theorem r_257_17 : xrow 257 17 = some (.getfield 70, 3, 22, 47, 2, 1002) := by decide +kernel
theorem r_257_20 : xrow 257 20 = some (.iload_n 2, 1, 0, 0, 0, 0) := by decide +kernel
theorem r_257_21 : xrow 257 21 = some (.iaload, 1, 0, 0, 0, 0) := by decide +kernel
theorem r_257_22 : xrow 257 22 = some (.iadd, 1, 0, 0, 0, 0) := by decide +kernel
theorem r_257_23 : xrow 257 23 = some (.istore_n 1, 1, 0, 0, 0, 0) := by decide +kernel
theorem r_257_24 : xrow 257 24 = some (.iinc 2 (-1), 3, 0, 0, 0, 0) := by decide +kernel
theorem r_257_27 : xrow 257 27 = some (.goto (-18), 3, 9, 0, 0, 0) := by decide +kernel
theorem r_257_30 : xrow 257 30 = some (.iload_n 1, 1, 0, 0, 0, 0) := by decide +kernel
theorem r_257_31 : xrow 257 31 = some (.ireturn, 1, 0, 0, 0, 0) := by decide +kernel
theorem r_258_0 : xrow 258 0 = some (.iload_n 1, 1, 0, 0, 0, 0) := by decide +kernel
theorem r_258_1 : xrow 258 1 = some (.istore 4, 2, 0, 0, 0, 0) := by decide +kernel
theorem r_258_3 : xrow 258 3 = some (.iconst 1, 1, 0, 0, 0, 0) := by decide +kernel
theorem r_258_4 : xrow 258 4 = some (.istore 5, 2, 0, 0, 0, 0) := by decide +kernel
theorem r_258_6 : xrow 258 6 = some (.iconst 0, 1, 0, 0, 0, 0) := by decide +kernel
theorem r_258_7 : xrow 258 7 = some (.istore 6, 2, 0, 0, 0, 0) := by decide +kernel
theorem r_258_9 : xrow 258 9 = some (.iconst 0, 1, 0, 0, 0, 0) := by decide +kernel
theorem r_258_10 : xrow 258 10 = some (.istore 7, 2, 0, 0, 0, 0) := by decide +kernel
theorem r_258_12 : xrow 258 12 = some (.iload 7, 2, 0, 0, 0, 0) := by decide +kernel
theorem r_258_14 : xrow 258 14 = some (.aload_n 0, 1, 0, 0, 0, 0) := by decide +kernel
theorem r_258_15 : xrow 258 15 = some (.getfield 234, 3, 22, 24, 0, 1046) := by decide +kernel
theorem r_258_18 : xrow 258 18 = some (.if_icmp .ge 78, 3, 96, 0, 0, 0) := by decide +kernel
theorem r_258_21 : xrow 258 21 = some (.iload 4, 2, 0, 0, 0, 0) := by decide +kernel
theorem r_258_23 : xrow 258 23 = some (.iconst 5, 1, 0, 0, 0, 0) := by decide +kernel
theorem r_258_24 : xrow 258 24 = some (.irem, 1, 0, 0, 0, 0) := by decide +kernel
theorem r_258_25 : xrow 258 25 = some (.iload 7, 2, 0, 0, 0, 0) := by decide +kernel
theorem r_258_27 : xrow 258 27 = some (.iload_n 3, 1, 0, 0, 0, 0) := by decide +kernel
theorem r_258_28 : xrow 258 28 = some (.if_icmp .ne 12, 3, 40, 0, 0, 0) := by decide +kernel
theorem r_258_31 : xrow 258 31 = some (.aload_n 0, 1, 0, 0, 0, 0) := by decide +kernel
theorem r_258_32 : xrow 258 32 = some (.getfield 43, 3, 22, 31, 2, 993) := by decide +kernel
theorem r_258_35 : xrow 258 35 = some (.iload_n 2, 1, 0, 0, 0, 0) := by decide +kernel
theorem r_258_36 : xrow 258 36 = some (.iaload, 1, 0, 0, 0, 0) := by decide +kernel
theorem r_258_37 : xrow 258 37 = some (.goto 9, 3, 46, 0, 0, 0) := by decide +kernel
theorem r_258_40 : xrow 258 40 = some (.aload_n 0, 1, 0, 0, 0, 0) := by decide +kernel
theorem r_258_41 : xrow 258 41 = some (.getfield 40, 3, 22, 30, 2, 992) := by decide +kernel
theorem r_258_44 : xrow 258 44 = some (.iload_n 2, 1, 0, 0, 0, 0) := by decide +kernel
theorem r_258_45 : xrow 258 45 = some (.iaload, 1, 0, 0, 0, 0) := by decide +kernel
theorem r_258_46 : xrow 258 46 = some (.iadd, 1, 0, 0, 0, 0) := by decide +kernel
theorem r_258_47 : xrow 258 47 = some (.istore 8, 2, 0, 0, 0, 0) := by decide +kernel
theorem r_258_49 : xrow 258 49 = some (.iload 6, 2, 0, 0, 0, 0) := by decide +kernel
theorem r_258_51 : xrow 258 51 = some (.iload 5, 2, 0, 0, 0, 0) := by decide +kernel
theorem r_258_53 : xrow 258 53 = some (.iload 8, 2, 0, 0, 0, 0) := by decide +kernel
theorem r_258_55 : xrow 258 55 = some (.ifCond .ge 7, 3, 62, 0, 0, 0) := by decide +kernel
theorem r_258_58 : xrow 258 58 = some (.iconst 0, 1, 0, 0, 0, 0) := by decide +kernel
theorem r_258_59 : xrow 258 59 = some (.goto 15, 3, 74, 0, 0, 0) := by decide +kernel
theorem r_258_62 : xrow 258 62 = some (.iload 8, 2, 0, 0, 0, 0) := by decide +kernel
theorem r_258_64 : xrow 258 64 = some (.iconst 4, 1, 0, 0, 0, 0) := by decide +kernel
theorem r_258_65 : xrow 258 65 = some (.if_icmp .le 7, 3, 72, 0, 0, 0) := by decide +kernel
theorem r_258_68 : xrow 258 68 = some (.iconst 4, 1, 0, 0, 0, 0) := by decide +kernel
theorem r_258_69 : xrow 258 69 = some (.goto 5, 3, 74, 0, 0, 0) := by decide +kernel
theorem r_258_72 : xrow 258 72 = some (.iload 8, 2, 0, 0, 0, 0) := by decide +kernel
theorem r_258_74 : xrow 258 74 = some (.imul, 1, 0, 0, 0, 0) := by decide +kernel
theorem r_258_75 : xrow 258 75 = some (.iadd, 1, 0, 0, 0, 0) := by decide +kernel
theorem r_258_76 : xrow 258 76 = some (.istore 6, 2, 0, 0, 0, 0) := by decide +kernel
theorem r_258_78 : xrow 258 78 = some (.iload 4, 2, 0, 0, 0, 0) := by decide +kernel
theorem r_258_80 : xrow 258 80 = some (.iconst 5, 1, 0, 0, 0, 0) := by decide +kernel
theorem r_258_81 : xrow 258 81 = some (.idiv, 1, 0, 0, 0, 0) := by decide +kernel
theorem r_258_82 : xrow 258 82 = some (.istore 4, 2, 0, 0, 0, 0) := by decide +kernel
theorem r_258_84 : xrow 258 84 = some (.iload 5, 2, 0, 0, 0, 0) := by decide +kernel
theorem r_258_86 : xrow 258 86 = some (.iconst 5, 1, 0, 0, 0, 0) := by decide +kernel
theorem r_258_87 : xrow 258 87 = some (.imul, 1, 0, 0, 0, 0) := by decide +kernel
theorem r_258_88 : xrow 258 88 = some (.istore 5, 2, 0, 0, 0, 0) := by decide +kernel
theorem r_258_90 : xrow 258 90 = some (.iinc 7 1, 3, 0, 0, 0, 0) := by decide +kernel
theorem r_258_93 : xrow 258 93 = some (.goto (-81), 3, 12, 0, 0, 0) := by decide +kernel
theorem r_258_96 : xrow 258 96 = some (.iload 6, 2, 0, 0, 0, 0) := by decide +kernel
theorem r_258_98 : xrow 258 98 = some (.ireturn, 1, 0, 0, 0, 0) := by decide +kernel
theorem r_259_0 : xrow 259 0 = some (.aload_n 0, 1, 0, 0, 0, 0) := by decide +kernel
theorem r_259_1 : xrow 259 1 = some (.getfield 272, 3, 22, 69, 0, 1058) := by decide +kernel
theorem r_259_4 : xrow 259 4 = some (.ifCond .eq 4, 3, 8, 0, 0, 0) := by decide +kernel
theorem r_259_7 : xrow 259 7 = some (.return_, 1, 0, 0, 0, 0) := by decide +kernel
theorem r_259_8 : xrow 259 8 = some (.aload_n 0, 1, 0, 0, 0, 0) := by decide +kernel
theorem r_259_9 : xrow 259 9 = some (.iconst 1, 1, 0, 0, 0, 0) := by decide +kernel
theorem r_259_10 : xrow 259 10 = some (.putfield 272, 3, 22, 69, 3, 1058) := by decide +kernel
theorem r_259_13 : xrow 259 13 = some (.iconst 1, 1, 0, 0, 0, 0) := by decide +kernel
theorem r_259_14 : xrow 259 14 = some (.istore_n 1, 1, 0, 0, 0, 0) := by decide +kernel
theorem r_259_15 : xrow 259 15 = some (.iconst 0, 1, 0, 0, 0, 0) := by decide +kernel
theorem r_259_16 : xrow 259 16 = some (.istore_n 2, 1, 0, 0, 0, 0) := by decide +kernel
theorem r_259_17 : xrow 259 17 = some (.iload_n 2, 1, 0, 0, 0, 0) := by decide +kernel
theorem r_259_18 : xrow 259 18 = some (.aload_n 0, 1, 0, 0, 0, 0) := by decide +kernel
theorem r_259_19 : xrow 259 19 = some (.getfield 234, 3, 22, 24, 0, 1046) := by decide +kernel
theorem r_259_22 : xrow 259 22 = some (.if_icmp .ge 13, 3, 35, 0, 0, 0) := by decide +kernel
theorem r_259_25 : xrow 259 25 = some (.iload_n 1, 1, 0, 0, 0, 0) := by decide +kernel
theorem r_259_26 : xrow 259 26 = some (.iconst 5, 1, 0, 0, 0, 0) := by decide +kernel
theorem r_259_27 : xrow 259 27 = some (.imul, 1, 0, 0, 0, 0) := by decide +kernel
theorem r_259_28 : xrow 259 28 = some (.istore_n 1, 1, 0, 0, 0, 0) := by decide +kernel
theorem r_259_29 : xrow 259 29 = some (.iinc 2 1, 3, 0, 0, 0, 0) := by decide +kernel
theorem r_259_32 : xrow 259 32 = some (.goto (-15), 3, 17, 0, 0, 0) := by decide +kernel
theorem r_259_35 : xrow 259 35 = some (.iconst 0, 1, 0, 0, 0, 0) := by decide +kernel
theorem r_259_36 : xrow 259 36 = some (.istore_n 2, 1, 0, 0, 0, 0) := by decide +kernel
theorem r_259_37 : xrow 259 37 = some (.iload_n 2, 1, 0, 0, 0, 0) := by decide +kernel
theorem r_259_38 : xrow 259 38 = some (.iload_n 1, 1, 0, 0, 0, 0) := by decide +kernel
theorem r_259_39 : xrow 259 39 = some (.if_icmp .ge 26, 3, 65, 0, 0, 0) := by decide +kernel
theorem r_259_42 : xrow 259 42 = some (.aload_n 0, 1, 0, 0, 0, 0) := by decide +kernel
theorem r_259_43 : xrow 259 43 = some (.getfield 116, 3, 22, 68, 2, 1017) := by decide +kernel
theorem r_259_46 : xrow 259 46 = some (.iload_n 2, 1, 0, 0, 0, 0) := by decide +kernel
theorem r_259_47 : xrow 259 47 = some (.iload_n 2, 1, 0, 0, 0, 0) := by decide +kernel
theorem r_259_48 : xrow 259 48 = some (.ifCond .ne 7, 3, 55, 0, 0, 0) := by decide +kernel
theorem r_259_51 : xrow 259 51 = some (.iconst 0, 1, 0, 0, 0, 0) := by decide +kernel
theorem r_259_52 : xrow 259 52 = some (.goto 6, 3, 58, 0, 0, 0) := by decide +kernel
theorem r_259_55 : xrow 259 55 = some (.ldc_w 493, 3, 2000000000, 0, 0, 1126) := by decide +kernel
theorem r_259_58 : xrow 259 58 = some (.iastore, 1, 0, 0, 0, 0) := by decide +kernel
theorem r_259_59 : xrow 259 59 = some (.iinc 2 1, 3, 0, 0, 0, 0) := by decide +kernel
theorem r_259_62 : xrow 259 62 = some (.goto (-25), 3, 37, 0, 0, 0) := by decide +kernel
theorem r_259_65 : xrow 259 65 = some (.iconst 1, 1, 0, 0, 0, 0) := by decide +kernel
theorem r_259_66 : xrow 259 66 = some (.istore_n 2, 1, 0, 0, 0, 0) := by decide +kernel
theorem r_259_67 : xrow 259 67 = some (.iload_n 2, 1, 0, 0, 0, 0) := by decide +kernel
theorem r_259_68 : xrow 259 68 = some (.ifCond .eq 133, 3, 201, 0, 0, 0) := by decide +kernel
theorem r_259_71 : xrow 259 71 = some (.iconst 0, 1, 0, 0, 0, 0) := by decide +kernel
theorem r_259_72 : xrow 259 72 = some (.istore_n 2, 1, 0, 0, 0, 0) := by decide +kernel
theorem r_259_73 : xrow 259 73 = some (.iconst 1, 1, 0, 0, 0, 0) := by decide +kernel
theorem r_259_74 : xrow 259 74 = some (.istore_n 3, 1, 0, 0, 0, 0) := by decide +kernel
theorem r_259_75 : xrow 259 75 = some (.iload_n 3, 1, 0, 0, 0, 0) := by decide +kernel
theorem r_259_76 : xrow 259 76 = some (.iload_n 1, 1, 0, 0, 0, 0) := by decide +kernel
theorem r_259_77 : xrow 259 77 = some (.if_icmp .ge 121, 3, 198, 0, 0, 0) := by decide +kernel
theorem r_259_80 : xrow 259 80 = some (.iconst 0, 1, 0, 0, 0, 0) := by decide +kernel
theorem r_259_81 : xrow 259 81 = some (.istore 4, 2, 0, 0, 0, 0) := by decide +kernel
theorem r_259_83 : xrow 259 83 = some (.iload 4, 2, 0, 0, 0, 0) := by decide +kernel
theorem r_259_85 : xrow 259 85 = some (.aload_n 0, 1, 0, 0, 0, 0) := by decide +kernel
theorem r_259_86 : xrow 259 86 = some (.getfield 231, 3, 22, 23, 0, 1045) := by decide +kernel
theorem r_259_89 : xrow 259 89 = some (.if_icmp .ge 103, 3, 192, 0, 0, 0) := by decide +kernel
theorem r_259_92 : xrow 259 92 = some (.iconst 0, 1, 0, 0, 0, 0) := by decide +kernel
theorem r_259_93 : xrow 259 93 = some (.istore 5, 2, 0, 0, 0, 0) := by decide +kernel
theorem r_259_95 : xrow 259 95 = some (.iload 5, 2, 0, 0, 0, 0) := by decide +kernel
theorem r_259_97 : xrow 259 97 = some (.aload_n 0, 1, 0, 0, 0, 0) := by decide +kernel
theorem r_259_98 : xrow 259 98 = some (.getfield 234, 3, 22, 24, 0, 1046) := by decide +kernel
theorem r_259_101 : xrow 259 101 = some (.if_icmp .ge 85, 3, 186, 0, 0, 0) := by decide +kernel
theorem r_259_104 : xrow 259 104 = some (.aload_n 0, 1, 0, 0, 0, 0) := by decide +kernel
theorem r_259_105 : xrow 259 105 = some (.getfield 116, 3, 22, 68, 2, 1017) := by decide +kernel
theorem r_259_108 : xrow 259 108 = some (.aload_n 0, 1, 0, 0, 0, 0) := by decide +kernel
theorem r_259_109 : xrow 259 109 = some (.iload_n 3, 1, 0, 0, 0, 0) := by decide +kernel
theorem r_259_110 : xrow 259 110 = some (.iload 4, 2, 0, 0, 0, 0) := by decide +kernel
theorem r_259_112 : xrow 259 112 = some (.iload 5, 2, 0, 0, 0, 0) := by decide +kernel
theorem r_259_114 : xrow 259 114 = some (.invokevirtual 494, 3, 258, 0, 0, 1127) := by decide +kernel
theorem r_259_117 : xrow 259 117 = some (.iaload, 1, 0, 0, 0, 0) := by decide +kernel
theorem r_259_118 : xrow 259 118 = some (.istore 6, 2, 0, 0, 0, 0) := by decide +kernel
theorem r_259_120 : xrow 259 120 = some (.iload 6, 2, 0, 0, 0, 0) := by decide +kernel
theorem r_259_122 : xrow 259 122 = some (.ldc_w 493, 3, 2000000000, 0, 0, 1126) := by decide +kernel
theorem r_259_125 : xrow 259 125 = some (.if_icmp .eq 55, 3, 180, 0, 0, 0) := by decide +kernel
theorem r_259_128 : xrow 259 128 = some (.iload 6, 2, 0, 0, 0, 0) := by decide +kernel
theorem r_259_130 : xrow 259 130 = some (.sipush 10000, 3, 0, 0, 0, 0) := by decide +kernel
theorem r_259_133 : xrow 259 133 = some (.aload_n 0, 1, 0, 0, 0, 0) := by decide +kernel
theorem r_259_134 : xrow 259 134 = some (.getfield 46, 3, 22, 32, 2, 994) := by decide +kernel
theorem r_259_137 : xrow 259 137 = some (.iload 4, 2, 0, 0, 0, 0) := by decide +kernel
theorem r_259_139 : xrow 259 139 = some (.iaload, 1, 0, 0, 0, 0) := by decide +kernel
theorem r_259_140 : xrow 259 140 = some (.imul, 1, 0, 0, 0, 0) := by decide +kernel
theorem r_259_141 : xrow 259 141 = some (.iadd, 1, 0, 0, 0, 0) := by decide +kernel
theorem r_259_142 : xrow 259 142 = some (.iconst 1, 1, 0, 0, 0, 0) := by decide +kernel
theorem r_259_143 : xrow 259 143 = some (.iadd, 1, 0, 0, 0, 0) := by decide +kernel
theorem r_259_144 : xrow 259 144 = some (.aload_n 0, 1, 0, 0, 0, 0) := by decide +kernel
theorem r_259_145 : xrow 259 145 = some (.getfield 116, 3, 22, 68, 2, 1017) := by decide +kernel
theorem r_259_148 : xrow 259 148 = some (.iload_n 3, 1, 0, 0, 0, 0) := by decide +kernel
theorem r_259_149 : xrow 259 149 = some (.iaload, 1, 0, 0, 0, 0) := by decide +kernel
theorem r_259_150 : xrow 259 150 = some (.if_icmp .lt 6, 3, 156, 0, 0, 0) := by decide +kernel
theorem r_259_153 : xrow 259 153 = some (.goto 27, 3, 180, 0, 0, 0) := by decide +kernel
theorem r_259_156 : xrow 259 156 = some (.aload_n 0, 1, 0, 0, 0, 0) := by decide +kernel
theorem r_259_157 : xrow 259 157 = some (.getfield 116, 3, 22, 68, 2, 1017) := by decide +kernel
theorem r_259_160 : xrow 259 160 = some (.iload_n 3, 1, 0, 0, 0, 0) := by decide +kernel
theorem r_259_161 : xrow 259 161 = some (.iload 6, 2, 0, 0, 0, 0) := by decide +kernel
theorem r_259_163 : xrow 259 163 = some (.sipush 10000, 3, 0, 0, 0, 0) := by decide +kernel
theorem r_259_166 : xrow 259 166 = some (.aload_n 0, 1, 0, 0, 0, 0) := by decide +kernel
theorem r_259_167 : xrow 259 167 = some (.getfield 46, 3, 22, 32, 2, 994) := by decide +kernel
theorem r_259_170 : xrow 259 170 = some (.iload 4, 2, 0, 0, 0, 0) := by decide +kernel
theorem r_259_172 : xrow 259 172 = some (.iaload, 1, 0, 0, 0, 0) := by decide +kernel
theorem r_259_173 : xrow 259 173 = some (.imul, 1, 0, 0, 0, 0) := by decide +kernel
theorem r_259_174 : xrow 259 174 = some (.iadd, 1, 0, 0, 0, 0) := by decide +kernel
theorem r_259_175 : xrow 259 175 = some (.iconst 1, 1, 0, 0, 0, 0) := by decide +kernel
theorem r_259_176 : xrow 259 176 = some (.iadd, 1, 0, 0, 0, 0) := by decide +kernel
theorem r_259_177 : xrow 259 177 = some (.iastore, 1, 0, 0, 0, 0) := by decide +kernel
theorem r_259_178 : xrow 259 178 = some (.iconst 1, 1, 0, 0, 0, 0) := by decide +kernel
theorem r_259_179 : xrow 259 179 = some (.istore_n 2, 1, 0, 0, 0, 0) := by decide +kernel
theorem r_259_180 : xrow 259 180 = some (.iinc 5 1, 3, 0, 0, 0, 0) := by decide +kernel
theorem r_259_183 : xrow 259 183 = some (.goto (-88), 3, 95, 0, 0, 0) := by decide +kernel
theorem r_259_186 : xrow 259 186 = some (.iinc 4 1, 3, 0, 0, 0, 0) := by decide +kernel
theorem r_259_189 : xrow 259 189 = some (.goto (-106), 3, 83, 0, 0, 0) := by decide +kernel
theorem r_259_192 : xrow 259 192 = some (.iinc 3 1, 3, 0, 0, 0, 0) := by decide +kernel
theorem r_259_195 : xrow 259 195 = some (.goto (-120), 3, 75, 0, 0, 0) := by decide +kernel
theorem r_259_198 : xrow 259 198 = some (.goto (-131), 3, 67, 0, 0, 0) := by decide +kernel
theorem r_259_201 : xrow 259 201 = some (.return_, 1, 0, 0, 0, 0) := by decide +kernel
theorem r_260_0 : xrow 260 0 = some (.aload_n 0, 1, 0, 0, 0, 0) := by decide +kernel
theorem r_260_1 : xrow 260 1 = some (.invokevirtual 249, 3, 164, 0, 0, 1051) := by decide +kernel
theorem r_260_4 : xrow 260 4 = some (.aload_n 0, 1, 0, 0, 0, 0) := by decide +kernel
theorem r_260_5 : xrow 260 5 = some (.getfield 269, 3, 22, 12, 0, 1057) := by decide +kernel
theorem r_260_8 : xrow 260 8 = some (.ifCond .ne 9, 3, 17, 0, 0, 0) := by decide +kernel
theorem r_260_11 : xrow 260 11 = some (.aload_n 0, 1, 0, 0, 0, 0) := by decide +kernel
theorem r_260_12 : xrow 260 12 = some (.iconst 1, 1, 0, 0, 0, 0) := by decide +kernel
theorem r_260_13 : xrow 260 13 = some (.invokevirtual 252, 3, 165, 0, 0, 1052) := by decide +kernel
theorem r_260_16 : xrow 260 16 = some (.ireturn, 1, 0, 0, 0, 0) := by decide +kernel
theorem r_260_17 : xrow 260 17 = some (.aload_n 0, 1, 0, 0, 0, 0) := by decide +kernel
theorem r_260_18 : xrow 260 18 = some (.invokevirtual 497, 3, 259, 0, 0, 1128) := by decide +kernel
theorem r_260_21 : xrow 260 21 = some (.aload_n 0, 1, 0, 0, 0, 0) := by decide +kernel
theorem r_260_22 : xrow 260 22 = some (.getfield 116, 3, 22, 68, 2, 1017) := by decide +kernel
theorem r_260_25 : xrow 260 25 = some (.aload_n 0, 1, 0, 0, 0, 0) := by decide +kernel
theorem r_260_26 : xrow 260 26 = some (.invokevirtual 500, 3, 257, 0, 0, 1129) := by decide +kernel
theorem r_260_29 : xrow 260 29 = some (.iaload, 1, 0, 0, 0, 0) := by decide +kernel
theorem r_260_30 : xrow 260 30 = some (.istore_n 1, 1, 0, 0, 0, 0) := by decide +kernel
theorem r_260_31 : xrow 260 31 = some (.iload_n 1, 1, 0, 0, 0, 0) := by decide +kernel
theorem r_260_32 : xrow 260 32 = some (.ldc_w 493, 3, 2000000000, 0, 0, 1126) := by decide +kernel
theorem r_260_35 : xrow 260 35 = some (.if_icmp .ne 12, 3, 47, 0, 0, 0) := by decide +kernel
theorem r_260_38 : xrow 260 38 = some (.aload_n 0, 1, 0, 0, 0, 0) := by decide +kernel
theorem r_260_39 : xrow 260 39 = some (.bipush 6, 2, 0, 0, 0, 0) := by decide +kernel
theorem r_260_41 : xrow 260 41 = some (.invokevirtual 252, 3, 165, 0, 0, 1052) := by decide +kernel
theorem r_260_44 : xrow 260 44 = some (.goto 8, 3, 52, 0, 0, 0) := by decide +kernel
theorem r_260_47 : xrow 260 47 = some (.iload_n 1, 1, 0, 0, 0, 0) := by decide +kernel
theorem r_260_48 : xrow 260 48 = some (.sipush 10000, 3, 0, 0, 0, 0) := by decide +kernel
theorem r_260_51 : xrow 260 51 = some (.idiv, 1, 0, 0, 0, 0) := by decide +kernel
theorem r_260_52 : xrow 260 52 = some (.ireturn, 1, 0, 0, 0, 0) := by decide +kernel
theorem r_261_0 : xrow 261 0 = some (.aload_n 0, 1, 0, 0, 0, 0) := by decide +kernel
theorem r_261_1 : xrow 261 1 = some (.invokevirtual 249, 3, 164, 0, 0, 1051) := by decide +kernel
theorem r_261_4 : xrow 261 4 = some (.aload_n 0, 1, 0, 0, 0, 0) := by decide +kernel
theorem r_261_5 : xrow 261 5 = some (.getfield 269, 3, 22, 12, 0, 1057) := by decide +kernel
theorem r_261_8 : xrow 261 8 = some (.ifCond .eq 7, 3, 15, 0, 0, 0) := by decide +kernel
theorem r_261_11 : xrow 261 11 = some (.iload_n 1, 1, 0, 0, 0, 0) := by decide +kernel
theorem r_261_12 : xrow 261 12 = some (.ifCond .ge 9, 3, 21, 0, 0, 0) := by decide +kernel
theorem r_261_15 : xrow 261 15 = some (.aload_n 0, 1, 0, 0, 0, 0) := by decide +kernel
theorem r_261_16 : xrow 261 16 = some (.iconst 1, 1, 0, 0, 0, 0) := by decide +kernel
theorem r_261_17 : xrow 261 17 = some (.invokevirtual 252, 3, 165, 0, 0, 1052) := by decide +kernel
theorem r_261_20 : xrow 261 20 = some (.ireturn, 1, 0, 0, 0, 0) := by decide +kernel
theorem r_261_21 : xrow 261 21 = some (.aload_n 0, 1, 0, 0, 0, 0) := by decide +kernel
theorem r_261_22 : xrow 261 22 = some (.invokevirtual 497, 3, 259, 0, 0, 1128) := by decide +kernel
theorem r_261_25 : xrow 261 25 = some (.aload_n 0, 1, 0, 0, 0, 0) := by decide +kernel
theorem r_261_26 : xrow 261 26 = some (.invokevirtual 500, 3, 257, 0, 0, 1129) := by decide +kernel
theorem r_261_29 : xrow 261 29 = some (.istore_n 2, 1, 0, 0, 0, 0) := by decide +kernel
theorem r_261_30 : xrow 261 30 = some (.aload_n 0, 1, 0, 0, 0, 0) := by decide +kernel
theorem r_261_31 : xrow 261 31 = some (.getfield 116, 3, 22, 68, 2, 1017) := by decide +kernel
theorem r_261_34 : xrow 261 34 = some (.iload_n 2, 1, 0, 0, 0, 0) := by decide +kernel
theorem r_261_35 : xrow 261 35 = some (.iaload, 1, 0, 0, 0, 0) := by decide +kernel
theorem r_261_36 : xrow 261 36 = some (.ldc_w 493, 3, 2000000000, 0, 0, 1126) := by decide +kernel
theorem r_261_39 : xrow 261 39 = some (.if_icmp .ne 6, 3, 45, 0, 0, 0) := by decide +kernel
theorem r_261_42 : xrow 261 42 = some (.bipush (-2), 2, 0, 0, 0, 0) := by decide +kernel
theorem r_261_44 : xrow 261 44 = some (.ireturn, 1, 0, 0, 0, 0) := by decide +kernel
theorem r_261_45 : xrow 261 45 = some (.iconst 0, 1, 0, 0, 0, 0) := by decide +kernel
theorem r_261_46 : xrow 261 46 = some (.istore_n 3, 1, 0, 0, 0, 0) := by decide +kernel
theorem r_261_47 : xrow 261 47 = some (.iload_n 2, 1, 0, 0, 0, 0) := by decide +kernel
theorem r_261_48 : xrow 261 48 = some (.ifCond .le 141, 3, 189, 0, 0, 0) := by decide +kernel
theorem r_261_51 : xrow 261 51 = some (.iconst (-1), 1, 0, 0, 0, 0) := by decide +kernel
theorem r_261_52 : xrow 261 52 = some (.istore 4, 2, 0, 0, 0, 0) := by decide +kernel
theorem r_261_54 : xrow 261 54 = some (.iconst 0, 1, 0, 0, 0, 0) := by decide +kernel
theorem r_261_55 : xrow 261 55 = some (.istore 5, 2, 0, 0, 0, 0) := by decide +kernel
theorem r_261_57 : xrow 261 57 = some (.iload 5, 2, 0, 0, 0, 0) := by decide +kernel
theorem r_261_59 : xrow 261 59 = some (.aload_n 0, 1, 0, 0, 0, 0) := by decide +kernel
theorem r_261_60 : xrow 261 60 = some (.getfield 231, 3, 22, 23, 0, 1045) := by decide +kernel
theorem r_261_63 : xrow 261 63 = some (.if_icmp .ge 96, 3, 159, 0, 0, 0) := by decide +kernel
theorem r_261_66 : xrow 261 66 = some (.iload 4, 2, 0, 0, 0, 0) := by decide +kernel
theorem r_261_68 : xrow 261 68 = some (.ifCond .ge 91, 3, 159, 0, 0, 0) := by decide +kernel
theorem r_261_71 : xrow 261 71 = some (.iconst 0, 1, 0, 0, 0, 0) := by decide +kernel
theorem r_261_72 : xrow 261 72 = some (.istore 6, 2, 0, 0, 0, 0) := by decide +kernel
theorem r_261_74 : xrow 261 74 = some (.iload 6, 2, 0, 0, 0, 0) := by decide +kernel
theorem r_261_76 : xrow 261 76 = some (.aload_n 0, 1, 0, 0, 0, 0) := by decide +kernel
theorem r_261_77 : xrow 261 77 = some (.getfield 234, 3, 22, 24, 0, 1046) := by decide +kernel
theorem r_261_80 : xrow 261 80 = some (.if_icmp .ge 73, 3, 153, 0, 0, 0) := by decide +kernel
theorem r_261_83 : xrow 261 83 = some (.iload 4, 2, 0, 0, 0, 0) := by decide +kernel
theorem r_261_85 : xrow 261 85 = some (.ifCond .ge 68, 3, 153, 0, 0, 0) := by decide +kernel
theorem r_261_88 : xrow 261 88 = some (.aload_n 0, 1, 0, 0, 0, 0) := by decide +kernel
theorem r_261_89 : xrow 261 89 = some (.getfield 116, 3, 22, 68, 2, 1017) := by decide +kernel
theorem r_261_92 : xrow 261 92 = some (.aload_n 0, 1, 0, 0, 0, 0) := by decide +kernel
theorem r_261_93 : xrow 261 93 = some (.iload_n 2, 1, 0, 0, 0, 0) := by decide +kernel
theorem r_261_94 : xrow 261 94 = some (.iload 5, 2, 0, 0, 0, 0) := by decide +kernel
theorem r_261_96 : xrow 261 96 = some (.iload 6, 2, 0, 0, 0, 0) := by decide +kernel
theorem r_261_98 : xrow 261 98 = some (.invokevirtual 494, 3, 258, 0, 0, 1127) := by decide +kernel
theorem r_261_101 : xrow 261 101 = some (.iaload, 1, 0, 0, 0, 0) := by decide +kernel
theorem r_261_102 : xrow 261 102 = some (.istore 7, 2, 0, 0, 0, 0) := by decide +kernel
theorem r_261_104 : xrow 261 104 = some (.iload 7, 2, 0, 0, 0, 0) := by decide +kernel
theorem r_261_106 : xrow 261 106 = some (.ldc_w 493, 3, 2000000000, 0, 0, 1126) := by decide +kernel
theorem r_261_109 : xrow 261 109 = some (.if_icmp .ge 38, 3, 147, 0, 0, 0) := by decide +kernel
theorem r_261_112 : xrow 261 112 = some (.iload 7, 2, 0, 0, 0, 0) := by decide +kernel
theorem r_261_114 : xrow 261 114 = some (.sipush 10000, 3, 0, 0, 0, 0) := by decide +kernel
theorem r_261_117 : xrow 261 117 = some (.aload_n 0, 1, 0, 0, 0, 0) := by decide +kernel
theorem r_261_118 : xrow 261 118 = some (.getfield 46, 3, 22, 32, 2, 994) := by decide +kernel
theorem r_261_121 : xrow 261 121 = some (.iload 5, 2, 0, 0, 0, 0) := by decide +kernel
theorem r_261_123 : xrow 261 123 = some (.iaload, 1, 0, 0, 0, 0) := by decide +kernel
theorem r_261_124 : xrow 261 124 = some (.imul, 1, 0, 0, 0, 0) := by decide +kernel
theorem r_261_125 : xrow 261 125 = some (.iadd, 1, 0, 0, 0, 0) := by decide +kernel
theorem r_261_126 : xrow 261 126 = some (.iconst 1, 1, 0, 0, 0, 0) := by decide +kernel
theorem r_261_127 : xrow 261 127 = some (.iadd, 1, 0, 0, 0, 0) := by decide +kernel
theorem r_261_128 : xrow 261 128 = some (.aload_n 0, 1, 0, 0, 0, 0) := by decide +kernel
theorem r_261_129 : xrow 261 129 = some (.getfield 116, 3, 22, 68, 2, 1017) := by decide +kernel
theorem r_261_132 : xrow 261 132 = some (.iload_n 2, 1, 0, 0, 0, 0) := by decide +kernel
theorem r_261_133 : xrow 261 133 = some (.iaload, 1, 0, 0, 0, 0) := by decide +kernel
theorem r_261_134 : xrow 261 134 = some (.if_icmp .ne 13, 3, 147, 0, 0, 0) := by decide +kernel
theorem r_261_137 : xrow 261 137 = some (.bipush 10, 2, 0, 0, 0, 0) := by decide +kernel
theorem r_261_139 : xrow 261 139 = some (.iload 5, 2, 0, 0, 0, 0) := by decide +kernel
theorem r_261_141 : xrow 261 141 = some (.imul, 1, 0, 0, 0, 0) := by decide +kernel
theorem r_261_142 : xrow 261 142 = some (.iload 6, 2, 0, 0, 0, 0) := by decide +kernel
theorem r_261_144 : xrow 261 144 = some (.iadd, 1, 0, 0, 0, 0) := by decide +kernel
theorem r_261_145 : xrow 261 145 = some (.istore 4, 2, 0, 0, 0, 0) := by decide +kernel
theorem r_261_147 : xrow 261 147 = some (.iinc 6 1, 3, 0, 0, 0, 0) := by decide +kernel
theorem r_261_150 : xrow 261 150 = some (.goto (-76), 3, 74, 0, 0, 0) := by decide +kernel
theorem r_261_153 : xrow 261 153 = some (.iinc 5 1, 3, 0, 0, 0, 0) := by decide +kernel
theorem r_261_156 : xrow 261 156 = some (.goto (-99), 3, 57, 0, 0, 0) := by decide +kernel
theorem r_261_159 : xrow 261 159 = some (.iload_n 3, 1, 0, 0, 0, 0) := by decide +kernel
theorem r_261_160 : xrow 261 160 = some (.iload_n 1, 1, 0, 0, 0, 0) := by decide +kernel
theorem r_261_161 : xrow 261 161 = some (.if_icmp .ne 6, 3, 167, 0, 0, 0) := by decide +kernel
theorem r_261_164 : xrow 261 164 = some (.iload 4, 2, 0, 0, 0, 0) := by decide +kernel
theorem r_261_166 : xrow 261 166 = some (.ireturn, 1, 0, 0, 0, 0) := by decide +kernel
theorem r_261_167 : xrow 261 167 = some (.aload_n 0, 1, 0, 0, 0, 0) := by decide +kernel
theorem r_261_168 : xrow 261 168 = some (.iload_n 2, 1, 0, 0, 0, 0) := by decide +kernel
theorem r_261_169 : xrow 261 169 = some (.iload 4, 2, 0, 0, 0, 0) := by decide +kernel
theorem r_261_171 : xrow 261 171 = some (.bipush 10, 2, 0, 0, 0, 0) := by decide +kernel
theorem r_261_173 : xrow 261 173 = some (.idiv, 1, 0, 0, 0, 0) := by decide +kernel
theorem r_261_174 : xrow 261 174 = some (.iload 4, 2, 0, 0, 0, 0) := by decide +kernel
theorem r_261_176 : xrow 261 176 = some (.bipush 10, 2, 0, 0, 0, 0) := by decide +kernel
theorem r_261_178 : xrow 261 178 = some (.irem, 1, 0, 0, 0, 0) := by decide +kernel
theorem r_261_179 : xrow 261 179 = some (.invokevirtual 494, 3, 258, 0, 0, 1127) := by decide +kernel
theorem r_261_182 : xrow 261 182 = some (.istore_n 2, 1, 0, 0, 0, 0) := by decide +kernel
theorem r_261_183 : xrow 261 183 = some (.iinc 3 1, 3, 0, 0, 0, 0) := by decide +kernel
theorem r_261_186 : xrow 261 186 = some (.goto (-139), 3, 47, 0, 0, 0) := by decide +kernel
theorem r_261_189 : xrow 261 189 = some (.bipush (-2), 2, 0, 0, 0, 0) := by decide +kernel
theorem r_261_191 : xrow 261 191 = some (.ireturn, 1, 0, 0, 0, 0) := by decide +kernel
theorem r_262_0 : xrow 262 0 = some (.iconst 0, 1, 0, 0, 0, 0) := by decide +kernel
theorem r_262_1 : xrow 262 1 = some (.istore_n 1, 1, 0, 0, 0, 0) := by decide +kernel
theorem r_262_2 : xrow 262 2 = some (.iconst 0, 1, 0, 0, 0, 0) := by decide +kernel
theorem r_262_3 : xrow 262 3 = some (.istore_n 2, 1, 0, 0, 0, 0) := by decide +kernel
theorem r_262_4 : xrow 262 4 = some (.iload_n 2, 1, 0, 0, 0, 0) := by decide +kernel
theorem r_262_5 : xrow 262 5 = some (.aload_n 0, 1, 0, 0, 0, 0) := by decide +kernel
theorem r_262_6 : xrow 262 6 = some (.getfield 234, 3, 22, 24, 0, 1046) := by decide +kernel
theorem r_262_9 : xrow 262 9 = some (.if_icmp .ge 37, 3, 46, 0, 0, 0) := by decide +kernel
theorem r_262_12 : xrow 262 12 = some (.aload_n 0, 1, 0, 0, 0, 0) := by decide +kernel
theorem r_262_13 : xrow 262 13 = some (.getfield 269, 3, 22, 12, 0, 1057) := by decide +kernel
theorem r_262_16 : xrow 262 16 = some (.ifCond .eq 30, 3, 46, 0, 0, 0) := by decide +kernel
theorem r_262_19 : xrow 262 19 = some (.aload_n 0, 1, 0, 0, 0, 0) := by decide +kernel
theorem r_262_20 : xrow 262 20 = some (.getfield 70, 3, 22, 47, 2, 1002) := by decide +kernel
theorem r_262_23 : xrow 262 23 = some (.iload_n 2, 1, 0, 0, 0, 0) := by decide +kernel
theorem r_262_24 : xrow 262 24 = some (.iaload, 1, 0, 0, 0, 0) := by decide +kernel
theorem r_262_25 : xrow 262 25 = some (.iload_n 1, 1, 0, 0, 0, 0) := by decide +kernel
theorem r_262_26 : xrow 262 26 = some (.if_icmp .le 12, 3, 38, 0, 0, 0) := by decide +kernel
theorem r_262_29 : xrow 262 29 = some (.aload_n 0, 1, 0, 0, 0, 0) := by decide +kernel
theorem r_262_30 : xrow 262 30 = some (.getfield 70, 3, 22, 47, 2, 1002) := by decide +kernel
theorem r_262_33 : xrow 262 33 = some (.iload_n 2, 1, 0, 0, 0, 0) := by decide +kernel
theorem r_262_34 : xrow 262 34 = some (.iaload, 1, 0, 0, 0, 0) := by decide +kernel
theorem r_262_35 : xrow 262 35 = some (.goto 4, 3, 39, 0, 0, 0) := by decide +kernel
theorem r_262_38 : xrow 262 38 = some (.iload_n 1, 1, 0, 0, 0, 0) := by decide +kernel
theorem r_262_39 : xrow 262 39 = some (.istore_n 1, 1, 0, 0, 0, 0) := by decide +kernel
theorem r_262_40 : xrow 262 40 = some (.iinc 2 1, 3, 0, 0, 0, 0) := by decide +kernel
theorem r_262_43 : xrow 262 43 = some (.goto (-39), 3, 4, 0, 0, 0) := by decide +kernel
theorem r_262_46 : xrow 262 46 = some (.iload_n 1, 1, 0, 0, 0, 0) := by decide +kernel
theorem r_262_47 : xrow 262 47 = some (.ireturn, 1, 0, 0, 0, 0) := by decide +kernel
theorem r_263_0 : xrow 263 0 = some (.aload_n 0, 1, 0, 0, 0, 0) := by decide +kernel
theorem r_263_1 : xrow 263 1 = some (.invokevirtual 249, 3, 164, 0, 0, 1051) := by decide +kernel
theorem r_263_4 : xrow 263 4 = some (.aload_n 0, 1, 0, 0, 0, 0) := by decide +kernel
theorem r_263_5 : xrow 263 5 = some (.getfield 269, 3, 22, 12, 0, 1057) := by decide +kernel
theorem r_263_8 : xrow 263 8 = some (.ifCond .eq 31, 3, 39, 0, 0, 0) := by decide +kernel
theorem r_263_11 : xrow 263 11 = some (.iload_n 1, 1, 0, 0, 0, 0) := by decide +kernel
theorem r_263_12 : xrow 263 12 = some (.iconst 0, 1, 0, 0, 0, 0) := by decide +kernel
theorem r_263_13 : xrow 263 13 = some (.aload_n 0, 1, 0, 0, 0, 0) := by decide +kernel
theorem r_263_14 : xrow 263 14 = some (.getfield 231, 3, 22, 23, 0, 1045) := by decide +kernel
theorem r_263_17 : xrow 263 17 = some (.iconst 1, 1, 0, 0, 0, 0) := by decide +kernel
theorem r_263_18 : xrow 263 18 = some (.isub, 1, 0, 0, 0, 0) := by decide +kernel
theorem r_263_19 : xrow 263 19 = some (.invokestatic 220, 3, 167, 0, 0, 1042) := by decide +kernel
theorem r_263_22 : xrow 263 22 = some (.ifCond .eq 17, 3, 39, 0, 0, 0) := by decide +kernel
theorem r_263_25 : xrow 263 25 = some (.iload_n 2, 1, 0, 0, 0, 0) := by decide +kernel
theorem r_263_26 : xrow 263 26 = some (.iconst 0, 1, 0, 0, 0, 0) := by decide +kernel
theorem r_263_27 : xrow 263 27 = some (.aload_n 0, 1, 0, 0, 0, 0) := by decide +kernel
theorem r_263_28 : xrow 263 28 = some (.getfield 234, 3, 22, 24, 0, 1046) := by decide +kernel
theorem r_263_31 : xrow 263 31 = some (.iconst 1, 1, 0, 0, 0, 0) := by decide +kernel
theorem r_263_32 : xrow 263 32 = some (.isub, 1, 0, 0, 0, 0) := by decide +kernel
theorem r_263_33 : xrow 263 33 = some (.invokestatic 220, 3, 167, 0, 0, 1042) := by decide +kernel
theorem r_263_36 : xrow 263 36 = some (.ifCond .ne 9, 3, 45, 0, 0, 0) := by decide +kernel
theorem r_263_39 : xrow 263 39 = some (.aload_n 0, 1, 0, 0, 0, 0) := by decide +kernel
theorem r_263_40 : xrow 263 40 = some (.iconst 1, 1, 0, 0, 0, 0) := by decide +kernel
theorem r_263_41 : xrow 263 41 = some (.invokevirtual 252, 3, 165, 0, 0, 1052) := by decide +kernel
theorem r_263_44 : xrow 263 44 = some (.ireturn, 1, 0, 0, 0, 0) := by decide +kernel
theorem r_263_45 : xrow 263 45 = some (.aload_n 0, 1, 0, 0, 0, 0) := by decide +kernel
theorem r_263_46 : xrow 263 46 = some (.aload_n 0, 1, 0, 0, 0, 0) := by decide +kernel
theorem r_263_47 : xrow 263 47 = some (.invokevirtual 500, 3, 257, 0, 0, 1129) := by decide +kernel
theorem r_263_50 : xrow 263 50 = some (.iload_n 1, 1, 0, 0, 0, 0) := by decide +kernel
theorem r_263_51 : xrow 263 51 = some (.iload_n 2, 1, 0, 0, 0, 0) := by decide +kernel
theorem r_263_52 : xrow 263 52 = some (.invokevirtual 494, 3, 258, 0, 0, 1127) := by decide +kernel
theorem r_263_55 : xrow 263 55 = some (.istore_n 3, 1, 0, 0, 0, 0) := by decide +kernel
theorem r_263_56 : xrow 263 56 = some (.iconst 0, 1, 0, 0, 0, 0) := by decide +kernel
theorem r_263_57 : xrow 263 57 = some (.istore 4, 2, 0, 0, 0, 0) := by decide +kernel
theorem r_263_59 : xrow 263 59 = some (.iload 4, 2, 0, 0, 0, 0) := by decide +kernel
theorem r_263_61 : xrow 263 61 = some (.aload_n 0, 1, 0, 0, 0, 0) := by decide +kernel
theorem r_263_62 : xrow 263 62 = some (.getfield 234, 3, 22, 24, 0, 1046) := by decide +kernel
theorem r_263_65 : xrow 263 65 = some (.if_icmp .ge 23, 3, 88, 0, 0, 0) := by decide +kernel
theorem r_263_68 : xrow 263 68 = some (.aload_n 0, 1, 0, 0, 0, 0) := by decide +kernel
theorem r_263_69 : xrow 263 69 = some (.getfield 70, 3, 22, 47, 2, 1002) := by decide +kernel
theorem r_263_72 : xrow 263 72 = some (.iload 4, 2, 0, 0, 0, 0) := by decide +kernel
theorem r_263_74 : xrow 263 74 = some (.iload_n 3, 1, 0, 0, 0, 0) := by decide +kernel
theorem r_263_75 : xrow 263 75 = some (.iconst 5, 1, 0, 0, 0, 0) := by decide +kernel
theorem r_263_76 : xrow 263 76 = some (.irem, 1, 0, 0, 0, 0) := by decide +kernel
theorem r_263_77 : xrow 263 77 = some (.iastore, 1, 0, 0, 0, 0) := by decide +kernel
theorem r_263_78 : xrow 263 78 = some (.iload_n 3, 1, 0, 0, 0, 0) := by decide +kernel
theorem r_263_79 : xrow 263 79 = some (.iconst 5, 1, 0, 0, 0, 0) := by decide +kernel
theorem r_263_80 : xrow 263 80 = some (.idiv, 1, 0, 0, 0, 0) := by decide +kernel
theorem r_263_81 : xrow 263 81 = some (.istore_n 3, 1, 0, 0, 0, 0) := by decide +kernel
theorem r_263_82 : xrow 263 82 = some (.iinc 4 1, 3, 0, 0, 0, 0) := by decide +kernel
theorem r_263_85 : xrow 263 85 = some (.goto (-26), 3, 59, 0, 0, 0) := by decide +kernel
theorem r_263_88 : xrow 263 88 = some (.aload_n 0, 1, 0, 0, 0, 0) := by decide +kernel
theorem r_263_89 : xrow 263 89 = some (.invokevirtual 503, 3, 262, 0, 0, 1130) := by decide +kernel
theorem r_263_92 : xrow 263 92 = some (.ireturn, 1, 0, 0, 0, 0) := by decide +kernel
theorem r_264_0 : xrow 264 0 = some (.aload_n 0, 1, 0, 0, 0, 0) := by decide +kernel
theorem r_264_1 : xrow 264 1 = some (.iconst 0, 1, 0, 0, 0, 0) := by decide +kernel
theorem r_264_2 : xrow 264 2 = some (.putfield 131, 3, 22, 0, 0, 1022) := by decide +kernel
theorem r_264_5 : xrow 264 5 = some (.iconst 0, 1, 0, 0, 0, 0) := by decide +kernel
theorem r_264_6 : xrow 264 6 = some (.istore_n 2, 1, 0, 0, 0, 0) := by decide +kernel
theorem r_264_7 : xrow 264 7 = some (.iconst 0, 1, 0, 0, 0, 0) := by decide +kernel
theorem r_264_8 : xrow 264 8 = some (.istore_n 3, 1, 0, 0, 0, 0) := by decide +kernel
theorem r_264_9 : xrow 264 9 = some (.iload_n 3, 1, 0, 0, 0, 0) := by decide +kernel
theorem r_264_10 : xrow 264 10 = some (.aload_n 0, 1, 0, 0, 0, 0) := by decide +kernel
theorem r_264_11 : xrow 264 11 = some (.getfield 281, 3, 22, 37, 0, 1061) := by decide +kernel
theorem r_264_14 : xrow 264 14 = some (.if_icmp .ge 34, 3, 48, 0, 0, 0) := by decide +kernel
theorem r_264_17 : xrow 264 17 = some (.aload_n 0, 1, 0, 0, 0, 0) := by decide +kernel
theorem r_264_18 : xrow 264 18 = some (.getfield 275, 3, 22, 34, 0, 1059) := by decide +kernel
theorem r_264_21 : xrow 264 21 = some (.ifCond .eq 27, 3, 48, 0, 0, 0) := by decide +kernel
theorem r_264_24 : xrow 264 24 = some (.iload_n 2, 1, 0, 0, 0, 0) := by decide +kernel
theorem r_264_25 : xrow 264 25 = some (.aload_n 0, 1, 0, 0, 0, 0) := by decide +kernel
theorem r_264_26 : xrow 264 26 = some (.getfield 64, 3, 22, 45, 2, 1000) := by decide +kernel
theorem r_264_29 : xrow 264 29 = some (.iload_n 3, 1, 0, 0, 0, 0) := by decide +kernel
theorem r_264_30 : xrow 264 30 = some (.iaload, 1, 0, 0, 0, 0) := by decide +kernel
theorem r_264_31 : xrow 264 31 = some (.iconst (-1), 1, 0, 0, 0, 0) := by decide +kernel
theorem r_264_32 : xrow 264 32 = some (.if_icmp .ne 7, 3, 39, 0, 0, 0) := by decide +kernel
theorem r_264_35 : xrow 264 35 = some (.iconst 1, 1, 0, 0, 0, 0) := by decide +kernel
theorem r_264_36 : xrow 264 36 = some (.goto 4, 3, 40, 0, 0, 0) := by decide +kernel
theorem r_264_39 : xrow 264 39 = some (.iconst 0, 1, 0, 0, 0, 0) := by decide +kernel
theorem r_264_40 : xrow 264 40 = some (.iadd, 1, 0, 0, 0, 0) := by decide +kernel
theorem r_264_41 : xrow 264 41 = some (.istore_n 2, 1, 0, 0, 0, 0) := by decide +kernel
theorem r_264_42 : xrow 264 42 = some (.iinc 3 1, 3, 0, 0, 0, 0) := by decide +kernel
theorem r_264_45 : xrow 264 45 = some (.goto (-36), 3, 9, 0, 0, 0) := by decide +kernel
theorem r_264_48 : xrow 264 48 = some (.iload_n 1, 1, 0, 0, 0, 0) := by decide +kernel
theorem r_264_49 : xrow 264 49 = some (.tableswitch 242 0 13 #[71, 87, 103, 119, 135, 151, 167, 183, 188, 209, 225, 227, 232, 237], 71, 0, 0, 0, 0) := by decide +kernel
theorem r_264_120 : xrow 264 120 = some (.aload_n 0, 1, 0, 0, 0, 0) := by decide +kernel
theorem r_264_121 : xrow 264 121 = some (.getfield 269, 3, 22, 12, 0, 1057) := by decide +kernel
theorem r_264_124 : xrow 264 124 = some (.ifCond .eq 10, 3, 134, 0, 0, 0) := by decide +kernel
theorem r_264_127 : xrow 264 127 = some (.aload_n 0, 1, 0, 0, 0, 0) := by decide +kernel
theorem r_264_128 : xrow 264 128 = some (.getfield 228, 3, 22, 22, 0, 1044) := by decide +kernel
theorem r_264_131 : xrow 264 131 = some (.goto 4, 3, 135, 0, 0, 0) := by decide +kernel
theorem r_264_134 : xrow 264 134 = some (.iconst 0, 1, 0, 0, 0, 0) := by decide +kernel
theorem r_264_135 : xrow 264 135 = some (.ireturn, 1, 0, 0, 0, 0) := by decide +kernel
theorem r_264_136 : xrow 264 136 = some (.aload_n 0, 1, 0, 0, 0, 0) := by decide +kernel
theorem r_264_137 : xrow 264 137 = some (.getfield 269, 3, 22, 12, 0, 1057) := by decide +kernel
theorem r_264_140 : xrow 264 140 = some (.ifCond .eq 10, 3, 150, 0, 0, 0) := by decide +kernel
theorem r_264_143 : xrow 264 143 = some (.aload_n 0, 1, 0, 0, 0, 0) := by decide +kernel
theorem r_264_144 : xrow 264 144 = some (.getfield 231, 3, 22, 23, 0, 1045) := by decide +kernel
theorem r_264_147 : xrow 264 147 = some (.goto 4, 3, 151, 0, 0, 0) := by decide +kernel
theorem r_264_150 : xrow 264 150 = some (.iconst 0, 1, 0, 0, 0, 0) := by decide +kernel
theorem r_264_151 : xrow 264 151 = some (.ireturn, 1, 0, 0, 0, 0) := by decide +kernel
theorem r_264_152 : xrow 264 152 = some (.aload_n 0, 1, 0, 0, 0, 0) := by decide +kernel
theorem r_264_153 : xrow 264 153 = some (.getfield 269, 3, 22, 12, 0, 1057) := by decide +kernel
theorem r_264_156 : xrow 264 156 = some (.ifCond .eq 10, 3, 166, 0, 0, 0) := by decide +kernel
theorem r_264_159 : xrow 264 159 = some (.aload_n 0, 1, 0, 0, 0, 0) := by decide +kernel
theorem r_264_160 : xrow 264 160 = some (.getfield 234, 3, 22, 24, 0, 1046) := by decide +kernel
theorem r_264_163 : xrow 264 163 = some (.goto 4, 3, 167, 0, 0, 0) := by decide +kernel
theorem r_264_166 : xrow 264 166 = some (.iconst 0, 1, 0, 0, 0, 0) := by decide +kernel
theorem r_264_167 : xrow 264 167 = some (.ireturn, 1, 0, 0, 0, 0) := by decide +kernel
theorem r_264_168 : xrow 264 168 = some (.aload_n 0, 1, 0, 0, 0, 0) := by decide +kernel
theorem r_264_169 : xrow 264 169 = some (.getfield 269, 3, 22, 12, 0, 1057) := by decide +kernel
theorem r_264_172 : xrow 264 172 = some (.ifCond .eq 10, 3, 182, 0, 0, 0) := by decide +kernel
theorem r_264_175 : xrow 264 175 = some (.aload_n 0, 1, 0, 0, 0, 0) := by decide +kernel
theorem r_264_176 : xrow 264 176 = some (.getfield 237, 3, 22, 25, 0, 1047) := by decide +kernel
theorem r_264_179 : xrow 264 179 = some (.goto 4, 3, 183, 0, 0, 0) := by decide +kernel
theorem r_264_182 : xrow 264 182 = some (.iconst 0, 1, 0, 0, 0, 0) := by decide +kernel
theorem r_264_183 : xrow 264 183 = some (.ireturn, 1, 0, 0, 0, 0) := by decide +kernel
theorem r_264_184 : xrow 264 184 = some (.aload_n 0, 1, 0, 0, 0, 0) := by decide +kernel
theorem r_264_185 : xrow 264 185 = some (.getfield 269, 3, 22, 12, 0, 1057) := by decide +kernel
theorem r_264_188 : xrow 264 188 = some (.ifCond .eq 10, 3, 198, 0, 0, 0) := by decide +kernel
theorem r_264_191 : xrow 264 191 = some (.aload_n 0, 1, 0, 0, 0, 0) := by decide +kernel
theorem r_264_192 : xrow 264 192 = some (.getfield 240, 3, 22, 26, 0, 1048) := by decide +kernel
theorem r_264_195 : xrow 264 195 = some (.goto 4, 3, 199, 0, 0, 0) := by decide +kernel
theorem r_264_198 : xrow 264 198 = some (.iconst 0, 1, 0, 0, 0, 0) := by decide +kernel
theorem r_264_199 : xrow 264 199 = some (.ireturn, 1, 0, 0, 0, 0) := by decide +kernel
theorem r_264_200 : xrow 264 200 = some (.aload_n 0, 1, 0, 0, 0, 0) := by decide +kernel
theorem r_264_201 : xrow 264 201 = some (.getfield 269, 3, 22, 12, 0, 1057) := by decide +kernel
theorem r_264_204 : xrow 264 204 = some (.ifCond .eq 10, 3, 214, 0, 0, 0) := by decide +kernel
theorem r_264_207 : xrow 264 207 = some (.aload_n 0, 1, 0, 0, 0, 0) := by decide +kernel
theorem r_264_208 : xrow 264 208 = some (.getfield 243, 3, 22, 27, 0, 1049) := by decide +kernel
theorem r_264_211 : xrow 264 211 = some (.goto 4, 3, 215, 0, 0, 0) := by decide +kernel
theorem r_264_214 : xrow 264 214 = some (.iconst 0, 1, 0, 0, 0, 0) := by decide +kernel
theorem r_264_215 : xrow 264 215 = some (.ireturn, 1, 0, 0, 0, 0) := by decide +kernel
theorem r_264_216 : xrow 264 216 = some (.aload_n 0, 1, 0, 0, 0, 0) := by decide +kernel
theorem r_264_217 : xrow 264 217 = some (.getfield 269, 3, 22, 12, 0, 1057) := by decide +kernel
theorem r_264_220 : xrow 264 220 = some (.ifCond .eq 10, 3, 230, 0, 0, 0) := by decide +kernel
theorem r_264_223 : xrow 264 223 = some (.aload_n 0, 1, 0, 0, 0, 0) := by decide +kernel
theorem r_264_224 : xrow 264 224 = some (.getfield 246, 3, 22, 28, 0, 1050) := by decide +kernel
theorem r_264_227 : xrow 264 227 = some (.goto 4, 3, 231, 0, 0, 0) := by decide +kernel
theorem r_264_230 : xrow 264 230 = some (.iconst 0, 1, 0, 0, 0, 0) := by decide +kernel
theorem r_264_231 : xrow 264 231 = some (.ireturn, 1, 0, 0, 0, 0) := by decide +kernel
theorem r_264_232 : xrow 264 232 = some (.aload_n 0, 1, 0, 0, 0, 0) := by decide +kernel
theorem r_264_233 : xrow 264 233 = some (.getfield 284, 3, 22, 38, 0, 1062) := by decide +kernel
theorem r_264_236 : xrow 264 236 = some (.ireturn, 1, 0, 0, 0, 0) := by decide +kernel
theorem r_264_237 : xrow 264 237 = some (.aload_n 0, 1, 0, 0, 0, 0) := by decide +kernel
theorem r_264_238 : xrow 264 238 = some (.getfield 275, 3, 22, 34, 0, 1059) := by decide +kernel
theorem r_264_241 : xrow 264 241 = some (.ifCond .eq 15, 3, 256, 0, 0, 0) := by decide +kernel
theorem r_264_244 : xrow 264 244 = some (.aload_n 0, 1, 0, 0, 0, 0) := by decide +kernel
theorem r_264_245 : xrow 264 245 = some (.getfield 341, 3, 22, 35, 0, 1076) := by decide +kernel
theorem r_264_248 : xrow 264 248 = some (.aload_n 0, 1, 0, 0, 0, 0) := by decide +kernel
theorem r_264_249 : xrow 264 249 = some (.getfield 344, 3, 22, 36, 0, 1077) := by decide +kernel
theorem r_264_252 : xrow 264 252 = some (.imul, 1, 0, 0, 0, 0) := by decide +kernel
theorem r_264_253 : xrow 264 253 = some (.goto 4, 3, 257, 0, 0, 0) := by decide +kernel
theorem r_264_256 : xrow 264 256 = some (.iconst 0, 1, 0, 0, 0, 0) := by decide +kernel
theorem r_264_257 : xrow 264 257 = some (.ireturn, 1, 0, 0, 0, 0) := by decide +kernel
theorem r_264_258 : xrow 264 258 = some (.aload_n 0, 1, 0, 0, 0, 0) := by decide +kernel
theorem r_264_259 : xrow 264 259 = some (.getfield 275, 3, 22, 34, 0, 1059) := by decide +kernel
theorem r_264_262 : xrow 264 262 = some (.ifCond .eq 10, 3, 272, 0, 0, 0) := by decide +kernel
theorem r_264_265 : xrow 264 265 = some (.aload_n 0, 1, 0, 0, 0, 0) := by decide +kernel
theorem r_264_266 : xrow 264 266 = some (.getfield 281, 3, 22, 37, 0, 1061) := by decide +kernel
theorem r_264_269 : xrow 264 269 = some (.goto 4, 3, 273, 0, 0, 0) := by decide +kernel
theorem r_264_272 : xrow 264 272 = some (.iconst 0, 1, 0, 0, 0, 0) := by decide +kernel
theorem r_264_273 : xrow 264 273 = some (.ireturn, 1, 0, 0, 0, 0) := by decide +kernel
theorem r_264_274 : xrow 264 274 = some (.iload_n 2, 1, 0, 0, 0, 0) := by decide +kernel
theorem r_264_275 : xrow 264 275 = some (.ireturn, 1, 0, 0, 0, 0) := by decide +kernel
theorem r_264_276 : xrow 264 276 = some (.aload_n 0, 1, 0, 0, 0, 0) := by decide +kernel
theorem r_264_277 : xrow 264 277 = some (.getfield 278, 3, 22, 40, 0, 1060) := by decide +kernel
theorem r_264_280 : xrow 264 280 = some (.ireturn, 1, 0, 0, 0, 0) := by decide +kernel
theorem r_264_281 : xrow 264 281 = some (.aload_n 0, 1, 0, 0, 0, 0) := by decide +kernel
theorem r_264_282 : xrow 264 282 = some (.invokevirtual 503, 3, 262, 0, 0, 1130) := by decide +kernel
theorem r_264_285 : xrow 264 285 = some (.ireturn, 1, 0, 0, 0, 0) := by decide +kernel
theorem r_264_286 : xrow 264 286 = some (.aload_n 0, 1, 0, 0, 0, 0) := by decide +kernel
theorem r_264_287 : xrow 264 287 = some (.getfield 137, 3, 22, 2, 0, 1024) := by decide +kernel
theorem r_264_290 : xrow 264 290 = some (.ireturn, 1, 0, 0, 0, 0) := by decide +kernel
theorem r_264_291 : xrow 264 291 = some (.iconst (-1), 1, 0, 0, 0, 0) := by decide +kernel
theorem r_264_292 : xrow 264 292 = some (.ireturn, 1, 0, 0, 0, 0) := by decide +kernel
theorem r_265_0 : xrow 265 0 = some (.aload_n 0, 1, 0, 0, 0, 0) := by decide +kernel
theorem r_265_1 : xrow 265 1 = some (.iconst 0, 1, 0, 0, 0, 0) := by decide +kernel
theorem r_265_2 : xrow 265 2 = some (.putfield 131, 3, 22, 0, 0, 1022) := by decide +kernel
theorem r_265_5 : xrow 265 5 = some (.aload_n 0, 1, 0, 0, 0, 0) := by decide +kernel
theorem r_265_6 : xrow 265 6 = some (.getfield 134, 3, 22, 39, 0, 1023) := by decide +kernel
theorem r_265_9 : xrow 265 9 = some (.ireturn, 1, 0, 0, 0, 0) := by decide +kernel
theorem r_266_0 : xrow 266 0 = some (.iload_n 0, 1, 0, 0, 0, 0) := by decide +kernel
theorem r_266_1 : xrow 266 1 = some (.iload_n 1, 1, 0, 0, 0, 0) := by decide +kernel
theorem r_266_2 : xrow 266 2 = some (.idiv, 1, 0, 0, 0, 0) := by decide +kernel
theorem r_266_3 : xrow 266 3 = some (.istore_n 2, 1, 0, 0, 0, 0) := by decide +kernel
theorem r_266_4 : xrow 266 4 = some (.iload_n 0, 1, 0, 0, 0, 0) := by decide +kernel
theorem r_266_5 : xrow 266 5 = some (.iload_n 1, 1, 0, 0, 0, 0) := by decide +kernel
theorem r_266_6 : xrow 266 6 = some (.ixor, 1, 0, 0, 0, 0) := by decide +kernel
theorem r_266_7 : xrow 266 7 = some (.ifCond .ge 14, 3, 21, 0, 0, 0) := by decide +kernel
theorem r_266_10 : xrow 266 10 = some (.iload_n 2, 1, 0, 0, 0, 0) := by decide +kernel
theorem r_266_11 : xrow 266 11 = some (.iload_n 1, 1, 0, 0, 0, 0) := by decide +kernel
theorem r_266_12 : xrow 266 12 = some (.imul, 1, 0, 0, 0, 0) := by decide +kernel
theorem r_266_13 : xrow 266 13 = some (.iload_n 0, 1, 0, 0, 0, 0) := by decide +kernel
theorem r_266_14 : xrow 266 14 = some (.if_icmp .eq 7, 3, 21, 0, 0, 0) := by decide +kernel
theorem r_266_17 : xrow 266 17 = some (.iload_n 2, 1, 0, 0, 0, 0) := by decide +kernel
theorem r_266_18 : xrow 266 18 = some (.iconst 1, 1, 0, 0, 0, 0) := by decide +kernel
theorem r_266_19 : xrow 266 19 = some (.isub, 1, 0, 0, 0, 0) := by decide +kernel
theorem r_266_20 : xrow 266 20 = some (.ireturn, 1, 0, 0, 0, 0) := by decide +kernel
theorem r_266_21 : xrow 266 21 = some (.iload_n 2, 1, 0, 0, 0, 0) := by decide +kernel
theorem r_266_22 : xrow 266 22 = some (.ireturn, 1, 0, 0, 0, 0) := by decide +kernel
theorem r_267_0 : xrow 267 0 = some (.iload_n 0, 1, 0, 0, 0, 0) := by decide +kernel
theorem r_267_1 : xrow 267 1 = some (.ifCond .ge 8, 3, 9, 0, 0, 0) := by decide +kernel
theorem r_267_4 : xrow 267 4 = some (.iload_n 0, 1, 0, 0, 0, 0) := by decide +kernel
theorem r_267_5 : xrow 267 5 = some (.ineg, 1, 0, 0, 0, 0) := by decide +kernel
theorem r_267_6 : xrow 267 6 = some (.goto 4, 3, 10, 0, 0, 0) := by decide +kernel
theorem r_267_9 : xrow 267 9 = some (.iload_n 0, 1, 0, 0, 0, 0) := by decide +kernel
theorem r_267_10 : xrow 267 10 = some (.ireturn, 1, 0, 0, 0, 0) := by decide +kernel
theorem r_268_0 : xrow 268 0 = some (.iload_n 0, 1, 0, 0, 0, 0) := by decide +kernel
theorem r_268_1 : xrow 268 1 = some (.iload_n 1, 1, 0, 0, 0, 0) := by decide +kernel
theorem r_268_2 : xrow 268 2 = some (.if_icmp .lt 7, 3, 9, 0, 0, 0) := by decide +kernel
theorem r_268_5 : xrow 268 5 = some (.iload_n 0, 1, 0, 0, 0, 0) := by decide +kernel
theorem r_268_6 : xrow 268 6 = some (.goto 4, 3, 10, 0, 0, 0) := by decide +kernel
theorem r_268_9 : xrow 268 9 = some (.iload_n 1, 1, 0, 0, 0, 0) := by decide +kernel
theorem r_268_10 : xrow 268 10 = some (.ireturn, 1, 0, 0, 0, 0) := by decide +kernel
theorem r_269_0 : xrow 269 0 = some (.lload_n 0, 1, 0, 0, 0, 0) := by decide +kernel
theorem r_269_1 : xrow 269 1 = some (.lload_n 2, 1, 0, 0, 0, 0) := by decide +kernel
theorem r_269_2 : xrow 269 2 = some (.lcmp, 1, 0, 0, 0, 0) := by decide +kernel
theorem r_269_3 : xrow 269 3 = some (.ifCond .lt 7, 3, 10, 0, 0, 0) := by decide +kernel
theorem r_269_6 : xrow 269 6 = some (.lload_n 0, 1, 0, 0, 0, 0) := by decide +kernel
theorem r_269_7 : xrow 269 7 = some (.goto 4, 3, 11, 0, 0, 0) := by decide +kernel
theorem r_269_10 : xrow 269 10 = some (.lload_n 2, 1, 0, 0, 0, 0) := by decide +kernel
theorem r_269_11 : xrow 269 11 = some (.lreturn, 1, 0, 0, 0, 0) := by decide +kernel
theorem r_270_0 : xrow 270 0 = some (.iload_n 0, 1, 0, 0, 0, 0) := by decide +kernel
theorem r_270_1 : xrow 270 1 = some (.iload_n 1, 1, 0, 0, 0, 0) := by decide +kernel
theorem r_270_2 : xrow 270 2 = some (.if_icmp .gt 7, 3, 9, 0, 0, 0) := by decide +kernel
theorem r_270_5 : xrow 270 5 = some (.iload_n 0, 1, 0, 0, 0, 0) := by decide +kernel
theorem r_270_6 : xrow 270 6 = some (.goto 4, 3, 10, 0, 0, 0) := by decide +kernel
theorem r_270_9 : xrow 270 9 = some (.iload_n 1, 1, 0, 0, 0, 0) := by decide +kernel
theorem r_270_10 : xrow 270 10 = some (.ireturn, 1, 0, 0, 0, 0) := by decide +kernel
theorem r_271_0 : xrow 271 0 = some (.aload_n 0, 1, 0, 0, 0, 0) := by decide +kernel
theorem r_271_1 : xrow 271 1 = some (.getfield 9, 3, 60, 0, 2, 1131) := by decide +kernel
theorem r_271_4 : xrow 271 4 = some (.arraylength, 1, 0, 0, 0, 0) := by decide +kernel
theorem r_271_5 : xrow 271 5 = some (.aload_n 0, 1, 0, 0, 0, 0) := by decide +kernel
theorem r_271_6 : xrow 271 6 = some (.invokevirtual 335, 3, 273, 0, 0, 1132) := by decide +kernel
theorem r_271_9 : xrow 271 9 = some (.ishr, 1, 0, 0, 0, 0) := by decide +kernel
theorem r_271_10 : xrow 271 10 = some (.ireturn, 1, 0, 0, 0, 0) := by decide +kernel
theorem r_272_0 : xrow 272 0 = some (.aload_n 0, 1, 0, 0, 0, 0) := by decide +kernel
theorem r_272_1 : xrow 272 1 = some (.invokevirtual 492, 3, 274, 0, 0, 1133) := by decide +kernel
theorem r_272_4 : xrow 272 4 = some (.ifCond .eq 12, 3, 16, 0, 0, 0) := by decide +kernel
theorem r_272_7 : xrow 272 7 = some (.aload_n 0, 1, 0, 0, 0, 0) := by decide +kernel
theorem r_272_8 : xrow 272 8 = some (.getfield 9, 3, 60, 0, 2, 1131) := by decide +kernel
theorem r_272_11 : xrow 272 11 = some (.iload_n 1, 1, 0, 0, 0, 0) := by decide +kernel
theorem r_272_12 : xrow 272 12 = some (.invokestatic 495, 3, 276, 0, 0, 1134) := by decide +kernel
theorem r_272_15 : xrow 272 15 = some (.ireturn, 1, 2, 0, 0, 0) := by decide +kernel
theorem r_272_16 : xrow 272 16 = some (.aload_n 0, 1, 0, 0, 0, 0) := by decide +kernel
theorem r_272_17 : xrow 272 17 = some (.getfield 9, 3, 60, 0, 2, 1131) := by decide +kernel
theorem r_272_20 : xrow 272 20 = some (.iload_n 1, 1, 0, 0, 0, 0) := by decide +kernel
theorem r_272_21 : xrow 272 21 = some (.invokestatic 498, 3, 279, 0, 0, 1135) := by decide +kernel
theorem r_272_24 : xrow 272 24 = some (.ireturn, 1, 2, 0, 0, 0) := by decide +kernel
theorem r_273_0 : xrow 273 0 = some (.getstatic 38, 3, 0, 0, 0, 1136) := by decide +kernel
theorem r_273_3 : xrow 273 3 = some (.ifCond .eq 10, 3, 13, 0, 0, 0) := by decide +kernel
theorem r_273_6 : xrow 273 6 = some (.aload_n 0, 1, 0, 0, 0, 0) := by decide +kernel
theorem r_273_7 : xrow 273 7 = some (.getfield 15, 3, 60, 1, 0, 1137) := by decide +kernel
theorem r_273_10 : xrow 273 10 = some (.goto 4, 3, 14, 0, 0, 0) := by decide +kernel
theorem r_273_13 : xrow 273 13 = some (.iconst 1, 1, 0, 0, 0, 0) := by decide +kernel
theorem r_273_14 : xrow 273 14 = some (.ireturn, 1, 3, 0, 0, 0) := by decide +kernel
theorem r_274_0 : xrow 274 0 = some (.getstatic 38, 3, 0, 0, 0, 1136) := by decide +kernel
theorem r_274_3 : xrow 274 3 = some (.ifCond .eq 14, 3, 17, 0, 0, 0) := by decide +kernel
theorem r_274_6 : xrow 274 6 = some (.aload_n 0, 1, 0, 0, 0, 0) := by decide +kernel
theorem r_274_7 : xrow 274 7 = some (.getfield 15, 3, 60, 1, 0, 1137) := by decide +kernel
theorem r_274_10 : xrow 274 10 = some (.ifCond .ne 7, 3, 17, 0, 0, 0) := by decide +kernel
theorem r_274_13 : xrow 274 13 = some (.iconst 1, 1, 0, 0, 0, 0) := by decide +kernel
theorem r_274_14 : xrow 274 14 = some (.goto 4, 3, 18, 0, 0, 0) := by decide +kernel
theorem r_274_17 : xrow 274 17 = some (.iconst 0, 1, 0, 0, 0, 0) := by decide +kernel
theorem r_274_18 : xrow 274 18 = some (.ireturn, 1, 1, 0, 0, 0) := by decide +kernel
theorem r_275_0 : xrow 275 0 = some (.iload_n 0, 1, 0, 0, 0, 0) := by decide +kernel
theorem r_275_1 : xrow 275 1 = some (.iload_n 1, 1, 0, 0, 0, 0) := by decide +kernel
theorem r_275_2 : xrow 275 2 = some (.getstatic 1053, 3, 2, 0, 0, 1138) := by decide +kernel
theorem r_275_5 : xrow 275 5 = some (.invokestatic 1059, 3, 282, 0, 0, 1139) := by decide +kernel
theorem r_275_8 : xrow 275 8 = some (.pop, 1, 0, 0, 0, 0) := by decide +kernel
theorem r_275_9 : xrow 275 9 = some (.return_, 1, 0, 0, 0, 0) := by decide +kernel
theorem r_276_0 : xrow 276 0 = some (.iload_n 1, 1, 0, 0, 0, 0) := by decide +kernel
theorem r_276_1 : xrow 276 1 = some (.aload_n 0, 1, 0, 0, 0, 0) := by decide +kernel
theorem r_276_2 : xrow 276 2 = some (.arraylength, 1, 0, 0, 0, 0) := by decide +kernel
theorem r_276_3 : xrow 276 3 = some (.invokestatic 9, 3, 275, 0, 0, 1140) := by decide +kernel
theorem r_276_6 : xrow 276 6 = some (.aload_n 0, 1, 0, 0, 0, 0) := by decide +kernel
theorem r_276_7 : xrow 276 7 = some (.iload_n 1, 1, 0, 0, 0, 0) := by decide +kernel
theorem r_276_8 : xrow 276 8 = some (.baload, 1, 0, 0, 0, 0) := by decide +kernel
theorem r_276_9 : xrow 276 9 = some (.sipush 255, 3, 0, 0, 0, 0) := by decide +kernel
theorem r_276_12 : xrow 276 12 = some (.iand, 1, 0, 0, 0, 0) := by decide +kernel
theorem r_276_13 : xrow 276 13 = some (.i2c, 1, 0, 0, 0, 0) := by decide +kernel
theorem r_276_14 : xrow 276 14 = some (.ireturn, 1, 2, 0, 0, 0) := by decide +kernel
theorem r_277_3 : xrow 277 3 = some (.ifCond .ne 25, 3, 28, 0, 0, 0) := by decide +kernel
theorem r_277_6 : xrow 277 6 = some (.iload_n 1, 1, 0, 0, 0, 0) := by decide +kernel
theorem r_277_7 : xrow 277 7 = some (.ifCond .lt 11, 3, 18, 0, 0, 0) := by decide +kernel
theorem r_277_10 : xrow 277 10 = some (.iload_n 1, 1, 0, 0, 0, 0) := by decide +kernel
theorem r_277_11 : xrow 277 11 = some (.aload_n 0, 1, 0, 0, 0, 0) := by decide +kernel
theorem r_277_12 : xrow 277 12 = some (.invokestatic 48, 3, 278, 0, 0, 1142) := by decide +kernel
theorem r_277_15 : xrow 277 15 = some (.if_icmp .lt 13, 3, 28, 0, 0, 0) := by decide +kernel
theorem r_277_21 : xrow 277 21 = some (.dup, 1, 0, 0, 0, 0) := by decide +kernel
theorem r_277_27 : xrow 277 27 = some (.athrow, 1, 0, 0, 0, 0) := by decide +kernel
theorem r_277_28 : xrow 277 28 = some (.iload_n 1, 1, 0, 0, 0, 0) := by decide +kernel
theorem r_277_29 : xrow 277 29 = some (.iconst 1, 1, 0, 0, 0, 0) := by decide +kernel
theorem r_277_30 : xrow 277 30 = some (.ishl, 1, 0, 0, 0, 0) := by decide +kernel
theorem r_277_31 : xrow 277 31 = some (.istore_n 1, 1, 0, 0, 0, 0) := by decide +kernel
theorem r_277_32 : xrow 277 32 = some (.aload_n 0, 1, 0, 0, 0, 0) := by decide +kernel
theorem r_277_33 : xrow 277 33 = some (.iload_n 1, 1, 0, 0, 0, 0) := by decide +kernel
theorem r_277_34 : xrow 277 34 = some (.iinc 1 1, 3, 0, 0, 0, 0) := by decide +kernel
theorem r_277_37 : xrow 277 37 = some (.baload, 1, 0, 0, 0, 0) := by decide +kernel
theorem r_277_38 : xrow 277 38 = some (.sipush 255, 3, 0, 0, 0, 0) := by decide +kernel
theorem r_277_41 : xrow 277 41 = some (.iand, 1, 0, 0, 0, 0) := by decide +kernel
theorem r_277_45 : xrow 277 45 = some (.ishl, 1, 0, 0, 0, 0) := by decide +kernel
theorem r_277_46 : xrow 277 46 = some (.aload_n 0, 1, 0, 0, 0, 0) := by decide +kernel
theorem r_277_47 : xrow 277 47 = some (.iload_n 1, 1, 0, 0, 0, 0) := by decide +kernel
theorem r_277_48 : xrow 277 48 = some (.baload, 1, 0, 0, 0, 0) := by decide +kernel
theorem r_277_49 : xrow 277 49 = some (.sipush 255, 3, 0, 0, 0, 0) := by decide +kernel
theorem r_277_52 : xrow 277 52 = some (.iand, 1, 0, 0, 0, 0) := by decide +kernel
theorem r_277_56 : xrow 277 56 = some (.ishl, 1, 0, 0, 0, 0) := by decide +kernel
theorem r_277_57 : xrow 277 57 = some (.ior, 1, 0, 0, 0, 0) := by decide +kernel
theorem r_277_58 : xrow 277 58 = some (.i2c, 1, 0, 0, 0, 0) := by decide +kernel
theorem r_277_59 : xrow 277 59 = some (.ireturn, 1, 2, 0, 0, 0) := by decide +kernel
theorem r_278_0 : xrow 278 0 = some (.aload_n 0, 1, 0, 0, 0, 0) := by decide +kernel
theorem r_278_1 : xrow 278 1 = some (.arraylength, 1, 0, 0, 0, 0) := by decide +kernel
theorem r_278_2 : xrow 278 2 = some (.iconst 1, 1, 0, 0, 0, 0) := by decide +kernel
theorem r_278_3 : xrow 278 3 = some (.ishr, 1, 0, 0, 0, 0) := by decide +kernel
theorem r_278_4 : xrow 278 4 = some (.ireturn, 1, 0, 0, 0, 0) := by decide +kernel
theorem r_279_0 : xrow 279 0 = some (.iload_n 1, 1, 0, 0, 0, 0) := by decide +kernel
theorem r_279_1 : xrow 279 1 = some (.aload_n 0, 1, 0, 0, 0, 0) := by decide +kernel
theorem r_279_2 : xrow 279 2 = some (.invokestatic 67, 3, 280, 0, 0, 1145) := by decide +kernel
theorem r_279_5 : xrow 279 5 = some (.aload_n 0, 1, 0, 0, 0, 0) := by decide +kernel
theorem r_279_6 : xrow 279 6 = some (.iload_n 1, 1, 0, 0, 0, 0) := by decide +kernel
theorem r_279_7 : xrow 279 7 = some (.invokestatic 71, 3, 277, 0, 0, 1146) := by decide +kernel
theorem r_279_10 : xrow 279 10 = some (.ireturn, 1, 2, 0, 0, 0) := by decide +kernel
theorem r_280_0 : xrow 280 0 = some (.iload_n 0, 1, 0, 0, 0, 0) := by decide +kernel
theorem r_280_1 : xrow 280 1 = some (.aload_n 1, 1, 0, 0, 0, 0) := by decide +kernel
theorem r_280_2 : xrow 280 2 = some (.invokestatic 48, 3, 278, 0, 0, 1142) := by decide +kernel
theorem r_280_5 : xrow 280 5 = some (.invokestatic 414, 3, 275, 0, 0, 1147) := by decide +kernel
theorem r_280_8 : xrow 280 8 = some (.return_, 1, 0, 0, 0, 0) := by decide +kernel
theorem r_281_0 : xrow 281 0 = some (.iconst 0, 1, 0, 0, 0, 0) := by decide +kernel
theorem r_281_1 : xrow 281 1 = some (.istore_n 2, 1, 0, 0, 0, 0) := by decide +kernel
theorem r_281_2 : xrow 281 2 = some (.aload_n 0, 1, 0, 0, 0, 0) := by decide +kernel
theorem r_281_3 : xrow 281 3 = some (.arraylength, 1, 0, 0, 0, 0) := by decide +kernel
theorem r_281_4 : xrow 281 4 = some (.istore_n 3, 1, 0, 0, 0, 0) := by decide +kernel
theorem r_281_5 : xrow 281 5 = some (.iload_n 2, 1, 0, 0, 0, 0) := by decide +kernel
theorem r_281_6 : xrow 281 6 = some (.iload_n 3, 1, 0, 0, 0, 0) := by decide +kernel
theorem r_281_7 : xrow 281 7 = some (.if_icmp .ge 13, 3, 20, 0, 0, 0) := by decide +kernel
theorem r_281_10 : xrow 281 10 = some (.aload_n 0, 1, 0, 0, 0, 0) := by decide +kernel
theorem r_281_11 : xrow 281 11 = some (.iload_n 2, 1, 0, 0, 0, 0) := by decide +kernel
theorem r_281_12 : xrow 281 12 = some (.iload_n 1, 1, 0, 0, 0, 0) := by decide +kernel
theorem r_281_13 : xrow 281 13 = some (.iastore, 1, 0, 0, 0, 0) := by decide +kernel
theorem r_281_14 : xrow 281 14 = some (.iinc 2 1, 3, 0, 0, 0, 0) := by decide +kernel
theorem r_281_17 : xrow 281 17 = some (.goto (-12), 3, 5, 0, 0, 0) := by decide +kernel
theorem r_281_20 : xrow 281 20 = some (.return_, 1, 0, 0, 0, 0) := by decide +kernel
theorem r_282_0 : xrow 282 0 = some (.iload_n 0, 1, 0, 0, 0, 0) := by decide +kernel
theorem r_282_1 : xrow 282 1 = some (.ifCond .lt 8, 3, 9, 0, 0, 0) := by decide +kernel
theorem r_282_4 : xrow 282 4 = some (.iload_n 0, 1, 0, 0, 0, 0) := by decide +kernel
theorem r_282_5 : xrow 282 5 = some (.iload_n 1, 1, 0, 0, 0, 0) := by decide +kernel
theorem r_282_6 : xrow 282 6 = some (.if_icmp .lt 10, 3, 16, 0, 0, 0) := by decide +kernel
theorem r_282_9 : xrow 282 9 = some (.aload_n 2, 1, 0, 0, 0, 0) := by decide +kernel
theorem r_282_10 : xrow 282 10 = some (.iload_n 0, 1, 0, 0, 0, 0) := by decide +kernel
theorem r_282_11 : xrow 282 11 = some (.iload_n 1, 1, 0, 0, 0, 0) := by decide +kernel
theorem r_282_15 : xrow 282 15 = some (.athrow, 1, 0, 0, 0, 0) := by decide +kernel
theorem r_282_16 : xrow 282 16 = some (.iload_n 0, 1, 0, 0, 0, 0) := by decide +kernel
theorem r_282_17 : xrow 282 17 = some (.ireturn, 1, 0, 0, 0, 0) := by decide +kernel
theorem r_283_0 : xrow 283 0 = some (.aload_n 2, 1, 0, 0, 0, 0) := by decide +kernel
theorem r_283_1 : xrow 283 1 = some (.iconst 0, 1, 0, 0, 0, 0) := by decide +kernel
theorem r_283_2 : xrow 283 2 = some (.aload_n 0, 1, 0, 0, 0, 0) := by decide +kernel
theorem r_283_3 : xrow 283 3 = some (.iload_n 1, 1, 0, 0, 0, 0) := by decide +kernel
theorem r_283_4 : xrow 283 4 = some (.invokevirtual 7, 3, 141, 0, 0, 1148) := by decide +kernel
theorem r_283_7 : xrow 283 7 = some (.i2l, 1, 0, 0, 0, 0) := by decide +kernel
theorem r_283_8 : xrow 283 8 = some (.lastore, 1, 0, 0, 0, 0) := by decide +kernel
theorem r_283_9 : xrow 283 9 = some (.goto 6, 3, 15, 0, 0, 0) := by decide +kernel
theorem r_283_12 : xrow 283 12 = some (.astore_n 3, 1, 0, 0, 0, 0) := by decide +kernel
theorem r_283_13 : xrow 283 13 = some (.iconst 1, 1, 0, 0, 0, 0) := by decide +kernel
theorem r_283_14 : xrow 283 14 = some (.ireturn, 1, 0, 0, 0, 0) := by decide +kernel
theorem r_283_15 : xrow 283 15 = some (.iconst 0, 1, 0, 0, 0, 0) := by decide +kernel
theorem r_283_16 : xrow 283 16 = some (.ireturn, 1, 0, 0, 0, 0) := by decide +kernel
theorem r_284_0 : xrow 284 0 = some (.new 8, 3, 21, 20, 23, 1149) := by decide +kernel
theorem r_284_3 : xrow 284 3 = some (.dup, 1, 0, 0, 0, 0) := by decide +kernel
theorem r_284_4 : xrow 284 4 = some (.invokespecial 15, 3, 115, 0, 0, 1150) := by decide +kernel
theorem r_284_7 : xrow 284 7 = some (.astore_n 1, 1, 0, 0, 0, 0) := by decide +kernel
theorem r_284_8 : xrow 284 8 = some (.new 16, 3, 22, 75, 25, 1151) := by decide +kernel
theorem r_284_11 : xrow 284 11 = some (.dup, 1, 0, 0, 0, 0) := by decide +kernel
theorem r_284_12 : xrow 284 12 = some (.invokespecial 18, 3, 162, 0, 0, 1152) := by decide +kernel
theorem r_284_15 : xrow 284 15 = some (.astore_n 2, 1, 0, 0, 0, 0) := by decide +kernel
theorem r_284_16 : xrow 284 16 = some (.iconst 1, 1, 0, 0, 0, 0) := by decide +kernel
theorem r_284_17 : xrow 284 17 = some (.newarray .long, 2, 0, 0, 0, 0) := by decide +kernel
theorem r_284_19 : xrow 284 19 = some (.astore_n 3, 1, 0, 0, 0, 0) := by decide +kernel
theorem r_284_20 : xrow 284 20 = some (.iconst 0, 1, 0, 0, 0, 0) := by decide +kernel
theorem r_284_21 : xrow 284 21 = some (.istore 4, 2, 0, 0, 0, 0) := by decide +kernel
theorem r_284_23 : xrow 284 23 = some (.iload 4, 2, 0, 0, 0, 0) := by decide +kernel
theorem r_284_25 : xrow 284 25 = some (.aload_n 0, 1, 0, 0, 0, 0) := by decide +kernel
theorem r_284_26 : xrow 284 26 = some (.arraylength, 1, 0, 0, 0, 0) := by decide +kernel
theorem r_284_27 : xrow 284 27 = some (.bipush 6, 2, 0, 0, 0, 0) := by decide +kernel
theorem r_284_29 : xrow 284 29 = some (.isub, 1, 0, 0, 0, 0) := by decide +kernel
theorem r_284_30 : xrow 284 30 = some (.if_icmp .gt 1569, 3, 1599, 0, 0, 0) := by decide +kernel
theorem r_284_33 : xrow 284 33 = some (.aload_n 0, 1, 0, 0, 0, 0) := by decide +kernel
theorem r_284_34 : xrow 284 34 = some (.iload 4, 2, 0, 0, 0, 0) := by decide +kernel
theorem r_284_36 : xrow 284 36 = some (.iaload, 1, 0, 0, 0, 0) := by decide +kernel
theorem r_284_37 : xrow 284 37 = some (.bipush 63, 2, 0, 0, 0, 0) := by decide +kernel
theorem r_284_39 : xrow 284 39 = some (.iand, 1, 0, 0, 0, 0) := by decide +kernel
theorem r_284_40 : xrow 284 40 = some (.tableswitch 1553 0 35 #[160, 233, 258, 283, 296, 309, 346, 383, 408, 445, 482, 519, 544, 593, 630, 655, 692, 753, 790, 856, 921, 934, 971, 1048, 1104, 1141, 1219, 1268, 1329, 1354, 1403, 1440, 1453, 1478, 1515, 1540], 160, 0, 0, 0, 0) := by decide +kernel
theorem r_284_200 : xrow 284 200 = some (.aload_n 1, 1, 0, 0, 0, 0) := by decide +kernel
theorem r_284_201 : xrow 284 201 = some (.aload_n 0, 1, 0, 0, 0, 0) := by decide +kernel
theorem r_284_202 : xrow 284 202 = some (.iload 4, 2, 0, 0, 0, 0) := by decide +kernel
theorem r_284_204 : xrow 284 204 = some (.iconst 1, 1, 0, 0, 0, 0) := by decide +kernel
theorem r_284_205 : xrow 284 205 = some (.iadd, 1, 0, 0, 0, 0) := by decide +kernel
theorem r_284_206 : xrow 284 206 = some (.iaload, 1, 0, 0, 0, 0) := by decide +kernel
theorem r_284_207 : xrow 284 207 = some (.aload_n 0, 1, 0, 0, 0, 0) := by decide +kernel
theorem r_284_208 : xrow 284 208 = some (.iload 4, 2, 0, 0, 0, 0) := by decide +kernel
theorem r_284_210 : xrow 284 210 = some (.iconst 2, 1, 0, 0, 0, 0) := by decide +kernel
theorem r_284_211 : xrow 284 211 = some (.iadd, 1, 0, 0, 0, 0) := by decide +kernel
theorem r_284_212 : xrow 284 212 = some (.iaload, 1, 0, 0, 0, 0) := by decide +kernel
theorem r_284_213 : xrow 284 213 = some (.aload_n 0, 1, 0, 0, 0, 0) := by decide +kernel
theorem r_284_214 : xrow 284 214 = some (.iload 4, 2, 0, 0, 0, 0) := by decide +kernel
theorem r_284_216 : xrow 284 216 = some (.iconst 3, 1, 0, 0, 0, 0) := by decide +kernel
theorem r_284_217 : xrow 284 217 = some (.iadd, 1, 0, 0, 0, 0) := by decide +kernel
theorem r_284_218 : xrow 284 218 = some (.iaload, 1, 0, 0, 0, 0) := by decide +kernel
theorem r_284_219 : xrow 284 219 = some (.aload_n 0, 1, 0, 0, 0, 0) := by decide +kernel
theorem r_284_220 : xrow 284 220 = some (.iload 4, 2, 0, 0, 0, 0) := by decide +kernel
theorem r_284_222 : xrow 284 222 = some (.iconst 4, 1, 0, 0, 0, 0) := by decide +kernel
theorem r_284_223 : xrow 284 223 = some (.iadd, 1, 0, 0, 0, 0) := by decide +kernel
theorem r_284_224 : xrow 284 224 = some (.iaload, 1, 0, 0, 0, 0) := by decide +kernel
theorem r_284_225 : xrow 284 225 = some (.aload_n 0, 1, 0, 0, 0, 0) := by decide +kernel
theorem r_284_226 : xrow 284 226 = some (.iload 4, 2, 0, 0, 0, 0) := by decide +kernel
theorem r_284_228 : xrow 284 228 = some (.iconst 5, 1, 0, 0, 0, 0) := by decide +kernel
theorem r_284_229 : xrow 284 229 = some (.iadd, 1, 0, 0, 0, 0) := by decide +kernel
theorem r_284_230 : xrow 284 230 = some (.iaload, 1, 0, 0, 0, 0) := by decide +kernel
theorem r_284_231 : xrow 284 231 = some (.invokevirtual 19, 3, 116, 0, 0, 1153) := by decide +kernel
theorem r_284_234 : xrow 284 234 = some (.aload_n 2, 1, 0, 0, 0, 0) := by decide +kernel
theorem r_284_235 : xrow 284 235 = some (.aload_n 0, 1, 0, 0, 0, 0) := by decide +kernel
theorem r_284_236 : xrow 284 236 = some (.iload 4, 2, 0, 0, 0, 0) := by decide +kernel
theorem r_284_238 : xrow 284 238 = some (.iconst 1, 1, 0, 0, 0, 0) := by decide +kernel
theorem r_284_239 : xrow 284 239 = some (.iadd, 1, 0, 0, 0, 0) := by decide +kernel
theorem r_284_240 : xrow 284 240 = some (.iaload, 1, 0, 0, 0, 0) := by decide +kernel
theorem r_284_241 : xrow 284 241 = some (.aload_n 0, 1, 0, 0, 0, 0) := by decide +kernel
theorem r_284_242 : xrow 284 242 = some (.iload 4, 2, 0, 0, 0, 0) := by decide +kernel
theorem r_284_244 : xrow 284 244 = some (.iconst 2, 1, 0, 0, 0, 0) := by decide +kernel
theorem r_284_245 : xrow 284 245 = some (.iadd, 1, 0, 0, 0, 0) := by decide +kernel
theorem r_284_246 : xrow 284 246 = some (.iaload, 1, 0, 0, 0, 0) := by decide +kernel
theorem r_284_247 : xrow 284 247 = some (.aload_n 0, 1, 0, 0, 0, 0) := by decide +kernel
theorem r_284_248 : xrow 284 248 = some (.iload 4, 2, 0, 0, 0, 0) := by decide +kernel
theorem r_284_250 : xrow 284 250 = some (.iconst 3, 1, 0, 0, 0, 0) := by decide +kernel
theorem r_284_251 : xrow 284 251 = some (.iadd, 1, 0, 0, 0, 0) := by decide +kernel
theorem r_284_252 : xrow 284 252 = some (.iaload, 1, 0, 0, 0, 0) := by decide +kernel
theorem r_284_253 : xrow 284 253 = some (.aload_n 0, 1, 0, 0, 0, 0) := by decide +kernel
theorem r_284_254 : xrow 284 254 = some (.iload 4, 2, 0, 0, 0, 0) := by decide +kernel
theorem r_284_256 : xrow 284 256 = some (.iconst 4, 1, 0, 0, 0, 0) := by decide +kernel
theorem r_284_257 : xrow 284 257 = some (.iadd, 1, 0, 0, 0, 0) := by decide +kernel
theorem r_284_258 : xrow 284 258 = some (.iaload, 1, 0, 0, 0, 0) := by decide +kernel
theorem r_284_259 : xrow 284 259 = some (.aload_n 0, 1, 0, 0, 0, 0) := by decide +kernel
theorem r_284_260 : xrow 284 260 = some (.iload 4, 2, 0, 0, 0, 0) := by decide +kernel
theorem r_284_262 : xrow 284 262 = some (.iconst 5, 1, 0, 0, 0, 0) := by decide +kernel
theorem r_284_263 : xrow 284 263 = some (.iadd, 1, 0, 0, 0, 0) := by decide +kernel
theorem r_284_264 : xrow 284 264 = some (.iaload, 1, 0, 0, 0, 0) := by decide +kernel
theorem r_284_265 : xrow 284 265 = some (.invokevirtual 23, 3, 168, 0, 0, 1154) := by decide +kernel
theorem r_284_268 : xrow 284 268 = some (.if_icmp .eq 1325, 3, 1593, 0, 0, 0) := by decide +kernel
theorem r_284_271 : xrow 284 271 = some (.iconst 0, 1, 0, 0, 0, 0) := by decide +kernel
theorem r_284_272 : xrow 284 272 = some (.ireturn, 1, 1, 0, 0, 0) := by decide +kernel
theorem r_284_273 : xrow 284 273 = some (.aload_n 1, 1, 0, 0, 0, 0) := by decide +kernel
theorem r_284_274 : xrow 284 274 = some (.aload_n 0, 1, 0, 0, 0, 0) := by decide +kernel
theorem r_284_275 : xrow 284 275 = some (.iload 4, 2, 0, 0, 0, 0) := by decide +kernel
theorem r_284_277 : xrow 284 277 = some (.iconst 1, 1, 0, 0, 0, 0) := by decide +kernel
theorem r_284_278 : xrow 284 278 = some (.iadd, 1, 0, 0, 0, 0) := by decide +kernel
theorem r_284_279 : xrow 284 279 = some (.iaload, 1, 0, 0, 0, 0) := by decide +kernel
theorem r_284_280 : xrow 284 280 = some (.invokevirtual 24, 3, 118, 0, 0, 1155) := by decide +kernel
theorem r_284_283 : xrow 284 283 = some (.aload_n 2, 1, 0, 0, 0, 0) := by decide +kernel
theorem r_284_284 : xrow 284 284 = some (.aload_n 0, 1, 0, 0, 0, 0) := by decide +kernel
theorem r_284_285 : xrow 284 285 = some (.iload 4, 2, 0, 0, 0, 0) := by decide +kernel
theorem r_284_287 : xrow 284 287 = some (.iconst 1, 1, 0, 0, 0, 0) := by decide +kernel
theorem r_284_288 : xrow 284 288 = some (.iadd, 1, 0, 0, 0, 0) := by decide +kernel
theorem r_284_289 : xrow 284 289 = some (.iaload, 1, 0, 0, 0, 0) := by decide +kernel
theorem r_284_290 : xrow 284 290 = some (.invokevirtual 27, 3, 183, 0, 0, 1156) := by decide +kernel
theorem r_284_293 : xrow 284 293 = some (.if_icmp .eq 1300, 3, 1593, 0, 0, 0) := by decide +kernel
theorem r_284_296 : xrow 284 296 = some (.iconst 0, 1, 0, 0, 0, 0) := by decide +kernel
theorem r_284_297 : xrow 284 297 = some (.ireturn, 1, 1, 0, 0, 0) := by decide +kernel
theorem r_284_298 : xrow 284 298 = some (.aload_n 1, 1, 0, 0, 0, 0) := by decide +kernel
theorem r_284_299 : xrow 284 299 = some (.aload_n 0, 1, 0, 0, 0, 0) := by decide +kernel
theorem r_284_300 : xrow 284 300 = some (.iload 4, 2, 0, 0, 0, 0) := by decide +kernel
theorem r_284_302 : xrow 284 302 = some (.iconst 1, 1, 0, 0, 0, 0) := by decide +kernel
theorem r_284_303 : xrow 284 303 = some (.iadd, 1, 0, 0, 0, 0) := by decide +kernel
theorem r_284_304 : xrow 284 304 = some (.iaload, 1, 0, 0, 0, 0) := by decide +kernel
theorem r_284_305 : xrow 284 305 = some (.invokevirtual 28, 3, 119, 0, 0, 1157) := by decide +kernel
theorem r_284_308 : xrow 284 308 = some (.aload_n 2, 1, 0, 0, 0, 0) := by decide +kernel
theorem r_284_309 : xrow 284 309 = some (.aload_n 0, 1, 0, 0, 0, 0) := by decide +kernel
theorem r_284_310 : xrow 284 310 = some (.iload 4, 2, 0, 0, 0, 0) := by decide +kernel
theorem r_284_312 : xrow 284 312 = some (.iconst 1, 1, 0, 0, 0, 0) := by decide +kernel
theorem r_284_313 : xrow 284 313 = some (.iadd, 1, 0, 0, 0, 0) := by decide +kernel
theorem r_284_314 : xrow 284 314 = some (.iaload, 1, 0, 0, 0, 0) := by decide +kernel
theorem r_284_315 : xrow 284 315 = some (.invokevirtual 31, 3, 251, 0, 0, 1158) := by decide +kernel
theorem r_284_318 : xrow 284 318 = some (.if_icmp .eq 1275, 3, 1593, 0, 0, 0) := by decide +kernel
theorem r_284_321 : xrow 284 321 = some (.iconst 0, 1, 0, 0, 0, 0) := by decide +kernel
theorem r_284_322 : xrow 284 322 = some (.ireturn, 1, 1, 0, 0, 0) := by decide +kernel
theorem r_284_323 : xrow 284 323 = some (.aload_n 1, 1, 0, 0, 0, 0) := by decide +kernel
theorem r_284_324 : xrow 284 324 = some (.invokevirtual 32, 3, 120, 0, 0, 1159) := by decide +kernel
theorem r_284_327 : xrow 284 327 = some (.aload_n 2, 1, 0, 0, 0, 0) := by decide +kernel
theorem r_284_328 : xrow 284 328 = some (.invokevirtual 36, 3, 188, 0, 0, 1160) := by decide +kernel
theorem r_284_331 : xrow 284 331 = some (.if_icmp .eq 1262, 3, 1593, 0, 0, 0) := by decide +kernel
theorem r_284_334 : xrow 284 334 = some (.iconst 0, 1, 0, 0, 0, 0) := by decide +kernel
theorem r_284_335 : xrow 284 335 = some (.ireturn, 1, 1, 0, 0, 0) := by decide +kernel
theorem r_284_336 : xrow 284 336 = some (.aload_n 1, 1, 0, 0, 0, 0) := by decide +kernel
theorem r_284_337 : xrow 284 337 = some (.invokevirtual 37, 3, 121, 0, 0, 1161) := by decide +kernel
theorem r_284_340 : xrow 284 340 = some (.aload_n 2, 1, 0, 0, 0, 0) := by decide +kernel
theorem r_284_341 : xrow 284 341 = some (.invokevirtual 40, 3, 189, 0, 0, 1162) := by decide +kernel
theorem r_284_344 : xrow 284 344 = some (.if_icmp .eq 1249, 3, 1593, 0, 0, 0) := by decide +kernel
theorem r_284_347 : xrow 284 347 = some (.iconst 0, 1, 0, 0, 0, 0) := by decide +kernel
theorem r_284_348 : xrow 284 348 = some (.ireturn, 1, 1, 0, 0, 0) := by decide +kernel
theorem r_284_349 : xrow 284 349 = some (.aload_n 1, 1, 0, 0, 0, 0) := by decide +kernel
theorem r_284_350 : xrow 284 350 = some (.aload_n 0, 1, 0, 0, 0, 0) := by decide +kernel
theorem r_284_351 : xrow 284 351 = some (.iload 4, 2, 0, 0, 0, 0) := by decide +kernel
theorem r_284_353 : xrow 284 353 = some (.iconst 1, 1, 0, 0, 0, 0) := by decide +kernel
theorem r_284_354 : xrow 284 354 = some (.iadd, 1, 0, 0, 0, 0) := by decide +kernel
theorem r_284_355 : xrow 284 355 = some (.iaload, 1, 0, 0, 0, 0) := by decide +kernel
theorem r_284_356 : xrow 284 356 = some (.aload_n 0, 1, 0, 0, 0, 0) := by decide +kernel
theorem r_284_357 : xrow 284 357 = some (.iload 4, 2, 0, 0, 0, 0) := by decide +kernel
theorem r_284_359 : xrow 284 359 = some (.iconst 2, 1, 0, 0, 0, 0) := by decide +kernel
theorem r_284_360 : xrow 284 360 = some (.iadd, 1, 0, 0, 0, 0) := by decide +kernel
theorem r_284_361 : xrow 284 361 = some (.iaload, 1, 0, 0, 0, 0) := by decide +kernel
theorem r_284_362 : xrow 284 362 = some (.invokevirtual 41, 3, 122, 0, 0, 1163) := by decide +kernel
theorem r_284_365 : xrow 284 365 = some (.aload_n 2, 1, 0, 0, 0, 0) := by decide +kernel
theorem r_284_366 : xrow 284 366 = some (.aload_n 0, 1, 0, 0, 0, 0) := by decide +kernel
theorem r_284_367 : xrow 284 367 = some (.iload 4, 2, 0, 0, 0, 0) := by decide +kernel
theorem r_284_369 : xrow 284 369 = some (.iconst 1, 1, 0, 0, 0, 0) := by decide +kernel
theorem r_284_370 : xrow 284 370 = some (.iadd, 1, 0, 0, 0, 0) := by decide +kernel
theorem r_284_371 : xrow 284 371 = some (.iaload, 1, 0, 0, 0, 0) := by decide +kernel
theorem r_284_372 : xrow 284 372 = some (.aload_n 0, 1, 0, 0, 0, 0) := by decide +kernel
theorem r_284_373 : xrow 284 373 = some (.iload 4, 2, 0, 0, 0, 0) := by decide +kernel
theorem r_284_375 : xrow 284 375 = some (.iconst 2, 1, 0, 0, 0, 0) := by decide +kernel
theorem r_284_376 : xrow 284 376 = some (.iadd, 1, 0, 0, 0, 0) := by decide +kernel
theorem r_284_377 : xrow 284 377 = some (.iaload, 1, 0, 0, 0, 0) := by decide +kernel
theorem r_284_378 : xrow 284 378 = some (.invokevirtual 45, 3, 193, 0, 0, 1164) := by decide +kernel
theorem r_284_381 : xrow 284 381 = some (.if_icmp .eq 1212, 3, 1593, 0, 0, 0) := by decide +kernel
theorem r_284_384 : xrow 284 384 = some (.iconst 0, 1, 0, 0, 0, 0) := by decide +kernel
theorem r_284_385 : xrow 284 385 = some (.ireturn, 1, 1, 0, 0, 0) := by decide +kernel
theorem r_284_386 : xrow 284 386 = some (.aload_n 1, 1, 0, 0, 0, 0) := by decide +kernel
theorem r_284_387 : xrow 284 387 = some (.aload_n 0, 1, 0, 0, 0, 0) := by decide +kernel
theorem r_284_388 : xrow 284 388 = some (.iload 4, 2, 0, 0, 0, 0) := by decide +kernel
theorem r_284_390 : xrow 284 390 = some (.iconst 1, 1, 0, 0, 0, 0) := by decide +kernel
theorem r_284_391 : xrow 284 391 = some (.iadd, 1, 0, 0, 0, 0) := by decide +kernel
theorem r_284_392 : xrow 284 392 = some (.iaload, 1, 0, 0, 0, 0) := by decide +kernel
theorem r_284_393 : xrow 284 393 = some (.aload_n 0, 1, 0, 0, 0, 0) := by decide +kernel
theorem r_284_394 : xrow 284 394 = some (.iload 4, 2, 0, 0, 0, 0) := by decide +kernel
theorem r_284_396 : xrow 284 396 = some (.iconst 2, 1, 0, 0, 0, 0) := by decide +kernel
theorem r_284_397 : xrow 284 397 = some (.iadd, 1, 0, 0, 0, 0) := by decide +kernel
theorem r_284_398 : xrow 284 398 = some (.iaload, 1, 0, 0, 0, 0) := by decide +kernel
theorem r_284_399 : xrow 284 399 = some (.invokevirtual 46, 3, 123, 0, 0, 1165) := by decide +kernel
theorem r_284_402 : xrow 284 402 = some (.aload_n 2, 1, 0, 0, 0, 0) := by decide +kernel
theorem r_284_403 : xrow 284 403 = some (.aload_n 0, 1, 0, 0, 0, 0) := by decide +kernel
theorem r_284_404 : xrow 284 404 = some (.iload 4, 2, 0, 0, 0, 0) := by decide +kernel
theorem r_284_406 : xrow 284 406 = some (.iconst 1, 1, 0, 0, 0, 0) := by decide +kernel
theorem r_284_407 : xrow 284 407 = some (.iadd, 1, 0, 0, 0, 0) := by decide +kernel
theorem r_284_408 : xrow 284 408 = some (.iaload, 1, 0, 0, 0, 0) := by decide +kernel
theorem r_284_409 : xrow 284 409 = some (.aload_n 0, 1, 0, 0, 0, 0) := by decide +kernel
theorem r_284_410 : xrow 284 410 = some (.iload 4, 2, 0, 0, 0, 0) := by decide +kernel
theorem r_284_412 : xrow 284 412 = some (.iconst 2, 1, 0, 0, 0, 0) := by decide +kernel
theorem r_284_413 : xrow 284 413 = some (.iadd, 1, 0, 0, 0, 0) := by decide +kernel
theorem r_284_414 : xrow 284 414 = some (.iaload, 1, 0, 0, 0, 0) := by decide +kernel
theorem r_284_415 : xrow 284 415 = some (.invokevirtual 49, 3, 194, 0, 0, 1166) := by decide +kernel
theorem r_284_418 : xrow 284 418 = some (.if_icmp .eq 1175, 3, 1593, 0, 0, 0) := by decide +kernel
theorem r_284_421 : xrow 284 421 = some (.iconst 0, 1, 0, 0, 0, 0) := by decide +kernel
theorem r_284_422 : xrow 284 422 = some (.ireturn, 1, 1, 0, 0, 0) := by decide +kernel
theorem r_284_423 : xrow 284 423 = some (.aload_n 1, 1, 0, 0, 0, 0) := by decide +kernel
theorem r_284_424 : xrow 284 424 = some (.aload_n 0, 1, 0, 0, 0, 0) := by decide +kernel
theorem r_284_425 : xrow 284 425 = some (.iload 4, 2, 0, 0, 0, 0) := by decide +kernel
theorem r_284_427 : xrow 284 427 = some (.iconst 1, 1, 0, 0, 0, 0) := by decide +kernel
theorem r_284_428 : xrow 284 428 = some (.iadd, 1, 0, 0, 0, 0) := by decide +kernel
theorem r_284_429 : xrow 284 429 = some (.iaload, 1, 0, 0, 0, 0) := by decide +kernel
theorem r_284_430 : xrow 284 430 = some (.invokevirtual 50, 3, 124, 0, 0, 1167) := by decide +kernel
theorem r_284_433 : xrow 284 433 = some (.aload_n 2, 1, 0, 0, 0, 0) := by decide +kernel
theorem r_284_434 : xrow 284 434 = some (.aload_n 0, 1, 0, 0, 0, 0) := by decide +kernel
theorem r_284_435 : xrow 284 435 = some (.iload 4, 2, 0, 0, 0, 0) := by decide +kernel
theorem r_284_437 : xrow 284 437 = some (.iconst 1, 1, 0, 0, 0, 0) := by decide +kernel
theorem r_284_438 : xrow 284 438 = some (.iadd, 1, 0, 0, 0, 0) := by decide +kernel
theorem r_284_439 : xrow 284 439 = some (.iaload, 1, 0, 0, 0, 0) := by decide +kernel
theorem r_284_440 : xrow 284 440 = some (.invokevirtual 54, 3, 195, 0, 0, 1168) := by decide +kernel
theorem r_284_443 : xrow 284 443 = some (.if_icmp .eq 1150, 3, 1593, 0, 0, 0) := by decide +kernel
theorem r_284_446 : xrow 284 446 = some (.iconst 0, 1, 0, 0, 0, 0) := by decide +kernel
theorem r_284_447 : xrow 284 447 = some (.ireturn, 1, 1, 0, 0, 0) := by decide +kernel
theorem r_284_448 : xrow 284 448 = some (.aload_n 1, 1, 0, 0, 0, 0) := by decide +kernel
theorem r_284_449 : xrow 284 449 = some (.aload_n 0, 1, 0, 0, 0, 0) := by decide +kernel
theorem r_284_450 : xrow 284 450 = some (.iload 4, 2, 0, 0, 0, 0) := by decide +kernel
theorem r_284_452 : xrow 284 452 = some (.iconst 1, 1, 0, 0, 0, 0) := by decide +kernel
theorem r_284_453 : xrow 284 453 = some (.iadd, 1, 0, 0, 0, 0) := by decide +kernel
theorem r_284_454 : xrow 284 454 = some (.iaload, 1, 0, 0, 0, 0) := by decide +kernel
theorem r_284_455 : xrow 284 455 = some (.aload_n 0, 1, 0, 0, 0, 0) := by decide +kernel
theorem r_284_456 : xrow 284 456 = some (.iload 4, 2, 0, 0, 0, 0) := by decide +kernel
theorem r_284_458 : xrow 284 458 = some (.iconst 2, 1, 0, 0, 0, 0) := by decide +kernel
theorem r_284_459 : xrow 284 459 = some (.iadd, 1, 0, 0, 0, 0) := by decide +kernel
theorem r_284_460 : xrow 284 460 = some (.iaload, 1, 0, 0, 0, 0) := by decide +kernel
theorem r_284_461 : xrow 284 461 = some (.invokevirtual 55, 3, 125, 0, 0, 1169) := by decide +kernel
theorem r_284_464 : xrow 284 464 = some (.aload_n 2, 1, 0, 0, 0, 0) := by decide +kernel
theorem r_284_465 : xrow 284 465 = some (.aload_n 0, 1, 0, 0, 0, 0) := by decide +kernel
theorem r_284_466 : xrow 284 466 = some (.iload 4, 2, 0, 0, 0, 0) := by decide +kernel
theorem r_284_468 : xrow 284 468 = some (.iconst 1, 1, 0, 0, 0, 0) := by decide +kernel
theorem r_284_469 : xrow 284 469 = some (.iadd, 1, 0, 0, 0, 0) := by decide +kernel
theorem r_284_470 : xrow 284 470 = some (.iaload, 1, 0, 0, 0, 0) := by decide +kernel
theorem r_284_471 : xrow 284 471 = some (.aload_n 0, 1, 0, 0, 0, 0) := by decide +kernel
theorem r_284_472 : xrow 284 472 = some (.iload 4, 2, 0, 0, 0, 0) := by decide +kernel
theorem r_284_474 : xrow 284 474 = some (.iconst 2, 1, 0, 0, 0, 0) := by decide +kernel
theorem r_284_475 : xrow 284 475 = some (.iadd, 1, 0, 0, 0, 0) := by decide +kernel
theorem r_284_476 : xrow 284 476 = some (.iaload, 1, 0, 0, 0, 0) := by decide +kernel
theorem r_284_477 : xrow 284 477 = some (.invokevirtual 58, 3, 196, 0, 0, 1170) := by decide +kernel
theorem r_284_480 : xrow 284 480 = some (.if_icmp .eq 1113, 3, 1593, 0, 0, 0) := by decide +kernel
theorem r_284_483 : xrow 284 483 = some (.iconst 0, 1, 0, 0, 0, 0) := by decide +kernel
theorem r_284_484 : xrow 284 484 = some (.ireturn, 1, 1, 0, 0, 0) := by decide +kernel
theorem r_284_485 : xrow 284 485 = some (.aload_n 1, 1, 0, 0, 0, 0) := by decide +kernel
theorem r_284_486 : xrow 284 486 = some (.aload_n 0, 1, 0, 0, 0, 0) := by decide +kernel
theorem r_284_487 : xrow 284 487 = some (.iload 4, 2, 0, 0, 0, 0) := by decide +kernel
theorem r_284_489 : xrow 284 489 = some (.iconst 1, 1, 0, 0, 0, 0) := by decide +kernel
theorem r_284_490 : xrow 284 490 = some (.iadd, 1, 0, 0, 0, 0) := by decide +kernel
theorem r_284_491 : xrow 284 491 = some (.iaload, 1, 0, 0, 0, 0) := by decide +kernel
theorem r_284_492 : xrow 284 492 = some (.aload_n 0, 1, 0, 0, 0, 0) := by decide +kernel
theorem r_284_493 : xrow 284 493 = some (.iload 4, 2, 0, 0, 0, 0) := by decide +kernel
theorem r_284_495 : xrow 284 495 = some (.iconst 2, 1, 0, 0, 0, 0) := by decide +kernel
theorem r_284_496 : xrow 284 496 = some (.iadd, 1, 0, 0, 0, 0) := by decide +kernel
theorem r_284_497 : xrow 284 497 = some (.iaload, 1, 0, 0, 0, 0) := by decide +kernel
theorem r_284_498 : xrow 284 498 = some (.invokevirtual 59, 3, 126, 0, 0, 1171) := by decide +kernel
theorem r_284_501 : xrow 284 501 = some (.aload_n 2, 1, 0, 0, 0, 0) := by decide +kernel
theorem r_284_502 : xrow 284 502 = some (.aload_n 0, 1, 0, 0, 0, 0) := by decide +kernel
theorem r_284_503 : xrow 284 503 = some (.iload 4, 2, 0, 0, 0, 0) := by decide +kernel
theorem r_284_505 : xrow 284 505 = some (.iconst 1, 1, 0, 0, 0, 0) := by decide +kernel
theorem r_284_506 : xrow 284 506 = some (.iadd, 1, 0, 0, 0, 0) := by decide +kernel
theorem r_284_507 : xrow 284 507 = some (.iaload, 1, 0, 0, 0, 0) := by decide +kernel
theorem r_284_508 : xrow 284 508 = some (.aload_n 0, 1, 0, 0, 0, 0) := by decide +kernel
theorem r_284_509 : xrow 284 509 = some (.iload 4, 2, 0, 0, 0, 0) := by decide +kernel
theorem r_284_511 : xrow 284 511 = some (.iconst 2, 1, 0, 0, 0, 0) := by decide +kernel
theorem r_284_512 : xrow 284 512 = some (.iadd, 1, 0, 0, 0, 0) := by decide +kernel
theorem r_284_513 : xrow 284 513 = some (.iaload, 1, 0, 0, 0, 0) := by decide +kernel
theorem r_284_514 : xrow 284 514 = some (.invokevirtual 63, 3, 199, 0, 0, 1172) := by decide +kernel
theorem r_284_517 : xrow 284 517 = some (.if_icmp .eq 1076, 3, 1593, 0, 0, 0) := by decide +kernel
theorem r_284_520 : xrow 284 520 = some (.iconst 0, 1, 0, 0, 0, 0) := by decide +kernel
theorem r_284_521 : xrow 284 521 = some (.ireturn, 1, 1, 0, 0, 0) := by decide +kernel
theorem r_284_522 : xrow 284 522 = some (.aload_n 1, 1, 0, 0, 0, 0) := by decide +kernel
theorem r_284_523 : xrow 284 523 = some (.aload_n 0, 1, 0, 0, 0, 0) := by decide +kernel
theorem r_284_524 : xrow 284 524 = some (.iload 4, 2, 0, 0, 0, 0) := by decide +kernel
theorem r_284_526 : xrow 284 526 = some (.iconst 1, 1, 0, 0, 0, 0) := by decide +kernel
theorem r_284_527 : xrow 284 527 = some (.iadd, 1, 0, 0, 0, 0) := by decide +kernel
theorem r_284_528 : xrow 284 528 = some (.iaload, 1, 0, 0, 0, 0) := by decide +kernel
theorem r_284_529 : xrow 284 529 = some (.aload_n 0, 1, 0, 0, 0, 0) := by decide +kernel
theorem r_284_530 : xrow 284 530 = some (.iload 4, 2, 0, 0, 0, 0) := by decide +kernel
theorem r_284_532 : xrow 284 532 = some (.iconst 2, 1, 0, 0, 0, 0) := by decide +kernel
theorem r_284_533 : xrow 284 533 = some (.iadd, 1, 0, 0, 0, 0) := by decide +kernel
theorem r_284_534 : xrow 284 534 = some (.iaload, 1, 0, 0, 0, 0) := by decide +kernel
theorem r_284_535 : xrow 284 535 = some (.invokevirtual 64, 3, 127, 0, 0, 1173) := by decide +kernel
theorem r_284_538 : xrow 284 538 = some (.aload_n 2, 1, 0, 0, 0, 0) := by decide +kernel
theorem r_284_539 : xrow 284 539 = some (.aload_n 0, 1, 0, 0, 0, 0) := by decide +kernel
theorem r_284_540 : xrow 284 540 = some (.iload 4, 2, 0, 0, 0, 0) := by decide +kernel
theorem r_284_542 : xrow 284 542 = some (.iconst 1, 1, 0, 0, 0, 0) := by decide +kernel
theorem r_284_543 : xrow 284 543 = some (.iadd, 1, 0, 0, 0, 0) := by decide +kernel
theorem r_284_544 : xrow 284 544 = some (.iaload, 1, 0, 0, 0, 0) := by decide +kernel
theorem r_284_545 : xrow 284 545 = some (.aload_n 0, 1, 0, 0, 0, 0) := by decide +kernel
theorem r_284_546 : xrow 284 546 = some (.iload 4, 2, 0, 0, 0, 0) := by decide +kernel
theorem r_284_548 : xrow 284 548 = some (.iconst 2, 1, 0, 0, 0, 0) := by decide +kernel
theorem r_284_549 : xrow 284 549 = some (.iadd, 1, 0, 0, 0, 0) := by decide +kernel
theorem r_284_550 : xrow 284 550 = some (.iaload, 1, 0, 0, 0, 0) := by decide +kernel
theorem r_284_551 : xrow 284 551 = some (.invokevirtual 67, 3, 200, 0, 0, 1174) := by decide +kernel
theorem r_284_554 : xrow 284 554 = some (.if_icmp .eq 1039, 3, 1593, 0, 0, 0) := by decide +kernel
theorem r_284_557 : xrow 284 557 = some (.iconst 0, 1, 0, 0, 0, 0) := by decide +kernel
theorem r_284_558 : xrow 284 558 = some (.ireturn, 1, 1, 0, 0, 0) := by decide +kernel
theorem r_284_559 : xrow 284 559 = some (.aload_n 1, 1, 0, 0, 0, 0) := by decide +kernel
theorem r_284_560 : xrow 284 560 = some (.aload_n 0, 1, 0, 0, 0, 0) := by decide +kernel
theorem r_284_561 : xrow 284 561 = some (.iload 4, 2, 0, 0, 0, 0) := by decide +kernel
theorem r_284_563 : xrow 284 563 = some (.iconst 1, 1, 0, 0, 0, 0) := by decide +kernel
theorem r_284_564 : xrow 284 564 = some (.iadd, 1, 0, 0, 0, 0) := by decide +kernel
theorem r_284_565 : xrow 284 565 = some (.iaload, 1, 0, 0, 0, 0) := by decide +kernel
theorem r_284_566 : xrow 284 566 = some (.invokevirtual 68, 3, 128, 0, 0, 1175) := by decide +kernel
theorem r_284_569 : xrow 284 569 = some (.aload_n 2, 1, 0, 0, 0, 0) := by decide +kernel
theorem r_284_570 : xrow 284 570 = some (.aload_n 0, 1, 0, 0, 0, 0) := by decide +kernel
theorem r_284_571 : xrow 284 571 = some (.iload 4, 2, 0, 0, 0, 0) := by decide +kernel
theorem r_284_573 : xrow 284 573 = some (.iconst 1, 1, 0, 0, 0, 0) := by decide +kernel
theorem r_284_574 : xrow 284 574 = some (.iadd, 1, 0, 0, 0, 0) := by decide +kernel
theorem r_284_575 : xrow 284 575 = some (.iaload, 1, 0, 0, 0, 0) := by decide +kernel
theorem r_284_576 : xrow 284 576 = some (.invokevirtual 71, 3, 201, 0, 0, 1176) := by decide +kernel
theorem r_284_579 : xrow 284 579 = some (.if_icmp .eq 1014, 3, 1593, 0, 0, 0) := by decide +kernel
theorem r_284_582 : xrow 284 582 = some (.iconst 0, 1, 0, 0, 0, 0) := by decide +kernel
theorem r_284_583 : xrow 284 583 = some (.ireturn, 1, 1, 0, 0, 0) := by decide +kernel
theorem r_284_584 : xrow 284 584 = some (.aload_n 1, 1, 0, 0, 0, 0) := by decide +kernel
theorem r_284_585 : xrow 284 585 = some (.aload_n 0, 1, 0, 0, 0, 0) := by decide +kernel
theorem r_284_586 : xrow 284 586 = some (.iload 4, 2, 0, 0, 0, 0) := by decide +kernel
theorem r_284_588 : xrow 284 588 = some (.iconst 1, 1, 0, 0, 0, 0) := by decide +kernel
theorem r_284_589 : xrow 284 589 = some (.iadd, 1, 0, 0, 0, 0) := by decide +kernel
theorem r_284_590 : xrow 284 590 = some (.iaload, 1, 0, 0, 0, 0) := by decide +kernel
theorem r_284_591 : xrow 284 591 = some (.aload_n 0, 1, 0, 0, 0, 0) := by decide +kernel
theorem r_284_592 : xrow 284 592 = some (.iload 4, 2, 0, 0, 0, 0) := by decide +kernel
theorem r_284_594 : xrow 284 594 = some (.iconst 2, 1, 0, 0, 0, 0) := by decide +kernel
theorem r_284_595 : xrow 284 595 = some (.iadd, 1, 0, 0, 0, 0) := by decide +kernel
theorem r_284_596 : xrow 284 596 = some (.iaload, 1, 0, 0, 0, 0) := by decide +kernel
theorem r_284_597 : xrow 284 597 = some (.aload_n 0, 1, 0, 0, 0, 0) := by decide +kernel
theorem r_284_598 : xrow 284 598 = some (.iload 4, 2, 0, 0, 0, 0) := by decide +kernel
theorem r_284_600 : xrow 284 600 = some (.iconst 3, 1, 0, 0, 0, 0) := by decide +kernel
theorem r_284_601 : xrow 284 601 = some (.iadd, 1, 0, 0, 0, 0) := by decide +kernel
theorem r_284_602 : xrow 284 602 = some (.iaload, 1, 0, 0, 0, 0) := by decide +kernel
theorem r_284_603 : xrow 284 603 = some (.invokevirtual 72, 3, 129, 0, 0, 1177) := by decide +kernel
theorem r_284_606 : xrow 284 606 = some (.aload_n 2, 1, 0, 0, 0, 0) := by decide +kernel
theorem r_284_607 : xrow 284 607 = some (.aload_n 0, 1, 0, 0, 0, 0) := by decide +kernel
theorem r_284_608 : xrow 284 608 = some (.iload 4, 2, 0, 0, 0, 0) := by decide +kernel
theorem r_284_610 : xrow 284 610 = some (.iconst 1, 1, 0, 0, 0, 0) := by decide +kernel
theorem r_284_611 : xrow 284 611 = some (.iadd, 1, 0, 0, 0, 0) := by decide +kernel
theorem r_284_612 : xrow 284 612 = some (.iaload, 1, 0, 0, 0, 0) := by decide +kernel
theorem r_284_613 : xrow 284 613 = some (.aload_n 0, 1, 0, 0, 0, 0) := by decide +kernel
theorem r_284_614 : xrow 284 614 = some (.iload 4, 2, 0, 0, 0, 0) := by decide +kernel
theorem r_284_616 : xrow 284 616 = some (.iconst 2, 1, 0, 0, 0, 0) := by decide +kernel
theorem r_284_617 : xrow 284 617 = some (.iadd, 1, 0, 0, 0, 0) := by decide +kernel
theorem r_284_618 : xrow 284 618 = some (.iaload, 1, 0, 0, 0, 0) := by decide +kernel
theorem r_284_619 : xrow 284 619 = some (.aload_n 0, 1, 0, 0, 0, 0) := by decide +kernel
theorem r_284_620 : xrow 284 620 = some (.iload 4, 2, 0, 0, 0, 0) := by decide +kernel
theorem r_284_622 : xrow 284 622 = some (.iconst 3, 1, 0, 0, 0, 0) := by decide +kernel
theorem r_284_623 : xrow 284 623 = some (.iadd, 1, 0, 0, 0, 0) := by decide +kernel
theorem r_284_624 : xrow 284 624 = some (.iaload, 1, 0, 0, 0, 0) := by decide +kernel
theorem r_284_625 : xrow 284 625 = some (.invokevirtual 76, 3, 202, 0, 0, 1178) := by decide +kernel
theorem r_284_628 : xrow 284 628 = some (.if_icmp .eq 965, 3, 1593, 0, 0, 0) := by decide +kernel
theorem r_284_631 : xrow 284 631 = some (.iconst 0, 1, 0, 0, 0, 0) := by decide +kernel
theorem r_284_632 : xrow 284 632 = some (.ireturn, 1, 1, 0, 0, 0) := by decide +kernel
theorem r_284_633 : xrow 284 633 = some (.aload_n 1, 1, 0, 0, 0, 0) := by decide +kernel
theorem r_284_634 : xrow 284 634 = some (.aload_n 0, 1, 0, 0, 0, 0) := by decide +kernel
theorem r_284_635 : xrow 284 635 = some (.iload 4, 2, 0, 0, 0, 0) := by decide +kernel
theorem r_284_637 : xrow 284 637 = some (.iconst 1, 1, 0, 0, 0, 0) := by decide +kernel
theorem r_284_638 : xrow 284 638 = some (.iadd, 1, 0, 0, 0, 0) := by decide +kernel
theorem r_284_639 : xrow 284 639 = some (.iaload, 1, 0, 0, 0, 0) := by decide +kernel
theorem r_284_640 : xrow 284 640 = some (.aload_n 0, 1, 0, 0, 0, 0) := by decide +kernel
theorem r_284_641 : xrow 284 641 = some (.iload 4, 2, 0, 0, 0, 0) := by decide +kernel
theorem r_284_643 : xrow 284 643 = some (.iconst 2, 1, 0, 0, 0, 0) := by decide +kernel
theorem r_284_644 : xrow 284 644 = some (.iadd, 1, 0, 0, 0, 0) := by decide +kernel
theorem r_284_645 : xrow 284 645 = some (.iaload, 1, 0, 0, 0, 0) := by decide +kernel
theorem r_284_646 : xrow 284 646 = some (.invokevirtual 77, 3, 130, 0, 0, 1179) := by decide +kernel
theorem r_284_649 : xrow 284 649 = some (.aload_n 2, 1, 0, 0, 0, 0) := by decide +kernel
theorem r_284_650 : xrow 284 650 = some (.aload_n 0, 1, 0, 0, 0, 0) := by decide +kernel
theorem r_284_651 : xrow 284 651 = some (.iload 4, 2, 0, 0, 0, 0) := by decide +kernel
theorem r_284_653 : xrow 284 653 = some (.iconst 1, 1, 0, 0, 0, 0) := by decide +kernel
theorem r_284_654 : xrow 284 654 = some (.iadd, 1, 0, 0, 0, 0) := by decide +kernel
theorem r_284_655 : xrow 284 655 = some (.iaload, 1, 0, 0, 0, 0) := by decide +kernel
theorem r_284_656 : xrow 284 656 = some (.aload_n 0, 1, 0, 0, 0, 0) := by decide +kernel
theorem r_284_657 : xrow 284 657 = some (.iload 4, 2, 0, 0, 0, 0) := by decide +kernel
theorem r_284_659 : xrow 284 659 = some (.iconst 2, 1, 0, 0, 0, 0) := by decide +kernel
theorem r_284_660 : xrow 284 660 = some (.iadd, 1, 0, 0, 0, 0) := by decide +kernel
theorem r_284_661 : xrow 284 661 = some (.iaload, 1, 0, 0, 0, 0) := by decide +kernel
theorem r_284_662 : xrow 284 662 = some (.invokevirtual 80, 3, 203, 0, 0, 1180) := by decide +kernel
theorem r_284_665 : xrow 284 665 = some (.if_icmp .eq 928, 3, 1593, 0, 0, 0) := by decide +kernel
theorem r_284_668 : xrow 284 668 = some (.iconst 0, 1, 0, 0, 0, 0) := by decide +kernel
theorem r_284_669 : xrow 284 669 = some (.ireturn, 1, 1, 0, 0, 0) := by decide +kernel
theorem r_284_670 : xrow 284 670 = some (.aload_n 1, 1, 0, 0, 0, 0) := by decide +kernel
theorem r_284_671 : xrow 284 671 = some (.aload_n 0, 1, 0, 0, 0, 0) := by decide +kernel
theorem r_284_672 : xrow 284 672 = some (.iload 4, 2, 0, 0, 0, 0) := by decide +kernel
theorem r_284_674 : xrow 284 674 = some (.iconst 1, 1, 0, 0, 0, 0) := by decide +kernel
theorem r_284_675 : xrow 284 675 = some (.iadd, 1, 0, 0, 0, 0) := by decide +kernel
theorem r_284_676 : xrow 284 676 = some (.iaload, 1, 0, 0, 0, 0) := by decide +kernel
theorem r_284_677 : xrow 284 677 = some (.invokevirtual 81, 3, 131, 0, 0, 1181) := by decide +kernel
theorem r_284_680 : xrow 284 680 = some (.aload_n 2, 1, 0, 0, 0, 0) := by decide +kernel
theorem r_284_681 : xrow 284 681 = some (.aload_n 0, 1, 0, 0, 0, 0) := by decide +kernel
theorem r_284_682 : xrow 284 682 = some (.iload 4, 2, 0, 0, 0, 0) := by decide +kernel
theorem r_284_684 : xrow 284 684 = some (.iconst 1, 1, 0, 0, 0, 0) := by decide +kernel
theorem r_284_685 : xrow 284 685 = some (.iadd, 1, 0, 0, 0, 0) := by decide +kernel
theorem r_284_686 : xrow 284 686 = some (.iaload, 1, 0, 0, 0, 0) := by decide +kernel
theorem r_284_687 : xrow 284 687 = some (.invokevirtual 84, 3, 204, 0, 0, 1182) := by decide +kernel
theorem r_284_690 : xrow 284 690 = some (.if_icmp .eq 903, 3, 1593, 0, 0, 0) := by decide +kernel
theorem r_284_693 : xrow 284 693 = some (.iconst 0, 1, 0, 0, 0, 0) := by decide +kernel
theorem r_284_694 : xrow 284 694 = some (.ireturn, 1, 1, 0, 0, 0) := by decide +kernel
theorem r_284_695 : xrow 284 695 = some (.aload_n 1, 1, 0, 0, 0, 0) := by decide +kernel
theorem r_284_696 : xrow 284 696 = some (.aload_n 0, 1, 0, 0, 0, 0) := by decide +kernel
theorem r_284_697 : xrow 284 697 = some (.iload 4, 2, 0, 0, 0, 0) := by decide +kernel
theorem r_284_699 : xrow 284 699 = some (.iconst 1, 1, 0, 0, 0, 0) := by decide +kernel
theorem r_284_700 : xrow 284 700 = some (.iadd, 1, 0, 0, 0, 0) := by decide +kernel
theorem r_284_701 : xrow 284 701 = some (.iaload, 1, 0, 0, 0, 0) := by decide +kernel
theorem r_284_702 : xrow 284 702 = some (.aload_n 0, 1, 0, 0, 0, 0) := by decide +kernel
theorem r_284_703 : xrow 284 703 = some (.iload 4, 2, 0, 0, 0, 0) := by decide +kernel
theorem r_284_705 : xrow 284 705 = some (.iconst 2, 1, 0, 0, 0, 0) := by decide +kernel
theorem r_284_706 : xrow 284 706 = some (.iadd, 1, 0, 0, 0, 0) := by decide +kernel
theorem r_284_707 : xrow 284 707 = some (.iaload, 1, 0, 0, 0, 0) := by decide +kernel
theorem r_284_708 : xrow 284 708 = some (.invokevirtual 85, 3, 132, 0, 0, 1183) := by decide +kernel
theorem r_284_711 : xrow 284 711 = some (.aload_n 2, 1, 0, 0, 0, 0) := by decide +kernel
theorem r_284_712 : xrow 284 712 = some (.aload_n 0, 1, 0, 0, 0, 0) := by decide +kernel
theorem r_284_713 : xrow 284 713 = some (.iload 4, 2, 0, 0, 0, 0) := by decide +kernel
theorem r_284_715 : xrow 284 715 = some (.iconst 1, 1, 0, 0, 0, 0) := by decide +kernel
theorem r_284_716 : xrow 284 716 = some (.iadd, 1, 0, 0, 0, 0) := by decide +kernel
theorem r_284_717 : xrow 284 717 = some (.iaload, 1, 0, 0, 0, 0) := by decide +kernel
theorem r_284_718 : xrow 284 718 = some (.aload_n 0, 1, 0, 0, 0, 0) := by decide +kernel
theorem r_284_719 : xrow 284 719 = some (.iload 4, 2, 0, 0, 0, 0) := by decide +kernel
theorem r_284_721 : xrow 284 721 = some (.iconst 2, 1, 0, 0, 0, 0) := by decide +kernel
theorem r_284_722 : xrow 284 722 = some (.iadd, 1, 0, 0, 0, 0) := by decide +kernel
theorem r_284_723 : xrow 284 723 = some (.iaload, 1, 0, 0, 0, 0) := by decide +kernel
theorem r_284_724 : xrow 284 724 = some (.invokevirtual 88, 3, 205, 0, 0, 1184) := by decide +kernel
theorem r_284_727 : xrow 284 727 = some (.if_icmp .eq 866, 3, 1593, 0, 0, 0) := by decide +kernel
theorem r_284_730 : xrow 284 730 = some (.iconst 0, 1, 0, 0, 0, 0) := by decide +kernel
theorem r_284_731 : xrow 284 731 = some (.ireturn, 1, 1, 0, 0, 0) := by decide +kernel
theorem r_284_732 : xrow 284 732 = some (.aload_n 1, 1, 0, 0, 0, 0) := by decide +kernel
theorem r_284_733 : xrow 284 733 = some (.aload_n 0, 1, 0, 0, 0, 0) := by decide +kernel
theorem r_284_734 : xrow 284 734 = some (.iload 4, 2, 0, 0, 0, 0) := by decide +kernel
theorem r_284_736 : xrow 284 736 = some (.iconst 1, 1, 0, 0, 0, 0) := by decide +kernel
theorem r_284_737 : xrow 284 737 = some (.iadd, 1, 0, 0, 0, 0) := by decide +kernel
theorem r_284_738 : xrow 284 738 = some (.iaload, 1, 0, 0, 0, 0) := by decide +kernel
theorem r_284_739 : xrow 284 739 = some (.aload_n 0, 1, 0, 0, 0, 0) := by decide +kernel
theorem r_284_740 : xrow 284 740 = some (.iload 4, 2, 0, 0, 0, 0) := by decide +kernel
theorem r_284_742 : xrow 284 742 = some (.iconst 2, 1, 0, 0, 0, 0) := by decide +kernel
theorem r_284_743 : xrow 284 743 = some (.iadd, 1, 0, 0, 0, 0) := by decide +kernel
theorem r_284_744 : xrow 284 744 = some (.iaload, 1, 0, 0, 0, 0) := by decide +kernel
theorem r_284_745 : xrow 284 745 = some (.aload_n 0, 1, 0, 0, 0, 0) := by decide +kernel
theorem r_284_746 : xrow 284 746 = some (.iload 4, 2, 0, 0, 0, 0) := by decide +kernel
theorem r_284_748 : xrow 284 748 = some (.iconst 3, 1, 0, 0, 0, 0) := by decide +kernel
theorem r_284_749 : xrow 284 749 = some (.iadd, 1, 0, 0, 0, 0) := by decide +kernel
theorem r_284_750 : xrow 284 750 = some (.iaload, 1, 0, 0, 0, 0) := by decide +kernel
theorem r_284_751 : xrow 284 751 = some (.aload_n 0, 1, 0, 0, 0, 0) := by decide +kernel
theorem r_284_752 : xrow 284 752 = some (.iload 4, 2, 0, 0, 0, 0) := by decide +kernel
theorem r_284_754 : xrow 284 754 = some (.iconst 4, 1, 0, 0, 0, 0) := by decide +kernel
theorem r_284_755 : xrow 284 755 = some (.iadd, 1, 0, 0, 0, 0) := by decide +kernel
theorem r_284_756 : xrow 284 756 = some (.iaload, 1, 0, 0, 0, 0) := by decide +kernel
theorem r_284_757 : xrow 284 757 = some (.invokevirtual 89, 3, 134, 0, 0, 1185) := by decide +kernel
theorem r_284_760 : xrow 284 760 = some (.aload_n 2, 1, 0, 0, 0, 0) := by decide +kernel
theorem r_284_761 : xrow 284 761 = some (.aload_n 0, 1, 0, 0, 0, 0) := by decide +kernel
theorem r_284_762 : xrow 284 762 = some (.iload 4, 2, 0, 0, 0, 0) := by decide +kernel
theorem r_284_764 : xrow 284 764 = some (.iconst 1, 1, 0, 0, 0, 0) := by decide +kernel
theorem r_284_765 : xrow 284 765 = some (.iadd, 1, 0, 0, 0, 0) := by decide +kernel
theorem r_284_766 : xrow 284 766 = some (.iaload, 1, 0, 0, 0, 0) := by decide +kernel
theorem r_284_767 : xrow 284 767 = some (.aload_n 0, 1, 0, 0, 0, 0) := by decide +kernel
theorem r_284_768 : xrow 284 768 = some (.iload 4, 2, 0, 0, 0, 0) := by decide +kernel
theorem r_284_770 : xrow 284 770 = some (.iconst 2, 1, 0, 0, 0, 0) := by decide +kernel
theorem r_284_771 : xrow 284 771 = some (.iadd, 1, 0, 0, 0, 0) := by decide +kernel
theorem r_284_772 : xrow 284 772 = some (.iaload, 1, 0, 0, 0, 0) := by decide +kernel
theorem r_284_773 : xrow 284 773 = some (.aload_n 0, 1, 0, 0, 0, 0) := by decide +kernel
theorem r_284_774 : xrow 284 774 = some (.iload 4, 2, 0, 0, 0, 0) := by decide +kernel
theorem r_284_776 : xrow 284 776 = some (.iconst 3, 1, 0, 0, 0, 0) := by decide +kernel
theorem r_284_777 : xrow 284 777 = some (.iadd, 1, 0, 0, 0, 0) := by decide +kernel
theorem r_284_778 : xrow 284 778 = some (.iaload, 1, 0, 0, 0, 0) := by decide +kernel
theorem r_284_779 : xrow 284 779 = some (.aload_n 0, 1, 0, 0, 0, 0) := by decide +kernel
theorem r_284_780 : xrow 284 780 = some (.iload 4, 2, 0, 0, 0, 0) := by decide +kernel
theorem r_284_782 : xrow 284 782 = some (.iconst 4, 1, 0, 0, 0, 0) := by decide +kernel
theorem r_284_783 : xrow 284 783 = some (.iadd, 1, 0, 0, 0, 0) := by decide +kernel
theorem r_284_784 : xrow 284 784 = some (.iaload, 1, 0, 0, 0, 0) := by decide +kernel
theorem r_284_785 : xrow 284 785 = some (.invokevirtual 93, 3, 211, 0, 0, 1186) := by decide +kernel
theorem r_284_788 : xrow 284 788 = some (.if_icmp .eq 805, 3, 1593, 0, 0, 0) := by decide +kernel
theorem r_284_791 : xrow 284 791 = some (.iconst 0, 1, 0, 0, 0, 0) := by decide +kernel
theorem r_284_792 : xrow 284 792 = some (.ireturn, 1, 1, 0, 0, 0) := by decide +kernel
theorem r_284_793 : xrow 284 793 = some (.aload_n 1, 1, 0, 0, 0, 0) := by decide +kernel
theorem r_284_794 : xrow 284 794 = some (.aload_n 0, 1, 0, 0, 0, 0) := by decide +kernel
theorem r_284_795 : xrow 284 795 = some (.iload 4, 2, 0, 0, 0, 0) := by decide +kernel
theorem r_284_797 : xrow 284 797 = some (.iconst 1, 1, 0, 0, 0, 0) := by decide +kernel
theorem r_284_798 : xrow 284 798 = some (.iadd, 1, 0, 0, 0, 0) := by decide +kernel
theorem r_284_799 : xrow 284 799 = some (.iaload, 1, 0, 0, 0, 0) := by decide +kernel
theorem r_284_800 : xrow 284 800 = some (.aload_n 0, 1, 0, 0, 0, 0) := by decide +kernel
theorem r_284_801 : xrow 284 801 = some (.iload 4, 2, 0, 0, 0, 0) := by decide +kernel
theorem r_284_803 : xrow 284 803 = some (.iconst 2, 1, 0, 0, 0, 0) := by decide +kernel
theorem r_284_804 : xrow 284 804 = some (.iadd, 1, 0, 0, 0, 0) := by decide +kernel
theorem r_284_805 : xrow 284 805 = some (.iaload, 1, 0, 0, 0, 0) := by decide +kernel
theorem r_284_806 : xrow 284 806 = some (.invokevirtual 94, 3, 135, 0, 0, 1187) := by decide +kernel
theorem r_284_809 : xrow 284 809 = some (.aload_n 2, 1, 0, 0, 0, 0) := by decide +kernel
theorem r_284_810 : xrow 284 810 = some (.aload_n 0, 1, 0, 0, 0, 0) := by decide +kernel
theorem r_284_811 : xrow 284 811 = some (.iload 4, 2, 0, 0, 0, 0) := by decide +kernel
theorem r_284_813 : xrow 284 813 = some (.iconst 1, 1, 0, 0, 0, 0) := by decide +kernel
theorem r_284_814 : xrow 284 814 = some (.iadd, 1, 0, 0, 0, 0) := by decide +kernel
theorem r_284_815 : xrow 284 815 = some (.iaload, 1, 0, 0, 0, 0) := by decide +kernel
theorem r_284_816 : xrow 284 816 = some (.aload_n 0, 1, 0, 0, 0, 0) := by decide +kernel
theorem r_284_817 : xrow 284 817 = some (.iload 4, 2, 0, 0, 0, 0) := by decide +kernel
theorem r_284_819 : xrow 284 819 = some (.iconst 2, 1, 0, 0, 0, 0) := by decide +kernel
theorem r_284_820 : xrow 284 820 = some (.iadd, 1, 0, 0, 0, 0) := by decide +kernel
theorem r_284_821 : xrow 284 821 = some (.iaload, 1, 0, 0, 0, 0) := by decide +kernel
theorem r_284_822 : xrow 284 822 = some (.invokevirtual 97, 3, 229, 0, 0, 1188) := by decide +kernel
theorem r_284_825 : xrow 284 825 = some (.if_icmp .eq 768, 3, 1593, 0, 0, 0) := by decide +kernel
theorem r_284_828 : xrow 284 828 = some (.iconst 0, 1, 0, 0, 0, 0) := by decide +kernel
theorem r_284_829 : xrow 284 829 = some (.ireturn, 1, 1, 0, 0, 0) := by decide +kernel
theorem r_284_830 : xrow 284 830 = some (.aload_n 1, 1, 0, 0, 0, 0) := by decide +kernel
theorem r_284_831 : xrow 284 831 = some (.aload_n 0, 1, 0, 0, 0, 0) := by decide +kernel
theorem r_284_832 : xrow 284 832 = some (.iload 4, 2, 0, 0, 0, 0) := by decide +kernel
theorem r_284_834 : xrow 284 834 = some (.iconst 1, 1, 0, 0, 0, 0) := by decide +kernel
theorem r_284_835 : xrow 284 835 = some (.iadd, 1, 0, 0, 0, 0) := by decide +kernel
theorem r_284_836 : xrow 284 836 = some (.iaload, 1, 0, 0, 0, 0) := by decide +kernel
theorem r_284_837 : xrow 284 837 = some (.aload_n 0, 1, 0, 0, 0, 0) := by decide +kernel
theorem r_284_838 : xrow 284 838 = some (.iload 4, 2, 0, 0, 0, 0) := by decide +kernel
theorem r_284_840 : xrow 284 840 = some (.iconst 2, 1, 0, 0, 0, 0) := by decide +kernel
theorem r_284_841 : xrow 284 841 = some (.iadd, 1, 0, 0, 0, 0) := by decide +kernel
theorem r_284_842 : xrow 284 842 = some (.iaload, 1, 0, 0, 0, 0) := by decide +kernel
theorem r_284_843 : xrow 284 843 = some (.aload_n 0, 1, 0, 0, 0, 0) := by decide +kernel
theorem r_284_844 : xrow 284 844 = some (.iload 4, 2, 0, 0, 0, 0) := by decide +kernel
theorem r_284_846 : xrow 284 846 = some (.iconst 3, 1, 0, 0, 0, 0) := by decide +kernel
theorem r_284_847 : xrow 284 847 = some (.iadd, 1, 0, 0, 0, 0) := by decide +kernel
theorem r_284_848 : xrow 284 848 = some (.iaload, 1, 0, 0, 0, 0) := by decide +kernel
theorem r_284_849 : xrow 284 849 = some (.ifCond .eq 7, 3, 856, 0, 0, 0) := by decide +kernel
theorem r_284_852 : xrow 284 852 = some (.iconst 1, 1, 0, 0, 0, 0) := by decide +kernel
theorem r_284_853 : xrow 284 853 = some (.goto 4, 3, 857, 0, 0, 0) := by decide +kernel
theorem r_284_856 : xrow 284 856 = some (.iconst 0, 1, 0, 0, 0, 0) := by decide +kernel
theorem r_284_857 : xrow 284 857 = some (.invokevirtual 98, 3, 136, 0, 0, 1189) := by decide +kernel
theorem r_284_860 : xrow 284 860 = some (.aload_n 2, 1, 0, 0, 0, 0) := by decide +kernel
theorem r_284_861 : xrow 284 861 = some (.aload_n 0, 1, 0, 0, 0, 0) := by decide +kernel
theorem r_284_862 : xrow 284 862 = some (.iload 4, 2, 0, 0, 0, 0) := by decide +kernel
theorem r_284_864 : xrow 284 864 = some (.iconst 1, 1, 0, 0, 0, 0) := by decide +kernel
theorem r_284_865 : xrow 284 865 = some (.iadd, 1, 0, 0, 0, 0) := by decide +kernel
theorem r_284_866 : xrow 284 866 = some (.iaload, 1, 0, 0, 0, 0) := by decide +kernel
theorem r_284_867 : xrow 284 867 = some (.aload_n 0, 1, 0, 0, 0, 0) := by decide +kernel
theorem r_284_868 : xrow 284 868 = some (.iload 4, 2, 0, 0, 0, 0) := by decide +kernel
theorem r_284_870 : xrow 284 870 = some (.iconst 2, 1, 0, 0, 0, 0) := by decide +kernel
theorem r_284_871 : xrow 284 871 = some (.iadd, 1, 0, 0, 0, 0) := by decide +kernel
theorem r_284_872 : xrow 284 872 = some (.iaload, 1, 0, 0, 0, 0) := by decide +kernel
theorem r_284_873 : xrow 284 873 = some (.aload_n 0, 1, 0, 0, 0, 0) := by decide +kernel
theorem r_284_874 : xrow 284 874 = some (.iload 4, 2, 0, 0, 0, 0) := by decide +kernel
theorem r_284_876 : xrow 284 876 = some (.iconst 3, 1, 0, 0, 0, 0) := by decide +kernel
theorem r_284_877 : xrow 284 877 = some (.iadd, 1, 0, 0, 0, 0) := by decide +kernel
theorem r_284_878 : xrow 284 878 = some (.iaload, 1, 0, 0, 0, 0) := by decide +kernel
theorem r_284_879 : xrow 284 879 = some (.ifCond .eq 7, 3, 886, 0, 0, 0) := by decide +kernel
theorem r_284_882 : xrow 284 882 = some (.iconst 1, 1, 0, 0, 0, 0) := by decide +kernel
theorem r_284_883 : xrow 284 883 = some (.goto 4, 3, 887, 0, 0, 0) := by decide +kernel
theorem r_284_886 : xrow 284 886 = some (.iconst 0, 1, 0, 0, 0, 0) := by decide +kernel
theorem r_284_887 : xrow 284 887 = some (.invokevirtual 102, 3, 232, 0, 0, 1190) := by decide +kernel
theorem r_284_890 : xrow 284 890 = some (.lcmp, 1, 0, 0, 0, 0) := by decide +kernel
theorem r_284_891 : xrow 284 891 = some (.ifCond .eq 702, 3, 1593, 0, 0, 0) := by decide +kernel
theorem r_284_894 : xrow 284 894 = some (.iconst 0, 1, 0, 0, 0, 0) := by decide +kernel
theorem r_284_895 : xrow 284 895 = some (.ireturn, 1, 1, 0, 0, 0) := by decide +kernel
theorem r_284_896 : xrow 284 896 = some (.aload_n 1, 1, 0, 0, 0, 0) := by decide +kernel
theorem r_284_897 : xrow 284 897 = some (.aload_n 0, 1, 0, 0, 0, 0) := by decide +kernel
theorem r_284_898 : xrow 284 898 = some (.iload 4, 2, 0, 0, 0, 0) := by decide +kernel
theorem r_284_900 : xrow 284 900 = some (.iconst 1, 1, 0, 0, 0, 0) := by decide +kernel
theorem r_284_901 : xrow 284 901 = some (.iadd, 1, 0, 0, 0, 0) := by decide +kernel
theorem r_284_902 : xrow 284 902 = some (.iaload, 1, 0, 0, 0, 0) := by decide +kernel
theorem r_284_903 : xrow 284 903 = some (.aload_n 0, 1, 0, 0, 0, 0) := by decide +kernel
theorem r_284_904 : xrow 284 904 = some (.iload 4, 2, 0, 0, 0, 0) := by decide +kernel
theorem r_284_906 : xrow 284 906 = some (.iconst 2, 1, 0, 0, 0, 0) := by decide +kernel
theorem r_284_907 : xrow 284 907 = some (.iadd, 1, 0, 0, 0, 0) := by decide +kernel
theorem r_284_908 : xrow 284 908 = some (.iaload, 1, 0, 0, 0, 0) := by decide +kernel
theorem r_284_909 : xrow 284 909 = some (.aload_n 0, 1, 0, 0, 0, 0) := by decide +kernel
theorem r_284_910 : xrow 284 910 = some (.iload 4, 2, 0, 0, 0, 0) := by decide +kernel
theorem r_284_912 : xrow 284 912 = some (.iconst 3, 1, 0, 0, 0, 0) := by decide +kernel
theorem r_284_913 : xrow 284 913 = some (.iadd, 1, 0, 0, 0, 0) := by decide +kernel
theorem r_284_914 : xrow 284 914 = some (.iaload, 1, 0, 0, 0, 0) := by decide +kernel
theorem r_284_915 : xrow 284 915 = some (.ifCond .eq 7, 3, 922, 0, 0, 0) := by decide +kernel
theorem r_284_918 : xrow 284 918 = some (.iconst 1, 1, 0, 0, 0, 0) := by decide +kernel
theorem r_284_919 : xrow 284 919 = some (.goto 4, 3, 923, 0, 0, 0) := by decide +kernel
theorem r_284_922 : xrow 284 922 = some (.iconst 0, 1, 0, 0, 0, 0) := by decide +kernel
theorem r_284_923 : xrow 284 923 = some (.invokevirtual 103, 3, 137, 0, 0, 1191) := by decide +kernel
theorem r_284_926 : xrow 284 926 = some (.aload_n 2, 1, 0, 0, 0, 0) := by decide +kernel
theorem r_284_927 : xrow 284 927 = some (.aload_n 0, 1, 0, 0, 0, 0) := by decide +kernel
theorem r_284_928 : xrow 284 928 = some (.iload 4, 2, 0, 0, 0, 0) := by decide +kernel
theorem r_284_930 : xrow 284 930 = some (.iconst 1, 1, 0, 0, 0, 0) := by decide +kernel
theorem r_284_931 : xrow 284 931 = some (.iadd, 1, 0, 0, 0, 0) := by decide +kernel
theorem r_284_932 : xrow 284 932 = some (.iaload, 1, 0, 0, 0, 0) := by decide +kernel
theorem r_284_933 : xrow 284 933 = some (.aload_n 0, 1, 0, 0, 0, 0) := by decide +kernel
theorem r_284_934 : xrow 284 934 = some (.iload 4, 2, 0, 0, 0, 0) := by decide +kernel
theorem r_284_936 : xrow 284 936 = some (.iconst 2, 1, 0, 0, 0, 0) := by decide +kernel
theorem r_284_937 : xrow 284 937 = some (.iadd, 1, 0, 0, 0, 0) := by decide +kernel
theorem r_284_938 : xrow 284 938 = some (.iaload, 1, 0, 0, 0, 0) := by decide +kernel
theorem r_284_939 : xrow 284 939 = some (.aload_n 0, 1, 0, 0, 0, 0) := by decide +kernel
theorem r_284_940 : xrow 284 940 = some (.iload 4, 2, 0, 0, 0, 0) := by decide +kernel
theorem r_284_942 : xrow 284 942 = some (.iconst 3, 1, 0, 0, 0, 0) := by decide +kernel
theorem r_284_943 : xrow 284 943 = some (.iadd, 1, 0, 0, 0, 0) := by decide +kernel
theorem r_284_944 : xrow 284 944 = some (.iaload, 1, 0, 0, 0, 0) := by decide +kernel
theorem r_284_945 : xrow 284 945 = some (.ifCond .eq 7, 3, 952, 0, 0, 0) := by decide +kernel
theorem r_284_948 : xrow 284 948 = some (.iconst 1, 1, 0, 0, 0, 0) := by decide +kernel
theorem r_284_949 : xrow 284 949 = some (.goto 4, 3, 953, 0, 0, 0) := by decide +kernel
theorem r_284_952 : xrow 284 952 = some (.iconst 0, 1, 0, 0, 0, 0) := by decide +kernel
theorem r_284_953 : xrow 284 953 = some (.invokevirtual 107, 3, 234, 0, 0, 1192) := by decide +kernel
theorem r_284_956 : xrow 284 956 = some (.if_icmp .eq 637, 3, 1593, 0, 0, 0) := by decide +kernel
theorem r_284_959 : xrow 284 959 = some (.iconst 0, 1, 0, 0, 0, 0) := by decide +kernel
theorem r_284_960 : xrow 284 960 = some (.ireturn, 1, 1, 0, 0, 0) := by decide +kernel
theorem r_284_961 : xrow 284 961 = some (.aload_n 1, 1, 0, 0, 0, 0) := by decide +kernel
theorem r_284_962 : xrow 284 962 = some (.invokevirtual 108, 3, 138, 0, 0, 1193) := by decide +kernel
theorem r_284_965 : xrow 284 965 = some (.aload_n 2, 1, 0, 0, 0, 0) := by decide +kernel
theorem r_284_966 : xrow 284 966 = some (.invokevirtual 111, 3, 236, 0, 0, 1194) := by decide +kernel
theorem r_284_969 : xrow 284 969 = some (.if_icmp .eq 624, 3, 1593, 0, 0, 0) := by decide +kernel
theorem r_284_972 : xrow 284 972 = some (.iconst 0, 1, 0, 0, 0, 0) := by decide +kernel
theorem r_284_973 : xrow 284 973 = some (.ireturn, 1, 1, 0, 0, 0) := by decide +kernel
theorem r_284_974 : xrow 284 974 = some (.aload_n 1, 1, 0, 0, 0, 0) := by decide +kernel
theorem r_284_975 : xrow 284 975 = some (.aload_n 0, 1, 0, 0, 0, 0) := by decide +kernel
theorem r_284_976 : xrow 284 976 = some (.iload 4, 2, 0, 0, 0, 0) := by decide +kernel
theorem r_284_978 : xrow 284 978 = some (.iconst 1, 1, 0, 0, 0, 0) := by decide +kernel
theorem r_284_979 : xrow 284 979 = some (.iadd, 1, 0, 0, 0, 0) := by decide +kernel
theorem r_284_980 : xrow 284 980 = some (.iaload, 1, 0, 0, 0, 0) := by decide +kernel
theorem r_284_981 : xrow 284 981 = some (.aload_n 0, 1, 0, 0, 0, 0) := by decide +kernel
theorem r_284_982 : xrow 284 982 = some (.iload 4, 2, 0, 0, 0, 0) := by decide +kernel
theorem r_284_984 : xrow 284 984 = some (.iconst 2, 1, 0, 0, 0, 0) := by decide +kernel
theorem r_284_985 : xrow 284 985 = some (.iadd, 1, 0, 0, 0, 0) := by decide +kernel
theorem r_284_986 : xrow 284 986 = some (.iaload, 1, 0, 0, 0, 0) := by decide +kernel
theorem r_284_987 : xrow 284 987 = some (.invokevirtual 112, 3, 139, 0, 0, 1195) := by decide +kernel
theorem r_284_990 : xrow 284 990 = some (.aload_n 2, 1, 0, 0, 0, 0) := by decide +kernel
theorem r_284_991 : xrow 284 991 = some (.aload_n 0, 1, 0, 0, 0, 0) := by decide +kernel
theorem r_284_992 : xrow 284 992 = some (.iload 4, 2, 0, 0, 0, 0) := by decide +kernel
theorem r_284_994 : xrow 284 994 = some (.iconst 1, 1, 0, 0, 0, 0) := by decide +kernel
theorem r_284_995 : xrow 284 995 = some (.iadd, 1, 0, 0, 0, 0) := by decide +kernel
theorem r_284_996 : xrow 284 996 = some (.iaload, 1, 0, 0, 0, 0) := by decide +kernel
theorem r_284_997 : xrow 284 997 = some (.aload_n 0, 1, 0, 0, 0, 0) := by decide +kernel
theorem r_284_998 : xrow 284 998 = some (.iload 4, 2, 0, 0, 0, 0) := by decide +kernel
theorem r_284_1000 : xrow 284 1000 = some (.iconst 2, 1, 0, 0, 0, 0) := by decide +kernel
theorem r_284_1001 : xrow 284 1001 = some (.iadd, 1, 0, 0, 0, 0) := by decide +kernel
theorem r_284_1002 : xrow 284 1002 = some (.iaload, 1, 0, 0, 0, 0) := by decide +kernel
theorem r_284_1003 : xrow 284 1003 = some (.invokevirtual 115, 3, 238, 0, 0, 1196) := by decide +kernel
theorem r_284_1006 : xrow 284 1006 = some (.if_icmp .eq 587, 3, 1593, 0, 0, 0) := by decide +kernel
theorem r_284_1009 : xrow 284 1009 = some (.iconst 0, 1, 0, 0, 0, 0) := by decide +kernel
theorem r_284_1010 : xrow 284 1010 = some (.ireturn, 1, 1, 0, 0, 0) := by decide +kernel
theorem r_284_1011 : xrow 284 1011 = some (.aload_n 1, 1, 0, 0, 0, 0) := by decide +kernel
theorem r_284_1012 : xrow 284 1012 = some (.aload_n 0, 1, 0, 0, 0, 0) := by decide +kernel
theorem r_284_1013 : xrow 284 1013 = some (.iload 4, 2, 0, 0, 0, 0) := by decide +kernel
theorem r_284_1015 : xrow 284 1015 = some (.iconst 1, 1, 0, 0, 0, 0) := by decide +kernel
theorem r_284_1016 : xrow 284 1016 = some (.iadd, 1, 0, 0, 0, 0) := by decide +kernel
theorem r_284_1017 : xrow 284 1017 = some (.iaload, 1, 0, 0, 0, 0) := by decide +kernel
theorem r_284_1018 : xrow 284 1018 = some (.aload_n 0, 1, 0, 0, 0, 0) := by decide +kernel
theorem r_284_1019 : xrow 284 1019 = some (.iload 4, 2, 0, 0, 0, 0) := by decide +kernel
theorem r_284_1021 : xrow 284 1021 = some (.iconst 2, 1, 0, 0, 0, 0) := by decide +kernel
theorem r_284_1022 : xrow 284 1022 = some (.iadd, 1, 0, 0, 0, 0) := by decide +kernel
theorem r_284_1023 : xrow 284 1023 = some (.iaload, 1, 0, 0, 0, 0) := by decide +kernel
theorem r_284_1024 : xrow 284 1024 = some (.aload_n 0, 1, 0, 0, 0, 0) := by decide +kernel
theorem r_284_1025 : xrow 284 1025 = some (.iload 4, 2, 0, 0, 0, 0) := by decide +kernel
theorem r_284_1027 : xrow 284 1027 = some (.iconst 3, 1, 0, 0, 0, 0) := by decide +kernel
theorem r_284_1028 : xrow 284 1028 = some (.iadd, 1, 0, 0, 0, 0) := by decide +kernel
theorem r_284_1029 : xrow 284 1029 = some (.iaload, 1, 0, 0, 0, 0) := by decide +kernel
theorem r_284_1030 : xrow 284 1030 = some (.ifCond .eq 7, 3, 1037, 0, 0, 0) := by decide +kernel
theorem r_284_1033 : xrow 284 1033 = some (.iconst 1, 1, 0, 0, 0, 0) := by decide +kernel
theorem r_284_1034 : xrow 284 1034 = some (.goto 4, 3, 1038, 0, 0, 0) := by decide +kernel
theorem r_284_1037 : xrow 284 1037 = some (.iconst 0, 1, 0, 0, 0, 0) := by decide +kernel
theorem r_284_1038 : xrow 284 1038 = some (.aload_n 0, 1, 0, 0, 0, 0) := by decide +kernel
theorem r_284_1039 : xrow 284 1039 = some (.iload 4, 2, 0, 0, 0, 0) := by decide +kernel
theorem r_284_1041 : xrow 284 1041 = some (.iconst 4, 1, 0, 0, 0, 0) := by decide +kernel
theorem r_284_1042 : xrow 284 1042 = some (.iadd, 1, 0, 0, 0, 0) := by decide +kernel
theorem r_284_1043 : xrow 284 1043 = some (.iaload, 1, 0, 0, 0, 0) := by decide +kernel
theorem r_284_1044 : xrow 284 1044 = some (.invokevirtual 116, 3, 140, 0, 0, 1197) := by decide +kernel
theorem r_284_1047 : xrow 284 1047 = some (.aload_n 2, 1, 0, 0, 0, 0) := by decide +kernel
theorem r_284_1048 : xrow 284 1048 = some (.aload_n 0, 1, 0, 0, 0, 0) := by decide +kernel
theorem r_284_1049 : xrow 284 1049 = some (.iload 4, 2, 0, 0, 0, 0) := by decide +kernel
theorem r_284_1051 : xrow 284 1051 = some (.iconst 1, 1, 0, 0, 0, 0) := by decide +kernel
theorem r_284_1052 : xrow 284 1052 = some (.iadd, 1, 0, 0, 0, 0) := by decide +kernel
theorem r_284_1053 : xrow 284 1053 = some (.iaload, 1, 0, 0, 0, 0) := by decide +kernel
theorem r_284_1054 : xrow 284 1054 = some (.aload_n 0, 1, 0, 0, 0, 0) := by decide +kernel
theorem r_284_1055 : xrow 284 1055 = some (.iload 4, 2, 0, 0, 0, 0) := by decide +kernel
theorem r_284_1057 : xrow 284 1057 = some (.iconst 2, 1, 0, 0, 0, 0) := by decide +kernel
theorem r_284_1058 : xrow 284 1058 = some (.iadd, 1, 0, 0, 0, 0) := by decide +kernel
theorem r_284_1059 : xrow 284 1059 = some (.iaload, 1, 0, 0, 0, 0) := by decide +kernel
theorem r_284_1060 : xrow 284 1060 = some (.aload_n 0, 1, 0, 0, 0, 0) := by decide +kernel
theorem r_284_1061 : xrow 284 1061 = some (.iload 4, 2, 0, 0, 0, 0) := by decide +kernel
theorem r_284_1063 : xrow 284 1063 = some (.iconst 3, 1, 0, 0, 0, 0) := by decide +kernel
theorem r_284_1064 : xrow 284 1064 = some (.iadd, 1, 0, 0, 0, 0) := by decide +kernel
theorem r_284_1065 : xrow 284 1065 = some (.iaload, 1, 0, 0, 0, 0) := by decide +kernel
theorem r_284_1066 : xrow 284 1066 = some (.ifCond .eq 7, 3, 1073, 0, 0, 0) := by decide +kernel
theorem r_284_1069 : xrow 284 1069 = some (.iconst 1, 1, 0, 0, 0, 0) := by decide +kernel
theorem r_284_1070 : xrow 284 1070 = some (.goto 4, 3, 1074, 0, 0, 0) := by decide +kernel
theorem r_284_1073 : xrow 284 1073 = some (.iconst 0, 1, 0, 0, 0, 0) := by decide +kernel
theorem r_284_1074 : xrow 284 1074 = some (.aload_n 0, 1, 0, 0, 0, 0) := by decide +kernel
theorem r_284_1075 : xrow 284 1075 = some (.iload 4, 2, 0, 0, 0, 0) := by decide +kernel
theorem r_284_1077 : xrow 284 1077 = some (.iconst 4, 1, 0, 0, 0, 0) := by decide +kernel
theorem r_284_1078 : xrow 284 1078 = some (.iadd, 1, 0, 0, 0, 0) := by decide +kernel
theorem r_284_1079 : xrow 284 1079 = some (.iaload, 1, 0, 0, 0, 0) := by decide +kernel
theorem r_284_1080 : xrow 284 1080 = some (.invokevirtual 120, 3, 241, 0, 0, 1198) := by decide +kernel
theorem r_284_1083 : xrow 284 1083 = some (.if_icmp .eq 510, 3, 1593, 0, 0, 0) := by decide +kernel
theorem r_284_1086 : xrow 284 1086 = some (.iconst 0, 1, 0, 0, 0, 0) := by decide +kernel
theorem r_284_1087 : xrow 284 1087 = some (.ireturn, 1, 1, 0, 0, 0) := by decide +kernel
theorem r_284_1088 : xrow 284 1088 = some (.aload_n 1, 1, 0, 0, 0, 0) := by decide +kernel
theorem r_284_1089 : xrow 284 1089 = some (.aload_n 0, 1, 0, 0, 0, 0) := by decide +kernel
theorem r_284_1090 : xrow 284 1090 = some (.iload 4, 2, 0, 0, 0, 0) := by decide +kernel
theorem r_284_1092 : xrow 284 1092 = some (.iconst 1, 1, 0, 0, 0, 0) := by decide +kernel
theorem r_284_1093 : xrow 284 1093 = some (.iadd, 1, 0, 0, 0, 0) := by decide +kernel
theorem r_284_1094 : xrow 284 1094 = some (.iaload, 1, 0, 0, 0, 0) := by decide +kernel
theorem r_284_1095 : xrow 284 1095 = some (.aload_n 3, 1, 0, 0, 0, 0) := by decide +kernel
theorem r_284_1096 : xrow 284 1096 = some (.invokestatic 121, 3, 283, 3, 0, 1199) := by decide +kernel
theorem r_284_1099 : xrow 284 1099 = some (.istore 5, 2, 0, 0, 0, 0) := by decide +kernel
theorem r_284_1101 : xrow 284 1101 = some (.aload_n 2, 1, 0, 0, 0, 0) := by decide +kernel
theorem r_284_1102 : xrow 284 1102 = some (.aload_n 0, 1, 0, 0, 0, 0) := by decide +kernel
theorem r_284_1103 : xrow 284 1103 = some (.iload 4, 2, 0, 0, 0, 0) := by decide +kernel
theorem r_284_1105 : xrow 284 1105 = some (.iconst 1, 1, 0, 0, 0, 0) := by decide +kernel
theorem r_284_1106 : xrow 284 1106 = some (.iadd, 1, 0, 0, 0, 0) := by decide +kernel
theorem r_284_1107 : xrow 284 1107 = some (.iaload, 1, 0, 0, 0, 0) := by decide +kernel
theorem r_284_1108 : xrow 284 1108 = some (.invokevirtual 126, 3, 242, 0, 0, 1200) := by decide +kernel
theorem r_284_1111 : xrow 284 1111 = some (.istore 6, 2, 0, 0, 0, 0) := by decide +kernel
theorem r_284_1113 : xrow 284 1113 = some (.aload_n 2, 1, 0, 0, 0, 0) := by decide +kernel
theorem r_284_1114 : xrow 284 1114 = some (.invokevirtual 127, 3, 163, 0, 0, 1201) := by decide +kernel
theorem r_284_1117 : xrow 284 1117 = some (.iload 5, 2, 0, 0, 0, 0) := by decide +kernel
theorem r_284_1119 : xrow 284 1119 = some (.if_icmp .eq 5, 3, 1124, 0, 0, 0) := by decide +kernel
theorem r_284_1122 : xrow 284 1122 = some (.iconst 0, 1, 0, 0, 0, 0) := by decide +kernel
theorem r_284_1123 : xrow 284 1123 = some (.ireturn, 1, 1, 0, 0, 0) := by decide +kernel
theorem r_284_1124 : xrow 284 1124 = some (.iload 5, 2, 0, 0, 0, 0) := by decide +kernel
theorem r_284_1126 : xrow 284 1126 = some (.ifCond .ne 15, 3, 1141, 0, 0, 0) := by decide +kernel
theorem r_284_1129 : xrow 284 1129 = some (.aload_n 3, 1, 0, 0, 0, 0) := by decide +kernel
theorem r_284_1130 : xrow 284 1130 = some (.iconst 0, 1, 0, 0, 0, 0) := by decide +kernel
theorem r_284_1131 : xrow 284 1131 = some (.laload, 1, 0, 0, 0, 0) := by decide +kernel
theorem r_284_1132 : xrow 284 1132 = some (.iload 6, 2, 0, 0, 0, 0) := by decide +kernel
theorem r_284_1134 : xrow 284 1134 = some (.i2l, 1, 0, 0, 0, 0) := by decide +kernel
theorem r_284_1135 : xrow 284 1135 = some (.lcmp, 1, 0, 0, 0, 0) := by decide +kernel
theorem r_284_1136 : xrow 284 1136 = some (.ifCond .eq 5, 3, 1141, 0, 0, 0) := by decide +kernel
theorem r_284_1139 : xrow 284 1139 = some (.iconst 0, 1, 0, 0, 0, 0) := by decide +kernel
theorem r_284_1140 : xrow 284 1140 = some (.ireturn, 1, 1, 0, 0, 0) := by decide +kernel
theorem r_284_1141 : xrow 284 1141 = some (.goto 452, 3, 1593, 0, 0, 0) := by decide +kernel
theorem r_284_1144 : xrow 284 1144 = some (.aload_n 1, 1, 0, 0, 0, 0) := by decide +kernel
theorem r_284_1145 : xrow 284 1145 = some (.aload_n 0, 1, 0, 0, 0, 0) := by decide +kernel
theorem r_284_1146 : xrow 284 1146 = some (.iload 4, 2, 0, 0, 0, 0) := by decide +kernel
theorem r_284_1148 : xrow 284 1148 = some (.iconst 1, 1, 0, 0, 0, 0) := by decide +kernel
theorem r_284_1149 : xrow 284 1149 = some (.iadd, 1, 0, 0, 0, 0) := by decide +kernel
theorem r_284_1150 : xrow 284 1150 = some (.iaload, 1, 0, 0, 0, 0) := by decide +kernel
theorem r_284_1151 : xrow 284 1151 = some (.aload_n 0, 1, 0, 0, 0, 0) := by decide +kernel
theorem r_284_1152 : xrow 284 1152 = some (.iload 4, 2, 0, 0, 0, 0) := by decide +kernel
theorem r_284_1154 : xrow 284 1154 = some (.iconst 2, 1, 0, 0, 0, 0) := by decide +kernel
theorem r_284_1155 : xrow 284 1155 = some (.iadd, 1, 0, 0, 0, 0) := by decide +kernel
theorem r_284_1156 : xrow 284 1156 = some (.iaload, 1, 0, 0, 0, 0) := by decide +kernel
theorem r_284_1157 : xrow 284 1157 = some (.invokevirtual 130, 3, 142, 0, 0, 1202) := by decide +kernel
theorem r_284_1160 : xrow 284 1160 = some (.aload_n 2, 1, 0, 0, 0, 0) := by decide +kernel
theorem r_284_1161 : xrow 284 1161 = some (.aload_n 0, 1, 0, 0, 0, 0) := by decide +kernel
theorem r_284_1162 : xrow 284 1162 = some (.iload 4, 2, 0, 0, 0, 0) := by decide +kernel
theorem r_284_1164 : xrow 284 1164 = some (.iconst 1, 1, 0, 0, 0, 0) := by decide +kernel
theorem r_284_1165 : xrow 284 1165 = some (.iadd, 1, 0, 0, 0, 0) := by decide +kernel
theorem r_284_1166 : xrow 284 1166 = some (.iaload, 1, 0, 0, 0, 0) := by decide +kernel
theorem r_284_1167 : xrow 284 1167 = some (.aload_n 0, 1, 0, 0, 0, 0) := by decide +kernel
theorem r_284_1168 : xrow 284 1168 = some (.iload 4, 2, 0, 0, 0, 0) := by decide +kernel
theorem r_284_1170 : xrow 284 1170 = some (.iconst 2, 1, 0, 0, 0, 0) := by decide +kernel
theorem r_284_1171 : xrow 284 1171 = some (.iadd, 1, 0, 0, 0, 0) := by decide +kernel
theorem r_284_1172 : xrow 284 1172 = some (.iaload, 1, 0, 0, 0, 0) := by decide +kernel
theorem r_284_1173 : xrow 284 1173 = some (.invokevirtual 133, 3, 243, 0, 0, 1203) := by decide +kernel
theorem r_284_1176 : xrow 284 1176 = some (.if_icmp .eq 417, 3, 1593, 0, 0, 0) := by decide +kernel
theorem r_284_1179 : xrow 284 1179 = some (.iconst 0, 1, 0, 0, 0, 0) := by decide +kernel
theorem r_284_1180 : xrow 284 1180 = some (.ireturn, 1, 1, 0, 0, 0) := by decide +kernel
theorem r_284_1181 : xrow 284 1181 = some (.aload_n 1, 1, 0, 0, 0, 0) := by decide +kernel
theorem r_284_1182 : xrow 284 1182 = some (.aload_n 0, 1, 0, 0, 0, 0) := by decide +kernel
theorem r_284_1183 : xrow 284 1183 = some (.iload 4, 2, 0, 0, 0, 0) := by decide +kernel
theorem r_284_1185 : xrow 284 1185 = some (.iconst 1, 1, 0, 0, 0, 0) := by decide +kernel
theorem r_284_1186 : xrow 284 1186 = some (.iadd, 1, 0, 0, 0, 0) := by decide +kernel
theorem r_284_1187 : xrow 284 1187 = some (.iaload, 1, 0, 0, 0, 0) := by decide +kernel
theorem r_284_1188 : xrow 284 1188 = some (.aload_n 0, 1, 0, 0, 0, 0) := by decide +kernel
theorem r_284_1189 : xrow 284 1189 = some (.iload 4, 2, 0, 0, 0, 0) := by decide +kernel
theorem r_284_1191 : xrow 284 1191 = some (.iconst 2, 1, 0, 0, 0, 0) := by decide +kernel
theorem r_284_1192 : xrow 284 1192 = some (.iadd, 1, 0, 0, 0, 0) := by decide +kernel
theorem r_284_1193 : xrow 284 1193 = some (.iaload, 1, 0, 0, 0, 0) := by decide +kernel
theorem r_284_1194 : xrow 284 1194 = some (.aload_n 0, 1, 0, 0, 0, 0) := by decide +kernel
theorem r_284_1195 : xrow 284 1195 = some (.iload 4, 2, 0, 0, 0, 0) := by decide +kernel
theorem r_284_1197 : xrow 284 1197 = some (.iconst 3, 1, 0, 0, 0, 0) := by decide +kernel
theorem r_284_1198 : xrow 284 1198 = some (.iadd, 1, 0, 0, 0, 0) := by decide +kernel
theorem r_284_1199 : xrow 284 1199 = some (.iaload, 1, 0, 0, 0, 0) := by decide +kernel
theorem r_284_1200 : xrow 284 1200 = some (.aload_n 0, 1, 0, 0, 0, 0) := by decide +kernel
theorem r_284_1201 : xrow 284 1201 = some (.iload 4, 2, 0, 0, 0, 0) := by decide +kernel
theorem r_284_1203 : xrow 284 1203 = some (.iconst 4, 1, 0, 0, 0, 0) := by decide +kernel
theorem r_284_1204 : xrow 284 1204 = some (.iadd, 1, 0, 0, 0, 0) := by decide +kernel
theorem r_284_1205 : xrow 284 1205 = some (.iaload, 1, 0, 0, 0, 0) := by decide +kernel
theorem r_284_1206 : xrow 284 1206 = some (.ifCond .eq 7, 3, 1213, 0, 0, 0) := by decide +kernel
theorem r_284_1209 : xrow 284 1209 = some (.iconst 1, 1, 0, 0, 0, 0) := by decide +kernel
theorem r_284_1210 : xrow 284 1210 = some (.goto 4, 3, 1214, 0, 0, 0) := by decide +kernel
theorem r_284_1213 : xrow 284 1213 = some (.iconst 0, 1, 0, 0, 0, 0) := by decide +kernel
theorem r_284_1214 : xrow 284 1214 = some (.invokevirtual 134, 3, 143, 0, 0, 1204) := by decide +kernel
theorem r_284_1217 : xrow 284 1217 = some (.aload_n 2, 1, 0, 0, 0, 0) := by decide +kernel
theorem r_284_1218 : xrow 284 1218 = some (.aload_n 0, 1, 0, 0, 0, 0) := by decide +kernel
theorem r_284_1219 : xrow 284 1219 = some (.iload 4, 2, 0, 0, 0, 0) := by decide +kernel
theorem r_284_1221 : xrow 284 1221 = some (.iconst 1, 1, 0, 0, 0, 0) := by decide +kernel
theorem r_284_1222 : xrow 284 1222 = some (.iadd, 1, 0, 0, 0, 0) := by decide +kernel
theorem r_284_1223 : xrow 284 1223 = some (.iaload, 1, 0, 0, 0, 0) := by decide +kernel
theorem r_284_1224 : xrow 284 1224 = some (.aload_n 0, 1, 0, 0, 0, 0) := by decide +kernel
theorem r_284_1225 : xrow 284 1225 = some (.iload 4, 2, 0, 0, 0, 0) := by decide +kernel
theorem r_284_1227 : xrow 284 1227 = some (.iconst 2, 1, 0, 0, 0, 0) := by decide +kernel
theorem r_284_1228 : xrow 284 1228 = some (.iadd, 1, 0, 0, 0, 0) := by decide +kernel
theorem r_284_1229 : xrow 284 1229 = some (.iaload, 1, 0, 0, 0, 0) := by decide +kernel
theorem r_284_1230 : xrow 284 1230 = some (.aload_n 0, 1, 0, 0, 0, 0) := by decide +kernel
theorem r_284_1231 : xrow 284 1231 = some (.iload 4, 2, 0, 0, 0, 0) := by decide +kernel
theorem r_284_1233 : xrow 284 1233 = some (.iconst 3, 1, 0, 0, 0, 0) := by decide +kernel
theorem r_284_1234 : xrow 284 1234 = some (.iadd, 1, 0, 0, 0, 0) := by decide +kernel
theorem r_284_1235 : xrow 284 1235 = some (.iaload, 1, 0, 0, 0, 0) := by decide +kernel
theorem r_284_1236 : xrow 284 1236 = some (.aload_n 0, 1, 0, 0, 0, 0) := by decide +kernel
theorem r_284_1237 : xrow 284 1237 = some (.iload 4, 2, 0, 0, 0, 0) := by decide +kernel
theorem r_284_1239 : xrow 284 1239 = some (.iconst 4, 1, 0, 0, 0, 0) := by decide +kernel
theorem r_284_1240 : xrow 284 1240 = some (.iadd, 1, 0, 0, 0, 0) := by decide +kernel
theorem r_284_1241 : xrow 284 1241 = some (.iaload, 1, 0, 0, 0, 0) := by decide +kernel
theorem r_284_1242 : xrow 284 1242 = some (.ifCond .eq 7, 3, 1249, 0, 0, 0) := by decide +kernel
theorem r_284_1245 : xrow 284 1245 = some (.iconst 1, 1, 0, 0, 0, 0) := by decide +kernel
theorem r_284_1246 : xrow 284 1246 = some (.goto 4, 3, 1250, 0, 0, 0) := by decide +kernel
theorem r_284_1249 : xrow 284 1249 = some (.iconst 0, 1, 0, 0, 0, 0) := by decide +kernel
theorem r_284_1250 : xrow 284 1250 = some (.invokevirtual 138, 3, 244, 0, 0, 1205) := by decide +kernel
theorem r_284_1253 : xrow 284 1253 = some (.lcmp, 1, 0, 0, 0, 0) := by decide +kernel
theorem r_284_1254 : xrow 284 1254 = some (.ifCond .eq 339, 3, 1593, 0, 0, 0) := by decide +kernel
theorem r_284_1257 : xrow 284 1257 = some (.iconst 0, 1, 0, 0, 0, 0) := by decide +kernel
theorem r_284_1258 : xrow 284 1258 = some (.ireturn, 1, 1, 0, 0, 0) := by decide +kernel
theorem r_284_1259 : xrow 284 1259 = some (.aload_n 1, 1, 0, 0, 0, 0) := by decide +kernel
theorem r_284_1260 : xrow 284 1260 = some (.aload_n 0, 1, 0, 0, 0, 0) := by decide +kernel
theorem r_284_1261 : xrow 284 1261 = some (.iload 4, 2, 0, 0, 0, 0) := by decide +kernel
theorem r_284_1263 : xrow 284 1263 = some (.iconst 1, 1, 0, 0, 0, 0) := by decide +kernel
theorem r_284_1264 : xrow 284 1264 = some (.iadd, 1, 0, 0, 0, 0) := by decide +kernel
theorem r_284_1265 : xrow 284 1265 = some (.iaload, 1, 0, 0, 0, 0) := by decide +kernel
theorem r_284_1266 : xrow 284 1266 = some (.aload_n 0, 1, 0, 0, 0, 0) := by decide +kernel
theorem r_284_1267 : xrow 284 1267 = some (.iload 4, 2, 0, 0, 0, 0) := by decide +kernel
theorem r_284_1269 : xrow 284 1269 = some (.iconst 2, 1, 0, 0, 0, 0) := by decide +kernel
theorem r_284_1270 : xrow 284 1270 = some (.iadd, 1, 0, 0, 0, 0) := by decide +kernel
theorem r_284_1271 : xrow 284 1271 = some (.iaload, 1, 0, 0, 0, 0) := by decide +kernel
theorem r_284_1272 : xrow 284 1272 = some (.aload_n 0, 1, 0, 0, 0, 0) := by decide +kernel
theorem r_284_1273 : xrow 284 1273 = some (.iload 4, 2, 0, 0, 0, 0) := by decide +kernel
theorem r_284_1275 : xrow 284 1275 = some (.iconst 3, 1, 0, 0, 0, 0) := by decide +kernel
theorem r_284_1276 : xrow 284 1276 = some (.iadd, 1, 0, 0, 0, 0) := by decide +kernel
theorem r_284_1277 : xrow 284 1277 = some (.iaload, 1, 0, 0, 0, 0) := by decide +kernel
theorem r_284_1278 : xrow 284 1278 = some (.invokevirtual 139, 3, 144, 0, 0, 1206) := by decide +kernel
theorem r_284_1281 : xrow 284 1281 = some (.aload_n 2, 1, 0, 0, 0, 0) := by decide +kernel
theorem r_284_1282 : xrow 284 1282 = some (.aload_n 0, 1, 0, 0, 0, 0) := by decide +kernel
theorem r_284_1283 : xrow 284 1283 = some (.iload 4, 2, 0, 0, 0, 0) := by decide +kernel
theorem r_284_1285 : xrow 284 1285 = some (.iconst 1, 1, 0, 0, 0, 0) := by decide +kernel
theorem r_284_1286 : xrow 284 1286 = some (.iadd, 1, 0, 0, 0, 0) := by decide +kernel
theorem r_284_1287 : xrow 284 1287 = some (.iaload, 1, 0, 0, 0, 0) := by decide +kernel
theorem r_284_1288 : xrow 284 1288 = some (.aload_n 0, 1, 0, 0, 0, 0) := by decide +kernel
theorem r_284_1289 : xrow 284 1289 = some (.iload 4, 2, 0, 0, 0, 0) := by decide +kernel
theorem r_284_1291 : xrow 284 1291 = some (.iconst 2, 1, 0, 0, 0, 0) := by decide +kernel
theorem r_284_1292 : xrow 284 1292 = some (.iadd, 1, 0, 0, 0, 0) := by decide +kernel
theorem r_284_1293 : xrow 284 1293 = some (.iaload, 1, 0, 0, 0, 0) := by decide +kernel
theorem r_284_1294 : xrow 284 1294 = some (.aload_n 0, 1, 0, 0, 0, 0) := by decide +kernel
theorem r_284_1295 : xrow 284 1295 = some (.iload 4, 2, 0, 0, 0, 0) := by decide +kernel
theorem r_284_1297 : xrow 284 1297 = some (.iconst 3, 1, 0, 0, 0, 0) := by decide +kernel
theorem r_284_1298 : xrow 284 1298 = some (.iadd, 1, 0, 0, 0, 0) := by decide +kernel
theorem r_284_1299 : xrow 284 1299 = some (.iaload, 1, 0, 0, 0, 0) := by decide +kernel
theorem r_284_1300 : xrow 284 1300 = some (.invokevirtual 143, 3, 245, 0, 0, 1207) := by decide +kernel
theorem r_284_1303 : xrow 284 1303 = some (.if_icmp .eq 290, 3, 1593, 0, 0, 0) := by decide +kernel
theorem r_284_1306 : xrow 284 1306 = some (.iconst 0, 1, 0, 0, 0, 0) := by decide +kernel
theorem r_284_1307 : xrow 284 1307 = some (.ireturn, 1, 1, 0, 0, 0) := by decide +kernel
theorem r_284_1308 : xrow 284 1308 = some (.aload_n 1, 1, 0, 0, 0, 0) := by decide +kernel
theorem r_284_1309 : xrow 284 1309 = some (.aload_n 0, 1, 0, 0, 0, 0) := by decide +kernel
theorem r_284_1310 : xrow 284 1310 = some (.iload 4, 2, 0, 0, 0, 0) := by decide +kernel
theorem r_284_1312 : xrow 284 1312 = some (.iconst 1, 1, 0, 0, 0, 0) := by decide +kernel
theorem r_284_1313 : xrow 284 1313 = some (.iadd, 1, 0, 0, 0, 0) := by decide +kernel
theorem r_284_1314 : xrow 284 1314 = some (.iaload, 1, 0, 0, 0, 0) := by decide +kernel
theorem r_284_1315 : xrow 284 1315 = some (.aload_n 0, 1, 0, 0, 0, 0) := by decide +kernel
theorem r_284_1316 : xrow 284 1316 = some (.iload 4, 2, 0, 0, 0, 0) := by decide +kernel
theorem r_284_1318 : xrow 284 1318 = some (.iconst 2, 1, 0, 0, 0, 0) := by decide +kernel
theorem r_284_1319 : xrow 284 1319 = some (.iadd, 1, 0, 0, 0, 0) := by decide +kernel
theorem r_284_1320 : xrow 284 1320 = some (.iaload, 1, 0, 0, 0, 0) := by decide +kernel
theorem r_284_1321 : xrow 284 1321 = some (.aload_n 0, 1, 0, 0, 0, 0) := by decide +kernel
theorem r_284_1322 : xrow 284 1322 = some (.iload 4, 2, 0, 0, 0, 0) := by decide +kernel
theorem r_284_1324 : xrow 284 1324 = some (.iconst 3, 1, 0, 0, 0, 0) := by decide +kernel
theorem r_284_1325 : xrow 284 1325 = some (.iadd, 1, 0, 0, 0, 0) := by decide +kernel
theorem r_284_1326 : xrow 284 1326 = some (.iaload, 1, 0, 0, 0, 0) := by decide +kernel
theorem r_284_1327 : xrow 284 1327 = some (.aload_n 0, 1, 0, 0, 0, 0) := by decide +kernel
theorem r_284_1328 : xrow 284 1328 = some (.iload 4, 2, 0, 0, 0, 0) := by decide +kernel
theorem r_284_1330 : xrow 284 1330 = some (.iconst 4, 1, 0, 0, 0, 0) := by decide +kernel
theorem r_284_1331 : xrow 284 1331 = some (.iadd, 1, 0, 0, 0, 0) := by decide +kernel
theorem r_284_1332 : xrow 284 1332 = some (.iaload, 1, 0, 0, 0, 0) := by decide +kernel
theorem r_284_1333 : xrow 284 1333 = some (.invokevirtual 144, 3, 145, 0, 0, 1208) := by decide +kernel
theorem r_284_1336 : xrow 284 1336 = some (.aload_n 2, 1, 0, 0, 0, 0) := by decide +kernel
theorem r_284_1337 : xrow 284 1337 = some (.aload_n 0, 1, 0, 0, 0, 0) := by decide +kernel
theorem r_284_1338 : xrow 284 1338 = some (.iload 4, 2, 0, 0, 0, 0) := by decide +kernel
theorem r_284_1340 : xrow 284 1340 = some (.iconst 1, 1, 0, 0, 0, 0) := by decide +kernel
theorem r_284_1341 : xrow 284 1341 = some (.iadd, 1, 0, 0, 0, 0) := by decide +kernel
theorem r_284_1342 : xrow 284 1342 = some (.iaload, 1, 0, 0, 0, 0) := by decide +kernel
theorem r_284_1343 : xrow 284 1343 = some (.aload_n 0, 1, 0, 0, 0, 0) := by decide +kernel
theorem r_284_1344 : xrow 284 1344 = some (.iload 4, 2, 0, 0, 0, 0) := by decide +kernel
theorem r_284_1346 : xrow 284 1346 = some (.iconst 2, 1, 0, 0, 0, 0) := by decide +kernel
theorem r_284_1347 : xrow 284 1347 = some (.iadd, 1, 0, 0, 0, 0) := by decide +kernel
theorem r_284_1348 : xrow 284 1348 = some (.iaload, 1, 0, 0, 0, 0) := by decide +kernel
theorem r_284_1349 : xrow 284 1349 = some (.aload_n 0, 1, 0, 0, 0, 0) := by decide +kernel
theorem r_284_1350 : xrow 284 1350 = some (.iload 4, 2, 0, 0, 0, 0) := by decide +kernel
theorem r_284_1352 : xrow 284 1352 = some (.iconst 3, 1, 0, 0, 0, 0) := by decide +kernel
theorem r_284_1353 : xrow 284 1353 = some (.iadd, 1, 0, 0, 0, 0) := by decide +kernel
theorem r_284_1354 : xrow 284 1354 = some (.iaload, 1, 0, 0, 0, 0) := by decide +kernel
theorem r_284_1355 : xrow 284 1355 = some (.aload_n 0, 1, 0, 0, 0, 0) := by decide +kernel
theorem r_284_1356 : xrow 284 1356 = some (.iload 4, 2, 0, 0, 0, 0) := by decide +kernel
theorem r_284_1358 : xrow 284 1358 = some (.iconst 4, 1, 0, 0, 0, 0) := by decide +kernel
theorem r_284_1359 : xrow 284 1359 = some (.iadd, 1, 0, 0, 0, 0) := by decide +kernel
theorem r_284_1360 : xrow 284 1360 = some (.iaload, 1, 0, 0, 0, 0) := by decide +kernel
theorem r_284_1361 : xrow 284 1361 = some (.invokevirtual 147, 3, 253, 0, 0, 1209) := by decide +kernel
theorem r_284_1364 : xrow 284 1364 = some (.if_icmp .eq 229, 3, 1593, 0, 0, 0) := by decide +kernel
theorem r_284_1367 : xrow 284 1367 = some (.iconst 0, 1, 0, 0, 0, 0) := by decide +kernel
theorem r_284_1368 : xrow 284 1368 = some (.ireturn, 1, 1, 0, 0, 0) := by decide +kernel
theorem r_284_1369 : xrow 284 1369 = some (.aload_n 1, 1, 0, 0, 0, 0) := by decide +kernel
theorem r_284_1370 : xrow 284 1370 = some (.aload_n 0, 1, 0, 0, 0, 0) := by decide +kernel
theorem r_284_1371 : xrow 284 1371 = some (.iload 4, 2, 0, 0, 0, 0) := by decide +kernel
theorem r_284_1373 : xrow 284 1373 = some (.iconst 1, 1, 0, 0, 0, 0) := by decide +kernel
theorem r_284_1374 : xrow 284 1374 = some (.iadd, 1, 0, 0, 0, 0) := by decide +kernel
theorem r_284_1375 : xrow 284 1375 = some (.iaload, 1, 0, 0, 0, 0) := by decide +kernel
theorem r_284_1376 : xrow 284 1376 = some (.invokevirtual 148, 3, 146, 0, 0, 1210) := by decide +kernel
theorem r_284_1379 : xrow 284 1379 = some (.aload_n 2, 1, 0, 0, 0, 0) := by decide +kernel
theorem r_284_1380 : xrow 284 1380 = some (.aload_n 0, 1, 0, 0, 0, 0) := by decide +kernel
theorem r_284_1381 : xrow 284 1381 = some (.iload 4, 2, 0, 0, 0, 0) := by decide +kernel
theorem r_284_1383 : xrow 284 1383 = some (.iconst 1, 1, 0, 0, 0, 0) := by decide +kernel
theorem r_284_1384 : xrow 284 1384 = some (.iadd, 1, 0, 0, 0, 0) := by decide +kernel
theorem r_284_1385 : xrow 284 1385 = some (.iaload, 1, 0, 0, 0, 0) := by decide +kernel
theorem r_284_1386 : xrow 284 1386 = some (.invokevirtual 151, 3, 254, 0, 0, 1211) := by decide +kernel
theorem r_284_1389 : xrow 284 1389 = some (.if_icmp .eq 204, 3, 1593, 0, 0, 0) := by decide +kernel
theorem r_284_1392 : xrow 284 1392 = some (.iconst 0, 1, 0, 0, 0, 0) := by decide +kernel
theorem r_284_1393 : xrow 284 1393 = some (.ireturn, 1, 1, 0, 0, 0) := by decide +kernel
theorem r_284_1394 : xrow 284 1394 = some (.aload_n 1, 1, 0, 0, 0, 0) := by decide +kernel
theorem r_284_1395 : xrow 284 1395 = some (.aload_n 0, 1, 0, 0, 0, 0) := by decide +kernel
theorem r_284_1396 : xrow 284 1396 = some (.iload 4, 2, 0, 0, 0, 0) := by decide +kernel
theorem r_284_1398 : xrow 284 1398 = some (.iconst 1, 1, 0, 0, 0, 0) := by decide +kernel
theorem r_284_1399 : xrow 284 1399 = some (.iadd, 1, 0, 0, 0, 0) := by decide +kernel
theorem r_284_1400 : xrow 284 1400 = some (.iaload, 1, 0, 0, 0, 0) := by decide +kernel
theorem r_284_1401 : xrow 284 1401 = some (.aload_n 0, 1, 0, 0, 0, 0) := by decide +kernel
theorem r_284_1402 : xrow 284 1402 = some (.iload 4, 2, 0, 0, 0, 0) := by decide +kernel
theorem r_284_1404 : xrow 284 1404 = some (.iconst 2, 1, 0, 0, 0, 0) := by decide +kernel
theorem r_284_1405 : xrow 284 1405 = some (.iadd, 1, 0, 0, 0, 0) := by decide +kernel
theorem r_284_1406 : xrow 284 1406 = some (.iaload, 1, 0, 0, 0, 0) := by decide +kernel
theorem r_284_1407 : xrow 284 1407 = some (.aload_n 0, 1, 0, 0, 0, 0) := by decide +kernel
theorem r_284_1408 : xrow 284 1408 = some (.iload 4, 2, 0, 0, 0, 0) := by decide +kernel
theorem r_284_1410 : xrow 284 1410 = some (.iconst 3, 1, 0, 0, 0, 0) := by decide +kernel
theorem r_284_1411 : xrow 284 1411 = some (.iadd, 1, 0, 0, 0, 0) := by decide +kernel
theorem r_284_1412 : xrow 284 1412 = some (.iaload, 1, 0, 0, 0, 0) := by decide +kernel
theorem r_284_1413 : xrow 284 1413 = some (.invokevirtual 152, 3, 147, 0, 0, 1212) := by decide +kernel
theorem r_284_1416 : xrow 284 1416 = some (.aload_n 2, 1, 0, 0, 0, 0) := by decide +kernel
theorem r_284_1417 : xrow 284 1417 = some (.aload_n 0, 1, 0, 0, 0, 0) := by decide +kernel
theorem r_284_1418 : xrow 284 1418 = some (.iload 4, 2, 0, 0, 0, 0) := by decide +kernel
theorem r_284_1420 : xrow 284 1420 = some (.iconst 1, 1, 0, 0, 0, 0) := by decide +kernel
theorem r_284_1421 : xrow 284 1421 = some (.iadd, 1, 0, 0, 0, 0) := by decide +kernel
theorem r_284_1422 : xrow 284 1422 = some (.iaload, 1, 0, 0, 0, 0) := by decide +kernel
theorem r_284_1423 : xrow 284 1423 = some (.aload_n 0, 1, 0, 0, 0, 0) := by decide +kernel
theorem r_284_1424 : xrow 284 1424 = some (.iload 4, 2, 0, 0, 0, 0) := by decide +kernel
theorem r_284_1426 : xrow 284 1426 = some (.iconst 2, 1, 0, 0, 0, 0) := by decide +kernel
theorem r_284_1427 : xrow 284 1427 = some (.iadd, 1, 0, 0, 0, 0) := by decide +kernel
theorem r_284_1428 : xrow 284 1428 = some (.iaload, 1, 0, 0, 0, 0) := by decide +kernel
theorem r_284_1429 : xrow 284 1429 = some (.aload_n 0, 1, 0, 0, 0, 0) := by decide +kernel
theorem r_284_1430 : xrow 284 1430 = some (.iload 4, 2, 0, 0, 0, 0) := by decide +kernel
theorem r_284_1432 : xrow 284 1432 = some (.iconst 3, 1, 0, 0, 0, 0) := by decide +kernel
theorem r_284_1433 : xrow 284 1433 = some (.iadd, 1, 0, 0, 0, 0) := by decide +kernel
theorem r_284_1434 : xrow 284 1434 = some (.iaload, 1, 0, 0, 0, 0) := by decide +kernel
theorem r_284_1435 : xrow 284 1435 = some (.invokevirtual 155, 3, 255, 0, 0, 1213) := by decide +kernel
theorem r_284_1438 : xrow 284 1438 = some (.if_icmp .eq 155, 3, 1593, 0, 0, 0) := by decide +kernel
theorem r_284_1441 : xrow 284 1441 = some (.iconst 0, 1, 0, 0, 0, 0) := by decide +kernel
theorem r_284_1442 : xrow 284 1442 = some (.ireturn, 1, 1, 0, 0, 0) := by decide +kernel
theorem r_284_1443 : xrow 284 1443 = some (.aload_n 1, 1, 0, 0, 0, 0) := by decide +kernel
theorem r_284_1444 : xrow 284 1444 = some (.aload_n 0, 1, 0, 0, 0, 0) := by decide +kernel
theorem r_284_1445 : xrow 284 1445 = some (.iload 4, 2, 0, 0, 0, 0) := by decide +kernel
theorem r_284_1447 : xrow 284 1447 = some (.iconst 1, 1, 0, 0, 0, 0) := by decide +kernel
theorem r_284_1448 : xrow 284 1448 = some (.iadd, 1, 0, 0, 0, 0) := by decide +kernel
theorem r_284_1449 : xrow 284 1449 = some (.iaload, 1, 0, 0, 0, 0) := by decide +kernel
theorem r_284_1450 : xrow 284 1450 = some (.aload_n 0, 1, 0, 0, 0, 0) := by decide +kernel
theorem r_284_1451 : xrow 284 1451 = some (.iload 4, 2, 0, 0, 0, 0) := by decide +kernel
theorem r_284_1453 : xrow 284 1453 = some (.iconst 2, 1, 0, 0, 0, 0) := by decide +kernel
theorem r_284_1454 : xrow 284 1454 = some (.iadd, 1, 0, 0, 0, 0) := by decide +kernel
theorem r_284_1455 : xrow 284 1455 = some (.iaload, 1, 0, 0, 0, 0) := by decide +kernel
theorem r_284_1456 : xrow 284 1456 = some (.invokevirtual 156, 3, 148, 0, 0, 1214) := by decide +kernel
theorem r_284_1459 : xrow 284 1459 = some (.aload_n 2, 1, 0, 0, 0, 0) := by decide +kernel
theorem r_284_1460 : xrow 284 1460 = some (.aload_n 0, 1, 0, 0, 0, 0) := by decide +kernel
theorem r_284_1461 : xrow 284 1461 = some (.iload 4, 2, 0, 0, 0, 0) := by decide +kernel
theorem r_284_1463 : xrow 284 1463 = some (.iconst 1, 1, 0, 0, 0, 0) := by decide +kernel
theorem r_284_1464 : xrow 284 1464 = some (.iadd, 1, 0, 0, 0, 0) := by decide +kernel
theorem r_284_1465 : xrow 284 1465 = some (.iaload, 1, 0, 0, 0, 0) := by decide +kernel
theorem r_284_1466 : xrow 284 1466 = some (.aload_n 0, 1, 0, 0, 0, 0) := by decide +kernel
theorem r_284_1467 : xrow 284 1467 = some (.iload 4, 2, 0, 0, 0, 0) := by decide +kernel
theorem r_284_1469 : xrow 284 1469 = some (.iconst 2, 1, 0, 0, 0, 0) := by decide +kernel
theorem r_284_1470 : xrow 284 1470 = some (.iadd, 1, 0, 0, 0, 0) := by decide +kernel
theorem r_284_1471 : xrow 284 1471 = some (.iaload, 1, 0, 0, 0, 0) := by decide +kernel
theorem r_284_1472 : xrow 284 1472 = some (.invokevirtual 159, 3, 256, 0, 0, 1215) := by decide +kernel
theorem r_284_1475 : xrow 284 1475 = some (.if_icmp .eq 118, 3, 1593, 0, 0, 0) := by decide +kernel
theorem r_284_1478 : xrow 284 1478 = some (.iconst 0, 1, 0, 0, 0, 0) := by decide +kernel
theorem r_284_1479 : xrow 284 1479 = some (.ireturn, 1, 1, 0, 0, 0) := by decide +kernel
theorem r_284_1480 : xrow 284 1480 = some (.aload_n 1, 1, 0, 0, 0, 0) := by decide +kernel
theorem r_284_1481 : xrow 284 1481 = some (.invokevirtual 160, 3, 149, 0, 0, 1216) := by decide +kernel
theorem r_284_1484 : xrow 284 1484 = some (.aload_n 2, 1, 0, 0, 0, 0) := by decide +kernel
theorem r_284_1485 : xrow 284 1485 = some (.invokevirtual 163, 3, 260, 0, 0, 1217) := by decide +kernel
theorem r_284_1488 : xrow 284 1488 = some (.if_icmp .eq 105, 3, 1593, 0, 0, 0) := by decide +kernel
theorem r_284_1491 : xrow 284 1491 = some (.iconst 0, 1, 0, 0, 0, 0) := by decide +kernel
theorem r_284_1492 : xrow 284 1492 = some (.ireturn, 1, 1, 0, 0, 0) := by decide +kernel
theorem r_284_1493 : xrow 284 1493 = some (.aload_n 1, 1, 0, 0, 0, 0) := by decide +kernel
theorem r_284_1494 : xrow 284 1494 = some (.aload_n 0, 1, 0, 0, 0, 0) := by decide +kernel
theorem r_284_1495 : xrow 284 1495 = some (.iload 4, 2, 0, 0, 0, 0) := by decide +kernel
theorem r_284_1497 : xrow 284 1497 = some (.iconst 1, 1, 0, 0, 0, 0) := by decide +kernel
theorem r_284_1498 : xrow 284 1498 = some (.iadd, 1, 0, 0, 0, 0) := by decide +kernel
theorem r_284_1499 : xrow 284 1499 = some (.iaload, 1, 0, 0, 0, 0) := by decide +kernel
theorem r_284_1500 : xrow 284 1500 = some (.invokevirtual 164, 3, 150, 0, 0, 1218) := by decide +kernel
theorem r_284_1503 : xrow 284 1503 = some (.aload_n 2, 1, 0, 0, 0, 0) := by decide +kernel
theorem r_284_1504 : xrow 284 1504 = some (.aload_n 0, 1, 0, 0, 0, 0) := by decide +kernel
theorem r_284_1505 : xrow 284 1505 = some (.iload 4, 2, 0, 0, 0, 0) := by decide +kernel
theorem r_284_1507 : xrow 284 1507 = some (.iconst 1, 1, 0, 0, 0, 0) := by decide +kernel
theorem r_284_1508 : xrow 284 1508 = some (.iadd, 1, 0, 0, 0, 0) := by decide +kernel
theorem r_284_1509 : xrow 284 1509 = some (.iaload, 1, 0, 0, 0, 0) := by decide +kernel
theorem r_284_1510 : xrow 284 1510 = some (.invokevirtual 167, 3, 261, 0, 0, 1219) := by decide +kernel
theorem r_284_1513 : xrow 284 1513 = some (.if_icmp .eq 80, 3, 1593, 0, 0, 0) := by decide +kernel
theorem r_284_1516 : xrow 284 1516 = some (.iconst 0, 1, 0, 0, 0, 0) := by decide +kernel
theorem r_284_1517 : xrow 284 1517 = some (.ireturn, 1, 1, 0, 0, 0) := by decide +kernel
theorem r_284_1518 : xrow 284 1518 = some (.aload_n 1, 1, 0, 0, 0, 0) := by decide +kernel
theorem r_284_1519 : xrow 284 1519 = some (.aload_n 0, 1, 0, 0, 0, 0) := by decide +kernel
theorem r_284_1520 : xrow 284 1520 = some (.iload 4, 2, 0, 0, 0, 0) := by decide +kernel
theorem r_284_1522 : xrow 284 1522 = some (.iconst 1, 1, 0, 0, 0, 0) := by decide +kernel
theorem r_284_1523 : xrow 284 1523 = some (.iadd, 1, 0, 0, 0, 0) := by decide +kernel
theorem r_284_1524 : xrow 284 1524 = some (.iaload, 1, 0, 0, 0, 0) := by decide +kernel
theorem r_284_1525 : xrow 284 1525 = some (.aload_n 0, 1, 0, 0, 0, 0) := by decide +kernel
theorem r_284_1526 : xrow 284 1526 = some (.iload 4, 2, 0, 0, 0, 0) := by decide +kernel
theorem r_284_1528 : xrow 284 1528 = some (.iconst 2, 1, 0, 0, 0, 0) := by decide +kernel
theorem r_284_1529 : xrow 284 1529 = some (.iadd, 1, 0, 0, 0, 0) := by decide +kernel
theorem r_284_1530 : xrow 284 1530 = some (.iaload, 1, 0, 0, 0, 0) := by decide +kernel
theorem r_284_1531 : xrow 284 1531 = some (.invokevirtual 168, 3, 151, 0, 0, 1220) := by decide +kernel
theorem r_284_1534 : xrow 284 1534 = some (.aload_n 2, 1, 0, 0, 0, 0) := by decide +kernel
theorem r_284_1535 : xrow 284 1535 = some (.aload_n 0, 1, 0, 0, 0, 0) := by decide +kernel
theorem r_284_1536 : xrow 284 1536 = some (.iload 4, 2, 0, 0, 0, 0) := by decide +kernel
theorem r_284_1538 : xrow 284 1538 = some (.iconst 1, 1, 0, 0, 0, 0) := by decide +kernel
theorem r_284_1539 : xrow 284 1539 = some (.iadd, 1, 0, 0, 0, 0) := by decide +kernel
theorem r_284_1540 : xrow 284 1540 = some (.iaload, 1, 0, 0, 0, 0) := by decide +kernel
theorem r_284_1541 : xrow 284 1541 = some (.aload_n 0, 1, 0, 0, 0, 0) := by decide +kernel
theorem r_284_1542 : xrow 284 1542 = some (.iload 4, 2, 0, 0, 0, 0) := by decide +kernel
theorem r_284_1544 : xrow 284 1544 = some (.iconst 2, 1, 0, 0, 0, 0) := by decide +kernel
theorem r_284_1545 : xrow 284 1545 = some (.iadd, 1, 0, 0, 0, 0) := by decide +kernel
theorem r_284_1546 : xrow 284 1546 = some (.iaload, 1, 0, 0, 0, 0) := by decide +kernel
theorem r_284_1547 : xrow 284 1547 = some (.invokevirtual 171, 3, 263, 0, 0, 1221) := by decide +kernel
theorem r_284_1550 : xrow 284 1550 = some (.if_icmp .eq 43, 3, 1593, 0, 0, 0) := by decide +kernel
theorem r_284_1553 : xrow 284 1553 = some (.iconst 0, 1, 0, 0, 0, 0) := by decide +kernel
theorem r_284_1554 : xrow 284 1554 = some (.ireturn, 1, 1, 0, 0, 0) := by decide +kernel
theorem r_284_1555 : xrow 284 1555 = some (.aload_n 1, 1, 0, 0, 0, 0) := by decide +kernel
theorem r_284_1556 : xrow 284 1556 = some (.aload_n 0, 1, 0, 0, 0, 0) := by decide +kernel
theorem r_284_1557 : xrow 284 1557 = some (.iload 4, 2, 0, 0, 0, 0) := by decide +kernel
theorem r_284_1559 : xrow 284 1559 = some (.iconst 1, 1, 0, 0, 0, 0) := by decide +kernel
theorem r_284_1560 : xrow 284 1560 = some (.iadd, 1, 0, 0, 0, 0) := by decide +kernel
theorem r_284_1561 : xrow 284 1561 = some (.iaload, 1, 0, 0, 0, 0) := by decide +kernel
theorem r_284_1562 : xrow 284 1562 = some (.invokevirtual 172, 3, 152, 0, 0, 1222) := by decide +kernel
theorem r_284_1565 : xrow 284 1565 = some (.aload_n 2, 1, 0, 0, 0, 0) := by decide +kernel
theorem r_284_1566 : xrow 284 1566 = some (.aload_n 0, 1, 0, 0, 0, 0) := by decide +kernel
theorem r_284_1567 : xrow 284 1567 = some (.iload 4, 2, 0, 0, 0, 0) := by decide +kernel
theorem r_284_1569 : xrow 284 1569 = some (.iconst 1, 1, 0, 0, 0, 0) := by decide +kernel
theorem r_284_1570 : xrow 284 1570 = some (.iadd, 1, 0, 0, 0, 0) := by decide +kernel
theorem r_284_1571 : xrow 284 1571 = some (.iaload, 1, 0, 0, 0, 0) := by decide +kernel
theorem r_284_1572 : xrow 284 1572 = some (.invokevirtual 175, 3, 264, 0, 0, 1223) := by decide +kernel
theorem r_284_1575 : xrow 284 1575 = some (.if_icmp .eq 18, 3, 1593, 0, 0, 0) := by decide +kernel
theorem r_284_1578 : xrow 284 1578 = some (.iconst 0, 1, 0, 0, 0, 0) := by decide +kernel
theorem r_284_1579 : xrow 284 1579 = some (.ireturn, 1, 1, 0, 0, 0) := by decide +kernel
theorem r_284_1580 : xrow 284 1580 = some (.aload_n 1, 1, 0, 0, 0, 0) := by decide +kernel
theorem r_284_1581 : xrow 284 1581 = some (.invokevirtual 176, 3, 153, 0, 0, 1224) := by decide +kernel
theorem r_284_1584 : xrow 284 1584 = some (.aload_n 2, 1, 0, 0, 0, 0) := by decide +kernel
theorem r_284_1585 : xrow 284 1585 = some (.invokevirtual 179, 3, 265, 0, 0, 1225) := by decide +kernel
theorem r_284_1588 : xrow 284 1588 = some (.if_icmp .eq 5, 3, 1593, 0, 0, 0) := by decide +kernel
theorem r_284_1591 : xrow 284 1591 = some (.iconst 0, 1, 0, 0, 0, 0) := by decide +kernel
theorem r_284_1592 : xrow 284 1592 = some (.ireturn, 1, 1, 0, 0, 0) := by decide +kernel
theorem r_284_1593 : xrow 284 1593 = some (.iinc 4 6, 3, 0, 0, 0, 0) := by decide +kernel
theorem r_284_1596 : xrow 284 1596 = some (.goto (-1573), 3, 23, 0, 0, 0) := by decide +kernel
theorem r_284_1599 : xrow 284 1599 = some (.iconst 1, 1, 0, 0, 0, 0) := by decide +kernel
theorem r_284_1600 : xrow 284 1600 = some (.ireturn, 1, 1, 0, 0, 0) := by decide +kernel
