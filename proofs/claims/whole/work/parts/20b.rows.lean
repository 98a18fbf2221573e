/-! rows by their places (1) -/
theorem r_100_0 : xrow 100 0 = some (.aload_n 0, 1, 0, 0, 0, 0) := by decide +kernel
theorem r_100_1 : xrow 100 1 = some (.iload_n 1, 1, 0, 0, 0, 0) := by decide +kernel
theorem r_100_2 : xrow 100 2 = some (.putfield 34, 3, 19, 7, 0, 806) := by decide +kernel
theorem r_100_5 : xrow 100 5 = some (.aload_n 0, 1, 0, 0, 0, 0) := by decide +kernel
theorem r_100_6 : xrow 100 6 = some (.iload_n 2, 1, 0, 0, 0, 0) := by decide +kernel
theorem r_100_7 : xrow 100 7 = some (.putfield 15, 3, 19, 8, 0, 801) := by decide +kernel
theorem r_100_10 : xrow 100 10 = some (.iconst 0, 1, 0, 0, 0, 0) := by decide +kernel
theorem r_100_11 : xrow 100 11 = some (.ireturn, 1, 1, 0, 0, 0) := by decide +kernel
theorem r_101_0 : xrow 101 0 = some (.aload_n 0, 1, 0, 0, 0, 0) := by decide +kernel
theorem r_101_1 : xrow 101 1 = some (.invokespecial 5, 3, 0, 1, 0, 822) := by decide +kernel
theorem r_101_4 : xrow 101 4 = some (.aload_n 0, 1, 0, 0, 0, 0) := by decide +kernel
theorem r_101_5 : xrow 101 5 = some (.sipush 1024, 3, 0, 0, 0, 0) := by decide +kernel
theorem r_101_8 : xrow 101 8 = some (.newarray .int, 2, 0, 0, 0, 0) := by decide +kernel
theorem r_101_10 : xrow 101 10 = some (.putfield 11, 3, 20, 7, 2, 823) := by decide +kernel
theorem r_101_13 : xrow 101 13 = some (.aload_n 0, 1, 0, 0, 0, 0) := by decide +kernel
theorem r_101_14 : xrow 101 14 = some (.bipush 100, 2, 0, 0, 0, 0) := by decide +kernel
theorem r_101_16 : xrow 101 16 = some (.newarray .int, 2, 0, 0, 0, 0) := by decide +kernel
theorem r_101_18 : xrow 101 18 = some (.putfield 15, 3, 20, 9, 2, 824) := by decide +kernel
theorem r_101_21 : xrow 101 21 = some (.aload_n 0, 1, 0, 0, 0, 0) := by decide +kernel
theorem r_101_22 : xrow 101 22 = some (.bipush 100, 2, 0, 0, 0, 0) := by decide +kernel
theorem r_101_24 : xrow 101 24 = some (.newarray .int, 2, 0, 0, 0, 0) := by decide +kernel
theorem r_101_26 : xrow 101 26 = some (.putfield 18, 3, 20, 10, 2, 825) := by decide +kernel
theorem r_101_29 : xrow 101 29 = some (.aload_n 0, 1, 0, 0, 0, 0) := by decide +kernel
theorem r_101_30 : xrow 101 30 = some (.aload_n 1, 1, 0, 0, 0, 0) := by decide +kernel
theorem r_101_31 : xrow 101 31 = some (.putfield 21, 3, 20, 0, 2, 826) := by decide +kernel
theorem r_101_34 : xrow 101 34 = some (.aload_n 0, 1, 0, 0, 0, 0) := by decide +kernel
theorem r_101_35 : xrow 101 35 = some (.aload_n 2, 1, 0, 0, 0, 0) := by decide +kernel
theorem r_101_36 : xrow 101 36 = some (.putfield 25, 3, 20, 1, 2, 827) := by decide +kernel
theorem r_101_39 : xrow 101 39 = some (.aload_n 0, 1, 0, 0, 0, 0) := by decide +kernel
theorem r_101_40 : xrow 101 40 = some (.iload_n 3, 1, 0, 0, 0, 0) := by decide +kernel
theorem r_101_41 : xrow 101 41 = some (.putfield 29, 3, 20, 2, 3, 828) := by decide +kernel
theorem r_101_44 : xrow 101 44 = some (.aload_n 0, 1, 0, 0, 0, 0) := by decide +kernel
theorem r_101_45 : xrow 101 45 = some (.iconst (-1), 1, 0, 0, 0, 0) := by decide +kernel
theorem r_101_46 : xrow 101 46 = some (.putfield 33, 3, 20, 4, 0, 829) := by decide +kernel
theorem r_101_49 : xrow 101 49 = some (.aload_n 0, 1, 0, 0, 0, 0) := by decide +kernel
theorem r_101_50 : xrow 101 50 = some (.iconst (-1), 1, 0, 0, 0, 0) := by decide +kernel
theorem r_101_51 : xrow 101 51 = some (.putfield 37, 3, 20, 5, 0, 830) := by decide +kernel
theorem r_101_54 : xrow 101 54 = some (.aload_n 0, 1, 0, 0, 0, 0) := by decide +kernel
theorem r_101_55 : xrow 101 55 = some (.iconst 0, 1, 0, 0, 0, 0) := by decide +kernel
theorem r_101_56 : xrow 101 56 = some (.newarray .long, 2, 0, 0, 0, 0) := by decide +kernel
theorem r_101_58 : xrow 101 58 = some (.putfield 40, 3, 20, 6, 2, 831) := by decide +kernel
theorem r_101_61 : xrow 101 61 = some (.return_, 1, 0, 0, 0, 0) := by decide +kernel
theorem r_102_0 : xrow 102 0 = some (.aload_n 0, 1, 0, 0, 0, 0) := by decide +kernel
theorem r_102_1 : xrow 102 1 = some (.getfield 25, 3, 20, 1, 2, 827) := by decide +kernel
theorem r_102_4 : xrow 102 4 = some (.invokevirtual 44, 3, 83, 0, 0, 832) := by decide +kernel
theorem r_102_7 : xrow 102 7 = some (.aload_n 0, 1, 0, 0, 0, 0) := by decide +kernel
theorem r_102_8 : xrow 102 8 = some (.getfield 33, 3, 20, 4, 0, 829) := by decide +kernel
theorem r_102_11 : xrow 102 11 = some (.iload_n 1, 1, 0, 0, 0, 0) := by decide +kernel
theorem r_102_12 : xrow 102 12 = some (.if_icmp .ne 21, 3, 33, 0, 0, 0) := by decide +kernel
theorem r_102_15 : xrow 102 15 = some (.aload_n 0, 1, 0, 0, 0, 0) := by decide +kernel
theorem r_102_16 : xrow 102 16 = some (.getfield 37, 3, 20, 5, 0, 830) := by decide +kernel
theorem r_102_19 : xrow 102 19 = some (.aload_n 0, 1, 0, 0, 0, 0) := by decide +kernel
theorem r_102_20 : xrow 102 20 = some (.getfield 21, 3, 20, 0, 2, 826) := by decide +kernel
theorem r_102_23 : xrow 102 23 = some (.getfield 49, 3, 15, 4, 0, 833) := by decide +kernel
theorem r_102_26 : xrow 102 26 = some (.if_icmp .ne 7, 3, 33, 0, 0, 0) := by decide +kernel
theorem r_102_29 : xrow 102 29 = some (.iconst 1, 1, 0, 0, 0, 0) := by decide +kernel
theorem r_102_30 : xrow 102 30 = some (.goto 4, 3, 34, 0, 0, 0) := by decide +kernel
theorem r_102_33 : xrow 102 33 = some (.iconst 0, 1, 0, 0, 0, 0) := by decide +kernel
theorem r_102_34 : xrow 102 34 = some (.istore_n 2, 1, 0, 0, 0, 0) := by decide +kernel
theorem r_102_35 : xrow 102 35 = some (.aload_n 0, 1, 0, 0, 0, 0) := by decide +kernel
theorem r_102_36 : xrow 102 36 = some (.getfield 21, 3, 20, 0, 2, 826) := by decide +kernel
theorem r_102_39 : xrow 102 39 = some (.getfield 52, 3, 15, 2, 0, 834) := by decide +kernel
theorem r_102_42 : xrow 102 42 = some (.iconst 2, 1, 0, 0, 0, 0) := by decide +kernel
theorem r_102_43 : xrow 102 43 = some (.aload_n 0, 1, 0, 0, 0, 0) := by decide +kernel
theorem r_102_44 : xrow 102 44 = some (.getfield 21, 3, 20, 0, 2, 826) := by decide +kernel
theorem r_102_47 : xrow 102 47 = some (.getfield 55, 3, 15, 3, 0, 835) := by decide +kernel
theorem r_102_50 : xrow 102 50 = some (.imul, 1, 0, 0, 0, 0) := by decide +kernel
theorem r_102_51 : xrow 102 51 = some (.ishl, 1, 0, 0, 0, 0) := by decide +kernel
theorem r_102_52 : xrow 102 52 = some (.istore_n 3, 1, 0, 0, 0, 0) := by decide +kernel
theorem r_102_53 : xrow 102 53 = some (.aload_n 0, 1, 0, 0, 0, 0) := by decide +kernel
theorem r_102_54 : xrow 102 54 = some (.getfield 40, 3, 20, 6, 2, 831) := by decide +kernel
theorem r_102_57 : xrow 102 57 = some (.arraylength, 1, 0, 0, 0, 0) := by decide +kernel
theorem r_102_58 : xrow 102 58 = some (.iload_n 3, 1, 0, 0, 0, 0) := by decide +kernel
theorem r_102_59 : xrow 102 59 = some (.if_icmp .ge 31, 3, 90, 0, 0, 0) := by decide +kernel
theorem r_102_62 : xrow 102 62 = some (.iload_n 3, 1, 0, 0, 0, 0) := by decide +kernel
theorem r_102_63 : xrow 102 63 = some (.iconst 2, 1, 0, 0, 0, 0) := by decide +kernel
theorem r_102_64 : xrow 102 64 = some (.aload_n 0, 1, 0, 0, 0, 0) := by decide +kernel
theorem r_102_65 : xrow 102 65 = some (.getfield 40, 3, 20, 6, 2, 831) := by decide +kernel
theorem r_102_68 : xrow 102 68 = some (.arraylength, 1, 0, 0, 0, 0) := by decide +kernel
theorem r_102_69 : xrow 102 69 = some (.imul, 1, 0, 0, 0, 0) := by decide +kernel
theorem r_102_70 : xrow 102 70 = some (.invokestatic 58, 3, 268, 0, 0, 836) := by decide +kernel
theorem r_102_73 : xrow 102 73 = some (.istore 4, 2, 0, 0, 0, 0) := by decide +kernel
theorem r_102_75 : xrow 102 75 = some (.aload_n 0, 1, 0, 0, 0, 0) := by decide +kernel
theorem r_102_76 : xrow 102 76 = some (.iload 4, 2, 0, 0, 0, 0) := by decide +kernel
theorem r_102_78 : xrow 102 78 = some (.ldc 64, 2, 102400, 0, 0, 837) := by decide +kernel
theorem r_102_80 : xrow 102 80 = some (.invokestatic 65, 3, 270, 0, 0, 838) := by decide +kernel
theorem r_102_83 : xrow 102 83 = some (.newarray .long, 2, 0, 0, 0, 0) := by decide +kernel
theorem r_102_85 : xrow 102 85 = some (.putfield 40, 3, 20, 6, 2, 831) := by decide +kernel
theorem r_102_88 : xrow 102 88 = some (.iconst 0, 1, 0, 0, 0, 0) := by decide +kernel
theorem r_102_89 : xrow 102 89 = some (.istore_n 2, 1, 0, 0, 0, 0) := by decide +kernel
theorem r_102_90 : xrow 102 90 = some (.iload_n 2, 1, 0, 0, 0, 0) := by decide +kernel
theorem r_102_91 : xrow 102 91 = some (.ifCond .ne 29, 3, 120, 0, 0, 0) := by decide +kernel
theorem r_102_94 : xrow 102 94 = some (.aload_n 0, 1, 0, 0, 0, 0) := by decide +kernel
theorem r_102_95 : xrow 102 95 = some (.iload_n 1, 1, 0, 0, 0, 0) := by decide +kernel
theorem r_102_96 : xrow 102 96 = some (.putfield 33, 3, 20, 4, 0, 829) := by decide +kernel
theorem r_102_99 : xrow 102 99 = some (.aload_n 0, 1, 0, 0, 0, 0) := by decide +kernel
theorem r_102_100 : xrow 102 100 = some (.aload_n 0, 1, 0, 0, 0, 0) := by decide +kernel
theorem r_102_101 : xrow 102 101 = some (.getfield 21, 3, 20, 0, 2, 826) := by decide +kernel
theorem r_102_104 : xrow 102 104 = some (.getfield 49, 3, 15, 4, 0, 833) := by decide +kernel
theorem r_102_107 : xrow 102 107 = some (.putfield 37, 3, 20, 5, 0, 830) := by decide +kernel
theorem r_102_110 : xrow 102 110 = some (.aload_n 0, 1, 0, 0, 0, 0) := by decide +kernel
theorem r_102_111 : xrow 102 111 = some (.dup, 1, 0, 0, 0, 0) := by decide +kernel
theorem r_102_112 : xrow 102 112 = some (.getfield 68, 3, 20, 8, 0, 839) := by decide +kernel
theorem r_102_115 : xrow 102 115 = some (.iconst 1, 1, 0, 0, 0, 0) := by decide +kernel
theorem r_102_116 : xrow 102 116 = some (.iadd, 1, 0, 0, 0, 0) := by decide +kernel
theorem r_102_117 : xrow 102 117 = some (.putfield 68, 3, 20, 8, 0, 839) := by decide +kernel
theorem r_102_120 : xrow 102 120 = some (.return_, 1, 0, 0, 0, 0) := by decide +kernel
theorem r_103_0 : xrow 103 0 = some (.aload_n 0, 1, 0, 0, 0, 0) := by decide +kernel
theorem r_103_1 : xrow 103 1 = some (.iload_n 1, 1, 0, 0, 0, 0) := by decide +kernel
theorem r_103_2 : xrow 103 2 = some (.iload_n 2, 1, 0, 0, 0, 0) := by decide +kernel
theorem r_103_3 : xrow 103 3 = some (.iconst 0, 1, 0, 0, 0, 0) := by decide +kernel
theorem r_103_4 : xrow 103 4 = some (.invokevirtual 71, 3, 106, 0, 0, 840) := by decide +kernel
theorem r_103_7 : xrow 103 7 = some (.lreturn, 1, 0, 0, 0, 0) := by decide +kernel
theorem r_104_0 : xrow 104 0 = some (.lconst 0, 1, 0, 0, 0, 0) := by decide +kernel
theorem r_104_1 : xrow 104 1 = some (.lstore 4, 2, 0, 0, 0, 0) := by decide +kernel
theorem r_104_3 : xrow 104 3 = some (.iconst 0, 1, 0, 0, 0, 0) := by decide +kernel
theorem r_104_4 : xrow 104 4 = some (.istore 6, 2, 0, 0, 0, 0) := by decide +kernel
theorem r_104_6 : xrow 104 6 = some (.iload 6, 2, 0, 0, 0, 0) := by decide +kernel
theorem r_104_8 : xrow 104 8 = some (.aload_n 0, 1, 0, 0, 0, 0) := by decide +kernel
theorem r_104_9 : xrow 104 9 = some (.getfield 21, 3, 20, 0, 2, 826) := by decide +kernel
theorem r_104_12 : xrow 104 12 = some (.getfield 75, 3, 15, 13, 2, 841) := by decide +kernel
theorem r_104_15 : xrow 104 15 = some (.iload_n 2, 1, 0, 0, 0, 0) := by decide +kernel
theorem r_104_16 : xrow 104 16 = some (.iaload, 1, 0, 0, 0, 0) := by decide +kernel
theorem r_104_17 : xrow 104 17 = some (.if_icmp .ge 38, 3, 55, 0, 0, 0) := by decide +kernel
theorem r_104_20 : xrow 104 20 = some (.aload_n 0, 1, 0, 0, 0, 0) := by decide +kernel
theorem r_104_21 : xrow 104 21 = some (.lload 4, 2, 0, 0, 0, 0) := by decide +kernel
theorem r_104_23 : xrow 104 23 = some (.aload_n 0, 1, 0, 0, 0, 0) := by decide +kernel
theorem r_104_24 : xrow 104 24 = some (.iload_n 1, 1, 0, 0, 0, 0) := by decide +kernel
theorem r_104_25 : xrow 104 25 = some (.aload_n 0, 1, 0, 0, 0, 0) := by decide +kernel
theorem r_104_26 : xrow 104 26 = some (.getfield 21, 3, 20, 0, 2, 826) := by decide +kernel
theorem r_104_29 : xrow 104 29 = some (.iload_n 2, 1, 0, 0, 0, 0) := by decide +kernel
theorem r_104_30 : xrow 104 30 = some (.iload 6, 2, 0, 0, 0, 0) := by decide +kernel
theorem r_104_32 : xrow 104 32 = some (.invokevirtual 78, 3, 58, 0, 0, 842) := by decide +kernel
theorem r_104_35 : xrow 104 35 = some (.ior, 1, 0, 0, 0, 0) := by decide +kernel
theorem r_104_36 : xrow 104 36 = some (.iload_n 3, 1, 0, 0, 0, 0) := by decide +kernel
theorem r_104_37 : xrow 104 37 = some (.iconst 0, 1, 0, 0, 0, 0) := by decide +kernel
theorem r_104_38 : xrow 104 38 = some (.invokevirtual 71, 3, 106, 0, 0, 840) := by decide +kernel
theorem r_104_41 : xrow 104 41 = some (.iload_n 2, 1, 0, 0, 0, 0) := by decide +kernel
theorem r_104_42 : xrow 104 42 = some (.iload 6, 2, 0, 0, 0, 0) := by decide +kernel
theorem r_104_44 : xrow 104 44 = some (.invokevirtual 81, 3, 105, 0, 0, 843) := by decide +kernel
theorem r_104_47 : xrow 104 47 = some (.lstore 4, 2, 0, 0, 0, 0) := by decide +kernel
theorem r_104_49 : xrow 104 49 = some (.iinc 6 1, 3, 0, 0, 0, 0) := by decide +kernel
theorem r_104_52 : xrow 104 52 = some (.goto (-46), 3, 6, 0, 0, 0) := by decide +kernel
theorem r_104_55 : xrow 104 55 = some (.lload 4, 2, 0, 0, 0, 0) := by decide +kernel
theorem r_104_57 : xrow 104 57 = some (.lreturn, 1, 0, 0, 0, 0) := by decide +kernel
theorem r_105_0 : xrow 105 0 = some (.lload_n 1, 1, 0, 0, 0, 0) := by decide +kernel
theorem r_105_1 : xrow 105 1 = some (.ldc2_w 85, 3, 1, 0, 0, 844) := by decide +kernel
theorem r_105_4 : xrow 105 4 = some (.lcmp, 1, 0, 0, 0, 0) := by decide +kernel
theorem r_105_5 : xrow 105 5 = some (.ifCond .ge 11, 3, 16, 0, 0, 0) := by decide +kernel
theorem r_105_8 : xrow 105 8 = some (.lload_n 3, 1, 0, 0, 0, 0) := by decide +kernel
theorem r_105_9 : xrow 105 9 = some (.ldc2_w 85, 3, 1, 0, 0, 844) := by decide +kernel
theorem r_105_12 : xrow 105 12 = some (.lcmp, 1, 0, 0, 0, 0) := by decide +kernel
theorem r_105_13 : xrow 105 13 = some (.ifCond .lt 7, 3, 20, 0, 0, 0) := by decide +kernel
theorem r_105_16 : xrow 105 16 = some (.ldc2_w 85, 3, 1, 0, 0, 844) := by decide +kernel
theorem r_105_19 : xrow 105 19 = some (.lreturn, 1, 0, 0, 0, 0) := by decide +kernel
theorem r_105_20 : xrow 105 20 = some (.aload_n 0, 1, 0, 0, 0, 0) := by decide +kernel
theorem r_105_21 : xrow 105 21 = some (.getfield 29, 3, 20, 2, 0, 828) := by decide +kernel
theorem r_105_24 : xrow 105 24 = some (.ifCond .ne 9, 3, 33, 0, 0, 0) := by decide +kernel
theorem r_105_27 : xrow 105 27 = some (.lload_n 1, 1, 0, 0, 0, 0) := by decide +kernel
theorem r_105_28 : xrow 105 28 = some (.lload_n 3, 1, 0, 0, 0, 0) := by decide +kernel
theorem r_105_29 : xrow 105 29 = some (.invokestatic 87, 3, 269, 0, 0, 845) := by decide +kernel
theorem r_105_32 : xrow 105 32 = some (.lreturn, 1, 0, 0, 0, 0) := by decide +kernel
theorem r_105_33 : xrow 105 33 = some (.lload_n 1, 1, 0, 0, 0, 0) := by decide +kernel
theorem r_105_34 : xrow 105 34 = some (.lload_n 3, 1, 0, 0, 0, 0) := by decide +kernel
theorem r_105_35 : xrow 105 35 = some (.aload_n 0, 1, 0, 0, 0, 0) := by decide +kernel
theorem r_105_36 : xrow 105 36 = some (.getfield 21, 3, 20, 0, 2, 826) := by decide +kernel
theorem r_105_39 : xrow 105 39 = some (.iload 5, 2, 0, 0, 0, 0) := by decide +kernel
theorem r_105_41 : xrow 105 41 = some (.aload_n 0, 1, 0, 0, 0, 0) := by decide +kernel
theorem r_105_42 : xrow 105 42 = some (.getfield 21, 3, 20, 0, 2, 826) := by decide +kernel
theorem r_105_45 : xrow 105 45 = some (.getfield 90, 3, 15, 12, 2, 846) := by decide +kernel
theorem r_105_48 : xrow 105 48 = some (.iload 5, 2, 0, 0, 0, 0) := by decide +kernel
theorem r_105_50 : xrow 105 50 = some (.iconst 3, 1, 0, 0, 0, 0) := by decide +kernel
theorem r_105_51 : xrow 105 51 = some (.imul, 1, 0, 0, 0, 0) := by decide +kernel
theorem r_105_52 : xrow 105 52 = some (.iload 6, 2, 0, 0, 0, 0) := by decide +kernel
theorem r_105_54 : xrow 105 54 = some (.iadd, 1, 0, 0, 0, 0) := by decide +kernel
theorem r_105_55 : xrow 105 55 = some (.iaload, 1, 0, 0, 0, 0) := by decide +kernel
theorem r_105_56 : xrow 105 56 = some (.invokevirtual 93, 3, 50, 0, 0, 847) := by decide +kernel
theorem r_105_59 : xrow 105 59 = some (.i2l, 1, 0, 0, 0, 0) := by decide +kernel
theorem r_105_60 : xrow 105 60 = some (.lmul, 1, 0, 0, 0, 0) := by decide +kernel
theorem r_105_61 : xrow 105 61 = some (.ladd, 1, 0, 0, 0, 0) := by decide +kernel
theorem r_105_62 : xrow 105 62 = some (.lreturn, 1, 0, 0, 0, 0) := by decide +kernel
theorem r_106_0 : xrow 106 0 = some (.iload_n 2, 1, 0, 0, 0, 0) := by decide +kernel
theorem r_106_1 : xrow 106 1 = some (.aload_n 0, 1, 0, 0, 0, 0) := by decide +kernel
theorem r_106_2 : xrow 106 2 = some (.getfield 33, 3, 20, 4, 0, 829) := by decide +kernel
theorem r_106_5 : xrow 106 5 = some (.if_icmp .ne 5, 3, 10, 0, 0, 0) := by decide +kernel
theorem r_106_8 : xrow 106 8 = some (.lconst 0, 1, 0, 0, 0, 0) := by decide +kernel
theorem r_106_9 : xrow 106 9 = some (.lreturn, 1, 0, 0, 0, 0) := by decide +kernel
theorem r_106_10 : xrow 106 10 = some (.iload_n 3, 1, 0, 0, 0, 0) := by decide +kernel
theorem r_106_11 : xrow 106 11 = some (.bipush 40, 2, 0, 0, 0, 0) := by decide +kernel
theorem r_106_13 : xrow 106 13 = some (.if_icmp .le 7, 3, 20, 0, 0, 0) := by decide +kernel
theorem r_106_16 : xrow 106 16 = some (.ldc2_w 85, 3, 1, 0, 0, 844) := by decide +kernel
theorem r_106_19 : xrow 106 19 = some (.lreturn, 1, 0, 0, 0, 0) := by decide +kernel
theorem r_106_20 : xrow 106 20 = some (.aload_n 0, 1, 0, 0, 0, 0) := by decide +kernel
theorem r_106_21 : xrow 106 21 = some (.getfield 21, 3, 20, 0, 2, 826) := by decide +kernel
theorem r_106_24 : xrow 106 24 = some (.iload_n 1, 1, 0, 0, 0, 0) := by decide +kernel
theorem r_106_25 : xrow 106 25 = some (.iload_n 2, 1, 0, 0, 0, 0) := by decide +kernel
theorem r_106_26 : xrow 106 26 = some (.invokevirtual 96, 3, 64, 0, 0, 848) := by decide +kernel
theorem r_106_29 : xrow 106 29 = some (.istore 4, 2, 0, 0, 0, 0) := by decide +kernel
theorem r_106_31 : xrow 106 31 = some (.iload 4, 2, 0, 0, 0, 0) := by decide +kernel
theorem r_106_33 : xrow 106 33 = some (.iconst (-1), 1, 0, 0, 0, 0) := by decide +kernel
theorem r_106_34 : xrow 106 34 = some (.if_icmp .ne 28, 3, 62, 0, 0, 0) := by decide +kernel
theorem r_106_37 : xrow 106 37 = some (.aload_n 0, 1, 0, 0, 0, 0) := by decide +kernel
theorem r_106_38 : xrow 106 38 = some (.iload_n 1, 1, 0, 0, 0, 0) := by decide +kernel
theorem r_106_39 : xrow 106 39 = some (.iload_n 3, 1, 0, 0, 0, 0) := by decide +kernel
theorem r_106_40 : xrow 106 40 = some (.iconst 1, 1, 0, 0, 0, 0) := by decide +kernel
theorem r_106_41 : xrow 106 41 = some (.iadd, 1, 0, 0, 0, 0) := by decide +kernel
theorem r_106_42 : xrow 106 42 = some (.invokevirtual 99, 3, 107, 0, 0, 849) := by decide +kernel
theorem r_106_45 : xrow 106 45 = some (.aload_n 0, 1, 0, 0, 0, 0) := by decide +kernel
theorem r_106_46 : xrow 106 46 = some (.getfield 40, 3, 20, 6, 2, 831) := by decide +kernel
theorem r_106_49 : xrow 106 49 = some (.iload_n 1, 1, 0, 0, 0, 0) := by decide +kernel
theorem r_106_50 : xrow 106 50 = some (.aload_n 0, 1, 0, 0, 0, 0) := by decide +kernel
theorem r_106_51 : xrow 106 51 = some (.getfield 21, 3, 20, 0, 2, 826) := by decide +kernel
theorem r_106_54 : xrow 106 54 = some (.getfield 52, 3, 15, 2, 0, 834) := by decide +kernel
theorem r_106_57 : xrow 106 57 = some (.imul, 1, 0, 0, 0, 0) := by decide +kernel
theorem r_106_58 : xrow 106 58 = some (.iload_n 2, 1, 0, 0, 0, 0) := by decide +kernel
theorem r_106_59 : xrow 106 59 = some (.iadd, 1, 0, 0, 0, 0) := by decide +kernel
theorem r_106_60 : xrow 106 60 = some (.laload, 1, 0, 0, 0, 0) := by decide +kernel
theorem r_106_61 : xrow 106 61 = some (.lreturn, 1, 0, 0, 0, 0) := by decide +kernel
theorem r_106_62 : xrow 106 62 = some (.lconst 0, 1, 0, 0, 0, 0) := by decide +kernel
theorem r_106_63 : xrow 106 63 = some (.lstore 5, 2, 0, 0, 0, 0) := by decide +kernel
theorem r_106_65 : xrow 106 65 = some (.iconst 0, 1, 0, 0, 0, 0) := by decide +kernel
theorem r_106_66 : xrow 106 66 = some (.istore 7, 2, 0, 0, 0, 0) := by decide +kernel
theorem r_106_68 : xrow 106 68 = some (.iload 7, 2, 0, 0, 0, 0) := by decide +kernel
theorem r_106_70 : xrow 106 70 = some (.aload_n 0, 1, 0, 0, 0, 0) := by decide +kernel
theorem r_106_71 : xrow 106 71 = some (.getfield 21, 3, 20, 0, 2, 826) := by decide +kernel
theorem r_106_74 : xrow 106 74 = some (.getfield 75, 3, 15, 13, 2, 841) := by decide +kernel
theorem r_106_77 : xrow 106 77 = some (.iload 4, 2, 0, 0, 0, 0) := by decide +kernel
theorem r_106_79 : xrow 106 79 = some (.iaload, 1, 0, 0, 0, 0) := by decide +kernel
theorem r_106_80 : xrow 106 80 = some (.if_icmp .ge 55, 3, 135, 0, 0, 0) := by decide +kernel
theorem r_106_83 : xrow 106 83 = some (.lload 5, 2, 0, 0, 0, 0) := by decide +kernel
theorem r_106_85 : xrow 106 85 = some (.ldc2_w 85, 3, 1, 0, 0, 844) := by decide +kernel
theorem r_106_88 : xrow 106 88 = some (.lcmp, 1, 0, 0, 0, 0) := by decide +kernel
theorem r_106_89 : xrow 106 89 = some (.ifCond .ge 46, 3, 135, 0, 0, 0) := by decide +kernel
theorem r_106_92 : xrow 106 92 = some (.aload_n 0, 1, 0, 0, 0, 0) := by decide +kernel
theorem r_106_93 : xrow 106 93 = some (.iload_n 1, 1, 0, 0, 0, 0) := by decide +kernel
theorem r_106_94 : xrow 106 94 = some (.aload_n 0, 1, 0, 0, 0, 0) := by decide +kernel
theorem r_106_95 : xrow 106 95 = some (.getfield 21, 3, 20, 0, 2, 826) := by decide +kernel
theorem r_106_98 : xrow 106 98 = some (.iload 4, 2, 0, 0, 0, 0) := by decide +kernel
theorem r_106_100 : xrow 106 100 = some (.iload 7, 2, 0, 0, 0, 0) := by decide +kernel
theorem r_106_102 : xrow 106 102 = some (.invokevirtual 78, 3, 58, 0, 0, 842) := by decide +kernel
theorem r_106_105 : xrow 106 105 = some (.ior, 1, 0, 0, 0, 0) := by decide +kernel
theorem r_106_106 : xrow 106 106 = some (.iload_n 2, 1, 0, 0, 0, 0) := by decide +kernel
theorem r_106_107 : xrow 106 107 = some (.iload_n 3, 1, 0, 0, 0, 0) := by decide +kernel
theorem r_106_108 : xrow 106 108 = some (.iconst 1, 1, 0, 0, 0, 0) := by decide +kernel
theorem r_106_109 : xrow 106 109 = some (.iadd, 1, 0, 0, 0, 0) := by decide +kernel
theorem r_106_110 : xrow 106 110 = some (.invokevirtual 71, 3, 106, 0, 0, 840) := by decide +kernel
theorem r_106_113 : xrow 106 113 = some (.lstore 8, 2, 0, 0, 0, 0) := by decide +kernel
theorem r_106_115 : xrow 106 115 = some (.aload_n 0, 1, 0, 0, 0, 0) := by decide +kernel
theorem r_106_116 : xrow 106 116 = some (.lload 5, 2, 0, 0, 0, 0) := by decide +kernel
theorem r_106_118 : xrow 106 118 = some (.lload 8, 2, 0, 0, 0, 0) := by decide +kernel
theorem r_106_120 : xrow 106 120 = some (.iload 4, 2, 0, 0, 0, 0) := by decide +kernel
theorem r_106_122 : xrow 106 122 = some (.iload 7, 2, 0, 0, 0, 0) := by decide +kernel
theorem r_106_124 : xrow 106 124 = some (.invokevirtual 81, 3, 105, 0, 0, 843) := by decide +kernel
theorem r_106_127 : xrow 106 127 = some (.lstore 5, 2, 0, 0, 0, 0) := by decide +kernel
theorem r_106_129 : xrow 106 129 = some (.iinc 7 1, 3, 0, 0, 0, 0) := by decide +kernel
theorem r_106_132 : xrow 106 132 = some (.goto (-64), 3, 68, 0, 0, 0) := by decide +kernel
theorem r_106_135 : xrow 106 135 = some (.lload 5, 2, 0, 0, 0, 0) := by decide +kernel
theorem r_106_137 : xrow 106 137 = some (.lreturn, 1, 0, 0, 0, 0) := by decide +kernel
theorem r_107_0 : xrow 107 0 = some (.aload_n 0, 1, 0, 0, 0, 0) := by decide +kernel
theorem r_107_1 : xrow 107 1 = some (.getfield 11, 3, 20, 7, 2, 823) := by decide +kernel
theorem r_107_4 : xrow 107 4 = some (.iload_n 1, 1, 0, 0, 0, 0) := by decide +kernel
theorem r_107_5 : xrow 107 5 = some (.iaload, 1, 0, 0, 0, 0) := by decide +kernel
theorem r_107_6 : xrow 107 6 = some (.aload_n 0, 1, 0, 0, 0, 0) := by decide +kernel
theorem r_107_7 : xrow 107 7 = some (.getfield 68, 3, 20, 8, 0, 839) := by decide +kernel
theorem r_107_10 : xrow 107 10 = some (.if_icmp .ne 4, 3, 14, 0, 0, 0) := by decide +kernel
theorem r_107_13 : xrow 107 13 = some (.return_, 1, 0, 0, 0, 0) := by decide +kernel
theorem r_107_14 : xrow 107 14 = some (.iload_n 1, 1, 0, 0, 0, 0) := by decide +kernel
theorem r_107_15 : xrow 107 15 = some (.aload_n 0, 1, 0, 0, 0, 0) := by decide +kernel
theorem r_107_16 : xrow 107 16 = some (.getfield 21, 3, 20, 0, 2, 826) := by decide +kernel
theorem r_107_19 : xrow 107 19 = some (.getfield 52, 3, 15, 2, 0, 834) := by decide +kernel
theorem r_107_22 : xrow 107 22 = some (.imul, 1, 0, 0, 0, 0) := by decide +kernel
theorem r_107_23 : xrow 107 23 = some (.istore_n 3, 1, 0, 0, 0, 0) := by decide +kernel
theorem r_107_24 : xrow 107 24 = some (.aload_n 0, 1, 0, 0, 0, 0) := by decide +kernel
theorem r_107_25 : xrow 107 25 = some (.getfield 21, 3, 20, 0, 2, 826) := by decide +kernel
theorem r_107_28 : xrow 107 28 = some (.iload_n 1, 1, 0, 0, 0, 0) := by decide +kernel
theorem r_107_29 : xrow 107 29 = some (.invokevirtual 103, 3, 62, 0, 0, 850) := by decide +kernel
theorem r_107_32 : xrow 107 32 = some (.istore 4, 2, 0, 0, 0, 0) := by decide +kernel
theorem r_107_34 : xrow 107 34 = some (.iconst 0, 1, 0, 0, 0, 0) := by decide +kernel
theorem r_107_35 : xrow 107 35 = some (.istore 5, 2, 0, 0, 0, 0) := by decide +kernel
theorem r_107_37 : xrow 107 37 = some (.iload 5, 2, 0, 0, 0, 0) := by decide +kernel
theorem r_107_39 : xrow 107 39 = some (.aload_n 0, 1, 0, 0, 0, 0) := by decide +kernel
theorem r_107_40 : xrow 107 40 = some (.getfield 21, 3, 20, 0, 2, 826) := by decide +kernel
theorem r_107_43 : xrow 107 43 = some (.getfield 52, 3, 15, 2, 0, 834) := by decide +kernel
theorem r_107_46 : xrow 107 46 = some (.if_icmp .ge 71, 3, 117, 0, 0, 0) := by decide +kernel
theorem r_107_49 : xrow 107 49 = some (.iload 5, 2, 0, 0, 0, 0) := by decide +kernel
theorem r_107_51 : xrow 107 51 = some (.aload_n 0, 1, 0, 0, 0, 0) := by decide +kernel
theorem r_107_52 : xrow 107 52 = some (.getfield 33, 3, 20, 4, 0, 829) := by decide +kernel
theorem r_107_55 : xrow 107 55 = some (.if_icmp .eq 19, 3, 74, 0, 0, 0) := by decide +kernel
theorem r_107_58 : xrow 107 58 = some (.aload_n 0, 1, 0, 0, 0, 0) := by decide +kernel
theorem r_107_59 : xrow 107 59 = some (.getfield 21, 3, 20, 0, 2, 826) := by decide +kernel
theorem r_107_62 : xrow 107 62 = some (.getfield 107, 3, 15, 8, 2, 851) := by decide +kernel
theorem r_107_65 : xrow 107 65 = some (.iload 5, 2, 0, 0, 0, 0) := by decide +kernel
theorem r_107_67 : xrow 107 67 = some (.iaload, 1, 0, 0, 0, 0) := by decide +kernel
theorem r_107_68 : xrow 107 68 = some (.iload 4, 2, 0, 0, 0, 0) := by decide +kernel
theorem r_107_70 : xrow 107 70 = some (.iand, 1, 0, 0, 0, 0) := by decide +kernel
theorem r_107_71 : xrow 107 71 = some (.ifCond .eq 7, 3, 78, 0, 0, 0) := by decide +kernel
theorem r_107_74 : xrow 107 74 = some (.iconst 1, 1, 0, 0, 0, 0) := by decide +kernel
theorem r_107_75 : xrow 107 75 = some (.goto 4, 3, 79, 0, 0, 0) := by decide +kernel
theorem r_107_78 : xrow 107 78 = some (.iconst 0, 1, 0, 0, 0, 0) := by decide +kernel
theorem r_107_79 : xrow 107 79 = some (.istore 6, 2, 0, 0, 0, 0) := by decide +kernel
theorem r_107_81 : xrow 107 81 = some (.aload_n 0, 1, 0, 0, 0, 0) := by decide +kernel
theorem r_107_82 : xrow 107 82 = some (.getfield 40, 3, 20, 6, 2, 831) := by decide +kernel
theorem r_107_85 : xrow 107 85 = some (.iload_n 3, 1, 0, 0, 0, 0) := by decide +kernel
theorem r_107_86 : xrow 107 86 = some (.iload 5, 2, 0, 0, 0, 0) := by decide +kernel
theorem r_107_88 : xrow 107 88 = some (.iadd, 1, 0, 0, 0, 0) := by decide +kernel
theorem r_107_89 : xrow 107 89 = some (.iload 6, 2, 0, 0, 0, 0) := by decide +kernel
theorem r_107_91 : xrow 107 91 = some (.ifCond .eq 16, 3, 107, 0, 0, 0) := by decide +kernel
theorem r_107_94 : xrow 107 94 = some (.aload_n 0, 1, 0, 0, 0, 0) := by decide +kernel
theorem r_107_95 : xrow 107 95 = some (.iload_n 1, 1, 0, 0, 0, 0) := by decide +kernel
theorem r_107_96 : xrow 107 96 = some (.iload 5, 2, 0, 0, 0, 0) := by decide +kernel
theorem r_107_98 : xrow 107 98 = some (.iload_n 2, 1, 0, 0, 0, 0) := by decide +kernel
theorem r_107_99 : xrow 107 99 = some (.iconst 1, 1, 0, 0, 0, 0) := by decide +kernel
theorem r_107_100 : xrow 107 100 = some (.iadd, 1, 0, 0, 0, 0) := by decide +kernel
theorem r_107_101 : xrow 107 101 = some (.invokevirtual 71, 3, 106, 0, 0, 840) := by decide +kernel
theorem r_107_104 : xrow 107 104 = some (.goto 6, 3, 110, 0, 0, 0) := by decide +kernel
theorem r_107_107 : xrow 107 107 = some (.ldc2_w 85, 3, 1, 0, 0, 844) := by decide +kernel
theorem r_107_110 : xrow 107 110 = some (.lastore, 1, 0, 0, 0, 0) := by decide +kernel
theorem r_107_111 : xrow 107 111 = some (.iinc 5 1, 3, 0, 0, 0, 0) := by decide +kernel
theorem r_107_114 : xrow 107 114 = some (.goto (-77), 3, 37, 0, 0, 0) := by decide +kernel
theorem r_107_117 : xrow 107 117 = some (.aload_n 0, 1, 0, 0, 0, 0) := by decide +kernel
theorem r_107_118 : xrow 107 118 = some (.iload_n 3, 1, 0, 0, 0, 0) := by decide +kernel
theorem r_107_119 : xrow 107 119 = some (.putfield 110, 3, 20, 12, 0, 852) := by decide +kernel
theorem r_107_122 : xrow 107 122 = some (.aload_n 0, 1, 0, 0, 0, 0) := by decide +kernel
theorem r_107_123 : xrow 107 123 = some (.iconst 0, 1, 0, 0, 0, 0) := by decide +kernel
theorem r_107_124 : xrow 107 124 = some (.putfield 113, 3, 20, 11, 0, 853) := by decide +kernel
theorem r_107_127 : xrow 107 127 = some (.iconst 0, 1, 0, 0, 0, 0) := by decide +kernel
theorem r_107_128 : xrow 107 128 = some (.istore 5, 2, 0, 0, 0, 0) := by decide +kernel
theorem r_107_130 : xrow 107 130 = some (.iload 5, 2, 0, 0, 0, 0) := by decide +kernel
theorem r_107_132 : xrow 107 132 = some (.aload_n 0, 1, 0, 0, 0, 0) := by decide +kernel
theorem r_107_133 : xrow 107 133 = some (.getfield 21, 3, 20, 0, 2, 826) := by decide +kernel
theorem r_107_136 : xrow 107 136 = some (.getfield 52, 3, 15, 2, 0, 834) := by decide +kernel
theorem r_107_139 : xrow 107 139 = some (.if_icmp .ge 39, 3, 178, 0, 0, 0) := by decide +kernel
theorem r_107_142 : xrow 107 142 = some (.aload_n 0, 1, 0, 0, 0, 0) := by decide +kernel
theorem r_107_143 : xrow 107 143 = some (.getfield 18, 3, 20, 10, 2, 825) := by decide +kernel
theorem r_107_146 : xrow 107 146 = some (.iload 5, 2, 0, 0, 0, 0) := by decide +kernel
theorem r_107_148 : xrow 107 148 = some (.iconst (-1), 1, 0, 0, 0, 0) := by decide +kernel
theorem r_107_149 : xrow 107 149 = some (.iastore, 1, 0, 0, 0, 0) := by decide +kernel
theorem r_107_150 : xrow 107 150 = some (.aload_n 0, 1, 0, 0, 0, 0) := by decide +kernel
theorem r_107_151 : xrow 107 151 = some (.getfield 40, 3, 20, 6, 2, 831) := by decide +kernel
theorem r_107_154 : xrow 107 154 = some (.iload_n 3, 1, 0, 0, 0, 0) := by decide +kernel
theorem r_107_155 : xrow 107 155 = some (.iload 5, 2, 0, 0, 0, 0) := by decide +kernel
theorem r_107_157 : xrow 107 157 = some (.iadd, 1, 0, 0, 0, 0) := by decide +kernel
theorem r_107_158 : xrow 107 158 = some (.laload, 1, 0, 0, 0, 0) := by decide +kernel
theorem r_107_159 : xrow 107 159 = some (.ldc2_w 85, 3, 1, 0, 0, 844) := by decide +kernel
theorem r_107_162 : xrow 107 162 = some (.lcmp, 1, 0, 0, 0, 0) := by decide +kernel
theorem r_107_163 : xrow 107 163 = some (.ifCond .ge 9, 3, 172, 0, 0, 0) := by decide +kernel
theorem r_107_166 : xrow 107 166 = some (.aload_n 0, 1, 0, 0, 0, 0) := by decide +kernel
theorem r_107_167 : xrow 107 167 = some (.iload 5, 2, 0, 0, 0, 0) := by decide +kernel
theorem r_107_169 : xrow 107 169 = some (.invokevirtual 116, 3, 110, 0, 0, 854) := by decide +kernel
theorem r_107_172 : xrow 107 172 = some (.iinc 5 1, 3, 0, 0, 0, 0) := by decide +kernel
theorem r_107_175 : xrow 107 175 = some (.goto (-45), 3, 130, 0, 0, 0) := by decide +kernel
theorem r_107_178 : xrow 107 178 = some (.aload_n 0, 1, 0, 0, 0, 0) := by decide +kernel
theorem r_107_179 : xrow 107 179 = some (.iload_n 1, 1, 0, 0, 0, 0) := by decide +kernel
theorem r_107_180 : xrow 107 180 = some (.iload 4, 2, 0, 0, 0, 0) := by decide +kernel
theorem r_107_182 : xrow 107 182 = some (.invokevirtual 120, 3, 108, 0, 0, 855) := by decide +kernel
theorem r_107_185 : xrow 107 185 = some (.aload_n 0, 1, 0, 0, 0, 0) := by decide +kernel
theorem r_107_186 : xrow 107 186 = some (.getfield 11, 3, 20, 7, 2, 823) := by decide +kernel
theorem r_107_189 : xrow 107 189 = some (.iload_n 1, 1, 0, 0, 0, 0) := by decide +kernel
theorem r_107_190 : xrow 107 190 = some (.aload_n 0, 1, 0, 0, 0, 0) := by decide +kernel
theorem r_107_191 : xrow 107 191 = some (.getfield 68, 3, 20, 8, 0, 839) := by decide +kernel
theorem r_107_194 : xrow 107 194 = some (.iastore, 1, 0, 0, 0, 0) := by decide +kernel
theorem r_107_195 : xrow 107 195 = some (.return_, 1, 0, 0, 0, 0) := by decide +kernel
theorem r_108_0 : xrow 108 0 = some (.aload_n 0, 1, 0, 0, 0, 0) := by decide +kernel
theorem r_108_1 : xrow 108 1 = some (.getfield 29, 3, 20, 2, 0, 828) := by decide +kernel
theorem r_108_4 : xrow 108 4 = some (.ifCond .eq 14, 3, 18, 0, 0, 0) := by decide +kernel
theorem r_108_7 : xrow 108 7 = some (.aload_n 0, 1, 0, 0, 0, 0) := by decide +kernel
theorem r_108_8 : xrow 108 8 = some (.getfield 21, 3, 20, 0, 2, 826) := by decide +kernel
theorem r_108_11 : xrow 108 11 = some (.iload_n 1, 1, 0, 0, 0, 0) := by decide +kernel
theorem r_108_12 : xrow 108 12 = some (.invokevirtual 123, 3, 63, 0, 0, 856) := by decide +kernel
theorem r_108_15 : xrow 108 15 = some (.goto 4, 3, 19, 0, 0, 0) := by decide +kernel
theorem r_108_18 : xrow 108 18 = some (.lconst 1, 1, 0, 0, 0, 0) := by decide +kernel
theorem r_108_19 : xrow 108 19 = some (.lstore_n 3, 1, 0, 0, 0, 0) := by decide +kernel
theorem r_108_20 : xrow 108 20 = some (.iconst 0, 1, 0, 0, 0, 0) := by decide +kernel
theorem r_108_21 : xrow 108 21 = some (.istore 5, 2, 0, 0, 0, 0) := by decide +kernel
theorem r_108_23 : xrow 108 23 = some (.iload 5, 2, 0, 0, 0, 0) := by decide +kernel
theorem r_108_25 : xrow 108 25 = some (.aload_n 0, 1, 0, 0, 0, 0) := by decide +kernel
theorem r_108_26 : xrow 108 26 = some (.getfield 21, 3, 20, 0, 2, 826) := by decide +kernel
theorem r_108_29 : xrow 108 29 = some (.getfield 52, 3, 15, 2, 0, 834) := by decide +kernel
theorem r_108_32 : xrow 108 32 = some (.if_icmp .ge 133, 3, 165, 0, 0, 0) := by decide +kernel
theorem r_108_35 : xrow 108 35 = some (.aload_n 0, 1, 0, 0, 0, 0) := by decide +kernel
theorem r_108_36 : xrow 108 36 = some (.getfield 113, 3, 20, 11, 0, 853) := by decide +kernel
theorem r_108_39 : xrow 108 39 = some (.ifCond .le 126, 3, 165, 0, 0, 0) := by decide +kernel
theorem r_108_42 : xrow 108 42 = some (.aload_n 0, 1, 0, 0, 0, 0) := by decide +kernel
theorem r_108_43 : xrow 108 43 = some (.invokevirtual 127, 3, 112, 0, 0, 857) := by decide +kernel
theorem r_108_46 : xrow 108 46 = some (.istore 6, 2, 0, 0, 0, 0) := by decide +kernel
theorem r_108_48 : xrow 108 48 = some (.iconst 0, 1, 0, 0, 0, 0) := by decide +kernel
theorem r_108_49 : xrow 108 49 = some (.istore 7, 2, 0, 0, 0, 0) := by decide +kernel
theorem r_108_51 : xrow 108 51 = some (.iload 7, 2, 0, 0, 0, 0) := by decide +kernel
theorem r_108_53 : xrow 108 53 = some (.iconst 4, 1, 0, 0, 0, 0) := by decide +kernel
theorem r_108_54 : xrow 108 54 = some (.if_icmp .ge 105, 3, 159, 0, 0, 0) := by decide +kernel
theorem r_108_57 : xrow 108 57 = some (.aload_n 0, 1, 0, 0, 0, 0) := by decide +kernel
theorem r_108_58 : xrow 108 58 = some (.getfield 21, 3, 20, 0, 2, 826) := by decide +kernel
theorem r_108_61 : xrow 108 61 = some (.getfield 131, 3, 15, 9, 2, 858) := by decide +kernel
theorem r_108_64 : xrow 108 64 = some (.iload 6, 2, 0, 0, 0, 0) := by decide +kernel
theorem r_108_66 : xrow 108 66 = some (.iconst 4, 1, 0, 0, 0, 0) := by decide +kernel
theorem r_108_67 : xrow 108 67 = some (.imul, 1, 0, 0, 0, 0) := by decide +kernel
theorem r_108_68 : xrow 108 68 = some (.iload 7, 2, 0, 0, 0, 0) := by decide +kernel
theorem r_108_70 : xrow 108 70 = some (.iadd, 1, 0, 0, 0, 0) := by decide +kernel
theorem r_108_71 : xrow 108 71 = some (.iaload, 1, 0, 0, 0, 0) := by decide +kernel
theorem r_108_72 : xrow 108 72 = some (.istore 8, 2, 0, 0, 0, 0) := by decide +kernel
theorem r_108_74 : xrow 108 74 = some (.iload 8, 2, 0, 0, 0, 0) := by decide +kernel
theorem r_108_76 : xrow 108 76 = some (.ifCond .lt 77, 3, 153, 0, 0, 0) := by decide +kernel
theorem r_108_79 : xrow 108 79 = some (.iload 8, 2, 0, 0, 0, 0) := by decide +kernel
theorem r_108_81 : xrow 108 81 = some (.aload_n 0, 1, 0, 0, 0, 0) := by decide +kernel
theorem r_108_82 : xrow 108 82 = some (.getfield 33, 3, 20, 4, 0, 829) := by decide +kernel
theorem r_108_85 : xrow 108 85 = some (.if_icmp .eq 68, 3, 153, 0, 0, 0) := by decide +kernel
theorem r_108_88 : xrow 108 88 = some (.aload_n 0, 1, 0, 0, 0, 0) := by decide +kernel
theorem r_108_89 : xrow 108 89 = some (.getfield 21, 3, 20, 0, 2, 826) := by decide +kernel
theorem r_108_92 : xrow 108 92 = some (.getfield 107, 3, 15, 8, 2, 851) := by decide +kernel
theorem r_108_95 : xrow 108 95 = some (.iload 8, 2, 0, 0, 0, 0) := by decide +kernel
theorem r_108_97 : xrow 108 97 = some (.iaload, 1, 0, 0, 0, 0) := by decide +kernel
theorem r_108_98 : xrow 108 98 = some (.iload_n 2, 1, 0, 0, 0, 0) := by decide +kernel
theorem r_108_99 : xrow 108 99 = some (.iand, 1, 0, 0, 0, 0) := by decide +kernel
theorem r_108_100 : xrow 108 100 = some (.ifCond .ne 53, 3, 153, 0, 0, 0) := by decide +kernel
theorem r_108_103 : xrow 108 103 = some (.aload_n 0, 1, 0, 0, 0, 0) := by decide +kernel
theorem r_108_104 : xrow 108 104 = some (.getfield 25, 3, 20, 1, 2, 827) := by decide +kernel
theorem r_108_107 : xrow 108 107 = some (.iload 8, 2, 0, 0, 0, 0) := by decide +kernel
theorem r_108_109 : xrow 108 109 = some (.iload 7, 2, 0, 0, 0, 0) := by decide +kernel
theorem r_108_111 : xrow 108 111 = some (.iconst 1, 1, 0, 0, 0, 0) := by decide +kernel
theorem r_108_112 : xrow 108 112 = some (.ixor, 1, 0, 0, 0, 0) := by decide +kernel
theorem r_108_113 : xrow 108 113 = some (.iload_n 1, 1, 0, 0, 0, 0) := by decide +kernel
theorem r_108_114 : xrow 108 114 = some (.invokevirtual 134, 3, 86, 0, 0, 859) := by decide +kernel
theorem r_108_117 : xrow 108 117 = some (.istore 9, 2, 0, 0, 0, 0) := by decide +kernel
theorem r_108_119 : xrow 108 119 = some (.aload_n 0, 1, 0, 0, 0, 0) := by decide +kernel
theorem r_108_120 : xrow 108 120 = some (.iload 8, 2, 0, 0, 0, 0) := by decide +kernel
theorem r_108_122 : xrow 108 122 = some (.aload_n 0, 1, 0, 0, 0, 0) := by decide +kernel
theorem r_108_123 : xrow 108 123 = some (.getfield 40, 3, 20, 6, 2, 831) := by decide +kernel
theorem r_108_126 : xrow 108 126 = some (.aload_n 0, 1, 0, 0, 0, 0) := by decide +kernel
theorem r_108_127 : xrow 108 127 = some (.getfield 110, 3, 20, 12, 0, 852) := by decide +kernel
theorem r_108_130 : xrow 108 130 = some (.iload 6, 2, 0, 0, 0, 0) := by decide +kernel
theorem r_108_132 : xrow 108 132 = some (.iadd, 1, 0, 0, 0, 0) := by decide +kernel
theorem r_108_133 : xrow 108 133 = some (.laload, 1, 0, 0, 0, 0) := by decide +kernel
theorem r_108_134 : xrow 108 134 = some (.lload_n 3, 1, 0, 0, 0, 0) := by decide +kernel
theorem r_108_135 : xrow 108 135 = some (.iload 9, 2, 0, 0, 0, 0) := by decide +kernel
theorem r_108_137 : xrow 108 137 = some (.i2l, 1, 0, 0, 0, 0) := by decide +kernel
theorem r_108_138 : xrow 108 138 = some (.lmul, 1, 0, 0, 0, 0) := by decide +kernel
theorem r_108_139 : xrow 108 139 = some (.ladd, 1, 0, 0, 0, 0) := by decide +kernel
theorem r_108_140 : xrow 108 140 = some (.iload 9, 2, 0, 0, 0, 0) := by decide +kernel
theorem r_108_142 : xrow 108 142 = some (.ifCond .le 7, 3, 149, 0, 0, 0) := by decide +kernel
theorem r_108_145 : xrow 108 145 = some (.iconst 1, 1, 0, 0, 0, 0) := by decide +kernel
theorem r_108_146 : xrow 108 146 = some (.goto 4, 3, 150, 0, 0, 0) := by decide +kernel
theorem r_108_149 : xrow 108 149 = some (.iconst 0, 1, 0, 0, 0, 0) := by decide +kernel
theorem r_108_150 : xrow 108 150 = some (.invokevirtual 138, 3, 109, 0, 0, 860) := by decide +kernel
theorem r_108_153 : xrow 108 153 = some (.iinc 7 1, 3, 0, 0, 0, 0) := by decide +kernel
theorem r_108_156 : xrow 108 156 = some (.goto (-105), 3, 51, 0, 0, 0) := by decide +kernel
theorem r_108_159 : xrow 108 159 = some (.iinc 5 1, 3, 0, 0, 0, 0) := by decide +kernel
theorem r_108_162 : xrow 108 162 = some (.goto (-139), 3, 23, 0, 0, 0) := by decide +kernel
theorem r_108_165 : xrow 108 165 = some (.return_, 1, 0, 0, 0, 0) := by decide +kernel
theorem r_109_0 : xrow 109 0 = some (.iload 4, 2, 0, 0, 0, 0) := by decide +kernel
theorem r_109_2 : xrow 109 2 = some (.ifCond .eq 36, 3, 38, 0, 0, 0) := by decide +kernel
theorem r_109_5 : xrow 109 5 = some (.lload_n 2, 1, 0, 0, 0, 0) := by decide +kernel
theorem r_109_6 : xrow 109 6 = some (.aload_n 0, 1, 0, 0, 0, 0) := by decide +kernel
theorem r_109_7 : xrow 109 7 = some (.getfield 40, 3, 20, 6, 2, 831) := by decide +kernel
theorem r_109_10 : xrow 109 10 = some (.aload_n 0, 1, 0, 0, 0, 0) := by decide +kernel
theorem r_109_11 : xrow 109 11 = some (.getfield 110, 3, 20, 12, 0, 852) := by decide +kernel
theorem r_109_14 : xrow 109 14 = some (.iload_n 1, 1, 0, 0, 0, 0) := by decide +kernel
theorem r_109_15 : xrow 109 15 = some (.iadd, 1, 0, 0, 0, 0) := by decide +kernel
theorem r_109_16 : xrow 109 16 = some (.laload, 1, 0, 0, 0, 0) := by decide +kernel
theorem r_109_17 : xrow 109 17 = some (.lcmp, 1, 0, 0, 0, 0) := by decide +kernel
theorem r_109_18 : xrow 109 18 = some (.ifCond .ge 20, 3, 38, 0, 0, 0) := by decide +kernel
theorem r_109_21 : xrow 109 21 = some (.aload_n 0, 1, 0, 0, 0, 0) := by decide +kernel
theorem r_109_22 : xrow 109 22 = some (.getfield 40, 3, 20, 6, 2, 831) := by decide +kernel
theorem r_109_25 : xrow 109 25 = some (.aload_n 0, 1, 0, 0, 0, 0) := by decide +kernel
theorem r_109_26 : xrow 109 26 = some (.getfield 110, 3, 20, 12, 0, 852) := by decide +kernel
theorem r_109_29 : xrow 109 29 = some (.iload_n 1, 1, 0, 0, 0, 0) := by decide +kernel
theorem r_109_30 : xrow 109 30 = some (.iadd, 1, 0, 0, 0, 0) := by decide +kernel
theorem r_109_31 : xrow 109 31 = some (.lload_n 2, 1, 0, 0, 0, 0) := by decide +kernel
theorem r_109_32 : xrow 109 32 = some (.lastore, 1, 0, 0, 0, 0) := by decide +kernel
theorem r_109_33 : xrow 109 33 = some (.aload_n 0, 1, 0, 0, 0, 0) := by decide +kernel
theorem r_109_34 : xrow 109 34 = some (.iload_n 1, 1, 0, 0, 0, 0) := by decide +kernel
theorem r_109_35 : xrow 109 35 = some (.invokevirtual 116, 3, 110, 0, 0, 854) := by decide +kernel
theorem r_109_38 : xrow 109 38 = some (.return_, 1, 0, 0, 0, 0) := by decide +kernel
theorem r_110_0 : xrow 110 0 = some (.aload_n 0, 1, 0, 0, 0, 0) := by decide +kernel
theorem r_110_1 : xrow 110 1 = some (.getfield 18, 3, 20, 10, 2, 825) := by decide +kernel
theorem r_110_4 : xrow 110 4 = some (.iload_n 1, 1, 0, 0, 0, 0) := by decide +kernel
theorem r_110_5 : xrow 110 5 = some (.iaload, 1, 0, 0, 0, 0) := by decide +kernel
theorem r_110_6 : xrow 110 6 = some (.istore_n 2, 1, 0, 0, 0, 0) := by decide +kernel
theorem r_110_7 : xrow 110 7 = some (.iload_n 2, 1, 0, 0, 0, 0) := by decide +kernel
theorem r_110_8 : xrow 110 8 = some (.ifCond .ge 18, 3, 26, 0, 0, 0) := by decide +kernel
theorem r_110_11 : xrow 110 11 = some (.aload_n 0, 1, 0, 0, 0, 0) := by decide +kernel
theorem r_110_12 : xrow 110 12 = some (.getfield 113, 3, 20, 11, 0, 853) := by decide +kernel
theorem r_110_15 : xrow 110 15 = some (.istore_n 2, 1, 0, 0, 0, 0) := by decide +kernel
theorem r_110_16 : xrow 110 16 = some (.aload_n 0, 1, 0, 0, 0, 0) := by decide +kernel
theorem r_110_17 : xrow 110 17 = some (.dup, 1, 0, 0, 0, 0) := by decide +kernel
theorem r_110_18 : xrow 110 18 = some (.getfield 113, 3, 20, 11, 0, 853) := by decide +kernel
theorem r_110_21 : xrow 110 21 = some (.iconst 1, 1, 0, 0, 0, 0) := by decide +kernel
theorem r_110_22 : xrow 110 22 = some (.iadd, 1, 0, 0, 0, 0) := by decide +kernel
theorem r_110_23 : xrow 110 23 = some (.putfield 113, 3, 20, 11, 0, 853) := by decide +kernel
theorem r_110_26 : xrow 110 26 = some (.aload_n 0, 1, 0, 0, 0, 0) := by decide +kernel
theorem r_110_27 : xrow 110 27 = some (.getfield 40, 3, 20, 6, 2, 831) := by decide +kernel
theorem r_110_30 : xrow 110 30 = some (.aload_n 0, 1, 0, 0, 0, 0) := by decide +kernel
theorem r_110_31 : xrow 110 31 = some (.getfield 110, 3, 20, 12, 0, 852) := by decide +kernel
theorem r_110_34 : xrow 110 34 = some (.iload_n 1, 1, 0, 0, 0, 0) := by decide +kernel
theorem r_110_35 : xrow 110 35 = some (.iadd, 1, 0, 0, 0, 0) := by decide +kernel
theorem r_110_36 : xrow 110 36 = some (.laload, 1, 0, 0, 0, 0) := by decide +kernel
theorem r_110_37 : xrow 110 37 = some (.lstore_n 3, 1, 0, 0, 0, 0) := by decide +kernel
theorem r_110_38 : xrow 110 38 = some (.iconst 0, 1, 0, 0, 0, 0) := by decide +kernel
theorem r_110_39 : xrow 110 39 = some (.istore 5, 2, 0, 0, 0, 0) := by decide +kernel
theorem r_110_41 : xrow 110 41 = some (.iload 5, 2, 0, 0, 0, 0) := by decide +kernel
theorem r_110_43 : xrow 110 43 = some (.bipush 100, 2, 0, 0, 0, 0) := by decide +kernel
theorem r_110_45 : xrow 110 45 = some (.if_icmp .ge 60, 3, 105, 0, 0, 0) := by decide +kernel
theorem r_110_48 : xrow 110 48 = some (.iload_n 2, 1, 0, 0, 0, 0) := by decide +kernel
theorem r_110_49 : xrow 110 49 = some (.ifCond .le 56, 3, 105, 0, 0, 0) := by decide +kernel
theorem r_110_52 : xrow 110 52 = some (.iload_n 2, 1, 0, 0, 0, 0) := by decide +kernel
theorem r_110_53 : xrow 110 53 = some (.iconst 1, 1, 0, 0, 0, 0) := by decide +kernel
theorem r_110_54 : xrow 110 54 = some (.isub, 1, 0, 0, 0, 0) := by decide +kernel
theorem r_110_55 : xrow 110 55 = some (.iconst 2, 1, 0, 0, 0, 0) := by decide +kernel
theorem r_110_56 : xrow 110 56 = some (.idiv, 1, 0, 0, 0, 0) := by decide +kernel
theorem r_110_57 : xrow 110 57 = some (.istore 6, 2, 0, 0, 0, 0) := by decide +kernel
theorem r_110_59 : xrow 110 59 = some (.aload_n 0, 1, 0, 0, 0, 0) := by decide +kernel
theorem r_110_60 : xrow 110 60 = some (.getfield 40, 3, 20, 6, 2, 831) := by decide +kernel
theorem r_110_63 : xrow 110 63 = some (.aload_n 0, 1, 0, 0, 0, 0) := by decide +kernel
theorem r_110_64 : xrow 110 64 = some (.getfield 110, 3, 20, 12, 0, 852) := by decide +kernel
theorem r_110_67 : xrow 110 67 = some (.aload_n 0, 1, 0, 0, 0, 0) := by decide +kernel
theorem r_110_68 : xrow 110 68 = some (.getfield 15, 3, 20, 9, 2, 824) := by decide +kernel
theorem r_110_71 : xrow 110 71 = some (.iload 6, 2, 0, 0, 0, 0) := by decide +kernel
theorem r_110_73 : xrow 110 73 = some (.iaload, 1, 0, 0, 0, 0) := by decide +kernel
theorem r_110_74 : xrow 110 74 = some (.iadd, 1, 0, 0, 0, 0) := by decide +kernel
theorem r_110_75 : xrow 110 75 = some (.laload, 1, 0, 0, 0, 0) := by decide +kernel
theorem r_110_76 : xrow 110 76 = some (.lload_n 3, 1, 0, 0, 0, 0) := by decide +kernel
theorem r_110_77 : xrow 110 77 = some (.lcmp, 1, 0, 0, 0, 0) := by decide +kernel
theorem r_110_78 : xrow 110 78 = some (.ifCond .gt 6, 3, 84, 0, 0, 0) := by decide +kernel
theorem r_110_81 : xrow 110 81 = some (.goto 24, 3, 105, 0, 0, 0) := by decide +kernel
theorem r_110_84 : xrow 110 84 = some (.aload_n 0, 1, 0, 0, 0, 0) := by decide +kernel
theorem r_110_85 : xrow 110 85 = some (.iload_n 2, 1, 0, 0, 0, 0) := by decide +kernel
theorem r_110_86 : xrow 110 86 = some (.aload_n 0, 1, 0, 0, 0, 0) := by decide +kernel
theorem r_110_87 : xrow 110 87 = some (.getfield 15, 3, 20, 9, 2, 824) := by decide +kernel
theorem r_110_90 : xrow 110 90 = some (.iload 6, 2, 0, 0, 0, 0) := by decide +kernel
theorem r_110_92 : xrow 110 92 = some (.iaload, 1, 0, 0, 0, 0) := by decide +kernel
theorem r_110_93 : xrow 110 93 = some (.invokevirtual 142, 3, 111, 0, 0, 861) := by decide +kernel
theorem r_110_96 : xrow 110 96 = some (.iload 6, 2, 0, 0, 0, 0) := by decide +kernel
theorem r_110_98 : xrow 110 98 = some (.istore_n 2, 1, 0, 0, 0, 0) := by decide +kernel
theorem r_110_99 : xrow 110 99 = some (.iinc 5 1, 3, 0, 0, 0, 0) := by decide +kernel
theorem r_110_102 : xrow 110 102 = some (.goto (-61), 3, 41, 0, 0, 0) := by decide +kernel
theorem r_110_105 : xrow 110 105 = some (.aload_n 0, 1, 0, 0, 0, 0) := by decide +kernel
theorem r_110_106 : xrow 110 106 = some (.iload_n 2, 1, 0, 0, 0, 0) := by decide +kernel
theorem r_110_107 : xrow 110 107 = some (.iload_n 1, 1, 0, 0, 0, 0) := by decide +kernel
theorem r_110_108 : xrow 110 108 = some (.invokevirtual 142, 3, 111, 0, 0, 861) := by decide +kernel
theorem r_110_111 : xrow 110 111 = some (.return_, 1, 0, 0, 0, 0) := by decide +kernel
theorem r_111_0 : xrow 111 0 = some (.aload_n 0, 1, 0, 0, 0, 0) := by decide +kernel
theorem r_111_1 : xrow 111 1 = some (.getfield 15, 3, 20, 9, 2, 824) := by decide +kernel
theorem r_111_4 : xrow 111 4 = some (.iload_n 1, 1, 0, 0, 0, 0) := by decide +kernel
theorem r_111_5 : xrow 111 5 = some (.iload_n 2, 1, 0, 0, 0, 0) := by decide +kernel
theorem r_111_6 : xrow 111 6 = some (.iastore, 1, 0, 0, 0, 0) := by decide +kernel
theorem r_111_7 : xrow 111 7 = some (.aload_n 0, 1, 0, 0, 0, 0) := by decide +kernel
theorem r_111_8 : xrow 111 8 = some (.getfield 18, 3, 20, 10, 2, 825) := by decide +kernel
theorem r_111_11 : xrow 111 11 = some (.iload_n 2, 1, 0, 0, 0, 0) := by decide +kernel
theorem r_111_12 : xrow 111 12 = some (.iload_n 1, 1, 0, 0, 0, 0) := by decide +kernel
theorem r_111_13 : xrow 111 13 = some (.iastore, 1, 0, 0, 0, 0) := by decide +kernel
theorem r_111_14 : xrow 111 14 = some (.return_, 1, 0, 0, 0, 0) := by decide +kernel
theorem r_112_0 : xrow 112 0 = some (.aload_n 0, 1, 0, 0, 0, 0) := by decide +kernel
theorem r_112_1 : xrow 112 1 = some (.getfield 15, 3, 20, 9, 2, 824) := by decide +kernel
theorem r_112_4 : xrow 112 4 = some (.iconst 0, 1, 0, 0, 0, 0) := by decide +kernel
theorem r_112_5 : xrow 112 5 = some (.iaload, 1, 0, 0, 0, 0) := by decide +kernel
theorem r_112_6 : xrow 112 6 = some (.istore_n 1, 1, 0, 0, 0, 0) := by decide +kernel
theorem r_112_7 : xrow 112 7 = some (.aload_n 0, 1, 0, 0, 0, 0) := by decide +kernel
theorem r_112_8 : xrow 112 8 = some (.dup, 1, 0, 0, 0, 0) := by decide +kernel
theorem r_112_9 : xrow 112 9 = some (.getfield 113, 3, 20, 11, 0, 853) := by decide +kernel
theorem r_112_12 : xrow 112 12 = some (.iconst 1, 1, 0, 0, 0, 0) := by decide +kernel
theorem r_112_13 : xrow 112 13 = some (.isub, 1, 0, 0, 0, 0) := by decide +kernel
theorem r_112_14 : xrow 112 14 = some (.putfield 113, 3, 20, 11, 0, 853) := by decide +kernel
theorem r_112_17 : xrow 112 17 = some (.aload_n 0, 1, 0, 0, 0, 0) := by decide +kernel
theorem r_112_18 : xrow 112 18 = some (.getfield 15, 3, 20, 9, 2, 824) := by decide +kernel
theorem r_112_21 : xrow 112 21 = some (.aload_n 0, 1, 0, 0, 0, 0) := by decide +kernel
theorem r_112_22 : xrow 112 22 = some (.getfield 113, 3, 20, 11, 0, 853) := by decide +kernel
theorem r_112_25 : xrow 112 25 = some (.iaload, 1, 0, 0, 0, 0) := by decide +kernel
theorem r_112_26 : xrow 112 26 = some (.istore_n 2, 1, 0, 0, 0, 0) := by decide +kernel
theorem r_112_27 : xrow 112 27 = some (.aload_n 0, 1, 0, 0, 0, 0) := by decide +kernel
theorem r_112_28 : xrow 112 28 = some (.getfield 40, 3, 20, 6, 2, 831) := by decide +kernel
theorem r_112_31 : xrow 112 31 = some (.aload_n 0, 1, 0, 0, 0, 0) := by decide +kernel
theorem r_112_32 : xrow 112 32 = some (.getfield 110, 3, 20, 12, 0, 852) := by decide +kernel
theorem r_112_35 : xrow 112 35 = some (.iload_n 2, 1, 0, 0, 0, 0) := by decide +kernel
theorem r_112_36 : xrow 112 36 = some (.iadd, 1, 0, 0, 0, 0) := by decide +kernel
theorem r_112_37 : xrow 112 37 = some (.laload, 1, 0, 0, 0, 0) := by decide +kernel
theorem r_112_38 : xrow 112 38 = some (.lstore_n 3, 1, 0, 0, 0, 0) := by decide +kernel
theorem r_112_39 : xrow 112 39 = some (.iconst 0, 1, 0, 0, 0, 0) := by decide +kernel
theorem r_112_40 : xrow 112 40 = some (.istore 5, 2, 0, 0, 0, 0) := by decide +kernel
theorem r_112_42 : xrow 112 42 = some (.iconst 0, 1, 0, 0, 0, 0) := by decide +kernel
theorem r_112_43 : xrow 112 43 = some (.istore 6, 2, 0, 0, 0, 0) := by decide +kernel
theorem r_112_45 : xrow 112 45 = some (.iload 6, 2, 0, 0, 0, 0) := by decide +kernel
theorem r_112_47 : xrow 112 47 = some (.bipush 100, 2, 0, 0, 0, 0) := by decide +kernel
theorem r_112_49 : xrow 112 49 = some (.if_icmp .ge 125, 3, 174, 0, 0, 0) := by decide +kernel
theorem r_112_52 : xrow 112 52 = some (.iconst 2, 1, 0, 0, 0, 0) := by decide +kernel
theorem r_112_53 : xrow 112 53 = some (.iload 5, 2, 0, 0, 0, 0) := by decide +kernel
theorem r_112_55 : xrow 112 55 = some (.imul, 1, 0, 0, 0, 0) := by decide +kernel
theorem r_112_56 : xrow 112 56 = some (.iconst 1, 1, 0, 0, 0, 0) := by decide +kernel
theorem r_112_57 : xrow 112 57 = some (.iadd, 1, 0, 0, 0, 0) := by decide +kernel
theorem r_112_58 : xrow 112 58 = some (.istore 7, 2, 0, 0, 0, 0) := by decide +kernel
theorem r_112_60 : xrow 112 60 = some (.iload 7, 2, 0, 0, 0, 0) := by decide +kernel
theorem r_112_62 : xrow 112 62 = some (.aload_n 0, 1, 0, 0, 0, 0) := by decide +kernel
theorem r_112_63 : xrow 112 63 = some (.getfield 113, 3, 20, 11, 0, 853) := by decide +kernel
theorem r_112_66 : xrow 112 66 = some (.if_icmp .lt 6, 3, 72, 0, 0, 0) := by decide +kernel
theorem r_112_69 : xrow 112 69 = some (.goto 105, 3, 174, 0, 0, 0) := by decide +kernel
theorem r_112_72 : xrow 112 72 = some (.iload 7, 2, 0, 0, 0, 0) := by decide +kernel
theorem r_112_74 : xrow 112 74 = some (.iconst 1, 1, 0, 0, 0, 0) := by decide +kernel
theorem r_112_75 : xrow 112 75 = some (.iadd, 1, 0, 0, 0, 0) := by decide +kernel
theorem r_112_76 : xrow 112 76 = some (.aload_n 0, 1, 0, 0, 0, 0) := by decide +kernel
theorem r_112_77 : xrow 112 77 = some (.getfield 113, 3, 20, 11, 0, 853) := by decide +kernel
theorem r_112_80 : xrow 112 80 = some (.if_icmp .ge 46, 3, 126, 0, 0, 0) := by decide +kernel
theorem r_112_83 : xrow 112 83 = some (.aload_n 0, 1, 0, 0, 0, 0) := by decide +kernel
theorem r_112_84 : xrow 112 84 = some (.getfield 40, 3, 20, 6, 2, 831) := by decide +kernel
theorem r_112_87 : xrow 112 87 = some (.aload_n 0, 1, 0, 0, 0, 0) := by decide +kernel
theorem r_112_88 : xrow 112 88 = some (.getfield 110, 3, 20, 12, 0, 852) := by decide +kernel
theorem r_112_91 : xrow 112 91 = some (.aload_n 0, 1, 0, 0, 0, 0) := by decide +kernel
theorem r_112_92 : xrow 112 92 = some (.getfield 15, 3, 20, 9, 2, 824) := by decide +kernel
theorem r_112_95 : xrow 112 95 = some (.iload 7, 2, 0, 0, 0, 0) := by decide +kernel
theorem r_112_97 : xrow 112 97 = some (.iconst 1, 1, 0, 0, 0, 0) := by decide +kernel
theorem r_112_98 : xrow 112 98 = some (.iadd, 1, 0, 0, 0, 0) := by decide +kernel
theorem r_112_99 : xrow 112 99 = some (.iaload, 1, 0, 0, 0, 0) := by decide +kernel
theorem r_112_100 : xrow 112 100 = some (.iadd, 1, 0, 0, 0, 0) := by decide +kernel
theorem r_112_101 : xrow 112 101 = some (.laload, 1, 0, 0, 0, 0) := by decide +kernel
theorem r_112_102 : xrow 112 102 = some (.aload_n 0, 1, 0, 0, 0, 0) := by decide +kernel
theorem r_112_103 : xrow 112 103 = some (.getfield 40, 3, 20, 6, 2, 831) := by decide +kernel
theorem r_112_106 : xrow 112 106 = some (.aload_n 0, 1, 0, 0, 0, 0) := by decide +kernel
theorem r_112_107 : xrow 112 107 = some (.getfield 110, 3, 20, 12, 0, 852) := by decide +kernel
theorem r_112_110 : xrow 112 110 = some (.aload_n 0, 1, 0, 0, 0, 0) := by decide +kernel
theorem r_112_111 : xrow 112 111 = some (.getfield 15, 3, 20, 9, 2, 824) := by decide +kernel
theorem r_112_114 : xrow 112 114 = some (.iload 7, 2, 0, 0, 0, 0) := by decide +kernel
theorem r_112_116 : xrow 112 116 = some (.iaload, 1, 0, 0, 0, 0) := by decide +kernel
theorem r_112_117 : xrow 112 117 = some (.iadd, 1, 0, 0, 0, 0) := by decide +kernel
theorem r_112_118 : xrow 112 118 = some (.laload, 1, 0, 0, 0, 0) := by decide +kernel
theorem r_112_119 : xrow 112 119 = some (.lcmp, 1, 0, 0, 0, 0) := by decide +kernel
theorem r_112_120 : xrow 112 120 = some (.ifCond .ge 6, 3, 126, 0, 0, 0) := by decide +kernel
theorem r_112_123 : xrow 112 123 = some (.iinc 7 1, 3, 0, 0, 0, 0) := by decide +kernel
theorem r_112_126 : xrow 112 126 = some (.lload_n 3, 1, 0, 0, 0, 0) := by decide +kernel
theorem r_112_127 : xrow 112 127 = some (.aload_n 0, 1, 0, 0, 0, 0) := by decide +kernel
theorem r_112_128 : xrow 112 128 = some (.getfield 40, 3, 20, 6, 2, 831) := by decide +kernel
theorem r_112_131 : xrow 112 131 = some (.aload_n 0, 1, 0, 0, 0, 0) := by decide +kernel
theorem r_112_132 : xrow 112 132 = some (.getfield 110, 3, 20, 12, 0, 852) := by decide +kernel
theorem r_112_135 : xrow 112 135 = some (.aload_n 0, 1, 0, 0, 0, 0) := by decide +kernel
theorem r_112_136 : xrow 112 136 = some (.getfield 15, 3, 20, 9, 2, 824) := by decide +kernel
theorem r_112_139 : xrow 112 139 = some (.iload 7, 2, 0, 0, 0, 0) := by decide +kernel
theorem r_112_141 : xrow 112 141 = some (.iaload, 1, 0, 0, 0, 0) := by decide +kernel
theorem r_112_142 : xrow 112 142 = some (.iadd, 1, 0, 0, 0, 0) := by decide +kernel
theorem r_112_143 : xrow 112 143 = some (.laload, 1, 0, 0, 0, 0) := by decide +kernel
theorem r_112_144 : xrow 112 144 = some (.lcmp, 1, 0, 0, 0, 0) := by decide +kernel
theorem r_112_145 : xrow 112 145 = some (.ifCond .gt 6, 3, 151, 0, 0, 0) := by decide +kernel
theorem r_112_148 : xrow 112 148 = some (.goto 26, 3, 174, 0, 0, 0) := by decide +kernel
theorem r_112_151 : xrow 112 151 = some (.aload_n 0, 1, 0, 0, 0, 0) := by decide +kernel
theorem r_112_152 : xrow 112 152 = some (.iload 5, 2, 0, 0, 0, 0) := by decide +kernel
theorem r_112_154 : xrow 112 154 = some (.aload_n 0, 1, 0, 0, 0, 0) := by decide +kernel
theorem r_112_155 : xrow 112 155 = some (.getfield 15, 3, 20, 9, 2, 824) := by decide +kernel
theorem r_112_158 : xrow 112 158 = some (.iload 7, 2, 0, 0, 0, 0) := by decide +kernel
theorem r_112_160 : xrow 112 160 = some (.iaload, 1, 0, 0, 0, 0) := by decide +kernel
theorem r_112_161 : xrow 112 161 = some (.invokevirtual 142, 3, 111, 0, 0, 861) := by decide +kernel
theorem r_112_164 : xrow 112 164 = some (.iload 7, 2, 0, 0, 0, 0) := by decide +kernel
theorem r_112_166 : xrow 112 166 = some (.istore 5, 2, 0, 0, 0, 0) := by decide +kernel
theorem r_112_168 : xrow 112 168 = some (.iinc 6 1, 3, 0, 0, 0, 0) := by decide +kernel
theorem r_112_171 : xrow 112 171 = some (.goto (-126), 3, 45, 0, 0, 0) := by decide +kernel
theorem r_112_174 : xrow 112 174 = some (.aload_n 0, 1, 0, 0, 0, 0) := by decide +kernel
theorem r_112_175 : xrow 112 175 = some (.iload 5, 2, 0, 0, 0, 0) := by decide +kernel
theorem r_112_177 : xrow 112 177 = some (.iload_n 2, 1, 0, 0, 0, 0) := by decide +kernel
theorem r_112_178 : xrow 112 178 = some (.invokevirtual 142, 3, 111, 0, 0, 861) := by decide +kernel
theorem r_112_181 : xrow 112 181 = some (.iload_n 1, 1, 0, 0, 0, 0) := by decide +kernel
theorem r_112_182 : xrow 112 182 = some (.ireturn, 1, 0, 0, 0, 0) := by decide +kernel
theorem r_113_0 : xrow 113 0 = some (.aload_n 0, 1, 0, 0, 0, 0) := by decide +kernel
theorem r_113_1 : xrow 113 1 = some (.iload_n 1, 1, 0, 0, 0, 0) := by decide +kernel
theorem r_113_2 : xrow 113 2 = some (.iconst 0, 1, 0, 0, 0, 0) := by decide +kernel
theorem r_113_3 : xrow 113 3 = some (.invokevirtual 99, 3, 107, 0, 0, 849) := by decide +kernel
theorem r_113_6 : xrow 113 6 = some (.aload_n 0, 1, 0, 0, 0, 0) := by decide +kernel
theorem r_113_7 : xrow 113 7 = some (.getfield 29, 3, 20, 2, 0, 828) := by decide +kernel
theorem r_113_10 : xrow 113 10 = some (.ifCond .eq 14, 3, 24, 0, 0, 0) := by decide +kernel
theorem r_113_13 : xrow 113 13 = some (.aload_n 0, 1, 0, 0, 0, 0) := by decide +kernel
theorem r_113_14 : xrow 113 14 = some (.getfield 21, 3, 20, 0, 2, 826) := by decide +kernel
theorem r_113_17 : xrow 113 17 = some (.iload_n 1, 1, 0, 0, 0, 0) := by decide +kernel
theorem r_113_18 : xrow 113 18 = some (.invokevirtual 123, 3, 63, 0, 0, 856) := by decide +kernel
theorem r_113_21 : xrow 113 21 = some (.goto 4, 3, 25, 0, 0, 0) := by decide +kernel
theorem r_113_24 : xrow 113 24 = some (.lconst 1, 1, 0, 0, 0, 0) := by decide +kernel
theorem r_113_25 : xrow 113 25 = some (.lstore_n 3, 1, 0, 0, 0, 0) := by decide +kernel
theorem r_113_26 : xrow 113 26 = some (.ldc2_w 85, 3, 1, 0, 0, 844) := by decide +kernel
theorem r_113_29 : xrow 113 29 = some (.lstore 5, 2, 0, 0, 0, 0) := by decide +kernel
theorem r_113_31 : xrow 113 31 = some (.iconst (-1), 1, 0, 0, 0, 0) := by decide +kernel
theorem r_113_32 : xrow 113 32 = some (.istore 7, 2, 0, 0, 0, 0) := by decide +kernel
theorem r_113_34 : xrow 113 34 = some (.iconst 0, 1, 0, 0, 0, 0) := by decide +kernel
theorem r_113_35 : xrow 113 35 = some (.istore 8, 2, 0, 0, 0, 0) := by decide +kernel
theorem r_113_37 : xrow 113 37 = some (.iload 8, 2, 0, 0, 0, 0) := by decide +kernel
theorem r_113_39 : xrow 113 39 = some (.iconst 4, 1, 0, 0, 0, 0) := by decide +kernel
theorem r_113_40 : xrow 113 40 = some (.if_icmp .ge 89, 3, 129, 0, 0, 0) := by decide +kernel
theorem r_113_43 : xrow 113 43 = some (.aload_n 0, 1, 0, 0, 0, 0) := by decide +kernel
theorem r_113_44 : xrow 113 44 = some (.getfield 25, 3, 20, 1, 2, 827) := by decide +kernel
theorem r_113_47 : xrow 113 47 = some (.iload_n 2, 1, 0, 0, 0, 0) := by decide +kernel
theorem r_113_48 : xrow 113 48 = some (.iload 8, 2, 0, 0, 0, 0) := by decide +kernel
theorem r_113_50 : xrow 113 50 = some (.iload_n 1, 1, 0, 0, 0, 0) := by decide +kernel
theorem r_113_51 : xrow 113 51 = some (.invokevirtual 134, 3, 86, 0, 0, 859) := by decide +kernel
theorem r_113_54 : xrow 113 54 = some (.istore 9, 2, 0, 0, 0, 0) := by decide +kernel
theorem r_113_56 : xrow 113 56 = some (.aload_n 0, 1, 0, 0, 0, 0) := by decide +kernel
theorem r_113_57 : xrow 113 57 = some (.getfield 21, 3, 20, 0, 2, 826) := by decide +kernel
theorem r_113_60 : xrow 113 60 = some (.getfield 131, 3, 15, 9, 2, 858) := by decide +kernel
theorem r_113_63 : xrow 113 63 = some (.iload_n 2, 1, 0, 0, 0, 0) := by decide +kernel
theorem r_113_64 : xrow 113 64 = some (.iconst 4, 1, 0, 0, 0, 0) := by decide +kernel
theorem r_113_65 : xrow 113 65 = some (.imul, 1, 0, 0, 0, 0) := by decide +kernel
theorem r_113_66 : xrow 113 66 = some (.iload 8, 2, 0, 0, 0, 0) := by decide +kernel
theorem r_113_68 : xrow 113 68 = some (.iadd, 1, 0, 0, 0, 0) := by decide +kernel
theorem r_113_69 : xrow 113 69 = some (.iaload, 1, 0, 0, 0, 0) := by decide +kernel
theorem r_113_70 : xrow 113 70 = some (.istore 10, 2, 0, 0, 0, 0) := by decide +kernel
theorem r_113_72 : xrow 113 72 = some (.iload 9, 2, 0, 0, 0, 0) := by decide +kernel
theorem r_113_74 : xrow 113 74 = some (.ifCond .le 49, 3, 123, 0, 0, 0) := by decide +kernel
theorem r_113_77 : xrow 113 77 = some (.iload 10, 2, 0, 0, 0, 0) := by decide +kernel
theorem r_113_79 : xrow 113 79 = some (.ifCond .lt 44, 3, 123, 0, 0, 0) := by decide +kernel
theorem r_113_82 : xrow 113 82 = some (.aload_n 0, 1, 0, 0, 0, 0) := by decide +kernel
theorem r_113_83 : xrow 113 83 = some (.getfield 40, 3, 20, 6, 2, 831) := by decide +kernel
theorem r_113_86 : xrow 113 86 = some (.iload_n 1, 1, 0, 0, 0, 0) := by decide +kernel
theorem r_113_87 : xrow 113 87 = some (.aload_n 0, 1, 0, 0, 0, 0) := by decide +kernel
theorem r_113_88 : xrow 113 88 = some (.getfield 21, 3, 20, 0, 2, 826) := by decide +kernel
theorem r_113_91 : xrow 113 91 = some (.getfield 52, 3, 15, 2, 0, 834) := by decide +kernel
theorem r_113_94 : xrow 113 94 = some (.imul, 1, 0, 0, 0, 0) := by decide +kernel
theorem r_113_95 : xrow 113 95 = some (.iload 10, 2, 0, 0, 0, 0) := by decide +kernel
theorem r_113_97 : xrow 113 97 = some (.iadd, 1, 0, 0, 0, 0) := by decide +kernel
theorem r_113_98 : xrow 113 98 = some (.laload, 1, 0, 0, 0, 0) := by decide +kernel
theorem r_113_99 : xrow 113 99 = some (.lload_n 3, 1, 0, 0, 0, 0) := by decide +kernel
theorem r_113_100 : xrow 113 100 = some (.iload 9, 2, 0, 0, 0, 0) := by decide +kernel
theorem r_113_102 : xrow 113 102 = some (.i2l, 1, 0, 0, 0, 0) := by decide +kernel
theorem r_113_103 : xrow 113 103 = some (.lmul, 1, 0, 0, 0, 0) := by decide +kernel
theorem r_113_104 : xrow 113 104 = some (.ladd, 1, 0, 0, 0, 0) := by decide +kernel
theorem r_113_105 : xrow 113 105 = some (.lstore 11, 2, 0, 0, 0, 0) := by decide +kernel
theorem r_113_107 : xrow 113 107 = some (.lload 11, 2, 0, 0, 0, 0) := by decide +kernel
theorem r_113_109 : xrow 113 109 = some (.lload 5, 2, 0, 0, 0, 0) := by decide +kernel
theorem r_113_111 : xrow 113 111 = some (.lcmp, 1, 0, 0, 0, 0) := by decide +kernel
theorem r_113_112 : xrow 113 112 = some (.ifCond .ge 11, 3, 123, 0, 0, 0) := by decide +kernel
theorem r_113_115 : xrow 113 115 = some (.lload 11, 2, 0, 0, 0, 0) := by decide +kernel
theorem r_113_117 : xrow 113 117 = some (.lstore 5, 2, 0, 0, 0, 0) := by decide +kernel
theorem r_113_119 : xrow 113 119 = some (.iload 8, 2, 0, 0, 0, 0) := by decide +kernel
theorem r_113_121 : xrow 113 121 = some (.istore 7, 2, 0, 0, 0, 0) := by decide +kernel
theorem r_113_123 : xrow 113 123 = some (.iinc 8 1, 3, 0, 0, 0, 0) := by decide +kernel
theorem r_113_126 : xrow 113 126 = some (.goto (-89), 3, 37, 0, 0, 0) := by decide +kernel
theorem r_113_129 : xrow 113 129 = some (.iload 7, 2, 0, 0, 0, 0) := by decide +kernel
theorem r_113_131 : xrow 113 131 = some (.ireturn, 1, 0, 0, 0, 0) := by decide +kernel
theorem r_114_0 : xrow 114 0 = some (.iload_n 1, 1, 0, 0, 0, 0) := by decide +kernel
theorem r_114_1 : xrow 114 1 = some (.istore 5, 2, 0, 0, 0, 0) := by decide +kernel
theorem r_114_3 : xrow 114 3 = some (.iload_n 2, 1, 0, 0, 0, 0) := by decide +kernel
theorem r_114_4 : xrow 114 4 = some (.iload_n 3, 1, 0, 0, 0, 0) := by decide +kernel
theorem r_114_5 : xrow 114 5 = some (.aload_n 0, 1, 0, 0, 0, 0) := by decide +kernel
theorem r_114_6 : xrow 114 6 = some (.getfield 21, 3, 20, 0, 2, 826) := by decide +kernel
theorem r_114_9 : xrow 114 9 = some (.getfield 107, 3, 15, 8, 2, 851) := by decide +kernel
theorem r_114_12 : xrow 114 12 = some (.iload 5, 2, 0, 0, 0, 0) := by decide +kernel
theorem r_114_14 : xrow 114 14 = some (.iaload, 1, 0, 0, 0, 0) := by decide +kernel
theorem r_114_15 : xrow 114 15 = some (.iand, 1, 0, 0, 0, 0) := by decide +kernel
theorem r_114_16 : xrow 114 16 = some (.ior, 1, 0, 0, 0, 0) := by decide +kernel
theorem r_114_17 : xrow 114 17 = some (.istore 6, 2, 0, 0, 0, 0) := by decide +kernel
theorem r_114_19 : xrow 114 19 = some (.iconst 0, 1, 0, 0, 0, 0) := by decide +kernel
theorem r_114_20 : xrow 114 20 = some (.istore 7, 2, 0, 0, 0, 0) := by decide +kernel
theorem r_114_22 : xrow 114 22 = some (.aload_n 0, 1, 0, 0, 0, 0) := by decide +kernel
theorem r_114_23 : xrow 114 23 = some (.iconst 0, 1, 0, 0, 0, 0) := by decide +kernel
theorem r_114_24 : xrow 114 24 = some (.putfield 145, 3, 20, 3, 0, 862) := by decide +kernel
theorem r_114_27 : xrow 114 27 = some (.iconst 0, 1, 0, 0, 0, 0) := by decide +kernel
theorem r_114_28 : xrow 114 28 = some (.istore 8, 2, 0, 0, 0, 0) := by decide +kernel
theorem r_114_30 : xrow 114 30 = some (.iload 8, 2, 0, 0, 0, 0) := by decide +kernel
theorem r_114_32 : xrow 114 32 = some (.sipush 601, 3, 0, 0, 0, 0) := by decide +kernel
theorem r_114_35 : xrow 114 35 = some (.if_icmp .ge 116, 3, 151, 0, 0, 0) := by decide +kernel
theorem r_114_38 : xrow 114 38 = some (.iload 8, 2, 0, 0, 0, 0) := by decide +kernel
theorem r_114_40 : xrow 114 40 = some (.aload 4, 2, 0, 0, 0, 0) := by decide +kernel
theorem r_114_42 : xrow 114 42 = some (.arraylength, 1, 0, 0, 0, 0) := by decide +kernel
theorem r_114_43 : xrow 114 43 = some (.if_icmp .ge 18, 3, 61, 0, 0, 0) := by decide +kernel
theorem r_114_46 : xrow 114 46 = some (.aload 4, 2, 0, 0, 0, 0) := by decide +kernel
theorem r_114_48 : xrow 114 48 = some (.iload 8, 2, 0, 0, 0, 0) := by decide +kernel
theorem r_114_50 : xrow 114 50 = some (.iload 5, 2, 0, 0, 0, 0) := by decide +kernel
theorem r_114_52 : xrow 114 52 = some (.iastore, 1, 0, 0, 0, 0) := by decide +kernel
theorem r_114_53 : xrow 114 53 = some (.aload_n 0, 1, 0, 0, 0, 0) := by decide +kernel
theorem r_114_54 : xrow 114 54 = some (.iload 8, 2, 0, 0, 0, 0) := by decide +kernel
theorem r_114_56 : xrow 114 56 = some (.iconst 1, 1, 0, 0, 0, 0) := by decide +kernel
theorem r_114_57 : xrow 114 57 = some (.iadd, 1, 0, 0, 0, 0) := by decide +kernel
theorem r_114_58 : xrow 114 58 = some (.putfield 145, 3, 20, 3, 0, 862) := by decide +kernel
theorem r_114_61 : xrow 114 61 = some (.iload 5, 2, 0, 0, 0, 0) := by decide +kernel
theorem r_114_63 : xrow 114 63 = some (.aload_n 0, 1, 0, 0, 0, 0) := by decide +kernel
theorem r_114_64 : xrow 114 64 = some (.getfield 33, 3, 20, 4, 0, 829) := by decide +kernel
theorem r_114_67 : xrow 114 67 = some (.if_icmp .ne 7, 3, 74, 0, 0, 0) := by decide +kernel
theorem r_114_70 : xrow 114 70 = some (.iconst (-1), 1, 0, 0, 0, 0) := by decide +kernel
theorem r_114_71 : xrow 114 71 = some (.goto 11, 3, 82, 0, 0, 0) := by decide +kernel
theorem r_114_74 : xrow 114 74 = some (.aload_n 0, 1, 0, 0, 0, 0) := by decide +kernel
theorem r_114_75 : xrow 114 75 = some (.iload 6, 2, 0, 0, 0, 0) := by decide +kernel
theorem r_114_77 : xrow 114 77 = some (.iload 5, 2, 0, 0, 0, 0) := by decide +kernel
theorem r_114_79 : xrow 114 79 = some (.invokevirtual 148, 3, 113, 0, 0, 863) := by decide +kernel
theorem r_114_82 : xrow 114 82 = some (.istore 9, 2, 0, 0, 0, 0) := by decide +kernel
theorem r_114_84 : xrow 114 84 = some (.iload 9, 2, 0, 0, 0, 0) := by decide +kernel
theorem r_114_86 : xrow 114 86 = some (.iconst (-1), 1, 0, 0, 0, 0) := by decide +kernel
theorem r_114_87 : xrow 114 87 = some (.if_icmp .ne 6, 3, 93, 0, 0, 0) := by decide +kernel
theorem r_114_90 : xrow 114 90 = some (.goto 61, 3, 151, 0, 0, 0) := by decide +kernel
theorem r_114_93 : xrow 114 93 = some (.iload 7, 2, 0, 0, 0, 0) := by decide +kernel
theorem r_114_95 : xrow 114 95 = some (.aload_n 0, 1, 0, 0, 0, 0) := by decide +kernel
theorem r_114_96 : xrow 114 96 = some (.getfield 25, 3, 20, 1, 2, 827) := by decide +kernel
theorem r_114_99 : xrow 114 99 = some (.iload 5, 2, 0, 0, 0, 0) := by decide +kernel
theorem r_114_101 : xrow 114 101 = some (.iload 9, 2, 0, 0, 0, 0) := by decide +kernel
theorem r_114_103 : xrow 114 103 = some (.iload 6, 2, 0, 0, 0, 0) := by decide +kernel
theorem r_114_105 : xrow 114 105 = some (.invokevirtual 134, 3, 86, 0, 0, 859) := by decide +kernel
theorem r_114_108 : xrow 114 108 = some (.iadd, 1, 0, 0, 0, 0) := by decide +kernel
theorem r_114_109 : xrow 114 109 = some (.istore 7, 2, 0, 0, 0, 0) := by decide +kernel
theorem r_114_111 : xrow 114 111 = some (.aload_n 0, 1, 0, 0, 0, 0) := by decide +kernel
theorem r_114_112 : xrow 114 112 = some (.getfield 21, 3, 20, 0, 2, 826) := by decide +kernel
theorem r_114_115 : xrow 114 115 = some (.getfield 131, 3, 15, 9, 2, 858) := by decide +kernel
theorem r_114_118 : xrow 114 118 = some (.iload 5, 2, 0, 0, 0, 0) := by decide +kernel
theorem r_114_120 : xrow 114 120 = some (.iconst 4, 1, 0, 0, 0, 0) := by decide +kernel
theorem r_114_121 : xrow 114 121 = some (.imul, 1, 0, 0, 0, 0) := by decide +kernel
theorem r_114_122 : xrow 114 122 = some (.iload 9, 2, 0, 0, 0, 0) := by decide +kernel
theorem r_114_124 : xrow 114 124 = some (.iadd, 1, 0, 0, 0, 0) := by decide +kernel
theorem r_114_125 : xrow 114 125 = some (.iaload, 1, 0, 0, 0, 0) := by decide +kernel
theorem r_114_126 : xrow 114 126 = some (.istore 5, 2, 0, 0, 0, 0) := by decide +kernel
theorem r_114_128 : xrow 114 128 = some (.iload 6, 2, 0, 0, 0, 0) := by decide +kernel
theorem r_114_130 : xrow 114 130 = some (.iload_n 3, 1, 0, 0, 0, 0) := by decide +kernel
theorem r_114_131 : xrow 114 131 = some (.aload_n 0, 1, 0, 0, 0, 0) := by decide +kernel
theorem r_114_132 : xrow 114 132 = some (.getfield 21, 3, 20, 0, 2, 826) := by decide +kernel
theorem r_114_135 : xrow 114 135 = some (.getfield 107, 3, 15, 8, 2, 851) := by decide +kernel
theorem r_114_138 : xrow 114 138 = some (.iload 5, 2, 0, 0, 0, 0) := by decide +kernel
theorem r_114_140 : xrow 114 140 = some (.iaload, 1, 0, 0, 0, 0) := by decide +kernel
theorem r_114_141 : xrow 114 141 = some (.iand, 1, 0, 0, 0, 0) := by decide +kernel
theorem r_114_142 : xrow 114 142 = some (.ior, 1, 0, 0, 0, 0) := by decide +kernel
theorem r_114_143 : xrow 114 143 = some (.istore 6, 2, 0, 0, 0, 0) := by decide +kernel
theorem r_114_145 : xrow 114 145 = some (.iinc 8 1, 3, 0, 0, 0, 0) := by decide +kernel
theorem r_114_148 : xrow 114 148 = some (.goto (-118), 3, 30, 0, 0, 0) := by decide +kernel
theorem r_114_151 : xrow 114 151 = some (.iload 7, 2, 0, 0, 0, 0) := by decide +kernel
theorem r_114_153 : xrow 114 153 = some (.ireturn, 1, 0, 0, 0, 0) := by decide +kernel
theorem r_115_0 : xrow 115 0 = some (.aload_n 0, 1, 0, 0, 0, 0) := by decide +kernel
theorem r_115_1 : xrow 115 1 = some (.invokespecial 3, 3, 0, 1, 0, 864) := by decide +kernel
theorem r_115_4 : xrow 115 4 = some (.aload_n 0, 1, 0, 0, 0, 0) := by decide +kernel
theorem r_115_5 : xrow 115 5 = some (.sipush 500, 3, 0, 0, 0, 0) := by decide +kernel
theorem r_115_8 : xrow 115 8 = some (.newarray .byte, 2, 0, 0, 0, 0) := by decide +kernel
theorem r_115_10 : xrow 115 10 = some (.putfield 9, 3, 21, 0, 2, 865) := by decide +kernel
theorem r_115_13 : xrow 115 13 = some (.aload_n 0, 1, 0, 0, 0, 0) := by decide +kernel
theorem r_115_14 : xrow 115 14 = some (.iconst 0, 1, 0, 0, 0, 0) := by decide +kernel
theorem r_115_15 : xrow 115 15 = some (.putfield 13, 3, 21, 1, 0, 866) := by decide +kernel
theorem r_115_18 : xrow 115 18 = some (.aload_n 0, 1, 0, 0, 0, 0) := by decide +kernel
theorem r_115_19 : xrow 115 19 = some (.new 17, 3, 19, 9, 19, 867) := by decide +kernel
theorem r_115_22 : xrow 115 22 = some (.dup, 1, 0, 0, 0, 0) := by decide +kernel
theorem r_115_23 : xrow 115 23 = some (.aload_n 0, 1, 0, 0, 0, 0) := by decide +kernel
theorem r_115_24 : xrow 115 24 = some (.getfield 9, 3, 21, 0, 2, 865) := by decide +kernel
theorem r_115_27 : xrow 115 27 = some (.invokespecial 19, 3, 87, 0, 0, 868) := by decide +kernel
theorem r_115_30 : xrow 115 30 = some (.putfield 22, 3, 21, 2, 2, 869) := by decide +kernel
theorem r_115_33 : xrow 115 33 = some (.aload_n 0, 1, 0, 0, 0, 0) := by decide +kernel
theorem r_115_34 : xrow 115 34 = some (.new 26, 3, 11, 1, 3, 870) := by decide +kernel
theorem r_115_37 : xrow 115 37 = some (.dup, 1, 0, 0, 0, 0) := by decide +kernel
theorem r_115_38 : xrow 115 38 = some (.aload_n 0, 1, 0, 0, 0, 0) := by decide +kernel
theorem r_115_39 : xrow 115 39 = some (.getfield 22, 3, 21, 2, 2, 869) := by decide +kernel
theorem r_115_42 : xrow 115 42 = some (.invokespecial 28, 3, 7, 0, 0, 871) := by decide +kernel
theorem r_115_45 : xrow 115 45 = some (.putfield 31, 3, 21, 3, 2, 872) := by decide +kernel
theorem r_115_48 : xrow 115 48 = some (.aload_n 0, 1, 0, 0, 0, 0) := by decide +kernel
theorem r_115_49 : xrow 115 49 = some (.new 35, 3, 17, 4, 15, 873) := by decide +kernel
theorem r_115_52 : xrow 115 52 = some (.dup, 1, 0, 0, 0, 0) := by decide +kernel
theorem r_115_53 : xrow 115 53 = some (.aload_n 0, 1, 0, 0, 0, 0) := by decide +kernel
theorem r_115_54 : xrow 115 54 = some (.getfield 22, 3, 21, 2, 2, 869) := by decide +kernel
theorem r_115_57 : xrow 115 57 = some (.invokespecial 37, 3, 69, 0, 0, 874) := by decide +kernel
theorem r_115_60 : xrow 115 60 = some (.putfield 38, 3, 21, 4, 2, 875) := by decide +kernel
theorem r_115_63 : xrow 115 63 = some (.aload_n 0, 1, 0, 0, 0, 0) := by decide +kernel
theorem r_115_64 : xrow 115 64 = some (.new 42, 3, 10, 15, 1, 876) := by decide +kernel
theorem r_115_67 : xrow 115 67 = some (.dup, 1, 0, 0, 0, 0) := by decide +kernel
theorem r_115_68 : xrow 115 68 = some (.invokespecial 44, 3, 0, 0, 1, 0) := by decide +kernel
theorem r_115_71 : xrow 115 71 = some (.putfield 45, 3, 21, 5, 2, 877) := by decide +kernel
theorem r_115_74 : xrow 115 74 = some (.aload_n 0, 1, 0, 0, 0, 0) := by decide +kernel
theorem r_115_75 : xrow 115 75 = some (.new 42, 3, 10, 15, 1, 876) := by decide +kernel
theorem r_115_78 : xrow 115 78 = some (.dup, 1, 0, 0, 0, 0) := by decide +kernel
theorem r_115_79 : xrow 115 79 = some (.invokespecial 44, 3, 0, 0, 1, 0) := by decide +kernel
theorem r_115_82 : xrow 115 82 = some (.putfield 49, 3, 21, 6, 2, 878) := by decide +kernel
theorem r_115_85 : xrow 115 85 = some (.aload_n 0, 1, 0, 0, 0, 0) := by decide +kernel
theorem r_115_86 : xrow 115 86 = some (.bipush 9, 2, 0, 0, 0, 0) := by decide +kernel
theorem r_115_88 : xrow 115 88 = some (.anewarray 52, 3, 0, 0, 0, 879) := by decide +kernel
theorem r_115_91 : xrow 115 91 = some (.putfield 54, 3, 21, 7, 2, 880) := by decide +kernel
theorem r_115_94 : xrow 115 94 = some (.iconst 0, 1, 0, 0, 0, 0) := by decide +kernel
theorem r_115_95 : xrow 115 95 = some (.istore_n 1, 1, 0, 0, 0, 0) := by decide +kernel
theorem r_115_96 : xrow 115 96 = some (.iload_n 1, 1, 0, 0, 0, 0) := by decide +kernel
theorem r_115_97 : xrow 115 97 = some (.bipush 8, 2, 0, 0, 0, 0) := by decide +kernel
theorem r_115_99 : xrow 115 99 = some (.if_icmp .gt 22, 3, 121, 0, 0, 0) := by decide +kernel
theorem r_115_102 : xrow 115 102 = some (.aload_n 0, 1, 0, 0, 0, 0) := by decide +kernel
theorem r_115_103 : xrow 115 103 = some (.getfield 54, 3, 21, 7, 2, 880) := by decide +kernel
theorem r_115_106 : xrow 115 106 = some (.iload_n 1, 1, 0, 0, 0, 0) := by decide +kernel
theorem r_115_107 : xrow 115 107 = some (.new 52, 3, 16, 6, 13, 879) := by decide +kernel
theorem r_115_110 : xrow 115 110 = some (.dup, 1, 0, 0, 0, 0) := by decide +kernel
theorem r_115_111 : xrow 115 111 = some (.invokespecial 58, 3, 65, 0, 1, 2) := by decide +kernel
theorem r_115_114 : xrow 115 114 = some (.aastore, 1, 16, 0, 0, 0) := by decide +kernel
theorem r_115_115 : xrow 115 115 = some (.iinc 1 1, 3, 0, 0, 0, 0) := by decide +kernel
theorem r_115_118 : xrow 115 118 = some (.goto (-22), 3, 96, 0, 0, 0) := by decide +kernel
theorem r_115_121 : xrow 115 121 = some (.aload_n 0, 1, 0, 0, 0, 0) := by decide +kernel
theorem r_115_122 : xrow 115 122 = some (.iconst 0, 1, 0, 0, 0, 0) := by decide +kernel
theorem r_115_123 : xrow 115 123 = some (.putfield 59, 3, 21, 8, 0, 881) := by decide +kernel
theorem r_115_126 : xrow 115 126 = some (.aload_n 0, 1, 0, 0, 0, 0) := by decide +kernel
theorem r_115_127 : xrow 115 127 = some (.new 62, 3, 15, 15, 11, 882) := by decide +kernel
theorem r_115_130 : xrow 115 130 = some (.dup, 1, 0, 0, 0, 0) := by decide +kernel
theorem r_115_131 : xrow 115 131 = some (.invokespecial 64, 3, 43, 0, 1, 3) := by decide +kernel
theorem r_115_134 : xrow 115 134 = some (.putfield 65, 3, 21, 9, 2, 883) := by decide +kernel
theorem r_115_137 : xrow 115 137 = some (.aload_n 0, 1, 0, 0, 0, 0) := by decide +kernel
theorem r_115_138 : xrow 115 138 = some (.new 69, 3, 18, 13, 17, 884) := by decide +kernel
theorem r_115_141 : xrow 115 141 = some (.dup, 1, 0, 0, 0, 0) := by decide +kernel
theorem r_115_142 : xrow 115 142 = some (.aload_n 0, 1, 0, 0, 0, 0) := by decide +kernel
theorem r_115_143 : xrow 115 143 = some (.getfield 65, 3, 21, 9, 2, 883) := by decide +kernel
theorem r_115_146 : xrow 115 146 = some (.aload_n 0, 1, 0, 0, 0, 0) := by decide +kernel
theorem r_115_147 : xrow 115 147 = some (.getfield 45, 3, 21, 5, 2, 877) := by decide +kernel
theorem r_115_150 : xrow 115 150 = some (.invokespecial 71, 3, 77, 0, 0, 885) := by decide +kernel
theorem r_115_153 : xrow 115 153 = some (.putfield 74, 3, 21, 10, 2, 886) := by decide +kernel
theorem r_115_156 : xrow 115 156 = some (.aload_n 0, 1, 0, 0, 0, 0) := by decide +kernel
theorem r_115_157 : xrow 115 157 = some (.new 78, 3, 20, 13, 21, 887) := by decide +kernel
theorem r_115_160 : xrow 115 160 = some (.dup, 1, 0, 0, 0, 0) := by decide +kernel
theorem r_115_161 : xrow 115 161 = some (.aload_n 0, 1, 0, 0, 0, 0) := by decide +kernel
theorem r_115_162 : xrow 115 162 = some (.getfield 65, 3, 21, 9, 2, 883) := by decide +kernel
theorem r_115_165 : xrow 115 165 = some (.aload_n 0, 1, 0, 0, 0, 0) := by decide +kernel
theorem r_115_166 : xrow 115 166 = some (.getfield 74, 3, 21, 10, 2, 886) := by decide +kernel
theorem r_115_169 : xrow 115 169 = some (.iconst 0, 1, 0, 0, 0, 0) := by decide +kernel
theorem r_115_170 : xrow 115 170 = some (.invokespecial 80, 3, 101, 0, 0, 888) := by decide +kernel
theorem r_115_173 : xrow 115 173 = some (.putfield 83, 3, 21, 11, 2, 889) := by decide +kernel
theorem r_115_176 : xrow 115 176 = some (.aload_n 0, 1, 0, 0, 0, 0) := by decide +kernel
theorem r_115_177 : xrow 115 177 = some (.new 78, 3, 20, 13, 21, 887) := by decide +kernel
theorem r_115_180 : xrow 115 180 = some (.dup, 1, 0, 0, 0, 0) := by decide +kernel
theorem r_115_181 : xrow 115 181 = some (.aload_n 0, 1, 0, 0, 0, 0) := by decide +kernel
theorem r_115_182 : xrow 115 182 = some (.getfield 65, 3, 21, 9, 2, 883) := by decide +kernel
theorem r_115_185 : xrow 115 185 = some (.aload_n 0, 1, 0, 0, 0, 0) := by decide +kernel
theorem r_115_186 : xrow 115 186 = some (.getfield 74, 3, 21, 10, 2, 886) := by decide +kernel
theorem r_115_189 : xrow 115 189 = some (.iconst 1, 1, 0, 0, 0, 0) := by decide +kernel
theorem r_115_190 : xrow 115 190 = some (.invokespecial 80, 3, 101, 0, 0, 888) := by decide +kernel
theorem r_115_193 : xrow 115 193 = some (.putfield 87, 3, 21, 12, 2, 890) := by decide +kernel
theorem r_115_196 : xrow 115 196 = some (.aload_n 0, 1, 0, 0, 0, 0) := by decide +kernel
theorem r_115_197 : xrow 115 197 = some (.new 90, 3, 14, 10, 9, 891) := by decide +kernel
theorem r_115_200 : xrow 115 200 = some (.dup, 1, 0, 0, 0, 0) := by decide +kernel
theorem r_115_201 : xrow 115 201 = some (.aload_n 0, 1, 0, 0, 0, 0) := by decide +kernel
theorem r_115_202 : xrow 115 202 = some (.getfield 65, 3, 21, 9, 2, 883) := by decide +kernel
theorem r_115_205 : xrow 115 205 = some (.aload_n 0, 1, 0, 0, 0, 0) := by decide +kernel
theorem r_115_206 : xrow 115 206 = some (.getfield 74, 3, 21, 10, 2, 886) := by decide +kernel
theorem r_115_209 : xrow 115 209 = some (.invokespecial 92, 3, 38, 0, 0, 892) := by decide +kernel
theorem r_115_212 : xrow 115 212 = some (.putfield 95, 3, 21, 13, 2, 893) := by decide +kernel
theorem r_115_215 : xrow 115 215 = some (.aload_n 0, 1, 0, 0, 0, 0) := by decide +kernel
theorem r_115_216 : xrow 115 216 = some (.new 99, 3, 13, 13, 7, 894) := by decide +kernel
theorem r_115_219 : xrow 115 219 = some (.dup, 1, 0, 0, 0, 0) := by decide +kernel
theorem r_115_220 : xrow 115 220 = some (.aload_n 0, 1, 0, 0, 0, 0) := by decide +kernel
theorem r_115_221 : xrow 115 221 = some (.getfield 45, 3, 21, 5, 2, 877) := by decide +kernel
theorem r_115_224 : xrow 115 224 = some (.invokespecial 101, 3, 19, 0, 0, 895) := by decide +kernel
theorem r_115_227 : xrow 115 227 = some (.putfield 104, 3, 21, 14, 2, 896) := by decide +kernel
theorem r_115_230 : xrow 115 230 = some (.aload_n 0, 1, 0, 0, 0, 0) := by decide +kernel
theorem r_115_231 : xrow 115 231 = some (.sipush 601, 3, 0, 0, 0, 0) := by decide +kernel
theorem r_115_234 : xrow 115 234 = some (.newarray .int, 2, 0, 0, 0, 0) := by decide +kernel
theorem r_115_236 : xrow 115 236 = some (.putfield 108, 3, 21, 15, 2, 897) := by decide +kernel
theorem r_115_239 : xrow 115 239 = some (.aload_n 0, 1, 0, 0, 0, 0) := by decide +kernel
theorem r_115_240 : xrow 115 240 = some (.iconst 0, 1, 0, 0, 0, 0) := by decide +kernel
theorem r_115_241 : xrow 115 241 = some (.newarray .int, 2, 0, 0, 0, 0) := by decide +kernel
theorem r_115_243 : xrow 115 243 = some (.putfield 112, 3, 21, 16, 2, 898) := by decide +kernel
theorem r_115_246 : xrow 115 246 = some (.aload_n 0, 1, 0, 0, 0, 0) := by decide +kernel
theorem r_115_247 : xrow 115 247 = some (.iconst 0, 1, 0, 0, 0, 0) := by decide +kernel
theorem r_115_248 : xrow 115 248 = some (.putfield 115, 3, 21, 17, 0, 899) := by decide +kernel
theorem r_115_251 : xrow 115 251 = some (.aload_n 0, 1, 0, 0, 0, 0) := by decide +kernel
theorem r_115_252 : xrow 115 252 = some (.iconst 0, 1, 0, 0, 0, 0) := by decide +kernel
theorem r_115_253 : xrow 115 253 = some (.putfield 118, 3, 21, 18, 0, 900) := by decide +kernel
theorem r_115_256 : xrow 115 256 = some (.aload_n 0, 1, 0, 0, 0, 0) := by decide +kernel
theorem r_115_257 : xrow 115 257 = some (.iconst 0, 1, 0, 0, 0, 0) := by decide +kernel
theorem r_115_258 : xrow 115 258 = some (.putfield 121, 3, 21, 19, 0, 901) := by decide +kernel
theorem r_115_261 : xrow 115 261 = some (.return_, 1, 0, 0, 0, 0) := by decide +kernel
theorem r_116_0 : xrow 116 0 = some (.aload_n 0, 1, 0, 0, 0, 0) := by decide +kernel
theorem r_116_1 : xrow 116 1 = some (.getfield 13, 3, 21, 1, 0, 866) := by decide +kernel
theorem r_116_4 : xrow 116 4 = some (.bipush 20, 2, 0, 0, 0, 0) := by decide +kernel
theorem r_116_6 : xrow 116 6 = some (.iadd, 1, 0, 0, 0, 0) := by decide +kernel
theorem r_116_7 : xrow 116 7 = some (.sipush 500, 3, 0, 0, 0, 0) := by decide +kernel
theorem r_116_10 : xrow 116 10 = some (.if_icmp .le 5, 3, 15, 0, 0, 0) := by decide +kernel
theorem r_116_13 : xrow 116 13 = some (.iconst (-1), 1, 0, 0, 0, 0) := by decide +kernel
theorem r_116_14 : xrow 116 14 = some (.ireturn, 1, 0, 0, 0, 0) := by decide +kernel
theorem r_116_15 : xrow 116 15 = some (.aload_n 0, 1, 0, 0, 0, 0) := by decide +kernel
theorem r_116_16 : xrow 116 16 = some (.iload_n 1, 1, 0, 0, 0, 0) := by decide +kernel
theorem r_116_17 : xrow 116 17 = some (.invokevirtual 124, 3, 117, 0, 0, 902) := by decide +kernel
theorem r_116_20 : xrow 116 20 = some (.aload_n 0, 1, 0, 0, 0, 0) := by decide +kernel
theorem r_116_21 : xrow 116 21 = some (.iload_n 2, 1, 0, 0, 0, 0) := by decide +kernel
theorem r_116_22 : xrow 116 22 = some (.invokevirtual 124, 3, 117, 0, 0, 902) := by decide +kernel
theorem r_116_25 : xrow 116 25 = some (.aload_n 0, 1, 0, 0, 0, 0) := by decide +kernel
theorem r_116_26 : xrow 116 26 = some (.iload_n 3, 1, 0, 0, 0, 0) := by decide +kernel
theorem r_116_27 : xrow 116 27 = some (.invokevirtual 124, 3, 117, 0, 0, 902) := by decide +kernel
theorem r_116_30 : xrow 116 30 = some (.aload_n 0, 1, 0, 0, 0, 0) := by decide +kernel
theorem r_116_31 : xrow 116 31 = some (.iload 4, 2, 0, 0, 0, 0) := by decide +kernel
theorem r_116_33 : xrow 116 33 = some (.invokevirtual 124, 3, 117, 0, 0, 902) := by decide +kernel
theorem r_116_36 : xrow 116 36 = some (.aload_n 0, 1, 0, 0, 0, 0) := by decide +kernel
theorem r_116_37 : xrow 116 37 = some (.iload 5, 2, 0, 0, 0, 0) := by decide +kernel
theorem r_116_39 : xrow 116 39 = some (.invokevirtual 124, 3, 117, 0, 0, 902) := by decide +kernel
theorem r_116_42 : xrow 116 42 = some (.aload_n 0, 1, 0, 0, 0, 0) := by decide +kernel
theorem r_116_43 : xrow 116 43 = some (.getfield 13, 3, 21, 1, 0, 866) := by decide +kernel
theorem r_116_46 : xrow 116 46 = some (.ireturn, 1, 0, 0, 0, 0) := by decide +kernel
theorem r_117_0 : xrow 117 0 = some (.bipush 24, 2, 0, 0, 0, 0) := by decide +kernel
theorem r_117_2 : xrow 117 2 = some (.istore_n 2, 1, 0, 0, 0, 0) := by decide +kernel
theorem r_117_3 : xrow 117 3 = some (.iload_n 2, 1, 0, 0, 0, 0) := by decide +kernel
theorem r_117_4 : xrow 117 4 = some (.ifCond .lt 42, 3, 46, 0, 0, 0) := by decide +kernel
theorem r_117_7 : xrow 117 7 = some (.aload_n 0, 1, 0, 0, 0, 0) := by decide +kernel
theorem r_117_8 : xrow 117 8 = some (.getfield 13, 3, 21, 1, 0, 866) := by decide +kernel
theorem r_117_11 : xrow 117 11 = some (.sipush 500, 3, 0, 0, 0, 0) := by decide +kernel
theorem r_117_14 : xrow 117 14 = some (.if_icmp .ge 32, 3, 46, 0, 0, 0) := by decide +kernel
theorem r_117_17 : xrow 117 17 = some (.aload_n 0, 1, 0, 0, 0, 0) := by decide +kernel
theorem r_117_18 : xrow 117 18 = some (.getfield 9, 3, 21, 0, 2, 865) := by decide +kernel
theorem r_117_21 : xrow 117 21 = some (.aload_n 0, 1, 0, 0, 0, 0) := by decide +kernel
theorem r_117_22 : xrow 117 22 = some (.getfield 13, 3, 21, 1, 0, 866) := by decide +kernel
theorem r_117_25 : xrow 117 25 = some (.iload_n 1, 1, 0, 0, 0, 0) := by decide +kernel
theorem r_117_26 : xrow 117 26 = some (.iload_n 2, 1, 0, 0, 0, 0) := by decide +kernel
theorem r_117_27 : xrow 117 27 = some (.ishr, 1, 0, 0, 0, 0) := by decide +kernel
theorem r_117_28 : xrow 117 28 = some (.i2b, 1, 0, 0, 0, 0) := by decide +kernel
theorem r_117_29 : xrow 117 29 = some (.bastore, 1, 0, 0, 0, 0) := by decide +kernel
theorem r_117_30 : xrow 117 30 = some (.aload_n 0, 1, 0, 0, 0, 0) := by decide +kernel
theorem r_117_31 : xrow 117 31 = some (.dup, 1, 0, 0, 0, 0) := by decide +kernel
theorem r_117_32 : xrow 117 32 = some (.getfield 13, 3, 21, 1, 0, 866) := by decide +kernel
theorem r_117_35 : xrow 117 35 = some (.iconst 1, 1, 0, 0, 0, 0) := by decide +kernel
theorem r_117_36 : xrow 117 36 = some (.iadd, 1, 0, 0, 0, 0) := by decide +kernel
theorem r_117_37 : xrow 117 37 = some (.putfield 13, 3, 21, 1, 0, 866) := by decide +kernel
theorem r_117_40 : xrow 117 40 = some (.iinc 2 (-8), 3, 0, 0, 0, 0) := by decide +kernel
theorem r_117_43 : xrow 117 43 = some (.goto (-40), 3, 3, 0, 0, 0) := by decide +kernel
theorem r_117_46 : xrow 117 46 = some (.return_, 1, 0, 0, 0, 0) := by decide +kernel
theorem r_118_0 : xrow 118 0 = some (.iload_n 1, 1, 0, 0, 0, 0) := by decide +kernel
theorem r_118_1 : xrow 118 1 = some (.ifCond .lt 11, 3, 12, 0, 0, 0) := by decide +kernel
theorem r_118_4 : xrow 118 4 = some (.iload_n 1, 1, 0, 0, 0, 0) := by decide +kernel
theorem r_118_5 : xrow 118 5 = some (.aload_n 0, 1, 0, 0, 0, 0) := by decide +kernel
theorem r_118_6 : xrow 118 6 = some (.getfield 13, 3, 21, 1, 0, 866) := by decide +kernel
theorem r_118_9 : xrow 118 9 = some (.if_icmp .le 9, 3, 18, 0, 0, 0) := by decide +kernel
theorem r_118_12 : xrow 118 12 = some (.aload_n 0, 1, 0, 0, 0, 0) := by decide +kernel
theorem r_118_13 : xrow 118 13 = some (.iconst 2, 1, 0, 0, 0, 0) := by decide +kernel
theorem r_118_14 : xrow 118 14 = some (.invokevirtual 128, 3, 157, 0, 0, 903) := by decide +kernel
theorem r_118_17 : xrow 118 17 = some (.ireturn, 1, 0, 0, 0, 0) := by decide +kernel
theorem r_118_18 : xrow 118 18 = some (.aload_n 0, 1, 0, 0, 0, 0) := by decide +kernel
theorem r_118_19 : xrow 118 19 = some (.iconst 0, 1, 0, 0, 0, 0) := by decide +kernel
theorem r_118_20 : xrow 118 20 = some (.putfield 13, 3, 21, 1, 0, 866) := by decide +kernel
theorem r_118_23 : xrow 118 23 = some (.aload_n 0, 1, 0, 0, 0, 0) := by decide +kernel
theorem r_118_24 : xrow 118 24 = some (.getfield 22, 3, 21, 2, 2, 869) := by decide +kernel
theorem r_118_27 : xrow 118 27 = some (.iload_n 1, 1, 0, 0, 0, 0) := by decide +kernel
theorem r_118_28 : xrow 118 28 = some (.invokevirtual 132, 3, 88, 0, 0, 904) := by decide +kernel
theorem r_118_31 : xrow 118 31 = some (.aload_n 0, 1, 0, 0, 0, 0) := by decide +kernel
theorem r_118_32 : xrow 118 32 = some (.getfield 31, 3, 21, 3, 2, 872) := by decide +kernel
theorem r_118_35 : xrow 118 35 = some (.aload_n 0, 1, 0, 0, 0, 0) := by decide +kernel
theorem r_118_36 : xrow 118 36 = some (.getfield 49, 3, 21, 6, 2, 878) := by decide +kernel
theorem r_118_39 : xrow 118 39 = some (.invokevirtual 135, 3, 8, 0, 0, 905) := by decide +kernel
theorem r_118_42 : xrow 118 42 = some (.istore_n 2, 1, 0, 0, 0, 0) := by decide +kernel
theorem r_118_43 : xrow 118 43 = some (.aload_n 0, 1, 0, 0, 0, 0) := by decide +kernel
theorem r_118_44 : xrow 118 44 = some (.aload_n 0, 1, 0, 0, 0, 0) := by decide +kernel
theorem r_118_45 : xrow 118 45 = some (.getfield 22, 3, 21, 2, 2, 869) := by decide +kernel
theorem r_118_48 : xrow 118 48 = some (.getfield 139, 3, 19, 7, 0, 906) := by decide +kernel
theorem r_118_51 : xrow 118 51 = some (.putfield 121, 3, 21, 19, 0, 901) := by decide +kernel
theorem r_118_54 : xrow 118 54 = some (.iload_n 2, 1, 0, 0, 0, 0) := by decide +kernel
theorem r_118_55 : xrow 118 55 = some (.ifCond .ne 9, 3, 64, 0, 0, 0) := by decide +kernel
theorem r_118_58 : xrow 118 58 = some (.aload_n 0, 1, 0, 0, 0, 0) := by decide +kernel
theorem r_118_59 : xrow 118 59 = some (.iconst 4, 1, 0, 0, 0, 0) := by decide +kernel
theorem r_118_60 : xrow 118 60 = some (.invokevirtual 128, 3, 157, 0, 0, 903) := by decide +kernel
theorem r_118_63 : xrow 118 63 = some (.ireturn, 1, 0, 0, 0, 0) := by decide +kernel
theorem r_118_64 : xrow 118 64 = some (.aload_n 0, 1, 0, 0, 0, 0) := by decide +kernel
theorem r_118_65 : xrow 118 65 = some (.getfield 45, 3, 21, 5, 2, 877) := by decide +kernel
theorem r_118_68 : xrow 118 68 = some (.astore_n 3, 1, 0, 0, 0, 0) := by decide +kernel
theorem r_118_69 : xrow 118 69 = some (.aload_n 0, 1, 0, 0, 0, 0) := by decide +kernel
theorem r_118_70 : xrow 118 70 = some (.aload_n 0, 1, 0, 0, 0, 0) := by decide +kernel
theorem r_118_71 : xrow 118 71 = some (.getfield 49, 3, 21, 6, 2, 878) := by decide +kernel
theorem r_118_74 : xrow 118 74 = some (.putfield 45, 3, 21, 5, 2, 877) := by decide +kernel
theorem r_118_77 : xrow 118 77 = some (.aload_n 0, 1, 0, 0, 0, 0) := by decide +kernel
theorem r_118_78 : xrow 118 78 = some (.aload_n 3, 1, 0, 0, 0, 0) := by decide +kernel
theorem r_118_79 : xrow 118 79 = some (.putfield 49, 3, 21, 6, 2, 878) := by decide +kernel
theorem r_118_82 : xrow 118 82 = some (.aload_n 0, 1, 0, 0, 0, 0) := by decide +kernel
theorem r_118_83 : xrow 118 83 = some (.getfield 65, 3, 21, 9, 2, 883) := by decide +kernel
theorem r_118_86 : xrow 118 86 = some (.invokevirtual 142, 3, 44, 0, 0, 907) := by decide +kernel
theorem r_118_89 : xrow 118 89 = some (.aload_n 0, 1, 0, 0, 0, 0) := by decide +kernel
theorem r_118_90 : xrow 118 90 = some (.iconst 0, 1, 0, 0, 0, 0) := by decide +kernel
theorem r_118_91 : xrow 118 91 = some (.putfield 59, 3, 21, 8, 0, 881) := by decide +kernel
theorem r_118_94 : xrow 118 94 = some (.aload_n 0, 1, 0, 0, 0, 0) := by decide +kernel
theorem r_118_95 : xrow 118 95 = some (.getfield 74, 3, 21, 10, 2, 886) := by decide +kernel
theorem r_118_98 : xrow 118 98 = some (.aload_n 0, 1, 0, 0, 0, 0) := by decide +kernel
theorem r_118_99 : xrow 118 99 = some (.getfield 45, 3, 21, 5, 2, 877) := by decide +kernel
theorem r_118_102 : xrow 118 102 = some (.invokevirtual 145, 3, 78, 0, 0, 908) := by decide +kernel
theorem r_118_105 : xrow 118 105 = some (.aload_n 0, 1, 0, 0, 0, 0) := by decide +kernel
theorem r_118_106 : xrow 118 106 = some (.getfield 104, 3, 21, 14, 2, 896) := by decide +kernel
theorem r_118_109 : xrow 118 109 = some (.aload_n 0, 1, 0, 0, 0, 0) := by decide +kernel
theorem r_118_110 : xrow 118 110 = some (.getfield 45, 3, 21, 5, 2, 877) := by decide +kernel
theorem r_118_113 : xrow 118 113 = some (.invokevirtual 148, 3, 20, 0, 0, 909) := by decide +kernel
theorem r_118_116 : xrow 118 116 = some (.aload_n 0, 1, 0, 0, 0, 0) := by decide +kernel
theorem r_118_117 : xrow 118 117 = some (.aload_n 0, 1, 0, 0, 0, 0) := by decide +kernel
theorem r_118_118 : xrow 118 118 = some (.getfield 45, 3, 21, 5, 2, 877) := by decide +kernel
theorem r_118_121 : xrow 118 121 = some (.getfield 149, 3, 10, 0, 0, 910) := by decide +kernel
theorem r_118_124 : xrow 118 124 = some (.invokevirtual 152, 3, 156, 0, 0, 911) := by decide +kernel
theorem r_118_127 : xrow 118 127 = some (.ireturn, 1, 0, 0, 0, 0) := by decide +kernel
theorem r_119_0 : xrow 119 0 = some (.aload_n 0, 1, 0, 0, 0, 0) := by decide +kernel
theorem r_119_1 : xrow 119 1 = some (.getfield 65, 3, 21, 9, 2, 883) := by decide +kernel
theorem r_119_4 : xrow 119 4 = some (.getfield 155, 3, 15, 2, 0, 912) := by decide +kernel
theorem r_119_7 : xrow 119 7 = some (.ifCond .ne 9, 3, 16, 0, 0, 0) := by decide +kernel
theorem r_119_10 : xrow 119 10 = some (.aload_n 0, 1, 0, 0, 0, 0) := by decide +kernel
theorem r_119_11 : xrow 119 11 = some (.iconst 1, 1, 0, 0, 0, 0) := by decide +kernel
theorem r_119_12 : xrow 119 12 = some (.invokevirtual 128, 3, 157, 0, 0, 903) := by decide +kernel
theorem r_119_15 : xrow 119 15 = some (.ireturn, 1, 0, 0, 0, 0) := by decide +kernel
theorem r_119_16 : xrow 119 16 = some (.iload_n 1, 1, 0, 0, 0, 0) := by decide +kernel
theorem r_119_17 : xrow 119 17 = some (.ifCond .lt 11, 3, 28, 0, 0, 0) := by decide +kernel
theorem r_119_20 : xrow 119 20 = some (.iload_n 1, 1, 0, 0, 0, 0) := by decide +kernel
theorem r_119_21 : xrow 119 21 = some (.aload_n 0, 1, 0, 0, 0, 0) := by decide +kernel
theorem r_119_22 : xrow 119 22 = some (.getfield 13, 3, 21, 1, 0, 866) := by decide +kernel
theorem r_119_25 : xrow 119 25 = some (.if_icmp .le 9, 3, 34, 0, 0, 0) := by decide +kernel
theorem r_119_28 : xrow 119 28 = some (.aload_n 0, 1, 0, 0, 0, 0) := by decide +kernel
theorem r_119_29 : xrow 119 29 = some (.iconst 2, 1, 0, 0, 0, 0) := by decide +kernel
theorem r_119_30 : xrow 119 30 = some (.invokevirtual 128, 3, 157, 0, 0, 903) := by decide +kernel
theorem r_119_33 : xrow 119 33 = some (.ireturn, 1, 0, 0, 0, 0) := by decide +kernel
theorem r_119_34 : xrow 119 34 = some (.aload_n 0, 1, 0, 0, 0, 0) := by decide +kernel
theorem r_119_35 : xrow 119 35 = some (.iconst 0, 1, 0, 0, 0, 0) := by decide +kernel
theorem r_119_36 : xrow 119 36 = some (.putfield 13, 3, 21, 1, 0, 866) := by decide +kernel
theorem r_119_39 : xrow 119 39 = some (.aload_n 0, 1, 0, 0, 0, 0) := by decide +kernel
theorem r_119_40 : xrow 119 40 = some (.getfield 22, 3, 21, 2, 2, 869) := by decide +kernel
theorem r_119_43 : xrow 119 43 = some (.iload_n 1, 1, 0, 0, 0, 0) := by decide +kernel
theorem r_119_44 : xrow 119 44 = some (.invokevirtual 132, 3, 88, 0, 0, 904) := by decide +kernel
theorem r_119_47 : xrow 119 47 = some (.aload_n 0, 1, 0, 0, 0, 0) := by decide +kernel
theorem r_119_48 : xrow 119 48 = some (.getfield 38, 3, 21, 4, 2, 875) := by decide +kernel
theorem r_119_51 : xrow 119 51 = some (.aload_n 0, 1, 0, 0, 0, 0) := by decide +kernel
theorem r_119_52 : xrow 119 52 = some (.getfield 54, 3, 21, 7, 2, 880) := by decide +kernel
theorem r_119_55 : xrow 119 55 = some (.aload_n 0, 1, 0, 0, 0, 0) := by decide +kernel
theorem r_119_56 : xrow 119 56 = some (.getfield 59, 3, 21, 8, 0, 881) := by decide +kernel
theorem r_119_59 : xrow 119 59 = some (.aaload, 1, 0, 0, 0, 0) := by decide +kernel
theorem r_119_60 : xrow 119 60 = some (.aload_n 0, 1, 0, 0, 0, 0) := by decide +kernel
theorem r_119_61 : xrow 119 61 = some (.getfield 45, 3, 21, 5, 2, 877) := by decide +kernel
theorem r_119_64 : xrow 119 64 = some (.aload_n 0, 1, 0, 0, 0, 0) := by decide +kernel
theorem r_119_65 : xrow 119 65 = some (.getfield 65, 3, 21, 9, 2, 883) := by decide +kernel
theorem r_119_68 : xrow 119 68 = some (.getfield 158, 3, 15, 3, 0, 913) := by decide +kernel
theorem r_119_71 : xrow 119 71 = some (.invokevirtual 161, 3, 70, 0, 0, 914) := by decide +kernel
theorem r_119_74 : xrow 119 74 = some (.istore_n 2, 1, 0, 0, 0, 0) := by decide +kernel
theorem r_119_75 : xrow 119 75 = some (.aload_n 0, 1, 0, 0, 0, 0) := by decide +kernel
theorem r_119_76 : xrow 119 76 = some (.aload_n 0, 1, 0, 0, 0, 0) := by decide +kernel
theorem r_119_77 : xrow 119 77 = some (.getfield 22, 3, 21, 2, 2, 869) := by decide +kernel
theorem r_119_80 : xrow 119 80 = some (.getfield 139, 3, 19, 7, 0, 906) := by decide +kernel
theorem r_119_83 : xrow 119 83 = some (.putfield 121, 3, 21, 19, 0, 901) := by decide +kernel
theorem r_119_86 : xrow 119 86 = some (.iload_n 2, 1, 0, 0, 0, 0) := by decide +kernel
theorem r_119_87 : xrow 119 87 = some (.ifCond .ne 9, 3, 96, 0, 0, 0) := by decide +kernel
theorem r_119_90 : xrow 119 90 = some (.aload_n 0, 1, 0, 0, 0, 0) := by decide +kernel
theorem r_119_91 : xrow 119 91 = some (.iconst 4, 1, 0, 0, 0, 0) := by decide +kernel
theorem r_119_92 : xrow 119 92 = some (.invokevirtual 128, 3, 157, 0, 0, 903) := by decide +kernel
theorem r_119_95 : xrow 119 95 = some (.ireturn, 1, 0, 0, 0, 0) := by decide +kernel
theorem r_119_96 : xrow 119 96 = some (.aload_n 0, 1, 0, 0, 0, 0) := by decide +kernel
theorem r_119_97 : xrow 119 97 = some (.getfield 59, 3, 21, 8, 0, 881) := by decide +kernel
theorem r_119_100 : xrow 119 100 = some (.bipush 8, 2, 0, 0, 0, 0) := by decide +kernel
theorem r_119_102 : xrow 119 102 = some (.if_icmp .lt 9, 3, 111, 0, 0, 0) := by decide +kernel
theorem r_119_105 : xrow 119 105 = some (.aload_n 0, 1, 0, 0, 0, 0) := by decide +kernel
theorem r_119_106 : xrow 119 106 = some (.iconst 3, 1, 0, 0, 0, 0) := by decide +kernel
theorem r_119_107 : xrow 119 107 = some (.invokevirtual 128, 3, 157, 0, 0, 903) := by decide +kernel
theorem r_119_110 : xrow 119 110 = some (.ireturn, 1, 0, 0, 0, 0) := by decide +kernel
theorem r_119_111 : xrow 119 111 = some (.aload_n 0, 1, 0, 0, 0, 0) := by decide +kernel
theorem r_119_112 : xrow 119 112 = some (.dup, 1, 0, 0, 0, 0) := by decide +kernel
theorem r_119_113 : xrow 119 113 = some (.getfield 59, 3, 21, 8, 0, 881) := by decide +kernel
theorem r_119_116 : xrow 119 116 = some (.iconst 1, 1, 0, 0, 0, 0) := by decide +kernel
theorem r_119_117 : xrow 119 117 = some (.iadd, 1, 0, 0, 0, 0) := by decide +kernel
theorem r_119_118 : xrow 119 118 = some (.putfield 59, 3, 21, 8, 0, 881) := by decide +kernel
theorem r_119_121 : xrow 119 121 = some (.aload_n 0, 1, 0, 0, 0, 0) := by decide +kernel
theorem r_119_122 : xrow 119 122 = some (.aload_n 0, 1, 0, 0, 0, 0) := by decide +kernel
theorem r_119_123 : xrow 119 123 = some (.getfield 59, 3, 21, 8, 0, 881) := by decide +kernel
theorem r_119_126 : xrow 119 126 = some (.iconst 1, 1, 0, 0, 0, 0) := by decide +kernel
theorem r_119_127 : xrow 119 127 = some (.isub, 1, 0, 0, 0, 0) := by decide +kernel
theorem r_119_128 : xrow 119 128 = some (.invokevirtual 152, 3, 156, 0, 0, 911) := by decide +kernel
theorem r_119_131 : xrow 119 131 = some (.ireturn, 1, 0, 0, 0, 0) := by decide +kernel
theorem r_120_0 : xrow 120 0 = some (.aload_n 0, 1, 0, 0, 0, 0) := by decide +kernel
theorem r_120_1 : xrow 120 1 = some (.getfield 121, 3, 21, 19, 0, 901) := by decide +kernel
theorem r_120_4 : xrow 120 4 = some (.ireturn, 1, 0, 0, 0, 0) := by decide +kernel
theorem r_121_0 : xrow 121 0 = some (.aload_n 0, 1, 0, 0, 0, 0) := by decide +kernel
theorem r_121_1 : xrow 121 1 = some (.getfield 118, 3, 21, 18, 0, 900) := by decide +kernel
theorem r_121_4 : xrow 121 4 = some (.iconst 4, 1, 0, 0, 0, 0) := by decide +kernel
theorem r_121_5 : xrow 121 5 = some (.if_icmp .ne 13, 3, 18, 0, 0, 0) := by decide +kernel
theorem r_121_8 : xrow 121 8 = some (.aload_n 0, 1, 0, 0, 0, 0) := by decide +kernel
theorem r_121_9 : xrow 121 9 = some (.getfield 22, 3, 21, 2, 2, 869) := by decide +kernel
theorem r_121_12 : xrow 121 12 = some (.getfield 164, 3, 19, 8, 0, 915) := by decide +kernel
theorem r_121_15 : xrow 121 15 = some (.goto 4, 3, 19, 0, 0, 0) := by decide +kernel
theorem r_121_18 : xrow 121 18 = some (.iconst (-1), 1, 0, 0, 0, 0) := by decide +kernel
theorem r_121_19 : xrow 121 19 = some (.ireturn, 1, 0, 0, 0, 0) := by decide +kernel
theorem r_122_0 : xrow 122 0 = some (.aload_n 0, 1, 0, 0, 0, 0) := by decide +kernel
theorem r_122_1 : xrow 122 1 = some (.getfield 45, 3, 21, 5, 2, 877) := by decide +kernel
theorem r_122_4 : xrow 122 4 = some (.iload_n 1, 1, 0, 0, 0, 0) := by decide +kernel
theorem r_122_5 : xrow 122 5 = some (.invokevirtual 167, 3, 3, 0, 0, 916) := by decide +kernel
theorem r_122_8 : xrow 122 8 = some (.ifCond .ne 9, 3, 17, 0, 0, 0) := by decide +kernel
theorem r_122_11 : xrow 122 11 = some (.aload_n 0, 1, 0, 0, 0, 0) := by decide +kernel
theorem r_122_12 : xrow 122 12 = some (.iconst 1, 1, 0, 0, 0, 0) := by decide +kernel
theorem r_122_13 : xrow 122 13 = some (.invokevirtual 128, 3, 157, 0, 0, 903) := by decide +kernel
theorem r_122_16 : xrow 122 16 = some (.ireturn, 1, 0, 0, 0, 0) := by decide +kernel
theorem r_122_17 : xrow 122 17 = some (.iload_n 2, 1, 0, 0, 0, 0) := by decide +kernel
theorem r_122_18 : xrow 122 18 = some (.ifCond .lt 10, 3, 28, 0, 0, 0) := by decide +kernel
theorem r_122_21 : xrow 122 21 = some (.iload_n 2, 1, 0, 0, 0, 0) := by decide +kernel
theorem r_122_22 : xrow 122 22 = some (.sipush 999, 3, 0, 0, 0, 0) := by decide +kernel
theorem r_122_25 : xrow 122 25 = some (.if_icmp .le 9, 3, 34, 0, 0, 0) := by decide +kernel
theorem r_122_28 : xrow 122 28 = some (.aload_n 0, 1, 0, 0, 0, 0) := by decide +kernel
theorem r_122_29 : xrow 122 29 = some (.iconst 2, 1, 0, 0, 0, 0) := by decide +kernel
theorem r_122_30 : xrow 122 30 = some (.invokevirtual 128, 3, 157, 0, 0, 903) := by decide +kernel
theorem r_122_33 : xrow 122 33 = some (.ireturn, 1, 0, 0, 0, 0) := by decide +kernel
theorem r_122_34 : xrow 122 34 = some (.aload_n 0, 1, 0, 0, 0, 0) := by decide +kernel
theorem r_122_35 : xrow 122 35 = some (.aload_n 0, 1, 0, 0, 0, 0) := by decide +kernel
theorem r_122_36 : xrow 122 36 = some (.getfield 45, 3, 21, 5, 2, 877) := by decide +kernel
theorem r_122_39 : xrow 122 39 = some (.getfield 171, 3, 10, 2, 2, 917) := by decide +kernel
theorem r_122_42 : xrow 122 42 = some (.iload_n 1, 1, 0, 0, 0, 0) := by decide +kernel
theorem r_122_43 : xrow 122 43 = some (.iload_n 2, 1, 0, 0, 0, 0) := by decide +kernel
theorem r_122_44 : xrow 122 44 = some (.invokevirtual 175, 3, 17, 0, 0, 918) := by decide +kernel
theorem r_122_47 : xrow 122 47 = some (.invokevirtual 152, 3, 156, 0, 0, 911) := by decide +kernel
theorem r_122_50 : xrow 122 50 = some (.ireturn, 1, 0, 0, 0, 0) := by decide +kernel
theorem r_123_0 : xrow 123 0 = some (.aload_n 0, 1, 0, 0, 0, 0) := by decide +kernel
theorem r_123_1 : xrow 123 1 = some (.getfield 45, 3, 21, 5, 2, 877) := by decide +kernel
theorem r_123_4 : xrow 123 4 = some (.iload_n 1, 1, 0, 0, 0, 0) := by decide +kernel
theorem r_123_5 : xrow 123 5 = some (.invokevirtual 167, 3, 3, 0, 0, 916) := by decide +kernel
theorem r_123_8 : xrow 123 8 = some (.ifCond .ne 9, 3, 17, 0, 0, 0) := by decide +kernel
theorem r_123_11 : xrow 123 11 = some (.aload_n 0, 1, 0, 0, 0, 0) := by decide +kernel
theorem r_123_12 : xrow 123 12 = some (.iconst 1, 1, 0, 0, 0, 0) := by decide +kernel
theorem r_123_13 : xrow 123 13 = some (.invokevirtual 128, 3, 157, 0, 0, 903) := by decide +kernel
theorem r_123_16 : xrow 123 16 = some (.ireturn, 1, 0, 0, 0, 0) := by decide +kernel
theorem r_123_17 : xrow 123 17 = some (.iload_n 2, 1, 0, 0, 0, 0) := by decide +kernel
theorem r_123_18 : xrow 123 18 = some (.ifCond .lt 9, 3, 27, 0, 0, 0) := by decide +kernel
theorem r_123_21 : xrow 123 21 = some (.iload_n 2, 1, 0, 0, 0, 0) := by decide +kernel
theorem r_123_22 : xrow 123 22 = some (.bipush 90, 2, 0, 0, 0, 0) := by decide +kernel
theorem r_123_24 : xrow 123 24 = some (.if_icmp .le 9, 3, 33, 0, 0, 0) := by decide +kernel
theorem r_123_27 : xrow 123 27 = some (.aload_n 0, 1, 0, 0, 0, 0) := by decide +kernel
theorem r_123_28 : xrow 123 28 = some (.iconst 2, 1, 0, 0, 0, 0) := by decide +kernel
theorem r_123_29 : xrow 123 29 = some (.invokevirtual 128, 3, 157, 0, 0, 903) := by decide +kernel
theorem r_123_32 : xrow 123 32 = some (.ireturn, 1, 0, 0, 0, 0) := by decide +kernel
theorem r_123_33 : xrow 123 33 = some (.aload_n 0, 1, 0, 0, 0, 0) := by decide +kernel
theorem r_123_34 : xrow 123 34 = some (.aload_n 0, 1, 0, 0, 0, 0) := by decide +kernel
theorem r_123_35 : xrow 123 35 = some (.getfield 45, 3, 21, 5, 2, 877) := by decide +kernel
theorem r_123_38 : xrow 123 38 = some (.getfield 181, 3, 10, 3, 2, 919) := by decide +kernel
theorem r_123_41 : xrow 123 41 = some (.iload_n 1, 1, 0, 0, 0, 0) := by decide +kernel
theorem r_123_42 : xrow 123 42 = some (.iload_n 2, 1, 0, 0, 0, 0) := by decide +kernel
theorem r_123_43 : xrow 123 43 = some (.invokevirtual 175, 3, 17, 0, 0, 918) := by decide +kernel
theorem r_123_46 : xrow 123 46 = some (.invokevirtual 152, 3, 156, 0, 0, 911) := by decide +kernel
theorem r_123_49 : xrow 123 49 = some (.ireturn, 1, 0, 0, 0, 0) := by decide +kernel
theorem r_124_0 : xrow 124 0 = some (.aload_n 0, 1, 0, 0, 0, 0) := by decide +kernel
theorem r_124_1 : xrow 124 1 = some (.getfield 45, 3, 21, 5, 2, 877) := by decide +kernel
theorem r_124_4 : xrow 124 4 = some (.invokevirtual 184, 3, 2, 0, 0, 920) := by decide +kernel
theorem r_124_7 : xrow 124 7 = some (.ifCond .ne 9, 3, 16, 0, 0, 0) := by decide +kernel
theorem r_124_10 : xrow 124 10 = some (.aload_n 0, 1, 0, 0, 0, 0) := by decide +kernel
theorem r_124_11 : xrow 124 11 = some (.iconst 1, 1, 0, 0, 0, 0) := by decide +kernel
theorem r_124_12 : xrow 124 12 = some (.invokevirtual 188, 3, 160, 0, 0, 921) := by decide +kernel
theorem r_124_15 : xrow 124 15 = some (.ireturn, 1, 1, 0, 0, 0) := by decide +kernel
theorem r_124_16 : xrow 124 16 = some (.iload_n 1, 1, 0, 0, 0, 0) := by decide +kernel
theorem r_124_17 : xrow 124 17 = some (.ifCond .lt 14, 3, 31, 0, 0, 0) := by decide +kernel
theorem r_124_20 : xrow 124 20 = some (.iload_n 1, 1, 0, 0, 0, 0) := by decide +kernel
theorem r_124_21 : xrow 124 21 = some (.aload_n 0, 1, 0, 0, 0, 0) := by decide +kernel
theorem r_124_22 : xrow 124 22 = some (.getfield 45, 3, 21, 5, 2, 877) := by decide +kernel
theorem r_124_25 : xrow 124 25 = some (.getfield 191, 3, 10, 10, 0, 922) := by decide +kernel
theorem r_124_28 : xrow 124 28 = some (.if_icmp .lt 9, 3, 37, 0, 0, 0) := by decide +kernel
theorem r_124_31 : xrow 124 31 = some (.aload_n 0, 1, 0, 0, 0, 0) := by decide +kernel
theorem r_124_32 : xrow 124 32 = some (.iconst 2, 1, 0, 0, 0, 0) := by decide +kernel
theorem r_124_33 : xrow 124 33 = some (.invokevirtual 188, 3, 160, 0, 0, 921) := by decide +kernel
theorem r_124_36 : xrow 124 36 = some (.ireturn, 1, 1, 0, 0, 0) := by decide +kernel
theorem r_124_37 : xrow 124 37 = some (.aload_n 0, 1, 0, 0, 0, 0) := by decide +kernel
theorem r_124_38 : xrow 124 38 = some (.getfield 74, 3, 21, 10, 2, 886) := by decide +kernel
theorem r_124_41 : xrow 124 41 = some (.iload_n 1, 1, 0, 0, 0, 0) := by decide +kernel
theorem r_124_42 : xrow 124 42 = some (.putfield 194, 3, 18, 2, 0, 923) := by decide +kernel
theorem r_124_45 : xrow 124 45 = some (.aload_n 0, 1, 0, 0, 0, 0) := by decide +kernel
theorem r_124_46 : xrow 124 46 = some (.getfield 65, 3, 21, 9, 2, 883) := by decide +kernel
theorem r_124_49 : xrow 124 49 = some (.dup, 1, 0, 0, 0, 0) := by decide +kernel
theorem r_124_50 : xrow 124 50 = some (.getfield 197, 3, 15, 4, 0, 924) := by decide +kernel
theorem r_124_53 : xrow 124 53 = some (.iconst 1, 1, 0, 0, 0, 0) := by decide +kernel
theorem r_124_54 : xrow 124 54 = some (.iadd, 1, 0, 0, 0, 0) := by decide +kernel
theorem r_124_55 : xrow 124 55 = some (.putfield 197, 3, 15, 4, 0, 924) := by decide +kernel
theorem r_124_58 : xrow 124 58 = some (.aload_n 0, 1, 0, 0, 0, 0) := by decide +kernel
theorem r_124_59 : xrow 124 59 = some (.invokevirtual 200, 3, 159, 0, 0, 925) := by decide +kernel
theorem r_124_62 : xrow 124 62 = some (.ireturn, 1, 1, 0, 0, 0) := by decide +kernel
theorem r_125_0 : xrow 125 0 = some (.aload_n 0, 1, 0, 0, 0, 0) := by decide +kernel
theorem r_125_1 : xrow 125 1 = some (.getfield 45, 3, 21, 5, 2, 877) := by decide +kernel
theorem r_125_4 : xrow 125 4 = some (.getfield 149, 3, 10, 0, 0, 910) := by decide +kernel
theorem r_125_7 : xrow 125 7 = some (.ifCond .ne 9, 3, 16, 0, 0, 0) := by decide +kernel
theorem r_125_10 : xrow 125 10 = some (.aload_n 0, 1, 0, 0, 0, 0) := by decide +kernel
theorem r_125_11 : xrow 125 11 = some (.iconst 1, 1, 0, 0, 0, 0) := by decide +kernel
theorem r_125_12 : xrow 125 12 = some (.invokevirtual 128, 3, 157, 0, 0, 903) := by decide +kernel
theorem r_125_15 : xrow 125 15 = some (.ireturn, 1, 0, 0, 0, 0) := by decide +kernel
theorem r_125_16 : xrow 125 16 = some (.iload_n 1, 1, 0, 0, 0, 0) := by decide +kernel
theorem r_125_17 : xrow 125 17 = some (.iconst 1, 1, 0, 0, 0, 0) := by decide +kernel
theorem r_125_18 : xrow 125 18 = some (.if_icmp .lt 20, 3, 38, 0, 0, 0) := by decide +kernel
theorem r_125_21 : xrow 125 21 = some (.iload_n 1, 1, 0, 0, 0, 0) := by decide +kernel
theorem r_125_22 : xrow 125 22 = some (.bipush 10, 2, 0, 0, 0, 0) := by decide +kernel
theorem r_125_24 : xrow 125 24 = some (.if_icmp .gt 14, 3, 38, 0, 0, 0) := by decide +kernel
theorem r_125_27 : xrow 125 27 = some (.iload_n 2, 1, 0, 0, 0, 0) := by decide +kernel
theorem r_125_28 : xrow 125 28 = some (.iconst 1, 1, 0, 0, 0, 0) := by decide +kernel
theorem r_125_29 : xrow 125 29 = some (.if_icmp .lt 9, 3, 38, 0, 0, 0) := by decide +kernel
theorem r_125_32 : xrow 125 32 = some (.iload_n 2, 1, 0, 0, 0, 0) := by decide +kernel
theorem r_125_33 : xrow 125 33 = some (.bipush 10, 2, 0, 0, 0, 0) := by decide +kernel
theorem r_125_35 : xrow 125 35 = some (.if_icmp .le 9, 3, 44, 0, 0, 0) := by decide +kernel
theorem r_125_38 : xrow 125 38 = some (.aload_n 0, 1, 0, 0, 0, 0) := by decide +kernel
theorem r_125_39 : xrow 125 39 = some (.iconst 2, 1, 0, 0, 0, 0) := by decide +kernel
theorem r_125_40 : xrow 125 40 = some (.invokevirtual 128, 3, 157, 0, 0, 903) := by decide +kernel
theorem r_125_43 : xrow 125 43 = some (.ireturn, 1, 0, 0, 0, 0) := by decide +kernel
theorem r_125_44 : xrow 125 44 = some (.aload_n 0, 1, 0, 0, 0, 0) := by decide +kernel
theorem r_125_45 : xrow 125 45 = some (.getfield 65, 3, 21, 9, 2, 883) := by decide +kernel
theorem r_125_48 : xrow 125 48 = some (.iload_n 1, 1, 0, 0, 0, 0) := by decide +kernel
theorem r_125_49 : xrow 125 49 = some (.iload_n 2, 1, 0, 0, 0, 0) := by decide +kernel
theorem r_125_50 : xrow 125 50 = some (.invokevirtual 203, 3, 45, 0, 0, 926) := by decide +kernel
theorem r_125_53 : xrow 125 53 = some (.aload_n 0, 1, 0, 0, 0, 0) := by decide +kernel
theorem r_125_54 : xrow 125 54 = some (.iconst 0, 1, 0, 0, 0, 0) := by decide +kernel
theorem r_125_55 : xrow 125 55 = some (.putfield 59, 3, 21, 8, 0, 881) := by decide +kernel
theorem r_125_58 : xrow 125 58 = some (.aload_n 0, 1, 0, 0, 0, 0) := by decide +kernel
theorem r_125_59 : xrow 125 59 = some (.aload_n 0, 1, 0, 0, 0, 0) := by decide +kernel
theorem r_125_60 : xrow 125 60 = some (.getfield 65, 3, 21, 9, 2, 883) := by decide +kernel
theorem r_125_63 : xrow 125 63 = some (.getfield 155, 3, 15, 2, 0, 912) := by decide +kernel
theorem r_125_66 : xrow 125 66 = some (.invokevirtual 152, 3, 156, 0, 0, 911) := by decide +kernel
theorem r_125_69 : xrow 125 69 = some (.ireturn, 1, 0, 0, 0, 0) := by decide +kernel
theorem r_126_0 : xrow 126 0 = some (.aload_n 0, 1, 0, 0, 0, 0) := by decide +kernel
theorem r_126_1 : xrow 126 1 = some (.getfield 65, 3, 21, 9, 2, 883) := by decide +kernel
theorem r_126_4 : xrow 126 4 = some (.iload_n 1, 1, 0, 0, 0, 0) := by decide +kernel
theorem r_126_5 : xrow 126 5 = some (.invokevirtual 207, 3, 47, 0, 0, 927) := by decide +kernel
theorem r_126_8 : xrow 126 8 = some (.ifCond .ne 9, 3, 17, 0, 0, 0) := by decide +kernel
theorem r_126_11 : xrow 126 11 = some (.aload_n 0, 1, 0, 0, 0, 0) := by decide +kernel
theorem r_126_12 : xrow 126 12 = some (.iconst 1, 1, 0, 0, 0, 0) := by decide +kernel
theorem r_126_13 : xrow 126 13 = some (.invokevirtual 188, 3, 160, 0, 0, 921) := by decide +kernel
theorem r_126_16 : xrow 126 16 = some (.ireturn, 1, 1, 0, 0, 0) := by decide +kernel
theorem r_126_17 : xrow 126 17 = some (.iload_n 2, 1, 0, 0, 0, 0) := by decide +kernel
theorem r_126_18 : xrow 126 18 = some (.ifCond .lt 10, 3, 28, 0, 0, 0) := by decide +kernel
theorem r_126_21 : xrow 126 21 = some (.iload_n 2, 1, 0, 0, 0, 0) := by decide +kernel
theorem r_126_22 : xrow 126 22 = some (.sipush 999, 3, 0, 0, 0, 0) := by decide +kernel
theorem r_126_25 : xrow 126 25 = some (.if_icmp .le 9, 3, 34, 0, 0, 0) := by decide +kernel
theorem r_126_28 : xrow 126 28 = some (.aload_n 0, 1, 0, 0, 0, 0) := by decide +kernel
theorem r_126_29 : xrow 126 29 = some (.iconst 2, 1, 0, 0, 0, 0) := by decide +kernel
theorem r_126_30 : xrow 126 30 = some (.invokevirtual 188, 3, 160, 0, 0, 921) := by decide +kernel
theorem r_126_33 : xrow 126 33 = some (.ireturn, 1, 1, 0, 0, 0) := by decide +kernel
theorem r_126_34 : xrow 126 34 = some (.aload_n 0, 1, 0, 0, 0, 0) := by decide +kernel
theorem r_126_35 : xrow 126 35 = some (.getfield 65, 3, 21, 9, 2, 883) := by decide +kernel
theorem r_126_38 : xrow 126 38 = some (.getfield 210, 3, 15, 5, 2, 928) := by decide +kernel
theorem r_126_41 : xrow 126 41 = some (.iload_n 1, 1, 0, 0, 0, 0) := by decide +kernel
theorem r_126_42 : xrow 126 42 = some (.iload_n 2, 1, 0, 0, 0, 0) := by decide +kernel
theorem r_126_43 : xrow 126 43 = some (.iastore, 1, 0, 0, 0, 0) := by decide +kernel
theorem r_126_44 : xrow 126 44 = some (.aload_n 0, 1, 0, 0, 0, 0) := by decide +kernel
theorem r_126_45 : xrow 126 45 = some (.getfield 65, 3, 21, 9, 2, 883) := by decide +kernel
theorem r_126_48 : xrow 126 48 = some (.dup, 1, 0, 0, 0, 0) := by decide +kernel
theorem r_126_49 : xrow 126 49 = some (.getfield 197, 3, 15, 4, 0, 924) := by decide +kernel
theorem r_126_52 : xrow 126 52 = some (.iconst 1, 1, 0, 0, 0, 0) := by decide +kernel
theorem r_126_53 : xrow 126 53 = some (.iadd, 1, 0, 0, 0, 0) := by decide +kernel
theorem r_126_54 : xrow 126 54 = some (.putfield 197, 3, 15, 4, 0, 924) := by decide +kernel
theorem r_126_57 : xrow 126 57 = some (.aload_n 0, 1, 0, 0, 0, 0) := by decide +kernel
theorem r_126_58 : xrow 126 58 = some (.invokevirtual 200, 3, 159, 0, 0, 925) := by decide +kernel
theorem r_126_61 : xrow 126 61 = some (.ireturn, 1, 1, 0, 0, 0) := by decide +kernel
theorem r_127_0 : xrow 127 0 = some (.aload_n 0, 1, 0, 0, 0, 0) := by decide +kernel
theorem r_127_1 : xrow 127 1 = some (.getfield 65, 3, 21, 9, 2, 883) := by decide +kernel
theorem r_127_4 : xrow 127 4 = some (.iload_n 1, 1, 0, 0, 0, 0) := by decide +kernel
theorem r_127_5 : xrow 127 5 = some (.invokevirtual 207, 3, 47, 0, 0, 927) := by decide +kernel
theorem r_127_8 : xrow 127 8 = some (.ifCond .eq 14, 3, 22, 0, 0, 0) := by decide +kernel
theorem r_127_11 : xrow 127 11 = some (.aload_n 0, 1, 0, 0, 0, 0) := by decide +kernel
theorem r_127_12 : xrow 127 12 = some (.getfield 45, 3, 21, 5, 2, 877) := by decide +kernel
theorem r_127_15 : xrow 127 15 = some (.iload_n 2, 1, 0, 0, 0, 0) := by decide +kernel
theorem r_127_16 : xrow 127 16 = some (.invokevirtual 167, 3, 3, 0, 0, 916) := by decide +kernel
theorem r_127_19 : xrow 127 19 = some (.ifCond .ne 9, 3, 28, 0, 0, 0) := by decide +kernel
theorem r_127_22 : xrow 127 22 = some (.aload_n 0, 1, 0, 0, 0, 0) := by decide +kernel
theorem r_127_23 : xrow 127 23 = some (.iconst 1, 1, 0, 0, 0, 0) := by decide +kernel
theorem r_127_24 : xrow 127 24 = some (.invokevirtual 188, 3, 160, 0, 0, 921) := by decide +kernel
theorem r_127_27 : xrow 127 27 = some (.ireturn, 1, 1, 0, 0, 0) := by decide +kernel
theorem r_127_28 : xrow 127 28 = some (.aload_n 0, 1, 0, 0, 0, 0) := by decide +kernel
theorem r_127_29 : xrow 127 29 = some (.getfield 65, 3, 21, 9, 2, 883) := by decide +kernel
theorem r_127_32 : xrow 127 32 = some (.getfield 213, 3, 15, 7, 2, 929) := by decide +kernel
theorem r_127_35 : xrow 127 35 = some (.iload_n 1, 1, 0, 0, 0, 0) := by decide +kernel
theorem r_127_36 : xrow 127 36 = some (.iaload, 1, 0, 0, 0, 0) := by decide +kernel
theorem r_127_37 : xrow 127 37 = some (.iconst (-1), 1, 0, 0, 0, 0) := by decide +kernel
theorem r_127_38 : xrow 127 38 = some (.if_icmp .eq 9, 3, 47, 0, 0, 0) := by decide +kernel
theorem r_127_41 : xrow 127 41 = some (.aload_n 0, 1, 0, 0, 0, 0) := by decide +kernel
theorem r_127_42 : xrow 127 42 = some (.iconst 5, 1, 0, 0, 0, 0) := by decide +kernel
theorem r_127_43 : xrow 127 43 = some (.invokevirtual 188, 3, 160, 0, 0, 921) := by decide +kernel
theorem r_127_46 : xrow 127 46 = some (.ireturn, 1, 1, 0, 0, 0) := by decide +kernel
theorem r_127_47 : xrow 127 47 = some (.aload_n 0, 1, 0, 0, 0, 0) := by decide +kernel
theorem r_127_48 : xrow 127 48 = some (.getfield 65, 3, 21, 9, 2, 883) := by decide +kernel
theorem r_127_51 : xrow 127 51 = some (.getfield 216, 3, 15, 6, 2, 930) := by decide +kernel
theorem r_127_54 : xrow 127 54 = some (.iload_n 1, 1, 0, 0, 0, 0) := by decide +kernel
theorem r_127_55 : xrow 127 55 = some (.iload_n 2, 1, 0, 0, 0, 0) := by decide +kernel
theorem r_127_56 : xrow 127 56 = some (.iastore, 1, 0, 0, 0, 0) := by decide +kernel
theorem r_127_57 : xrow 127 57 = some (.aload_n 0, 1, 0, 0, 0, 0) := by decide +kernel
theorem r_127_58 : xrow 127 58 = some (.getfield 65, 3, 21, 9, 2, 883) := by decide +kernel
theorem r_127_61 : xrow 127 61 = some (.dup, 1, 0, 0, 0, 0) := by decide +kernel
theorem r_127_62 : xrow 127 62 = some (.getfield 197, 3, 15, 4, 0, 924) := by decide +kernel
theorem r_127_65 : xrow 127 65 = some (.iconst 1, 1, 0, 0, 0, 0) := by decide +kernel
theorem r_127_66 : xrow 127 66 = some (.iadd, 1, 0, 0, 0, 0) := by decide +kernel
theorem r_127_67 : xrow 127 67 = some (.putfield 197, 3, 15, 4, 0, 924) := by decide +kernel
theorem r_127_70 : xrow 127 70 = some (.aload_n 0, 1, 0, 0, 0, 0) := by decide +kernel
theorem r_127_71 : xrow 127 71 = some (.invokevirtual 200, 3, 159, 0, 0, 925) := by decide +kernel
theorem r_127_74 : xrow 127 74 = some (.ireturn, 1, 1, 0, 0, 0) := by decide +kernel
theorem r_128_0 : xrow 128 0 = some (.aload_n 0, 1, 0, 0, 0, 0) := by decide +kernel
theorem r_128_1 : xrow 128 1 = some (.getfield 65, 3, 21, 9, 2, 883) := by decide +kernel
theorem r_128_4 : xrow 128 4 = some (.iload_n 1, 1, 0, 0, 0, 0) := by decide +kernel
theorem r_128_5 : xrow 128 5 = some (.invokevirtual 207, 3, 47, 0, 0, 927) := by decide +kernel
theorem r_128_8 : xrow 128 8 = some (.ifCond .ne 9, 3, 17, 0, 0, 0) := by decide +kernel
theorem r_128_11 : xrow 128 11 = some (.aload_n 0, 1, 0, 0, 0, 0) := by decide +kernel
theorem r_128_12 : xrow 128 12 = some (.iconst 1, 1, 0, 0, 0, 0) := by decide +kernel
theorem r_128_13 : xrow 128 13 = some (.invokevirtual 128, 3, 157, 0, 0, 903) := by decide +kernel
theorem r_128_16 : xrow 128 16 = some (.ireturn, 1, 0, 0, 0, 0) := by decide +kernel
theorem r_128_17 : xrow 128 17 = some (.aload_n 0, 1, 0, 0, 0, 0) := by decide +kernel
theorem r_128_18 : xrow 128 18 = some (.getfield 65, 3, 21, 9, 2, 883) := by decide +kernel
theorem r_128_21 : xrow 128 21 = some (.getfield 213, 3, 15, 7, 2, 929) := by decide +kernel
theorem r_128_24 : xrow 128 24 = some (.iload_n 1, 1, 0, 0, 0, 0) := by decide +kernel
theorem r_128_25 : xrow 128 25 = some (.iaload, 1, 0, 0, 0, 0) := by decide +kernel
theorem r_128_26 : xrow 128 26 = some (.iconst (-1), 1, 0, 0, 0, 0) := by decide +kernel
theorem r_128_27 : xrow 128 27 = some (.if_icmp .eq 9, 3, 36, 0, 0, 0) := by decide +kernel
theorem r_128_30 : xrow 128 30 = some (.aload_n 0, 1, 0, 0, 0, 0) := by decide +kernel
theorem r_128_31 : xrow 128 31 = some (.iconst 5, 1, 0, 0, 0, 0) := by decide +kernel
theorem r_128_32 : xrow 128 32 = some (.invokevirtual 128, 3, 157, 0, 0, 903) := by decide +kernel
theorem r_128_35 : xrow 128 35 = some (.ireturn, 1, 0, 0, 0, 0) := by decide +kernel
theorem r_128_36 : xrow 128 36 = some (.aload_n 0, 1, 0, 0, 0, 0) := by decide +kernel
theorem r_128_37 : xrow 128 37 = some (.getfield 65, 3, 21, 9, 2, 883) := by decide +kernel
theorem r_128_40 : xrow 128 40 = some (.getfield 158, 3, 15, 3, 0, 913) := by decide +kernel
theorem r_128_43 : xrow 128 43 = some (.iconst 5, 1, 0, 0, 0, 0) := by decide +kernel
theorem r_128_44 : xrow 128 44 = some (.if_icmp .lt 9, 3, 53, 0, 0, 0) := by decide +kernel
theorem r_128_47 : xrow 128 47 = some (.aload_n 0, 1, 0, 0, 0, 0) := by decide +kernel
theorem r_128_48 : xrow 128 48 = some (.iconst 3, 1, 0, 0, 0, 0) := by decide +kernel
theorem r_128_49 : xrow 128 49 = some (.invokevirtual 128, 3, 157, 0, 0, 903) := by decide +kernel
theorem r_128_52 : xrow 128 52 = some (.ireturn, 1, 0, 0, 0, 0) := by decide +kernel
theorem r_128_53 : xrow 128 53 = some (.aload_n 0, 1, 0, 0, 0, 0) := by decide +kernel
theorem r_128_54 : xrow 128 54 = some (.aload_n 0, 1, 0, 0, 0, 0) := by decide +kernel
theorem r_128_55 : xrow 128 55 = some (.getfield 65, 3, 21, 9, 2, 883) := by decide +kernel
theorem r_128_58 : xrow 128 58 = some (.iload_n 1, 1, 0, 0, 0, 0) := by decide +kernel
theorem r_128_59 : xrow 128 59 = some (.invokevirtual 218, 3, 49, 0, 0, 931) := by decide +kernel
theorem r_128_62 : xrow 128 62 = some (.invokevirtual 152, 3, 156, 0, 0, 911) := by decide +kernel
theorem r_128_65 : xrow 128 65 = some (.ireturn, 1, 0, 0, 0, 0) := by decide +kernel
theorem r_129_0 : xrow 129 0 = some (.aload_n 0, 1, 0, 0, 0, 0) := by decide +kernel
theorem r_129_1 : xrow 129 1 = some (.getfield 65, 3, 21, 9, 2, 883) := by decide +kernel
theorem r_129_4 : xrow 129 4 = some (.iload_n 1, 1, 0, 0, 0, 0) := by decide +kernel
theorem r_129_5 : xrow 129 5 = some (.invokevirtual 221, 3, 48, 0, 0, 932) := by decide +kernel
theorem r_129_8 : xrow 129 8 = some (.ifCond .eq 14, 3, 22, 0, 0, 0) := by decide +kernel
theorem r_129_11 : xrow 129 11 = some (.aload_n 0, 1, 0, 0, 0, 0) := by decide +kernel
theorem r_129_12 : xrow 129 12 = some (.getfield 45, 3, 21, 5, 2, 877) := by decide +kernel
theorem r_129_15 : xrow 129 15 = some (.iload_n 2, 1, 0, 0, 0, 0) := by decide +kernel
theorem r_129_16 : xrow 129 16 = some (.invokevirtual 167, 3, 3, 0, 0, 916) := by decide +kernel
theorem r_129_19 : xrow 129 19 = some (.ifCond .ne 9, 3, 28, 0, 0, 0) := by decide +kernel
theorem r_129_22 : xrow 129 22 = some (.aload_n 0, 1, 0, 0, 0, 0) := by decide +kernel
theorem r_129_23 : xrow 129 23 = some (.iconst 1, 1, 0, 0, 0, 0) := by decide +kernel
theorem r_129_24 : xrow 129 24 = some (.invokevirtual 188, 3, 160, 0, 0, 921) := by decide +kernel
theorem r_129_27 : xrow 129 27 = some (.ireturn, 1, 1, 0, 0, 0) := by decide +kernel
theorem r_129_28 : xrow 129 28 = some (.iload_n 3, 1, 0, 0, 0, 0) := by decide +kernel
theorem r_129_29 : xrow 129 29 = some (.ifCond .lt 9, 3, 38, 0, 0, 0) := by decide +kernel
theorem r_129_32 : xrow 129 32 = some (.iload_n 3, 1, 0, 0, 0, 0) := by decide +kernel
theorem r_129_33 : xrow 129 33 = some (.bipush 9, 2, 0, 0, 0, 0) := by decide +kernel
theorem r_129_35 : xrow 129 35 = some (.if_icmp .le 9, 3, 44, 0, 0, 0) := by decide +kernel
theorem r_129_38 : xrow 129 38 = some (.aload_n 0, 1, 0, 0, 0, 0) := by decide +kernel
theorem r_129_39 : xrow 129 39 = some (.iconst 2, 1, 0, 0, 0, 0) := by decide +kernel
theorem r_129_40 : xrow 129 40 = some (.invokevirtual 188, 3, 160, 0, 0, 921) := by decide +kernel
theorem r_129_43 : xrow 129 43 = some (.ireturn, 1, 1, 0, 0, 0) := by decide +kernel
theorem r_129_44 : xrow 129 44 = some (.aload_n 0, 1, 0, 0, 0, 0) := by decide +kernel
theorem r_129_45 : xrow 129 45 = some (.getfield 65, 3, 21, 9, 2, 883) := by decide +kernel
theorem r_129_48 : xrow 129 48 = some (.iload_n 1, 1, 0, 0, 0, 0) := by decide +kernel
theorem r_129_49 : xrow 129 49 = some (.iload_n 2, 1, 0, 0, 0, 0) := by decide +kernel
theorem r_129_50 : xrow 129 50 = some (.iload_n 3, 1, 0, 0, 0, 0) := by decide +kernel
theorem r_129_51 : xrow 129 51 = some (.invokevirtual 224, 3, 51, 0, 0, 933) := by decide +kernel
theorem r_129_54 : xrow 129 54 = some (.ifCond .ne 9, 3, 63, 0, 0, 0) := by decide +kernel
theorem r_129_57 : xrow 129 57 = some (.aload_n 0, 1, 0, 0, 0, 0) := by decide +kernel
theorem r_129_58 : xrow 129 58 = some (.iconst 5, 1, 0, 0, 0, 0) := by decide +kernel
theorem r_129_59 : xrow 129 59 = some (.invokevirtual 188, 3, 160, 0, 0, 921) := by decide +kernel
theorem r_129_62 : xrow 129 62 = some (.ireturn, 1, 1, 0, 0, 0) := by decide +kernel
theorem r_129_63 : xrow 129 63 = some (.aload_n 0, 1, 0, 0, 0, 0) := by decide +kernel
theorem r_129_64 : xrow 129 64 = some (.getfield 65, 3, 21, 9, 2, 883) := by decide +kernel
theorem r_129_67 : xrow 129 67 = some (.iload_n 1, 1, 0, 0, 0, 0) := by decide +kernel
theorem r_129_68 : xrow 129 68 = some (.iload_n 2, 1, 0, 0, 0, 0) := by decide +kernel
theorem r_129_69 : xrow 129 69 = some (.iload_n 3, 1, 0, 0, 0, 0) := by decide +kernel
theorem r_129_70 : xrow 129 70 = some (.invokevirtual 228, 3, 52, 0, 0, 934) := by decide +kernel
theorem r_129_73 : xrow 129 73 = some (.aload_n 0, 1, 0, 0, 0, 0) := by decide +kernel
theorem r_129_74 : xrow 129 74 = some (.invokevirtual 200, 3, 159, 0, 0, 925) := by decide +kernel
theorem r_129_77 : xrow 129 77 = some (.ireturn, 1, 1, 0, 0, 0) := by decide +kernel
theorem r_130_0 : xrow 130 0 = some (.aload_n 0, 1, 0, 0, 0, 0) := by decide +kernel
theorem r_130_1 : xrow 130 1 = some (.getfield 65, 3, 21, 9, 2, 883) := by decide +kernel
theorem r_130_4 : xrow 130 4 = some (.iload_n 1, 1, 0, 0, 0, 0) := by decide +kernel
theorem r_130_5 : xrow 130 5 = some (.invokevirtual 221, 3, 48, 0, 0, 932) := by decide +kernel
theorem r_130_8 : xrow 130 8 = some (.ifCond .eq 14, 3, 22, 0, 0, 0) := by decide +kernel
theorem r_130_11 : xrow 130 11 = some (.aload_n 0, 1, 0, 0, 0, 0) := by decide +kernel
theorem r_130_12 : xrow 130 12 = some (.getfield 45, 3, 21, 5, 2, 877) := by decide +kernel
theorem r_130_15 : xrow 130 15 = some (.iload_n 2, 1, 0, 0, 0, 0) := by decide +kernel
theorem r_130_16 : xrow 130 16 = some (.invokevirtual 167, 3, 3, 0, 0, 916) := by decide +kernel
theorem r_130_19 : xrow 130 19 = some (.ifCond .ne 9, 3, 28, 0, 0, 0) := by decide +kernel
theorem r_130_22 : xrow 130 22 = some (.aload_n 0, 1, 0, 0, 0, 0) := by decide +kernel
theorem r_130_23 : xrow 130 23 = some (.iconst 1, 1, 0, 0, 0, 0) := by decide +kernel
theorem r_130_24 : xrow 130 24 = some (.invokevirtual 188, 3, 160, 0, 0, 921) := by decide +kernel
theorem r_130_27 : xrow 130 27 = some (.ireturn, 1, 1, 0, 0, 0) := by decide +kernel
theorem r_130_28 : xrow 130 28 = some (.aload_n 0, 1, 0, 0, 0, 0) := by decide +kernel
theorem r_130_29 : xrow 130 29 = some (.getfield 65, 3, 21, 9, 2, 883) := by decide +kernel
theorem r_130_32 : xrow 130 32 = some (.iload_n 1, 1, 0, 0, 0, 0) := by decide +kernel
theorem r_130_33 : xrow 130 33 = some (.iload_n 2, 1, 0, 0, 0, 0) := by decide +kernel
theorem r_130_34 : xrow 130 34 = some (.invokevirtual 232, 3, 50, 0, 0, 935) := by decide +kernel
theorem r_130_37 : xrow 130 37 = some (.ifCond .ne 9, 3, 46, 0, 0, 0) := by decide +kernel
theorem r_130_40 : xrow 130 40 = some (.aload_n 0, 1, 0, 0, 0, 0) := by decide +kernel
theorem r_130_41 : xrow 130 41 = some (.iconst 5, 1, 0, 0, 0, 0) := by decide +kernel
theorem r_130_42 : xrow 130 42 = some (.invokevirtual 188, 3, 160, 0, 0, 921) := by decide +kernel
theorem r_130_45 : xrow 130 45 = some (.ireturn, 1, 1, 0, 0, 0) := by decide +kernel
theorem r_130_46 : xrow 130 46 = some (.aload_n 0, 1, 0, 0, 0, 0) := by decide +kernel
theorem r_130_47 : xrow 130 47 = some (.getfield 65, 3, 21, 9, 2, 883) := by decide +kernel
theorem r_130_50 : xrow 130 50 = some (.getfield 235, 3, 15, 10, 2, 936) := by decide +kernel
theorem r_130_53 : xrow 130 53 = some (.iload_n 1, 1, 0, 0, 0, 0) := by decide +kernel
theorem r_130_54 : xrow 130 54 = some (.iload_n 2, 1, 0, 0, 0, 0) := by decide +kernel
theorem r_130_55 : xrow 130 55 = some (.iastore, 1, 0, 0, 0, 0) := by decide +kernel
theorem r_130_56 : xrow 130 56 = some (.aload_n 0, 1, 0, 0, 0, 0) := by decide +kernel
theorem r_130_57 : xrow 130 57 = some (.invokevirtual 200, 3, 159, 0, 0, 925) := by decide +kernel
theorem r_130_60 : xrow 130 60 = some (.ireturn, 1, 1, 0, 0, 0) := by decide +kernel
theorem r_131_0 : xrow 131 0 = some (.aload_n 0, 1, 0, 0, 0, 0) := by decide +kernel
theorem r_131_1 : xrow 131 1 = some (.getfield 65, 3, 21, 9, 2, 883) := by decide +kernel
theorem r_131_4 : xrow 131 4 = some (.iload_n 1, 1, 0, 0, 0, 0) := by decide +kernel
theorem r_131_5 : xrow 131 5 = some (.invokevirtual 221, 3, 48, 0, 0, 932) := by decide +kernel
theorem r_131_8 : xrow 131 8 = some (.ifCond .ne 9, 3, 17, 0, 0, 0) := by decide +kernel
theorem r_131_11 : xrow 131 11 = some (.aload_n 0, 1, 0, 0, 0, 0) := by decide +kernel
theorem r_131_12 : xrow 131 12 = some (.iconst 1, 1, 0, 0, 0, 0) := by decide +kernel
theorem r_131_13 : xrow 131 13 = some (.invokevirtual 188, 3, 160, 0, 0, 921) := by decide +kernel
theorem r_131_16 : xrow 131 16 = some (.ireturn, 1, 1, 0, 0, 0) := by decide +kernel
theorem r_131_17 : xrow 131 17 = some (.aload_n 0, 1, 0, 0, 0, 0) := by decide +kernel
theorem r_131_18 : xrow 131 18 = some (.getfield 65, 3, 21, 9, 2, 883) := by decide +kernel
theorem r_131_21 : xrow 131 21 = some (.getfield 235, 3, 15, 10, 2, 936) := by decide +kernel
theorem r_131_24 : xrow 131 24 = some (.iload_n 1, 1, 0, 0, 0, 0) := by decide +kernel
theorem r_131_25 : xrow 131 25 = some (.iaload, 1, 0, 0, 0, 0) := by decide +kernel
theorem r_131_26 : xrow 131 26 = some (.iconst (-1), 1, 0, 0, 0, 0) := by decide +kernel
theorem r_131_27 : xrow 131 27 = some (.if_icmp .ne 9, 3, 36, 0, 0, 0) := by decide +kernel
theorem r_131_30 : xrow 131 30 = some (.aload_n 0, 1, 0, 0, 0, 0) := by decide +kernel
theorem r_131_31 : xrow 131 31 = some (.iconst 5, 1, 0, 0, 0, 0) := by decide +kernel
theorem r_131_32 : xrow 131 32 = some (.invokevirtual 188, 3, 160, 0, 0, 921) := by decide +kernel
theorem r_131_35 : xrow 131 35 = some (.ireturn, 1, 1, 0, 0, 0) := by decide +kernel
theorem r_131_36 : xrow 131 36 = some (.aload_n 0, 1, 0, 0, 0, 0) := by decide +kernel
theorem r_131_37 : xrow 131 37 = some (.getfield 65, 3, 21, 9, 2, 883) := by decide +kernel
theorem r_131_40 : xrow 131 40 = some (.getfield 235, 3, 15, 10, 2, 936) := by decide +kernel
theorem r_131_43 : xrow 131 43 = some (.iload_n 1, 1, 0, 0, 0, 0) := by decide +kernel
theorem r_131_44 : xrow 131 44 = some (.iconst (-1), 1, 0, 0, 0, 0) := by decide +kernel
theorem r_131_45 : xrow 131 45 = some (.iastore, 1, 0, 0, 0, 0) := by decide +kernel
theorem r_131_46 : xrow 131 46 = some (.aload_n 0, 1, 0, 0, 0, 0) := by decide +kernel
theorem r_131_47 : xrow 131 47 = some (.invokevirtual 200, 3, 159, 0, 0, 925) := by decide +kernel
theorem r_131_50 : xrow 131 50 = some (.ireturn, 1, 1, 0, 0, 0) := by decide +kernel
theorem r_132_0 : xrow 132 0 = some (.aload_n 0, 1, 0, 0, 0, 0) := by decide +kernel
theorem r_132_1 : xrow 132 1 = some (.getfield 65, 3, 21, 9, 2, 883) := by decide +kernel
theorem r_132_4 : xrow 132 4 = some (.iload_n 1, 1, 0, 0, 0, 0) := by decide +kernel
theorem r_132_5 : xrow 132 5 = some (.invokevirtual 207, 3, 47, 0, 0, 927) := by decide +kernel
theorem r_132_8 : xrow 132 8 = some (.ifCond .ne 5, 3, 13, 0, 0, 0) := by decide +kernel
theorem r_132_11 : xrow 132 11 = some (.iconst (-1), 1, 0, 0, 0, 0) := by decide +kernel
theorem r_132_12 : xrow 132 12 = some (.ireturn, 1, 0, 0, 0, 0) := by decide +kernel
theorem r_132_13 : xrow 132 13 = some (.aload_n 0, 1, 0, 0, 0, 0) := by decide +kernel
theorem r_132_14 : xrow 132 14 = some (.getfield 65, 3, 21, 9, 2, 883) := by decide +kernel
theorem r_132_17 : xrow 132 17 = some (.getfield 213, 3, 15, 7, 2, 929) := by decide +kernel
theorem r_132_20 : xrow 132 20 = some (.iload_n 1, 1, 0, 0, 0, 0) := by decide +kernel
theorem r_132_21 : xrow 132 21 = some (.iaload, 1, 0, 0, 0, 0) := by decide +kernel
theorem r_132_22 : xrow 132 22 = some (.istore_n 3, 1, 0, 0, 0, 0) := by decide +kernel
theorem r_132_23 : xrow 132 23 = some (.iload_n 2, 1, 0, 0, 0, 0) := by decide +kernel
theorem r_132_24 : xrow 132 24 = some (.tableswitch 73 0 2 #[28, 38, 68], 28, 0, 0, 0, 0) := by decide +kernel
theorem r_132_52 : xrow 132 52 = some (.aload_n 0, 1, 0, 0, 0, 0) := by decide +kernel
theorem r_132_53 : xrow 132 53 = some (.getfield 65, 3, 21, 9, 2, 883) := by decide +kernel
theorem r_132_56 : xrow 132 56 = some (.getfield 210, 3, 15, 5, 2, 928) := by decide +kernel
theorem r_132_59 : xrow 132 59 = some (.iload_n 1, 1, 0, 0, 0, 0) := by decide +kernel
theorem r_132_60 : xrow 132 60 = some (.iaload, 1, 0, 0, 0, 0) := by decide +kernel
theorem r_132_61 : xrow 132 61 = some (.ireturn, 1, 0, 0, 0, 0) := by decide +kernel
theorem r_132_62 : xrow 132 62 = some (.iload_n 3, 1, 0, 0, 0, 0) := by decide +kernel
theorem r_132_63 : xrow 132 63 = some (.iconst (-1), 1, 0, 0, 0, 0) := by decide +kernel
theorem r_132_64 : xrow 132 64 = some (.if_icmp .ne 15, 3, 79, 0, 0, 0) := by decide +kernel
theorem r_132_67 : xrow 132 67 = some (.aload_n 0, 1, 0, 0, 0, 0) := by decide +kernel
theorem r_132_68 : xrow 132 68 = some (.getfield 65, 3, 21, 9, 2, 883) := by decide +kernel
theorem r_132_71 : xrow 132 71 = some (.getfield 216, 3, 15, 6, 2, 930) := by decide +kernel
theorem r_132_74 : xrow 132 74 = some (.iload_n 1, 1, 0, 0, 0, 0) := by decide +kernel
theorem r_132_75 : xrow 132 75 = some (.iaload, 1, 0, 0, 0, 0) := by decide +kernel
theorem r_132_76 : xrow 132 76 = some (.goto 15, 3, 91, 0, 0, 0) := by decide +kernel
theorem r_132_79 : xrow 132 79 = some (.aload_n 0, 1, 0, 0, 0, 0) := by decide +kernel
theorem r_132_80 : xrow 132 80 = some (.getfield 65, 3, 21, 9, 2, 883) := by decide +kernel
theorem r_132_83 : xrow 132 83 = some (.getfield 235, 3, 15, 10, 2, 936) := by decide +kernel
theorem r_132_86 : xrow 132 86 = some (.iload_n 3, 1, 0, 0, 0, 0) := by decide +kernel
theorem r_132_87 : xrow 132 87 = some (.iaload, 1, 0, 0, 0, 0) := by decide +kernel
theorem r_132_88 : xrow 132 88 = some (.invokestatic 238, 3, 133, 0, 0, 937) := by decide +kernel
theorem r_132_91 : xrow 132 91 = some (.ireturn, 1, 0, 0, 0, 0) := by decide +kernel
theorem r_132_92 : xrow 132 92 = some (.iload_n 3, 1, 0, 0, 0, 0) := by decide +kernel
theorem r_132_93 : xrow 132 93 = some (.invokestatic 238, 3, 133, 0, 0, 937) := by decide +kernel
theorem r_132_96 : xrow 132 96 = some (.ireturn, 1, 0, 0, 0, 0) := by decide +kernel
theorem r_132_97 : xrow 132 97 = some (.iconst (-1), 1, 0, 0, 0, 0) := by decide +kernel
theorem r_132_98 : xrow 132 98 = some (.ireturn, 1, 0, 0, 0, 0) := by decide +kernel
theorem r_133_0 : xrow 133 0 = some (.iload_n 0, 1, 0, 0, 0, 0) := by decide +kernel
theorem r_133_1 : xrow 133 1 = some (.iconst (-1), 1, 0, 0, 0, 0) := by decide +kernel
theorem r_133_2 : xrow 133 2 = some (.if_icmp .ne 8, 3, 10, 0, 0, 0) := by decide +kernel
theorem r_133_5 : xrow 133 5 = some (.bipush (-2), 2, 0, 0, 0, 0) := by decide +kernel
theorem r_133_7 : xrow 133 7 = some (.goto 4, 3, 11, 0, 0, 0) := by decide +kernel
theorem r_133_10 : xrow 133 10 = some (.iload_n 0, 1, 0, 0, 0, 0) := by decide +kernel
theorem r_133_11 : xrow 133 11 = some (.ireturn, 1, 0, 0, 0, 0) := by decide +kernel
theorem r_134_0 : xrow 134 0 = some (.aload_n 0, 1, 0, 0, 0, 0) := by decide +kernel
theorem r_134_1 : xrow 134 1 = some (.getfield 65, 3, 21, 9, 2, 883) := by decide +kernel
theorem r_134_4 : xrow 134 4 = some (.iload_n 1, 1, 0, 0, 0, 0) := by decide +kernel
theorem r_134_5 : xrow 134 5 = some (.invokevirtual 207, 3, 47, 0, 0, 927) := by decide +kernel
theorem r_134_8 : xrow 134 8 = some (.ifCond .eq 34, 3, 42, 0, 0, 0) := by decide +kernel
theorem r_134_11 : xrow 134 11 = some (.iload_n 2, 1, 0, 0, 0, 0) := by decide +kernel
theorem r_134_12 : xrow 134 12 = some (.ifCond .lt 30, 3, 42, 0, 0, 0) := by decide +kernel
theorem r_134_15 : xrow 134 15 = some (.iload_n 2, 1, 0, 0, 0, 0) := by decide +kernel
theorem r_134_16 : xrow 134 16 = some (.iconst 4, 1, 0, 0, 0, 0) := by decide +kernel
theorem r_134_17 : xrow 134 17 = some (.if_icmp .ge 25, 3, 42, 0, 0, 0) := by decide +kernel
theorem r_134_20 : xrow 134 20 = some (.aload_n 0, 1, 0, 0, 0, 0) := by decide +kernel
theorem r_134_21 : xrow 134 21 = some (.getfield 45, 3, 21, 5, 2, 877) := by decide +kernel
theorem r_134_24 : xrow 134 24 = some (.iload_n 3, 1, 0, 0, 0, 0) := by decide +kernel
theorem r_134_25 : xrow 134 25 = some (.invokevirtual 167, 3, 3, 0, 0, 916) := by decide +kernel
theorem r_134_28 : xrow 134 28 = some (.ifCond .eq 14, 3, 42, 0, 0, 0) := by decide +kernel
theorem r_134_31 : xrow 134 31 = some (.iload 4, 2, 0, 0, 0, 0) := by decide +kernel
theorem r_134_33 : xrow 134 33 = some (.ifCond .lt 9, 3, 42, 0, 0, 0) := by decide +kernel
theorem r_134_36 : xrow 134 36 = some (.iload 4, 2, 0, 0, 0, 0) := by decide +kernel
theorem r_134_38 : xrow 134 38 = some (.iconst 3, 1, 0, 0, 0, 0) := by decide +kernel
theorem r_134_39 : xrow 134 39 = some (.if_icmp .le 9, 3, 48, 0, 0, 0) := by decide +kernel
theorem r_134_42 : xrow 134 42 = some (.aload_n 0, 1, 0, 0, 0, 0) := by decide +kernel
theorem r_134_43 : xrow 134 43 = some (.iconst 1, 1, 0, 0, 0, 0) := by decide +kernel
theorem r_134_44 : xrow 134 44 = some (.invokevirtual 128, 3, 157, 0, 0, 903) := by decide +kernel
theorem r_134_47 : xrow 134 47 = some (.ireturn, 1, 0, 0, 0, 0) := by decide +kernel
theorem r_134_48 : xrow 134 48 = some (.aload_n 0, 1, 0, 0, 0, 0) := by decide +kernel
theorem r_134_49 : xrow 134 49 = some (.getfield 74, 3, 21, 10, 2, 886) := by decide +kernel
theorem r_134_52 : xrow 134 52 = some (.iload_n 1, 1, 0, 0, 0, 0) := by decide +kernel
theorem r_134_53 : xrow 134 53 = some (.iload_n 2, 1, 0, 0, 0, 0) := by decide +kernel
theorem r_134_54 : xrow 134 54 = some (.iload_n 3, 1, 0, 0, 0, 0) := by decide +kernel
theorem r_134_55 : xrow 134 55 = some (.invokevirtual 241, 3, 80, 0, 0, 938) := by decide +kernel
theorem r_134_58 : xrow 134 58 = some (.iload 4, 2, 0, 0, 0, 0) := by decide +kernel
theorem r_134_60 : xrow 134 60 = some (.tableswitch 64 0 2 #[28, 40, 52], 28, 0, 0, 0, 0) := by decide +kernel
theorem r_134_88 : xrow 134 88 = some (.aload_n 0, 1, 0, 0, 0, 0) := by decide +kernel
theorem r_134_89 : xrow 134 89 = some (.aload_n 0, 1, 0, 0, 0, 0) := by decide +kernel
theorem r_134_90 : xrow 134 90 = some (.getfield 74, 3, 21, 10, 2, 886) := by decide +kernel
theorem r_134_93 : xrow 134 93 = some (.getfield 244, 3, 18, 6, 0, 939) := by decide +kernel
theorem r_134_96 : xrow 134 96 = some (.invokevirtual 152, 3, 156, 0, 0, 911) := by decide +kernel
theorem r_134_99 : xrow 134 99 = some (.ireturn, 1, 0, 0, 0, 0) := by decide +kernel
theorem r_134_100 : xrow 134 100 = some (.aload_n 0, 1, 0, 0, 0, 0) := by decide +kernel
theorem r_134_101 : xrow 134 101 = some (.aload_n 0, 1, 0, 0, 0, 0) := by decide +kernel
theorem r_134_102 : xrow 134 102 = some (.getfield 74, 3, 21, 10, 2, 886) := by decide +kernel
theorem r_134_105 : xrow 134 105 = some (.getfield 247, 3, 18, 7, 0, 940) := by decide +kernel
theorem r_134_108 : xrow 134 108 = some (.invokevirtual 152, 3, 156, 0, 0, 911) := by decide +kernel
theorem r_134_111 : xrow 134 111 = some (.ireturn, 1, 0, 0, 0, 0) := by decide +kernel
theorem r_134_112 : xrow 134 112 = some (.aload_n 0, 1, 0, 0, 0, 0) := by decide +kernel
theorem r_134_113 : xrow 134 113 = some (.aload_n 0, 1, 0, 0, 0, 0) := by decide +kernel
theorem r_134_114 : xrow 134 114 = some (.getfield 74, 3, 21, 10, 2, 886) := by decide +kernel
theorem r_134_117 : xrow 134 117 = some (.getfield 250, 3, 18, 8, 0, 941) := by decide +kernel
theorem r_134_120 : xrow 134 120 = some (.invokevirtual 152, 3, 156, 0, 0, 911) := by decide +kernel
theorem r_134_123 : xrow 134 123 = some (.ireturn, 1, 0, 0, 0, 0) := by decide +kernel
theorem r_134_124 : xrow 134 124 = some (.aload_n 0, 1, 0, 0, 0, 0) := by decide +kernel
theorem r_134_125 : xrow 134 125 = some (.aload_n 0, 1, 0, 0, 0, 0) := by decide +kernel
theorem r_134_126 : xrow 134 126 = some (.getfield 74, 3, 21, 10, 2, 886) := by decide +kernel
theorem r_134_129 : xrow 134 129 = some (.getfield 253, 3, 18, 9, 0, 942) := by decide +kernel
theorem r_134_132 : xrow 134 132 = some (.invokevirtual 152, 3, 156, 0, 0, 911) := by decide +kernel
theorem r_134_135 : xrow 134 135 = some (.ireturn, 1, 0, 0, 0, 0) := by decide +kernel
theorem r_135_0 : xrow 135 0 = some (.aload_n 0, 1, 0, 0, 0, 0) := by decide +kernel
theorem r_135_1 : xrow 135 1 = some (.iload_n 1, 1, 0, 0, 0, 0) := by decide +kernel
theorem r_135_2 : xrow 135 2 = some (.iload_n 2, 1, 0, 0, 0, 0) := by decide +kernel
theorem r_135_3 : xrow 135 3 = some (.invokevirtual 256, 3, 154, 0, 0, 943) := by decide +kernel
theorem r_135_6 : xrow 135 6 = some (.ifCond .ne 9, 3, 15, 0, 0, 0) := by decide +kernel
theorem r_135_9 : xrow 135 9 = some (.aload_n 0, 1, 0, 0, 0, 0) := by decide +kernel
theorem r_135_10 : xrow 135 10 = some (.iconst 1, 1, 0, 0, 0, 0) := by decide +kernel
theorem r_135_11 : xrow 135 11 = some (.invokevirtual 128, 3, 157, 0, 0, 903) := by decide +kernel
theorem r_135_14 : xrow 135 14 = some (.ireturn, 1, 0, 0, 0, 0) := by decide +kernel
theorem r_135_15 : xrow 135 15 = some (.aload_n 0, 1, 0, 0, 0, 0) := by decide +kernel
theorem r_135_16 : xrow 135 16 = some (.getfield 83, 3, 21, 11, 2, 889) := by decide +kernel
theorem r_135_19 : xrow 135 19 = some (.iload_n 2, 1, 0, 0, 0, 0) := by decide +kernel
theorem r_135_20 : xrow 135 20 = some (.invokevirtual 260, 3, 102, 0, 0, 944) := by decide +kernel
theorem r_135_23 : xrow 135 23 = some (.aload_n 0, 1, 0, 0, 0, 0) := by decide +kernel
theorem r_135_24 : xrow 135 24 = some (.getfield 83, 3, 21, 11, 2, 889) := by decide +kernel
theorem r_135_27 : xrow 135 27 = some (.aload_n 0, 1, 0, 0, 0, 0) := by decide +kernel
theorem r_135_28 : xrow 135 28 = some (.getfield 65, 3, 21, 9, 2, 883) := by decide +kernel
theorem r_135_31 : xrow 135 31 = some (.invokevirtual 263, 3, 56, 0, 0, 945) := by decide +kernel
theorem r_135_34 : xrow 135 34 = some (.iload_n 1, 1, 0, 0, 0, 0) := by decide +kernel
theorem r_135_35 : xrow 135 35 = some (.invokevirtual 267, 3, 103, 0, 0, 946) := by decide +kernel
theorem r_135_38 : xrow 135 38 = some (.lstore_n 3, 1, 0, 0, 0, 0) := by decide +kernel
theorem r_135_39 : xrow 135 39 = some (.lload_n 3, 1, 0, 0, 0, 0) := by decide +kernel
theorem r_135_40 : xrow 135 40 = some (.ldc2_w 271, 3, 1, 0, 0, 947) := by decide +kernel
theorem r_135_43 : xrow 135 43 = some (.lcmp, 1, 0, 0, 0, 0) := by decide +kernel
theorem r_135_44 : xrow 135 44 = some (.ifCond .lt 12, 3, 56, 0, 0, 0) := by decide +kernel
theorem r_135_47 : xrow 135 47 = some (.aload_n 0, 1, 0, 0, 0, 0) := by decide +kernel
theorem r_135_48 : xrow 135 48 = some (.bipush 6, 2, 0, 0, 0, 0) := by decide +kernel
theorem r_135_50 : xrow 135 50 = some (.invokevirtual 128, 3, 157, 0, 0, 903) := by decide +kernel
theorem r_135_53 : xrow 135 53 = some (.goto 9, 3, 62, 0, 0, 0) := by decide +kernel
theorem r_135_56 : xrow 135 56 = some (.aload_n 0, 1, 0, 0, 0, 0) := by decide +kernel
theorem r_135_57 : xrow 135 57 = some (.lload_n 3, 1, 0, 0, 0, 0) := by decide +kernel
theorem r_135_58 : xrow 135 58 = some (.l2i, 1, 0, 0, 0, 0) := by decide +kernel
theorem r_135_59 : xrow 135 59 = some (.invokevirtual 152, 3, 156, 0, 0, 911) := by decide +kernel
theorem r_135_62 : xrow 135 62 = some (.ireturn, 1, 0, 0, 0, 0) := by decide +kernel
theorem r_136_0 : xrow 136 0 = some (.aload_n 0, 1, 0, 0, 0, 0) := by decide +kernel
theorem r_136_1 : xrow 136 1 = some (.iload_n 1, 1, 0, 0, 0, 0) := by decide +kernel
theorem r_136_2 : xrow 136 2 = some (.iload_n 2, 1, 0, 0, 0, 0) := by decide +kernel
theorem r_136_3 : xrow 136 3 = some (.invokevirtual 256, 3, 154, 0, 0, 943) := by decide +kernel
theorem r_136_6 : xrow 136 6 = some (.ifCond .ne 9, 3, 15, 0, 0, 0) := by decide +kernel
theorem r_136_9 : xrow 136 9 = some (.aload_n 0, 1, 0, 0, 0, 0) := by decide +kernel
theorem r_136_10 : xrow 136 10 = some (.iconst 1, 1, 0, 0, 0, 0) := by decide +kernel
theorem r_136_11 : xrow 136 11 = some (.invokevirtual 273, 3, 158, 0, 0, 948) := by decide +kernel
theorem r_136_14 : xrow 136 14 = some (.lreturn, 1, 0, 0, 0, 0) := by decide +kernel
theorem r_136_15 : xrow 136 15 = some (.aload_n 0, 1, 0, 0, 0, 0) := by decide +kernel
theorem r_136_16 : xrow 136 16 = some (.getfield 65, 3, 21, 9, 2, 883) := by decide +kernel
theorem r_136_19 : xrow 136 19 = some (.invokevirtual 263, 3, 56, 0, 0, 945) := by decide +kernel
theorem r_136_22 : xrow 136 22 = some (.istore 4, 2, 0, 0, 0, 0) := by decide +kernel
theorem r_136_24 : xrow 136 24 = some (.aload_n 0, 1, 0, 0, 0, 0) := by decide +kernel
theorem r_136_25 : xrow 136 25 = some (.getfield 87, 3, 21, 12, 2, 890) := by decide +kernel
theorem r_136_28 : xrow 136 28 = some (.iload_n 2, 1, 0, 0, 0, 0) := by decide +kernel
theorem r_136_29 : xrow 136 29 = some (.invokevirtual 260, 3, 102, 0, 0, 944) := by decide +kernel
theorem r_136_32 : xrow 136 32 = some (.aload_n 0, 1, 0, 0, 0, 0) := by decide +kernel
theorem r_136_33 : xrow 136 33 = some (.getfield 87, 3, 21, 12, 2, 890) := by decide +kernel
theorem r_136_36 : xrow 136 36 = some (.iload 4, 2, 0, 0, 0, 0) := by decide +kernel
theorem r_136_38 : xrow 136 38 = some (.iload_n 1, 1, 0, 0, 0, 0) := by decide +kernel
theorem r_136_39 : xrow 136 39 = some (.invokevirtual 267, 3, 103, 0, 0, 946) := by decide +kernel
theorem r_136_42 : xrow 136 42 = some (.lstore 5, 2, 0, 0, 0, 0) := by decide +kernel
theorem r_136_44 : xrow 136 44 = some (.lload 5, 2, 0, 0, 0, 0) := by decide +kernel
theorem r_136_46 : xrow 136 46 = some (.ldc2_w 271, 3, 1, 0, 0, 947) := by decide +kernel
theorem r_136_49 : xrow 136 49 = some (.lcmp, 1, 0, 0, 0, 0) := by decide +kernel
theorem r_136_50 : xrow 136 50 = some (.ifCond .lt 10, 3, 60, 0, 0, 0) := by decide +kernel
theorem r_136_53 : xrow 136 53 = some (.aload_n 0, 1, 0, 0, 0, 0) := by decide +kernel
theorem r_136_54 : xrow 136 54 = some (.bipush 6, 2, 0, 0, 0, 0) := by decide +kernel
theorem r_136_56 : xrow 136 56 = some (.invokevirtual 273, 3, 158, 0, 0, 948) := by decide +kernel
theorem r_136_59 : xrow 136 59 = some (.lreturn, 1, 0, 0, 0, 0) := by decide +kernel
theorem r_136_60 : xrow 136 60 = some (.aload_n 0, 1, 0, 0, 0, 0) := by decide +kernel
theorem r_136_61 : xrow 136 61 = some (.iconst 0, 1, 0, 0, 0, 0) := by decide +kernel
theorem r_136_62 : xrow 136 62 = some (.putfield 118, 3, 21, 18, 0, 900) := by decide +kernel
theorem r_136_65 : xrow 136 65 = some (.lload 5, 2, 0, 0, 0, 0) := by decide +kernel
theorem r_136_67 : xrow 136 67 = some (.aload_n 0, 1, 0, 0, 0, 0) := by decide +kernel
theorem r_136_68 : xrow 136 68 = some (.getfield 65, 3, 21, 9, 2, 883) := by decide +kernel
theorem r_136_71 : xrow 136 71 = some (.iload 4, 2, 0, 0, 0, 0) := by decide +kernel
theorem r_136_73 : xrow 136 73 = some (.invokevirtual 277, 3, 63, 0, 0, 949) := by decide +kernel
theorem r_136_76 : xrow 136 76 = some (.iload_n 3, 1, 0, 0, 0, 0) := by decide +kernel
theorem r_136_77 : xrow 136 77 = some (.invokestatic 280, 3, 161, 0, 0, 950) := by decide +kernel
theorem r_136_80 : xrow 136 80 = some (.lreturn, 1, 0, 0, 0, 0) := by decide +kernel
theorem r_137_0 : xrow 137 0 = some (.aload_n 0, 1, 0, 0, 0, 0) := by decide +kernel
theorem r_137_1 : xrow 137 1 = some (.iload_n 1, 1, 0, 0, 0, 0) := by decide +kernel
theorem r_137_2 : xrow 137 2 = some (.iload_n 2, 1, 0, 0, 0, 0) := by decide +kernel
theorem r_137_3 : xrow 137 3 = some (.invokevirtual 256, 3, 154, 0, 0, 943) := by decide +kernel
theorem r_137_6 : xrow 137 6 = some (.ifCond .ne 9, 3, 15, 0, 0, 0) := by decide +kernel
theorem r_137_9 : xrow 137 9 = some (.aload_n 0, 1, 0, 0, 0, 0) := by decide +kernel
theorem r_137_10 : xrow 137 10 = some (.iconst 1, 1, 0, 0, 0, 0) := by decide +kernel
theorem r_137_11 : xrow 137 11 = some (.invokevirtual 128, 3, 157, 0, 0, 903) := by decide +kernel
theorem r_137_14 : xrow 137 14 = some (.ireturn, 1, 0, 0, 0, 0) := by decide +kernel
theorem r_137_15 : xrow 137 15 = some (.aload_n 0, 1, 0, 0, 0, 0) := by decide +kernel
theorem r_137_16 : xrow 137 16 = some (.getfield 65, 3, 21, 9, 2, 883) := by decide +kernel
theorem r_137_19 : xrow 137 19 = some (.invokevirtual 263, 3, 56, 0, 0, 945) := by decide +kernel
theorem r_137_22 : xrow 137 22 = some (.istore 4, 2, 0, 0, 0, 0) := by decide +kernel
theorem r_137_24 : xrow 137 24 = some (.aload_n 0, 1, 0, 0, 0, 0) := by decide +kernel
theorem r_137_25 : xrow 137 25 = some (.getfield 65, 3, 21, 9, 2, 883) := by decide +kernel
theorem r_137_28 : xrow 137 28 = some (.getfield 284, 3, 15, 8, 2, 951) := by decide +kernel
theorem r_137_31 : xrow 137 31 = some (.iload_n 1, 1, 0, 0, 0, 0) := by decide +kernel
theorem r_137_32 : xrow 137 32 = some (.iaload, 1, 0, 0, 0, 0) := by decide +kernel
theorem r_137_33 : xrow 137 33 = some (.aload_n 0, 1, 0, 0, 0, 0) := by decide +kernel
theorem r_137_34 : xrow 137 34 = some (.getfield 65, 3, 21, 9, 2, 883) := by decide +kernel
theorem r_137_37 : xrow 137 37 = some (.iload 4, 2, 0, 0, 0, 0) := by decide +kernel
theorem r_137_39 : xrow 137 39 = some (.invokevirtual 287, 3, 62, 0, 0, 952) := by decide +kernel
theorem r_137_42 : xrow 137 42 = some (.iand, 1, 0, 0, 0, 0) := by decide +kernel
theorem r_137_43 : xrow 137 43 = some (.ifCond .eq 9, 3, 52, 0, 0, 0) := by decide +kernel
theorem r_137_46 : xrow 137 46 = some (.aload_n 0, 1, 0, 0, 0, 0) := by decide +kernel
theorem r_137_47 : xrow 137 47 = some (.iconst 5, 1, 0, 0, 0, 0) := by decide +kernel
theorem r_137_48 : xrow 137 48 = some (.invokevirtual 128, 3, 157, 0, 0, 903) := by decide +kernel
theorem r_137_51 : xrow 137 51 = some (.ireturn, 1, 0, 0, 0, 0) := by decide +kernel
theorem r_137_52 : xrow 137 52 = some (.iload_n 3, 1, 0, 0, 0, 0) := by decide +kernel
theorem r_137_53 : xrow 137 53 = some (.ifCond .eq 10, 3, 63, 0, 0, 0) := by decide +kernel
theorem r_137_56 : xrow 137 56 = some (.aload_n 0, 1, 0, 0, 0, 0) := by decide +kernel
theorem r_137_57 : xrow 137 57 = some (.getfield 87, 3, 21, 12, 2, 890) := by decide +kernel
theorem r_137_60 : xrow 137 60 = some (.goto 7, 3, 67, 0, 0, 0) := by decide +kernel
theorem r_137_63 : xrow 137 63 = some (.aload_n 0, 1, 0, 0, 0, 0) := by decide +kernel
theorem r_137_64 : xrow 137 64 = some (.getfield 83, 3, 21, 11, 2, 889) := by decide +kernel
theorem r_137_67 : xrow 137 67 = some (.astore 5, 2, 0, 0, 0, 0) := by decide +kernel
theorem r_137_69 : xrow 137 69 = some (.aload 5, 2, 0, 0, 0, 0) := by decide +kernel
theorem r_137_71 : xrow 137 71 = some (.iload_n 2, 1, 0, 0, 0, 0) := by decide +kernel
theorem r_137_72 : xrow 137 72 = some (.invokevirtual 260, 3, 102, 0, 0, 944) := by decide +kernel
theorem r_137_75 : xrow 137 75 = some (.aload 5, 2, 0, 0, 0, 0) := by decide +kernel
theorem r_137_77 : xrow 137 77 = some (.iload 4, 2, 0, 0, 0, 0) := by decide +kernel
theorem r_137_79 : xrow 137 79 = some (.iload_n 1, 1, 0, 0, 0, 0) := by decide +kernel
theorem r_137_80 : xrow 137 80 = some (.invokevirtual 267, 3, 103, 0, 0, 946) := by decide +kernel
theorem r_137_83 : xrow 137 83 = some (.ldc2_w 271, 3, 1, 0, 0, 947) := by decide +kernel
theorem r_137_86 : xrow 137 86 = some (.lcmp, 1, 0, 0, 0, 0) := by decide +kernel
theorem r_137_87 : xrow 137 87 = some (.ifCond .lt 10, 3, 97, 0, 0, 0) := by decide +kernel
theorem r_137_90 : xrow 137 90 = some (.aload_n 0, 1, 0, 0, 0, 0) := by decide +kernel
theorem r_137_91 : xrow 137 91 = some (.bipush 6, 2, 0, 0, 0, 0) := by decide +kernel
theorem r_137_93 : xrow 137 93 = some (.invokevirtual 128, 3, 157, 0, 0, 903) := by decide +kernel
theorem r_137_96 : xrow 137 96 = some (.ireturn, 1, 0, 0, 0, 0) := by decide +kernel
theorem r_137_97 : xrow 137 97 = some (.aload_n 0, 1, 0, 0, 0, 0) := by decide +kernel
theorem r_137_98 : xrow 137 98 = some (.iload_n 1, 1, 0, 0, 0, 0) := by decide +kernel
theorem r_137_99 : xrow 137 99 = some (.iload_n 2, 1, 0, 0, 0, 0) := by decide +kernel
theorem r_137_100 : xrow 137 100 = some (.if_icmp .ne 7, 3, 107, 0, 0, 0) := by decide +kernel
theorem r_137_103 : xrow 137 103 = some (.iconst 4, 1, 0, 0, 0, 0) := by decide +kernel
theorem r_137_104 : xrow 137 104 = some (.goto 11, 3, 115, 0, 0, 0) := by decide +kernel
theorem r_137_107 : xrow 137 107 = some (.aload 5, 2, 0, 0, 0, 0) := by decide +kernel
theorem r_137_109 : xrow 137 109 = some (.iload 4, 2, 0, 0, 0, 0) := by decide +kernel
theorem r_137_111 : xrow 137 111 = some (.iload_n 1, 1, 0, 0, 0, 0) := by decide +kernel
theorem r_137_112 : xrow 137 112 = some (.invokevirtual 290, 3, 113, 0, 0, 953) := by decide +kernel
theorem r_137_115 : xrow 137 115 = some (.invokevirtual 152, 3, 156, 0, 0, 911) := by decide +kernel
theorem r_137_118 : xrow 137 118 = some (.ireturn, 1, 0, 0, 0, 0) := by decide +kernel
theorem r_138_0 : xrow 138 0 = some (.aload_n 0, 1, 0, 0, 0, 0) := by decide +kernel
theorem r_138_1 : xrow 138 1 = some (.getfield 65, 3, 21, 9, 2, 883) := by decide +kernel
theorem r_138_4 : xrow 138 4 = some (.invokevirtual 293, 3, 55, 0, 0, 954) := by decide +kernel
theorem r_138_7 : xrow 138 7 = some (.ireturn, 1, 0, 0, 0, 0) := by decide +kernel
theorem r_139_0 : xrow 139 0 = some (.iload_n 1, 1, 0, 0, 0, 0) := by decide +kernel
theorem r_139_1 : xrow 139 1 = some (.ifCond .lt 25, 3, 26, 0, 0, 0) := by decide +kernel
theorem r_139_4 : xrow 139 4 = some (.iload_n 1, 1, 0, 0, 0, 0) := by decide +kernel
theorem r_139_5 : xrow 139 5 = some (.aload_n 0, 1, 0, 0, 0, 0) := by decide +kernel
theorem r_139_6 : xrow 139 6 = some (.getfield 65, 3, 21, 9, 2, 883) := by decide +kernel
theorem r_139_9 : xrow 139 9 = some (.invokevirtual 293, 3, 55, 0, 0, 954) := by decide +kernel
theorem r_139_12 : xrow 139 12 = some (.if_icmp .ge 14, 3, 26, 0, 0, 0) := by decide +kernel
theorem r_139_15 : xrow 139 15 = some (.aload_n 0, 1, 0, 0, 0, 0) := by decide +kernel
theorem r_139_16 : xrow 139 16 = some (.getfield 65, 3, 21, 9, 2, 883) := by decide +kernel
theorem r_139_19 : xrow 139 19 = some (.iload_n 2, 1, 0, 0, 0, 0) := by decide +kernel
theorem r_139_20 : xrow 139 20 = some (.invokevirtual 221, 3, 48, 0, 0, 932) := by decide +kernel
theorem r_139_23 : xrow 139 23 = some (.ifCond .ne 5, 3, 28, 0, 0, 0) := by decide +kernel
theorem r_139_26 : xrow 139 26 = some (.iconst (-1), 1, 0, 0, 0, 0) := by decide +kernel
theorem r_139_27 : xrow 139 27 = some (.ireturn, 1, 0, 0, 0, 0) := by decide +kernel
theorem r_139_28 : xrow 139 28 = some (.aload_n 0, 1, 0, 0, 0, 0) := by decide +kernel
theorem r_139_29 : xrow 139 29 = some (.getfield 65, 3, 21, 9, 2, 883) := by decide +kernel
theorem r_139_32 : xrow 139 32 = some (.aload_n 0, 1, 0, 0, 0, 0) := by decide +kernel
theorem r_139_33 : xrow 139 33 = some (.getfield 65, 3, 21, 9, 2, 883) := by decide +kernel
theorem r_139_36 : xrow 139 36 = some (.iload_n 1, 1, 0, 0, 0, 0) := by decide +kernel
theorem r_139_37 : xrow 139 37 = some (.invokevirtual 296, 3, 59, 0, 0, 955) := by decide +kernel
theorem r_139_40 : xrow 139 40 = some (.iload_n 2, 1, 0, 0, 0, 0) := by decide +kernel
theorem r_139_41 : xrow 139 41 = some (.invokevirtual 299, 3, 61, 0, 0, 956) := by decide +kernel
theorem r_139_44 : xrow 139 44 = some (.ireturn, 1, 0, 0, 0, 0) := by decide +kernel
theorem r_140_0 : xrow 140 0 = some (.aload_n 0, 1, 0, 0, 0, 0) := by decide +kernel
theorem r_140_1 : xrow 140 1 = some (.iload_n 1, 1, 0, 0, 0, 0) := by decide +kernel
theorem r_140_2 : xrow 140 2 = some (.iload_n 2, 1, 0, 0, 0, 0) := by decide +kernel
theorem r_140_3 : xrow 140 3 = some (.invokevirtual 256, 3, 154, 0, 0, 943) := by decide +kernel
theorem r_140_6 : xrow 140 6 = some (.ifCond .eq 20, 3, 26, 0, 0, 0) := by decide +kernel
theorem r_140_9 : xrow 140 9 = some (.iload 4, 2, 0, 0, 0, 0) := by decide +kernel
theorem r_140_11 : xrow 140 11 = some (.ifCond .lt 15, 3, 26, 0, 0, 0) := by decide +kernel
theorem r_140_14 : xrow 140 14 = some (.iload 4, 2, 0, 0, 0, 0) := by decide +kernel
theorem r_140_16 : xrow 140 16 = some (.aload_n 0, 1, 0, 0, 0, 0) := by decide +kernel
theorem r_140_17 : xrow 140 17 = some (.getfield 65, 3, 21, 9, 2, 883) := by decide +kernel
theorem r_140_20 : xrow 140 20 = some (.invokevirtual 293, 3, 55, 0, 0, 954) := by decide +kernel
theorem r_140_23 : xrow 140 23 = some (.if_icmp .lt 9, 3, 32, 0, 0, 0) := by decide +kernel
theorem r_140_26 : xrow 140 26 = some (.aload_n 0, 1, 0, 0, 0, 0) := by decide +kernel
theorem r_140_27 : xrow 140 27 = some (.iconst 1, 1, 0, 0, 0, 0) := by decide +kernel
theorem r_140_28 : xrow 140 28 = some (.invokevirtual 128, 3, 157, 0, 0, 903) := by decide +kernel
theorem r_140_31 : xrow 140 31 = some (.ireturn, 1, 0, 0, 0, 0) := by decide +kernel
theorem r_140_32 : xrow 140 32 = some (.aload_n 0, 1, 0, 0, 0, 0) := by decide +kernel
theorem r_140_33 : xrow 140 33 = some (.getfield 65, 3, 21, 9, 2, 883) := by decide +kernel
theorem r_140_36 : xrow 140 36 = some (.invokevirtual 263, 3, 56, 0, 0, 945) := by decide +kernel
theorem r_140_39 : xrow 140 39 = some (.istore 5, 2, 0, 0, 0, 0) := by decide +kernel
theorem r_140_41 : xrow 140 41 = some (.iload_n 3, 1, 0, 0, 0, 0) := by decide +kernel
theorem r_140_42 : xrow 140 42 = some (.ifCond .eq 10, 3, 52, 0, 0, 0) := by decide +kernel
theorem r_140_45 : xrow 140 45 = some (.aload_n 0, 1, 0, 0, 0, 0) := by decide +kernel
theorem r_140_46 : xrow 140 46 = some (.getfield 87, 3, 21, 12, 2, 890) := by decide +kernel
theorem r_140_49 : xrow 140 49 = some (.goto 7, 3, 56, 0, 0, 0) := by decide +kernel
theorem r_140_52 : xrow 140 52 = some (.aload_n 0, 1, 0, 0, 0, 0) := by decide +kernel
theorem r_140_53 : xrow 140 53 = some (.getfield 83, 3, 21, 11, 2, 889) := by decide +kernel
theorem r_140_56 : xrow 140 56 = some (.astore 6, 2, 0, 0, 0, 0) := by decide +kernel
theorem r_140_58 : xrow 140 58 = some (.aload 6, 2, 0, 0, 0, 0) := by decide +kernel
theorem r_140_60 : xrow 140 60 = some (.iload_n 2, 1, 0, 0, 0, 0) := by decide +kernel
theorem r_140_61 : xrow 140 61 = some (.invokevirtual 260, 3, 102, 0, 0, 944) := by decide +kernel
theorem r_140_64 : xrow 140 64 = some (.aload 6, 2, 0, 0, 0, 0) := by decide +kernel
theorem r_140_66 : xrow 140 66 = some (.iload 5, 2, 0, 0, 0, 0) := by decide +kernel
theorem r_140_68 : xrow 140 68 = some (.iload_n 1, 1, 0, 0, 0, 0) := by decide +kernel
theorem r_140_69 : xrow 140 69 = some (.invokevirtual 267, 3, 103, 0, 0, 946) := by decide +kernel
theorem r_140_72 : xrow 140 72 = some (.ldc2_w 271, 3, 1, 0, 0, 947) := by decide +kernel
theorem r_140_75 : xrow 140 75 = some (.lcmp, 1, 0, 0, 0, 0) := by decide +kernel
theorem r_140_76 : xrow 140 76 = some (.ifCond .lt 10, 3, 86, 0, 0, 0) := by decide +kernel
theorem r_140_79 : xrow 140 79 = some (.aload_n 0, 1, 0, 0, 0, 0) := by decide +kernel
theorem r_140_80 : xrow 140 80 = some (.bipush 6, 2, 0, 0, 0, 0) := by decide +kernel
theorem r_140_82 : xrow 140 82 = some (.invokevirtual 128, 3, 157, 0, 0, 903) := by decide +kernel
theorem r_140_85 : xrow 140 85 = some (.ireturn, 1, 0, 0, 0, 0) := by decide +kernel
theorem r_140_86 : xrow 140 86 = some (.aload 6, 2, 0, 0, 0, 0) := by decide +kernel
theorem r_140_88 : xrow 140 88 = some (.iload_n 1, 1, 0, 0, 0, 0) := by decide +kernel
theorem r_140_89 : xrow 140 89 = some (.iload 5, 2, 0, 0, 0, 0) := by decide +kernel
theorem r_140_91 : xrow 140 91 = some (.aload_n 0, 1, 0, 0, 0, 0) := by decide +kernel
theorem r_140_92 : xrow 140 92 = some (.getfield 65, 3, 21, 9, 2, 883) := by decide +kernel
theorem r_140_95 : xrow 140 95 = some (.iload 4, 2, 0, 0, 0, 0) := by decide +kernel
theorem r_140_97 : xrow 140 97 = some (.invokevirtual 296, 3, 59, 0, 0, 955) := by decide +kernel
theorem r_140_100 : xrow 140 100 = some (.aload_n 0, 1, 0, 0, 0, 0) := by decide +kernel
theorem r_140_101 : xrow 140 101 = some (.getfield 108, 3, 21, 15, 2, 897) := by decide +kernel
theorem r_140_104 : xrow 140 104 = some (.invokevirtual 302, 3, 114, 0, 0, 957) := by decide +kernel
theorem r_140_107 : xrow 140 107 = some (.istore 7, 2, 0, 0, 0, 0) := by decide +kernel
theorem r_140_109 : xrow 140 109 = some (.aload_n 0, 1, 0, 0, 0, 0) := by decide +kernel
theorem r_140_110 : xrow 140 110 = some (.aload 6, 2, 0, 0, 0, 0) := by decide +kernel
theorem r_140_112 : xrow 140 112 = some (.getfield 306, 3, 20, 3, 0, 958) := by decide +kernel
theorem r_140_115 : xrow 140 115 = some (.putfield 115, 3, 21, 17, 0, 899) := by decide +kernel
theorem r_140_118 : xrow 140 118 = some (.aload_n 0, 1, 0, 0, 0, 0) := by decide +kernel
theorem r_140_119 : xrow 140 119 = some (.iload 7, 2, 0, 0, 0, 0) := by decide +kernel
theorem r_140_121 : xrow 140 121 = some (.invokevirtual 152, 3, 156, 0, 0, 911) := by decide +kernel
theorem r_140_124 : xrow 140 124 = some (.ireturn, 1, 0, 0, 0, 0) := by decide +kernel
theorem r_141_0 : xrow 141 0 = some (.iload_n 1, 1, 0, 0, 0, 0) := by decide +kernel
theorem r_141_1 : xrow 141 1 = some (.ifCond .lt 18, 3, 19, 0, 0, 0) := by decide +kernel
theorem r_141_4 : xrow 141 4 = some (.iload_n 1, 1, 0, 0, 0, 0) := by decide +kernel
theorem r_141_5 : xrow 141 5 = some (.aload_n 0, 1, 0, 0, 0, 0) := by decide +kernel
theorem r_141_6 : xrow 141 6 = some (.getfield 115, 3, 21, 17, 0, 899) := by decide +kernel
theorem r_141_9 : xrow 141 9 = some (.if_icmp .ge 10, 3, 19, 0, 0, 0) := by decide +kernel
theorem r_141_12 : xrow 141 12 = some (.iload_n 1, 1, 0, 0, 0, 0) := by decide +kernel
theorem r_141_13 : xrow 141 13 = some (.sipush 601, 3, 0, 0, 0, 0) := by decide +kernel
theorem r_141_16 : xrow 141 16 = some (.if_icmp .lt 14, 3, 30, 0, 0, 0) := by decide +kernel
theorem r_141_22 : xrow 141 22 = some (.dup, 1, 0, 0, 0, 0) := by decide +kernel
theorem r_141_23 : xrow 141 23 = some (.ldc_w 311, 3, 26, 1, 0, 0) := by decide +kernel
theorem r_141_29 : xrow 141 29 = some (.athrow, 1, 0, 0, 0, 0) := by decide +kernel
theorem r_141_30 : xrow 141 30 = some (.aload_n 0, 1, 0, 0, 0, 0) := by decide +kernel
theorem r_141_31 : xrow 141 31 = some (.getfield 108, 3, 21, 15, 2, 897) := by decide +kernel
theorem r_141_34 : xrow 141 34 = some (.iload_n 1, 1, 0, 0, 0, 0) := by decide +kernel
theorem r_141_35 : xrow 141 35 = some (.iaload, 1, 0, 0, 0, 0) := by decide +kernel
theorem r_141_36 : xrow 141 36 = some (.ireturn, 1, 0, 0, 0, 0) := by decide +kernel
theorem r_142_0 : xrow 142 0 = some (.aload_n 0, 1, 0, 0, 0, 0) := by decide +kernel
theorem r_142_1 : xrow 142 1 = some (.iload_n 1, 1, 0, 0, 0, 0) := by decide +kernel
theorem r_142_2 : xrow 142 2 = some (.iload_n 2, 1, 0, 0, 0, 0) := by decide +kernel
theorem r_142_3 : xrow 142 3 = some (.invokevirtual 256, 3, 154, 0, 0, 943) := by decide +kernel
theorem r_142_6 : xrow 142 6 = some (.ifCond .ne 9, 3, 15, 0, 0, 0) := by decide +kernel
theorem r_142_9 : xrow 142 9 = some (.aload_n 0, 1, 0, 0, 0, 0) := by decide +kernel
theorem r_142_10 : xrow 142 10 = some (.iconst 1, 1, 0, 0, 0, 0) := by decide +kernel
theorem r_142_11 : xrow 142 11 = some (.invokevirtual 128, 3, 157, 0, 0, 903) := by decide +kernel
theorem r_142_14 : xrow 142 14 = some (.ireturn, 1, 0, 0, 0, 0) := by decide +kernel
theorem r_142_15 : xrow 142 15 = some (.aload_n 0, 1, 0, 0, 0, 0) := by decide +kernel
theorem r_142_16 : xrow 142 16 = some (.getfield 65, 3, 21, 9, 2, 883) := by decide +kernel
theorem r_142_19 : xrow 142 19 = some (.invokevirtual 263, 3, 56, 0, 0, 945) := by decide +kernel
theorem r_142_22 : xrow 142 22 = some (.istore_n 3, 1, 0, 0, 0, 0) := by decide +kernel
theorem r_142_23 : xrow 142 23 = some (.aload_n 0, 1, 0, 0, 0, 0) := by decide +kernel
theorem r_142_24 : xrow 142 24 = some (.getfield 83, 3, 21, 11, 2, 889) := by decide +kernel
theorem r_142_27 : xrow 142 27 = some (.iload_n 2, 1, 0, 0, 0, 0) := by decide +kernel
theorem r_142_28 : xrow 142 28 = some (.invokevirtual 260, 3, 102, 0, 0, 944) := by decide +kernel
theorem r_142_31 : xrow 142 31 = some (.aload_n 0, 1, 0, 0, 0, 0) := by decide +kernel
theorem r_142_32 : xrow 142 32 = some (.getfield 83, 3, 21, 11, 2, 889) := by decide +kernel
theorem r_142_35 : xrow 142 35 = some (.iload_n 3, 1, 0, 0, 0, 0) := by decide +kernel
theorem r_142_36 : xrow 142 36 = some (.iload_n 1, 1, 0, 0, 0, 0) := by decide +kernel
theorem r_142_37 : xrow 142 37 = some (.invokevirtual 267, 3, 103, 0, 0, 946) := by decide +kernel
theorem r_142_40 : xrow 142 40 = some (.ldc2_w 271, 3, 1, 0, 0, 947) := by decide +kernel
theorem r_142_43 : xrow 142 43 = some (.lcmp, 1, 0, 0, 0, 0) := by decide +kernel
theorem r_142_44 : xrow 142 44 = some (.ifCond .lt 10, 3, 54, 0, 0, 0) := by decide +kernel
theorem r_142_47 : xrow 142 47 = some (.aload_n 0, 1, 0, 0, 0, 0) := by decide +kernel
theorem r_142_48 : xrow 142 48 = some (.bipush 6, 2, 0, 0, 0, 0) := by decide +kernel
theorem r_142_50 : xrow 142 50 = some (.invokevirtual 128, 3, 157, 0, 0, 903) := by decide +kernel
theorem r_142_53 : xrow 142 53 = some (.ireturn, 1, 0, 0, 0, 0) := by decide +kernel
theorem r_142_54 : xrow 142 54 = some (.lconst 0, 1, 0, 0, 0, 0) := by decide +kernel
theorem r_142_55 : xrow 142 55 = some (.lstore 4, 2, 0, 0, 0, 0) := by decide +kernel
theorem r_142_57 : xrow 142 57 = some (.aload_n 0, 1, 0, 0, 0, 0) := by decide +kernel
theorem r_142_58 : xrow 142 58 = some (.getfield 65, 3, 21, 9, 2, 883) := by decide +kernel
theorem r_142_61 : xrow 142 61 = some (.invokevirtual 293, 3, 55, 0, 0, 954) := by decide +kernel
theorem r_142_64 : xrow 142 64 = some (.istore 6, 2, 0, 0, 0, 0) := by decide +kernel
theorem r_142_66 : xrow 142 66 = some (.iconst 0, 1, 0, 0, 0, 0) := by decide +kernel
theorem r_142_67 : xrow 142 67 = some (.istore 7, 2, 0, 0, 0, 0) := by decide +kernel
theorem r_142_69 : xrow 142 69 = some (.iload 7, 2, 0, 0, 0, 0) := by decide +kernel
theorem r_142_71 : xrow 142 71 = some (.iload 6, 2, 0, 0, 0, 0) := by decide +kernel
theorem r_142_73 : xrow 142 73 = some (.if_icmp .ge 58, 3, 131, 0, 0, 0) := by decide +kernel
theorem r_142_76 : xrow 142 76 = some (.aload_n 0, 1, 0, 0, 0, 0) := by decide +kernel
theorem r_142_77 : xrow 142 77 = some (.getfield 65, 3, 21, 9, 2, 883) := by decide +kernel
theorem r_142_80 : xrow 142 80 = some (.iload 7, 2, 0, 0, 0, 0) := by decide +kernel
theorem r_142_82 : xrow 142 82 = some (.invokevirtual 296, 3, 59, 0, 0, 955) := by decide +kernel
theorem r_142_85 : xrow 142 85 = some (.istore 8, 2, 0, 0, 0, 0) := by decide +kernel
theorem r_142_87 : xrow 142 87 = some (.aload_n 0, 1, 0, 0, 0, 0) := by decide +kernel
theorem r_142_88 : xrow 142 88 = some (.getfield 83, 3, 21, 11, 2, 889) := by decide +kernel
theorem r_142_91 : xrow 142 91 = some (.iload_n 1, 1, 0, 0, 0, 0) := by decide +kernel
theorem r_142_92 : xrow 142 92 = some (.iload_n 3, 1, 0, 0, 0, 0) := by decide +kernel
theorem r_142_93 : xrow 142 93 = some (.iload 8, 2, 0, 0, 0, 0) := by decide +kernel
theorem r_142_95 : xrow 142 95 = some (.aload_n 0, 1, 0, 0, 0, 0) := by decide +kernel
theorem r_142_96 : xrow 142 96 = some (.getfield 112, 3, 21, 16, 2, 898) := by decide +kernel
theorem r_142_99 : xrow 142 99 = some (.invokevirtual 302, 3, 114, 0, 0, 957) := by decide +kernel
theorem r_142_102 : xrow 142 102 = some (.i2l, 1, 0, 0, 0, 0) := by decide +kernel
theorem r_142_103 : xrow 142 103 = some (.lstore 9, 2, 0, 0, 0, 0) := by decide +kernel
theorem r_142_105 : xrow 142 105 = some (.lload 4, 2, 0, 0, 0, 0) := by decide +kernel
theorem r_142_107 : xrow 142 107 = some (.lload 9, 2, 0, 0, 0, 0) := by decide +kernel
theorem r_142_109 : xrow 142 109 = some (.aload_n 0, 1, 0, 0, 0, 0) := by decide +kernel
theorem r_142_110 : xrow 142 110 = some (.getfield 83, 3, 21, 11, 2, 889) := by decide +kernel
theorem r_142_113 : xrow 142 113 = some (.iload 8, 2, 0, 0, 0, 0) := by decide +kernel
theorem r_142_115 : xrow 142 115 = some (.iload_n 1, 1, 0, 0, 0, 0) := by decide +kernel
theorem r_142_116 : xrow 142 116 = some (.invokevirtual 267, 3, 103, 0, 0, 946) := by decide +kernel
theorem r_142_119 : xrow 142 119 = some (.lsub, 1, 0, 0, 0, 0) := by decide +kernel
theorem r_142_120 : xrow 142 120 = some (.invokestatic 316, 3, 269, 0, 0, 960) := by decide +kernel
theorem r_142_123 : xrow 142 123 = some (.lstore 4, 2, 0, 0, 0, 0) := by decide +kernel
theorem r_142_125 : xrow 142 125 = some (.iinc 7 1, 3, 0, 0, 0, 0) := by decide +kernel
theorem r_142_128 : xrow 142 128 = some (.goto (-59), 3, 69, 0, 0, 0) := by decide +kernel
theorem r_142_131 : xrow 142 131 = some (.aload_n 0, 1, 0, 0, 0, 0) := by decide +kernel
theorem r_142_132 : xrow 142 132 = some (.lload 4, 2, 0, 0, 0, 0) := by decide +kernel
theorem r_142_134 : xrow 142 134 = some (.l2i, 1, 0, 0, 0, 0) := by decide +kernel
theorem r_142_135 : xrow 142 135 = some (.invokevirtual 152, 3, 156, 0, 0, 911) := by decide +kernel
theorem r_142_138 : xrow 142 138 = some (.ireturn, 1, 0, 0, 0, 0) := by decide +kernel
theorem r_143_0 : xrow 143 0 = some (.aload_n 0, 1, 0, 0, 0, 0) := by decide +kernel
theorem r_143_1 : xrow 143 1 = some (.getfield 65, 3, 21, 9, 2, 883) := by decide +kernel
theorem r_143_4 : xrow 143 4 = some (.iload_n 1, 1, 0, 0, 0, 0) := by decide +kernel
theorem r_143_5 : xrow 143 5 = some (.invokevirtual 221, 3, 48, 0, 0, 932) := by decide +kernel
theorem r_143_8 : xrow 143 8 = some (.ifCond .eq 12, 3, 20, 0, 0, 0) := by decide +kernel
theorem r_143_11 : xrow 143 11 = some (.aload_n 0, 1, 0, 0, 0, 0) := by decide +kernel
theorem r_143_12 : xrow 143 12 = some (.iload_n 2, 1, 0, 0, 0, 0) := by decide +kernel
theorem r_143_13 : xrow 143 13 = some (.iload_n 3, 1, 0, 0, 0, 0) := by decide +kernel
theorem r_143_14 : xrow 143 14 = some (.invokevirtual 256, 3, 154, 0, 0, 943) := by decide +kernel
theorem r_143_17 : xrow 143 17 = some (.ifCond .ne 9, 3, 26, 0, 0, 0) := by decide +kernel
theorem r_143_20 : xrow 143 20 = some (.aload_n 0, 1, 0, 0, 0, 0) := by decide +kernel
theorem r_143_21 : xrow 143 21 = some (.iconst 1, 1, 0, 0, 0, 0) := by decide +kernel
theorem r_143_22 : xrow 143 22 = some (.invokevirtual 273, 3, 158, 0, 0, 948) := by decide +kernel
theorem r_143_25 : xrow 143 25 = some (.lreturn, 1, 0, 0, 0, 0) := by decide +kernel
theorem r_143_26 : xrow 143 26 = some (.aload_n 0, 1, 0, 0, 0, 0) := by decide +kernel
theorem r_143_27 : xrow 143 27 = some (.getfield 65, 3, 21, 9, 2, 883) := by decide +kernel
theorem r_143_30 : xrow 143 30 = some (.getfield 235, 3, 15, 10, 2, 936) := by decide +kernel
theorem r_143_33 : xrow 143 33 = some (.iload_n 1, 1, 0, 0, 0, 0) := by decide +kernel
theorem r_143_34 : xrow 143 34 = some (.iaload, 1, 0, 0, 0, 0) := by decide +kernel
theorem r_143_35 : xrow 143 35 = some (.iconst (-1), 1, 0, 0, 0, 0) := by decide +kernel
theorem r_143_36 : xrow 143 36 = some (.if_icmp .eq 9, 3, 45, 0, 0, 0) := by decide +kernel
theorem r_143_39 : xrow 143 39 = some (.aload_n 0, 1, 0, 0, 0, 0) := by decide +kernel
theorem r_143_40 : xrow 143 40 = some (.iconst 5, 1, 0, 0, 0, 0) := by decide +kernel
theorem r_143_41 : xrow 143 41 = some (.invokevirtual 273, 3, 158, 0, 0, 948) := by decide +kernel
theorem r_143_44 : xrow 143 44 = some (.lreturn, 1, 0, 0, 0, 0) := by decide +kernel
theorem r_143_45 : xrow 143 45 = some (.aload_n 0, 1, 0, 0, 0, 0) := by decide +kernel
theorem r_143_46 : xrow 143 46 = some (.getfield 65, 3, 21, 9, 2, 883) := by decide +kernel
theorem r_143_49 : xrow 143 49 = some (.invokevirtual 263, 3, 56, 0, 0, 945) := by decide +kernel
theorem r_143_52 : xrow 143 52 = some (.istore 5, 2, 0, 0, 0, 0) := by decide +kernel
theorem r_143_54 : xrow 143 54 = some (.aload_n 0, 1, 0, 0, 0, 0) := by decide +kernel
theorem r_143_55 : xrow 143 55 = some (.getfield 87, 3, 21, 12, 2, 890) := by decide +kernel
theorem r_143_58 : xrow 143 58 = some (.iload_n 3, 1, 0, 0, 0, 0) := by decide +kernel
theorem r_143_59 : xrow 143 59 = some (.invokevirtual 260, 3, 102, 0, 0, 944) := by decide +kernel
theorem r_143_62 : xrow 143 62 = some (.aload_n 0, 1, 0, 0, 0, 0) := by decide +kernel
theorem r_143_63 : xrow 143 63 = some (.getfield 87, 3, 21, 12, 2, 890) := by decide +kernel
theorem r_143_66 : xrow 143 66 = some (.iload 5, 2, 0, 0, 0, 0) := by decide +kernel
theorem r_143_68 : xrow 143 68 = some (.iload_n 2, 1, 0, 0, 0, 0) := by decide +kernel
theorem r_143_69 : xrow 143 69 = some (.invokevirtual 267, 3, 103, 0, 0, 946) := by decide +kernel
theorem r_143_72 : xrow 143 72 = some (.lstore 6, 2, 0, 0, 0, 0) := by decide +kernel
theorem r_143_74 : xrow 143 74 = some (.lload 6, 2, 0, 0, 0, 0) := by decide +kernel
theorem r_143_76 : xrow 143 76 = some (.ldc2_w 271, 3, 1, 0, 0, 947) := by decide +kernel
theorem r_143_79 : xrow 143 79 = some (.lcmp, 1, 0, 0, 0, 0) := by decide +kernel
theorem r_143_80 : xrow 143 80 = some (.ifCond .lt 10, 3, 90, 0, 0, 0) := by decide +kernel
theorem r_143_83 : xrow 143 83 = some (.aload_n 0, 1, 0, 0, 0, 0) := by decide +kernel
theorem r_143_84 : xrow 143 84 = some (.bipush 6, 2, 0, 0, 0, 0) := by decide +kernel
theorem r_143_86 : xrow 143 86 = some (.invokevirtual 273, 3, 158, 0, 0, 948) := by decide +kernel
theorem r_143_89 : xrow 143 89 = some (.lreturn, 1, 0, 0, 0, 0) := by decide +kernel
theorem r_143_90 : xrow 143 90 = some (.aload_n 0, 1, 0, 0, 0, 0) := by decide +kernel
theorem r_143_91 : xrow 143 91 = some (.getfield 87, 3, 21, 12, 2, 890) := by decide +kernel
theorem r_143_94 : xrow 143 94 = some (.iload 5, 2, 0, 0, 0, 0) := by decide +kernel
theorem r_143_96 : xrow 143 96 = some (.iload_n 1, 1, 0, 0, 0, 0) := by decide +kernel
theorem r_143_97 : xrow 143 97 = some (.iload_n 2, 1, 0, 0, 0, 0) := by decide +kernel
theorem r_143_98 : xrow 143 98 = some (.invokevirtual 322, 3, 104, 0, 0, 961) := by decide +kernel
theorem r_143_101 : xrow 143 101 = some (.lstore 8, 2, 0, 0, 0, 0) := by decide +kernel
theorem r_143_103 : xrow 143 103 = some (.aload_n 0, 1, 0, 0, 0, 0) := by decide +kernel
theorem r_143_104 : xrow 143 104 = some (.iconst 0, 1, 0, 0, 0, 0) := by decide +kernel
theorem r_143_105 : xrow 143 105 = some (.putfield 118, 3, 21, 18, 0, 900) := by decide +kernel
theorem r_143_108 : xrow 143 108 = some (.lload 6, 2, 0, 0, 0, 0) := by decide +kernel
theorem r_143_110 : xrow 143 110 = some (.lload 8, 2, 0, 0, 0, 0) := by decide +kernel
theorem r_143_112 : xrow 143 112 = some (.lsub, 1, 0, 0, 0, 0) := by decide +kernel
theorem r_143_113 : xrow 143 113 = some (.aload_n 0, 1, 0, 0, 0, 0) := by decide +kernel
theorem r_143_114 : xrow 143 114 = some (.getfield 65, 3, 21, 9, 2, 883) := by decide +kernel
theorem r_143_117 : xrow 143 117 = some (.iload 5, 2, 0, 0, 0, 0) := by decide +kernel
theorem r_143_119 : xrow 143 119 = some (.invokevirtual 277, 3, 63, 0, 0, 949) := by decide +kernel
theorem r_143_122 : xrow 143 122 = some (.iload 4, 2, 0, 0, 0, 0) := by decide +kernel
theorem r_143_124 : xrow 143 124 = some (.invokestatic 280, 3, 161, 0, 0, 950) := by decide +kernel
theorem r_143_127 : xrow 143 127 = some (.lreturn, 1, 0, 0, 0, 0) := by decide +kernel
theorem r_144_0 : xrow 144 0 = some (.aload_n 0, 1, 0, 0, 0, 0) := by decide +kernel
theorem r_144_1 : xrow 144 1 = some (.getfield 65, 3, 21, 9, 2, 883) := by decide +kernel
theorem r_144_4 : xrow 144 4 = some (.iload_n 1, 1, 0, 0, 0, 0) := by decide +kernel
theorem r_144_5 : xrow 144 5 = some (.invokevirtual 221, 3, 48, 0, 0, 932) := by decide +kernel
theorem r_144_8 : xrow 144 8 = some (.ifCond .eq 12, 3, 20, 0, 0, 0) := by decide +kernel
theorem r_144_11 : xrow 144 11 = some (.aload_n 0, 1, 0, 0, 0, 0) := by decide +kernel
theorem r_144_12 : xrow 144 12 = some (.iload_n 2, 1, 0, 0, 0, 0) := by decide +kernel
theorem r_144_13 : xrow 144 13 = some (.iload_n 3, 1, 0, 0, 0, 0) := by decide +kernel
theorem r_144_14 : xrow 144 14 = some (.invokevirtual 256, 3, 154, 0, 0, 943) := by decide +kernel
theorem r_144_17 : xrow 144 17 = some (.ifCond .ne 9, 3, 26, 0, 0, 0) := by decide +kernel
theorem r_144_20 : xrow 144 20 = some (.aload_n 0, 1, 0, 0, 0, 0) := by decide +kernel
theorem r_144_21 : xrow 144 21 = some (.iconst 1, 1, 0, 0, 0, 0) := by decide +kernel
theorem r_144_22 : xrow 144 22 = some (.invokevirtual 128, 3, 157, 0, 0, 903) := by decide +kernel
theorem r_144_25 : xrow 144 25 = some (.ireturn, 1, 0, 0, 0, 0) := by decide +kernel
theorem r_144_26 : xrow 144 26 = some (.aload_n 0, 1, 0, 0, 0, 0) := by decide +kernel
theorem r_144_27 : xrow 144 27 = some (.getfield 65, 3, 21, 9, 2, 883) := by decide +kernel
theorem r_144_30 : xrow 144 30 = some (.getfield 235, 3, 15, 10, 2, 936) := by decide +kernel
theorem r_144_33 : xrow 144 33 = some (.iload_n 1, 1, 0, 0, 0, 0) := by decide +kernel
theorem r_144_34 : xrow 144 34 = some (.iaload, 1, 0, 0, 0, 0) := by decide +kernel
theorem r_144_35 : xrow 144 35 = some (.iconst (-1), 1, 0, 0, 0, 0) := by decide +kernel
theorem r_144_36 : xrow 144 36 = some (.if_icmp .eq 9, 3, 45, 0, 0, 0) := by decide +kernel
theorem r_144_39 : xrow 144 39 = some (.aload_n 0, 1, 0, 0, 0, 0) := by decide +kernel
theorem r_144_40 : xrow 144 40 = some (.iconst 5, 1, 0, 0, 0, 0) := by decide +kernel
theorem r_144_41 : xrow 144 41 = some (.invokevirtual 128, 3, 157, 0, 0, 903) := by decide +kernel
theorem r_144_44 : xrow 144 44 = some (.ireturn, 1, 0, 0, 0, 0) := by decide +kernel
theorem r_144_45 : xrow 144 45 = some (.aload_n 0, 1, 0, 0, 0, 0) := by decide +kernel
theorem r_144_46 : xrow 144 46 = some (.getfield 65, 3, 21, 9, 2, 883) := by decide +kernel
theorem r_144_49 : xrow 144 49 = some (.invokevirtual 263, 3, 56, 0, 0, 945) := by decide +kernel
theorem r_144_52 : xrow 144 52 = some (.istore 4, 2, 0, 0, 0, 0) := by decide +kernel
theorem r_144_54 : xrow 144 54 = some (.aload_n 0, 1, 0, 0, 0, 0) := by decide +kernel
theorem r_144_55 : xrow 144 55 = some (.getfield 83, 3, 21, 11, 2, 889) := by decide +kernel
theorem r_144_58 : xrow 144 58 = some (.iload_n 3, 1, 0, 0, 0, 0) := by decide +kernel
theorem r_144_59 : xrow 144 59 = some (.invokevirtual 260, 3, 102, 0, 0, 944) := by decide +kernel
theorem r_144_62 : xrow 144 62 = some (.aload_n 0, 1, 0, 0, 0, 0) := by decide +kernel
theorem r_144_63 : xrow 144 63 = some (.getfield 83, 3, 21, 11, 2, 889) := by decide +kernel
theorem r_144_66 : xrow 144 66 = some (.iload 4, 2, 0, 0, 0, 0) := by decide +kernel
theorem r_144_68 : xrow 144 68 = some (.iload_n 2, 1, 0, 0, 0, 0) := by decide +kernel
theorem r_144_69 : xrow 144 69 = some (.invokevirtual 267, 3, 103, 0, 0, 946) := by decide +kernel
theorem r_144_72 : xrow 144 72 = some (.lstore 5, 2, 0, 0, 0, 0) := by decide +kernel
theorem r_144_74 : xrow 144 74 = some (.lload 5, 2, 0, 0, 0, 0) := by decide +kernel
theorem r_144_76 : xrow 144 76 = some (.ldc2_w 271, 3, 1, 0, 0, 947) := by decide +kernel
theorem r_144_79 : xrow 144 79 = some (.lcmp, 1, 0, 0, 0, 0) := by decide +kernel
theorem r_144_80 : xrow 144 80 = some (.ifCond .lt 10, 3, 90, 0, 0, 0) := by decide +kernel
theorem r_144_83 : xrow 144 83 = some (.aload_n 0, 1, 0, 0, 0, 0) := by decide +kernel
theorem r_144_84 : xrow 144 84 = some (.bipush 6, 2, 0, 0, 0, 0) := by decide +kernel
theorem r_144_86 : xrow 144 86 = some (.invokevirtual 128, 3, 157, 0, 0, 903) := by decide +kernel
theorem r_144_89 : xrow 144 89 = some (.ireturn, 1, 0, 0, 0, 0) := by decide +kernel
theorem r_144_90 : xrow 144 90 = some (.aload_n 0, 1, 0, 0, 0, 0) := by decide +kernel
theorem r_144_91 : xrow 144 91 = some (.lload 5, 2, 0, 0, 0, 0) := by decide +kernel
theorem r_144_93 : xrow 144 93 = some (.aload_n 0, 1, 0, 0, 0, 0) := by decide +kernel
theorem r_144_94 : xrow 144 94 = some (.getfield 83, 3, 21, 11, 2, 889) := by decide +kernel
theorem r_144_97 : xrow 144 97 = some (.iload 4, 2, 0, 0, 0, 0) := by decide +kernel
theorem r_144_99 : xrow 144 99 = some (.iload_n 1, 1, 0, 0, 0, 0) := by decide +kernel
theorem r_144_100 : xrow 144 100 = some (.iload_n 2, 1, 0, 0, 0, 0) := by decide +kernel
theorem r_144_101 : xrow 144 101 = some (.invokevirtual 322, 3, 104, 0, 0, 961) := by decide +kernel
theorem r_144_104 : xrow 144 104 = some (.lsub, 1, 0, 0, 0, 0) := by decide +kernel
theorem r_144_105 : xrow 144 105 = some (.l2i, 1, 0, 0, 0, 0) := by decide +kernel
theorem r_144_106 : xrow 144 106 = some (.invokevirtual 152, 3, 156, 0, 0, 911) := by decide +kernel
theorem r_144_109 : xrow 144 109 = some (.ireturn, 1, 0, 0, 0, 0) := by decide +kernel
theorem r_145_0 : xrow 145 0 = some (.aload_n 0, 1, 0, 0, 0, 0) := by decide +kernel
theorem r_145_1 : xrow 145 1 = some (.iload_n 1, 1, 0, 0, 0, 0) := by decide +kernel
theorem r_145_2 : xrow 145 2 = some (.invokevirtual 326, 3, 155, 0, 0, 962) := by decide +kernel
theorem r_145_5 : xrow 145 5 = some (.ifCond .eq 12, 3, 17, 0, 0, 0) := by decide +kernel
theorem r_145_8 : xrow 145 8 = some (.aload_n 0, 1, 0, 0, 0, 0) := by decide +kernel
theorem r_145_9 : xrow 145 9 = some (.iload_n 2, 1, 0, 0, 0, 0) := by decide +kernel
theorem r_145_10 : xrow 145 10 = some (.iload_n 3, 1, 0, 0, 0, 0) := by decide +kernel
theorem r_145_11 : xrow 145 11 = some (.invokevirtual 256, 3, 154, 0, 0, 943) := by decide +kernel
theorem r_145_14 : xrow 145 14 = some (.ifCond .ne 9, 3, 23, 0, 0, 0) := by decide +kernel
theorem r_145_17 : xrow 145 17 = some (.aload_n 0, 1, 0, 0, 0, 0) := by decide +kernel
theorem r_145_18 : xrow 145 18 = some (.iconst 1, 1, 0, 0, 0, 0) := by decide +kernel
theorem r_145_19 : xrow 145 19 = some (.invokevirtual 128, 3, 157, 0, 0, 903) := by decide +kernel
theorem r_145_22 : xrow 145 22 = some (.ireturn, 1, 0, 0, 0, 0) := by decide +kernel
theorem r_145_23 : xrow 145 23 = some (.iload 4, 2, 0, 0, 0, 0) := by decide +kernel
theorem r_145_25 : xrow 145 25 = some (.ifCond .lt 11, 3, 36, 0, 0, 0) := by decide +kernel
theorem r_145_28 : xrow 145 28 = some (.iload 4, 2, 0, 0, 0, 0) := by decide +kernel
theorem r_145_30 : xrow 145 30 = some (.ldc_w 329, 3, 9999999, 0, 0, 963) := by decide +kernel
theorem r_145_33 : xrow 145 33 = some (.if_icmp .le 9, 3, 42, 0, 0, 0) := by decide +kernel
theorem r_145_36 : xrow 145 36 = some (.aload_n 0, 1, 0, 0, 0, 0) := by decide +kernel
theorem r_145_37 : xrow 145 37 = some (.iconst 2, 1, 0, 0, 0, 0) := by decide +kernel
theorem r_145_38 : xrow 145 38 = some (.invokevirtual 128, 3, 157, 0, 0, 903) := by decide +kernel
theorem r_145_41 : xrow 145 41 = some (.ireturn, 1, 0, 0, 0, 0) := by decide +kernel
theorem r_145_42 : xrow 145 42 = some (.aload_n 0, 1, 0, 0, 0, 0) := by decide +kernel
theorem r_145_43 : xrow 145 43 = some (.aload_n 0, 1, 0, 0, 0, 0) := by decide +kernel
theorem r_145_44 : xrow 145 44 = some (.getfield 95, 3, 21, 13, 2, 893) := by decide +kernel
theorem r_145_47 : xrow 145 47 = some (.aload_n 0, 1, 0, 0, 0, 0) := by decide +kernel
theorem r_145_48 : xrow 145 48 = some (.getfield 54, 3, 21, 7, 2, 880) := by decide +kernel
theorem r_145_51 : xrow 145 51 = some (.iload_n 1, 1, 0, 0, 0, 0) := by decide +kernel
theorem r_145_52 : xrow 145 52 = some (.aaload, 1, 0, 0, 0, 0) := by decide +kernel
theorem r_145_53 : xrow 145 53 = some (.iload_n 2, 1, 0, 0, 0, 0) := by decide +kernel
theorem r_145_54 : xrow 145 54 = some (.iload_n 3, 1, 0, 0, 0, 0) := by decide +kernel
theorem r_145_55 : xrow 145 55 = some (.iload 4, 2, 0, 0, 0, 0) := by decide +kernel
theorem r_145_57 : xrow 145 57 = some (.invokevirtual 330, 3, 39, 0, 0, 964) := by decide +kernel
theorem r_145_60 : xrow 145 60 = some (.invokevirtual 152, 3, 156, 0, 0, 911) := by decide +kernel
theorem r_145_63 : xrow 145 63 = some (.ireturn, 1, 0, 0, 0, 0) := by decide +kernel
theorem r_146_0 : xrow 146 0 = some (.iload_n 1, 1, 0, 0, 0, 0) := by decide +kernel
theorem r_146_1 : xrow 146 1 = some (.tableswitch 51 0 2 #[27, 35, 43], 27, 0, 0, 0, 0) := by decide +kernel
theorem r_146_28 : xrow 146 28 = some (.aload_n 0, 1, 0, 0, 0, 0) := by decide +kernel
theorem r_146_29 : xrow 146 29 = some (.getfield 95, 3, 21, 13, 2, 893) := by decide +kernel
theorem r_146_32 : xrow 146 32 = some (.getfield 334, 3, 14, 2, 0, 965) := by decide +kernel
theorem r_146_35 : xrow 146 35 = some (.ireturn, 1, 0, 0, 0, 0) := by decide +kernel
theorem r_146_36 : xrow 146 36 = some (.aload_n 0, 1, 0, 0, 0, 0) := by decide +kernel
theorem r_146_37 : xrow 146 37 = some (.getfield 95, 3, 21, 13, 2, 893) := by decide +kernel
theorem r_146_40 : xrow 146 40 = some (.getfield 337, 3, 14, 3, 0, 966) := by decide +kernel
theorem r_146_43 : xrow 146 43 = some (.ireturn, 1, 0, 0, 0, 0) := by decide +kernel
theorem r_146_44 : xrow 146 44 = some (.aload_n 0, 1, 0, 0, 0, 0) := by decide +kernel
theorem r_146_45 : xrow 146 45 = some (.getfield 95, 3, 21, 13, 2, 893) := by decide +kernel
theorem r_146_48 : xrow 146 48 = some (.getfield 340, 3, 14, 4, 0, 967) := by decide +kernel
theorem r_146_51 : xrow 146 51 = some (.ireturn, 1, 0, 0, 0, 0) := by decide +kernel
theorem r_146_52 : xrow 146 52 = some (.iconst (-1), 1, 0, 0, 0, 0) := by decide +kernel
theorem r_146_53 : xrow 146 53 = some (.ireturn, 1, 0, 0, 0, 0) := by decide +kernel
theorem r_147_0 : xrow 147 0 = some (.aload_n 0, 1, 0, 0, 0, 0) := by decide +kernel
theorem r_147_1 : xrow 147 1 = some (.iload_n 1, 1, 0, 0, 0, 0) := by decide +kernel
theorem r_147_2 : xrow 147 2 = some (.invokevirtual 326, 3, 155, 0, 0, 962) := by decide +kernel
theorem r_147_5 : xrow 147 5 = some (.ifCond .eq 12, 3, 17, 0, 0, 0) := by decide +kernel
theorem r_147_8 : xrow 147 8 = some (.aload_n 0, 1, 0, 0, 0, 0) := by decide +kernel
theorem r_147_9 : xrow 147 9 = some (.iload_n 2, 1, 0, 0, 0, 0) := by decide +kernel
theorem r_147_10 : xrow 147 10 = some (.iload_n 3, 1, 0, 0, 0, 0) := by decide +kernel
theorem r_147_11 : xrow 147 11 = some (.invokevirtual 256, 3, 154, 0, 0, 943) := by decide +kernel
theorem r_147_14 : xrow 147 14 = some (.ifCond .ne 9, 3, 23, 0, 0, 0) := by decide +kernel
theorem r_147_17 : xrow 147 17 = some (.aload_n 0, 1, 0, 0, 0, 0) := by decide +kernel
theorem r_147_18 : xrow 147 18 = some (.iconst 1, 1, 0, 0, 0, 0) := by decide +kernel
theorem r_147_19 : xrow 147 19 = some (.invokevirtual 128, 3, 157, 0, 0, 903) := by decide +kernel
theorem r_147_22 : xrow 147 22 = some (.ireturn, 1, 0, 0, 0, 0) := by decide +kernel
theorem r_147_23 : xrow 147 23 = some (.aload_n 0, 1, 0, 0, 0, 0) := by decide +kernel
theorem r_147_24 : xrow 147 24 = some (.getfield 95, 3, 21, 13, 2, 893) := by decide +kernel
theorem r_147_27 : xrow 147 27 = some (.aload_n 0, 1, 0, 0, 0, 0) := by decide +kernel
theorem r_147_28 : xrow 147 28 = some (.getfield 54, 3, 21, 7, 2, 880) := by decide +kernel
theorem r_147_31 : xrow 147 31 = some (.iload_n 1, 1, 0, 0, 0, 0) := by decide +kernel
theorem r_147_32 : xrow 147 32 = some (.aaload, 1, 0, 0, 0, 0) := by decide +kernel
theorem r_147_33 : xrow 147 33 = some (.iload_n 2, 1, 0, 0, 0, 0) := by decide +kernel
theorem r_147_34 : xrow 147 34 = some (.iload_n 3, 1, 0, 0, 0, 0) := by decide +kernel
theorem r_147_35 : xrow 147 35 = some (.invokevirtual 343, 3, 40, 0, 0, 968) := by decide +kernel
theorem r_147_38 : xrow 147 38 = some (.istore 4, 2, 0, 0, 0, 0) := by decide +kernel
theorem r_147_40 : xrow 147 40 = some (.iload 4, 2, 0, 0, 0, 0) := by decide +kernel
theorem r_147_42 : xrow 147 42 = some (.iconst (-1), 1, 0, 0, 0, 0) := by decide +kernel
theorem r_147_43 : xrow 147 43 = some (.if_icmp .ne 12, 3, 55, 0, 0, 0) := by decide +kernel
theorem r_147_46 : xrow 147 46 = some (.aload_n 0, 1, 0, 0, 0, 0) := by decide +kernel
theorem r_147_47 : xrow 147 47 = some (.bipush 6, 2, 0, 0, 0, 0) := by decide +kernel
theorem r_147_49 : xrow 147 49 = some (.invokevirtual 128, 3, 157, 0, 0, 903) := by decide +kernel
theorem r_147_52 : xrow 147 52 = some (.goto 9, 3, 61, 0, 0, 0) := by decide +kernel
theorem r_147_55 : xrow 147 55 = some (.aload_n 0, 1, 0, 0, 0, 0) := by decide +kernel
theorem r_147_56 : xrow 147 56 = some (.iload 4, 2, 0, 0, 0, 0) := by decide +kernel
theorem r_147_58 : xrow 147 58 = some (.invokevirtual 152, 3, 156, 0, 0, 911) := by decide +kernel
theorem r_147_61 : xrow 147 61 = some (.ireturn, 1, 0, 0, 0, 0) := by decide +kernel
theorem r_148_0 : xrow 148 0 = some (.iload_n 1, 1, 0, 0, 0, 0) := by decide +kernel
theorem r_148_1 : xrow 148 1 = some (.ifCond .lt 14, 3, 15, 0, 0, 0) := by decide +kernel
theorem r_148_4 : xrow 148 4 = some (.iload_n 1, 1, 0, 0, 0, 0) := by decide +kernel
theorem r_148_5 : xrow 148 5 = some (.aload_n 0, 1, 0, 0, 0, 0) := by decide +kernel
theorem r_148_6 : xrow 148 6 = some (.getfield 45, 3, 21, 5, 2, 877) := by decide +kernel
theorem r_148_9 : xrow 148 9 = some (.getfield 191, 3, 10, 10, 0, 922) := by decide +kernel
theorem r_148_12 : xrow 148 12 = some (.if_icmp .lt 9, 3, 21, 0, 0, 0) := by decide +kernel
theorem r_148_15 : xrow 148 15 = some (.aload_n 0, 1, 0, 0, 0, 0) := by decide +kernel
theorem r_148_16 : xrow 148 16 = some (.iconst 1, 1, 0, 0, 0, 0) := by decide +kernel
theorem r_148_17 : xrow 148 17 = some (.invokevirtual 188, 3, 160, 0, 0, 921) := by decide +kernel
theorem r_148_20 : xrow 148 20 = some (.ireturn, 1, 1, 0, 0, 0) := by decide +kernel
theorem r_148_21 : xrow 148 21 = some (.iload_n 2, 1, 0, 0, 0, 0) := by decide +kernel
theorem r_148_22 : xrow 148 22 = some (.ifCond .lt 8, 3, 30, 0, 0, 0) := by decide +kernel
theorem r_148_25 : xrow 148 25 = some (.iload_n 2, 1, 0, 0, 0, 0) := by decide +kernel
theorem r_148_26 : xrow 148 26 = some (.iconst 4, 1, 0, 0, 0, 0) := by decide +kernel
theorem r_148_27 : xrow 148 27 = some (.if_icmp .le 9, 3, 36, 0, 0, 0) := by decide +kernel
theorem r_148_30 : xrow 148 30 = some (.aload_n 0, 1, 0, 0, 0, 0) := by decide +kernel
theorem r_148_31 : xrow 148 31 = some (.iconst 2, 1, 0, 0, 0, 0) := by decide +kernel
theorem r_148_32 : xrow 148 32 = some (.invokevirtual 188, 3, 160, 0, 0, 921) := by decide +kernel
theorem r_148_35 : xrow 148 35 = some (.ireturn, 1, 1, 0, 0, 0) := by decide +kernel
theorem r_148_36 : xrow 148 36 = some (.aload_n 0, 1, 0, 0, 0, 0) := by decide +kernel
theorem r_148_37 : xrow 148 37 = some (.getfield 104, 3, 21, 14, 2, 896) := by decide +kernel
theorem r_148_40 : xrow 148 40 = some (.iload_n 1, 1, 0, 0, 0, 0) := by decide +kernel
theorem r_148_41 : xrow 148 41 = some (.iload_n 2, 1, 0, 0, 0, 0) := by decide +kernel
theorem r_148_42 : xrow 148 42 = some (.invokevirtual 347, 3, 21, 0, 0, 969) := by decide +kernel
theorem r_148_45 : xrow 148 45 = some (.aload_n 0, 1, 0, 0, 0, 0) := by decide +kernel
theorem r_148_46 : xrow 148 46 = some (.invokevirtual 200, 3, 159, 0, 0, 925) := by decide +kernel
theorem r_148_49 : xrow 148 49 = some (.ireturn, 1, 1, 0, 0, 0) := by decide +kernel
theorem r_149_0 : xrow 149 0 = some (.aload_n 0, 1, 0, 0, 0, 0) := by decide +kernel
theorem r_149_1 : xrow 149 1 = some (.getfield 45, 3, 21, 5, 2, 877) := by decide +kernel
theorem r_149_4 : xrow 149 4 = some (.invokevirtual 184, 3, 2, 0, 0, 920) := by decide +kernel
theorem r_149_7 : xrow 149 7 = some (.ifCond .ne 9, 3, 16, 0, 0, 0) := by decide +kernel
theorem r_149_10 : xrow 149 10 = some (.aload_n 0, 1, 0, 0, 0, 0) := by decide +kernel
theorem r_149_11 : xrow 149 11 = some (.iconst 1, 1, 0, 0, 0, 0) := by decide +kernel
theorem r_149_12 : xrow 149 12 = some (.invokevirtual 128, 3, 157, 0, 0, 903) := by decide +kernel
theorem r_149_15 : xrow 149 15 = some (.ireturn, 1, 0, 0, 0, 0) := by decide +kernel
theorem r_149_16 : xrow 149 16 = some (.aload_n 0, 1, 0, 0, 0, 0) := by decide +kernel
theorem r_149_17 : xrow 149 17 = some (.getfield 104, 3, 21, 14, 2, 896) := by decide +kernel
theorem r_149_20 : xrow 149 20 = some (.invokevirtual 350, 3, 26, 0, 0, 970) := by decide +kernel
theorem r_149_23 : xrow 149 23 = some (.istore_n 1, 1, 0, 0, 0, 0) := by decide +kernel
theorem r_149_24 : xrow 149 24 = some (.iload_n 1, 1, 0, 0, 0, 0) := by decide +kernel
theorem r_149_25 : xrow 149 25 = some (.iconst (-1), 1, 0, 0, 0, 0) := by decide +kernel
theorem r_149_26 : xrow 149 26 = some (.if_icmp .ne 12, 3, 38, 0, 0, 0) := by decide +kernel
theorem r_149_29 : xrow 149 29 = some (.aload_n 0, 1, 0, 0, 0, 0) := by decide +kernel
theorem r_149_30 : xrow 149 30 = some (.bipush 6, 2, 0, 0, 0, 0) := by decide +kernel
theorem r_149_32 : xrow 149 32 = some (.invokevirtual 128, 3, 157, 0, 0, 903) := by decide +kernel
theorem r_149_35 : xrow 149 35 = some (.goto 8, 3, 43, 0, 0, 0) := by decide +kernel
theorem r_149_38 : xrow 149 38 = some (.aload_n 0, 1, 0, 0, 0, 0) := by decide +kernel
theorem r_149_39 : xrow 149 39 = some (.iload_n 1, 1, 0, 0, 0, 0) := by decide +kernel
theorem r_149_40 : xrow 149 40 = some (.invokevirtual 152, 3, 156, 0, 0, 911) := by decide +kernel
theorem r_149_43 : xrow 149 43 = some (.ireturn, 1, 0, 0, 0, 0) := by decide +kernel
theorem r_150_0 : xrow 150 0 = some (.aload_n 0, 1, 0, 0, 0, 0) := by decide +kernel
theorem r_150_1 : xrow 150 1 = some (.getfield 45, 3, 21, 5, 2, 877) := by decide +kernel
theorem r_150_4 : xrow 150 4 = some (.invokevirtual 184, 3, 2, 0, 0, 920) := by decide +kernel
theorem r_150_7 : xrow 150 7 = some (.ifCond .eq 7, 3, 14, 0, 0, 0) := by decide +kernel
theorem r_150_10 : xrow 150 10 = some (.iload_n 1, 1, 0, 0, 0, 0) := by decide +kernel
theorem r_150_11 : xrow 150 11 = some (.ifCond .ge 9, 3, 20, 0, 0, 0) := by decide +kernel
theorem r_150_14 : xrow 150 14 = some (.aload_n 0, 1, 0, 0, 0, 0) := by decide +kernel
theorem r_150_15 : xrow 150 15 = some (.iconst 1, 1, 0, 0, 0, 0) := by decide +kernel
theorem r_150_16 : xrow 150 16 = some (.invokevirtual 128, 3, 157, 0, 0, 903) := by decide +kernel
theorem r_150_19 : xrow 150 19 = some (.ireturn, 1, 0, 0, 0, 0) := by decide +kernel
theorem r_150_20 : xrow 150 20 = some (.aload_n 0, 1, 0, 0, 0, 0) := by decide +kernel
theorem r_150_21 : xrow 150 21 = some (.aload_n 0, 1, 0, 0, 0, 0) := by decide +kernel
theorem r_150_22 : xrow 150 22 = some (.getfield 104, 3, 21, 14, 2, 896) := by decide +kernel
theorem r_150_25 : xrow 150 25 = some (.iload_n 1, 1, 0, 0, 0, 0) := by decide +kernel
theorem r_150_26 : xrow 150 26 = some (.invokevirtual 353, 3, 27, 0, 0, 971) := by decide +kernel
theorem r_150_29 : xrow 150 29 = some (.invokevirtual 152, 3, 156, 0, 0, 911) := by decide +kernel
theorem r_150_32 : xrow 150 32 = some (.ireturn, 1, 0, 0, 0, 0) := by decide +kernel
theorem r_151_0 : xrow 151 0 = some (.iload_n 1, 1, 0, 0, 0, 0) := by decide +kernel
theorem r_151_1 : xrow 151 1 = some (.ifCond .lt 29, 3, 30, 0, 0, 0) := by decide +kernel
theorem r_151_4 : xrow 151 4 = some (.iload_n 1, 1, 0, 0, 0, 0) := by decide +kernel
theorem r_151_5 : xrow 151 5 = some (.aload_n 0, 1, 0, 0, 0, 0) := by decide +kernel
theorem r_151_6 : xrow 151 6 = some (.getfield 45, 3, 21, 5, 2, 877) := by decide +kernel
theorem r_151_9 : xrow 151 9 = some (.getfield 356, 3, 10, 4, 0, 972) := by decide +kernel
theorem r_151_12 : xrow 151 12 = some (.if_icmp .ge 18, 3, 30, 0, 0, 0) := by decide +kernel
theorem r_151_15 : xrow 151 15 = some (.iload_n 2, 1, 0, 0, 0, 0) := by decide +kernel
theorem r_151_16 : xrow 151 16 = some (.ifCond .lt 14, 3, 30, 0, 0, 0) := by decide +kernel
theorem r_151_19 : xrow 151 19 = some (.iload_n 2, 1, 0, 0, 0, 0) := by decide +kernel
theorem r_151_20 : xrow 151 20 = some (.aload_n 0, 1, 0, 0, 0, 0) := by decide +kernel
theorem r_151_21 : xrow 151 21 = some (.getfield 45, 3, 21, 5, 2, 877) := by decide +kernel
theorem r_151_24 : xrow 151 24 = some (.getfield 191, 3, 10, 10, 0, 922) := by decide +kernel
theorem r_151_27 : xrow 151 27 = some (.if_icmp .lt 9, 3, 36, 0, 0, 0) := by decide +kernel
theorem r_151_30 : xrow 151 30 = some (.aload_n 0, 1, 0, 0, 0, 0) := by decide +kernel
theorem r_151_31 : xrow 151 31 = some (.iconst 1, 1, 0, 0, 0, 0) := by decide +kernel
theorem r_151_32 : xrow 151 32 = some (.invokevirtual 128, 3, 157, 0, 0, 903) := by decide +kernel
theorem r_151_35 : xrow 151 35 = some (.ireturn, 1, 0, 0, 0, 0) := by decide +kernel
theorem r_151_36 : xrow 151 36 = some (.aload_n 0, 1, 0, 0, 0, 0) := by decide +kernel
theorem r_151_37 : xrow 151 37 = some (.getfield 104, 3, 21, 14, 2, 896) := by decide +kernel
theorem r_151_40 : xrow 151 40 = some (.iload_n 1, 1, 0, 0, 0, 0) := by decide +kernel
theorem r_151_41 : xrow 151 41 = some (.iload_n 2, 1, 0, 0, 0, 0) := by decide +kernel
theorem r_151_42 : xrow 151 42 = some (.invokevirtual 359, 3, 22, 0, 0, 973) := by decide +kernel
theorem r_151_45 : xrow 151 45 = some (.aload_n 0, 1, 0, 0, 0, 0) := by decide +kernel
theorem r_151_46 : xrow 151 46 = some (.aload_n 0, 1, 0, 0, 0, 0) := by decide +kernel
theorem r_151_47 : xrow 151 47 = some (.getfield 104, 3, 21, 14, 2, 896) := by decide +kernel
theorem r_151_50 : xrow 151 50 = some (.invokevirtual 362, 3, 23, 0, 0, 974) := by decide +kernel
theorem r_151_53 : xrow 151 53 = some (.invokevirtual 152, 3, 156, 0, 0, 911) := by decide +kernel
theorem r_151_56 : xrow 151 56 = some (.ireturn, 1, 0, 0, 0, 0) := by decide +kernel
theorem r_152_0 : xrow 152 0 = some (.iload_n 1, 1, 0, 0, 0, 0) := by decide +kernel
theorem r_152_1 : xrow 152 1 = some (.tableswitch 177 0 13 #[71, 79, 87, 95, 103, 111, 119, 127, 135, 143, 151, 159, 164, 172], 71, 0, 0, 0, 0) := by decide +kernel
theorem r_152_72 : xrow 152 72 = some (.aload_n 0, 1, 0, 0, 0, 0) := by decide +kernel
theorem r_152_73 : xrow 152 73 = some (.getfield 45, 3, 21, 5, 2, 877) := by decide +kernel
theorem r_152_76 : xrow 152 76 = some (.getfield 149, 3, 10, 0, 0, 910) := by decide +kernel
theorem r_152_79 : xrow 152 79 = some (.ireturn, 1, 0, 0, 0, 0) := by decide +kernel
theorem r_152_80 : xrow 152 80 = some (.aload_n 0, 1, 0, 0, 0, 0) := by decide +kernel
theorem r_152_81 : xrow 152 81 = some (.getfield 45, 3, 21, 5, 2, 877) := by decide +kernel
theorem r_152_84 : xrow 152 84 = some (.getfield 356, 3, 10, 4, 0, 972) := by decide +kernel
theorem r_152_87 : xrow 152 87 = some (.ireturn, 1, 0, 0, 0, 0) := by decide +kernel
theorem r_152_88 : xrow 152 88 = some (.aload_n 0, 1, 0, 0, 0, 0) := by decide +kernel
theorem r_152_89 : xrow 152 89 = some (.getfield 45, 3, 21, 5, 2, 877) := by decide +kernel
theorem r_152_92 : xrow 152 92 = some (.getfield 191, 3, 10, 10, 0, 922) := by decide +kernel
theorem r_152_95 : xrow 152 95 = some (.ireturn, 1, 0, 0, 0, 0) := by decide +kernel
theorem r_152_96 : xrow 152 96 = some (.aload_n 0, 1, 0, 0, 0, 0) := by decide +kernel
theorem r_152_97 : xrow 152 97 = some (.getfield 45, 3, 21, 5, 2, 877) := by decide +kernel
theorem r_152_100 : xrow 152 100 = some (.getfield 365, 3, 10, 11, 0, 975) := by decide +kernel
theorem r_152_103 : xrow 152 103 = some (.ireturn, 1, 0, 0, 0, 0) := by decide +kernel
theorem r_152_104 : xrow 152 104 = some (.aload_n 0, 1, 0, 0, 0, 0) := by decide +kernel
theorem r_152_105 : xrow 152 105 = some (.getfield 45, 3, 21, 5, 2, 877) := by decide +kernel
theorem r_152_108 : xrow 152 108 = some (.getfield 368, 3, 10, 12, 0, 976) := by decide +kernel
theorem r_152_111 : xrow 152 111 = some (.ireturn, 1, 0, 0, 0, 0) := by decide +kernel
theorem r_152_112 : xrow 152 112 = some (.aload_n 0, 1, 0, 0, 0, 0) := by decide +kernel
theorem r_152_113 : xrow 152 113 = some (.getfield 45, 3, 21, 5, 2, 877) := by decide +kernel
theorem r_152_116 : xrow 152 116 = some (.getfield 370, 3, 10, 13, 0, 977) := by decide +kernel
theorem r_152_119 : xrow 152 119 = some (.ireturn, 1, 0, 0, 0, 0) := by decide +kernel
theorem r_152_120 : xrow 152 120 = some (.aload_n 0, 1, 0, 0, 0, 0) := by decide +kernel
theorem r_152_121 : xrow 152 121 = some (.getfield 45, 3, 21, 5, 2, 877) := by decide +kernel
theorem r_152_124 : xrow 152 124 = some (.getfield 373, 3, 10, 14, 0, 978) := by decide +kernel
theorem r_152_127 : xrow 152 127 = some (.ireturn, 1, 0, 0, 0, 0) := by decide +kernel
theorem r_152_128 : xrow 152 128 = some (.aload_n 0, 1, 0, 0, 0, 0) := by decide +kernel
theorem r_152_129 : xrow 152 129 = some (.getfield 74, 3, 21, 10, 2, 886) := by decide +kernel
theorem r_152_132 : xrow 152 132 = some (.getfield 194, 3, 18, 2, 0, 923) := by decide +kernel
theorem r_152_135 : xrow 152 135 = some (.ireturn, 1, 0, 0, 0, 0) := by decide +kernel
theorem r_152_136 : xrow 152 136 = some (.aload_n 0, 1, 0, 0, 0, 0) := by decide +kernel
theorem r_152_137 : xrow 152 137 = some (.getfield 65, 3, 21, 9, 2, 883) := by decide +kernel
theorem r_152_140 : xrow 152 140 = some (.getfield 155, 3, 15, 2, 0, 912) := by decide +kernel
theorem r_152_143 : xrow 152 143 = some (.ireturn, 1, 0, 0, 0, 0) := by decide +kernel
theorem r_152_144 : xrow 152 144 = some (.aload_n 0, 1, 0, 0, 0, 0) := by decide +kernel
theorem r_152_145 : xrow 152 145 = some (.getfield 65, 3, 21, 9, 2, 883) := by decide +kernel
theorem r_152_148 : xrow 152 148 = some (.getfield 158, 3, 15, 3, 0, 913) := by decide +kernel
theorem r_152_151 : xrow 152 151 = some (.ireturn, 1, 0, 0, 0, 0) := by decide +kernel
theorem r_152_152 : xrow 152 152 = some (.aload_n 0, 1, 0, 0, 0, 0) := by decide +kernel
theorem r_152_153 : xrow 152 153 = some (.getfield 65, 3, 21, 9, 2, 883) := by decide +kernel
theorem r_152_156 : xrow 152 156 = some (.invokevirtual 376, 3, 54, 0, 0, 979) := by decide +kernel
theorem r_152_159 : xrow 152 159 = some (.ireturn, 1, 0, 0, 0, 0) := by decide +kernel
theorem r_152_160 : xrow 152 160 = some (.aload_n 0, 1, 0, 0, 0, 0) := by decide +kernel
theorem r_152_161 : xrow 152 161 = some (.getfield 59, 3, 21, 8, 0, 881) := by decide +kernel
theorem r_152_164 : xrow 152 164 = some (.ireturn, 1, 0, 0, 0, 0) := by decide +kernel
theorem r_152_165 : xrow 152 165 = some (.aload_n 0, 1, 0, 0, 0, 0) := by decide +kernel
theorem r_152_166 : xrow 152 166 = some (.getfield 104, 3, 21, 14, 2, 896) := by decide +kernel
theorem r_152_169 : xrow 152 169 = some (.invokevirtual 362, 3, 23, 0, 0, 974) := by decide +kernel
theorem r_152_172 : xrow 152 172 = some (.ireturn, 1, 0, 0, 0, 0) := by decide +kernel
theorem r_152_173 : xrow 152 173 = some (.aload_n 0, 1, 0, 0, 0, 0) := by decide +kernel
theorem r_152_174 : xrow 152 174 = some (.getfield 13, 3, 21, 1, 0, 866) := by decide +kernel
theorem r_152_177 : xrow 152 177 = some (.ireturn, 1, 0, 0, 0, 0) := by decide +kernel
theorem r_152_178 : xrow 152 178 = some (.iconst (-1), 1, 0, 0, 0, 0) := by decide +kernel
theorem r_152_179 : xrow 152 179 = some (.ireturn, 1, 0, 0, 0, 0) := by decide +kernel
theorem r_153_0 : xrow 153 0 = some (.aload_n 0, 1, 0, 0, 0, 0) := by decide +kernel
theorem r_153_1 : xrow 153 1 = some (.getfield 118, 3, 21, 18, 0, 900) := by decide +kernel
theorem r_153_4 : xrow 153 4 = some (.ireturn, 1, 0, 0, 0, 0) := by decide +kernel
theorem r_154_0 : xrow 154 0 = some (.aload_n 0, 1, 0, 0, 0, 0) := by decide +kernel
theorem r_154_1 : xrow 154 1 = some (.getfield 65, 3, 21, 9, 2, 883) := by decide +kernel
theorem r_154_4 : xrow 154 4 = some (.iload_n 1, 1, 0, 0, 0, 0) := by decide +kernel
theorem r_154_5 : xrow 154 5 = some (.invokevirtual 207, 3, 47, 0, 0, 927) := by decide +kernel
theorem r_154_8 : xrow 154 8 = some (.ifCond .eq 18, 3, 26, 0, 0, 0) := by decide +kernel
theorem r_154_11 : xrow 154 11 = some (.aload_n 0, 1, 0, 0, 0, 0) := by decide +kernel
theorem r_154_12 : xrow 154 12 = some (.getfield 65, 3, 21, 9, 2, 883) := by decide +kernel
theorem r_154_15 : xrow 154 15 = some (.iload_n 2, 1, 0, 0, 0, 0) := by decide +kernel
theorem r_154_16 : xrow 154 16 = some (.invokevirtual 207, 3, 47, 0, 0, 927) := by decide +kernel
theorem r_154_19 : xrow 154 19 = some (.ifCond .eq 7, 3, 26, 0, 0, 0) := by decide +kernel
theorem r_154_22 : xrow 154 22 = some (.iconst 1, 1, 0, 0, 0, 0) := by decide +kernel
theorem r_154_23 : xrow 154 23 = some (.goto 4, 3, 27, 0, 0, 0) := by decide +kernel
theorem r_154_26 : xrow 154 26 = some (.iconst 0, 1, 0, 0, 0, 0) := by decide +kernel
theorem r_154_27 : xrow 154 27 = some (.ireturn, 1, 1, 0, 0, 0) := by decide +kernel
theorem r_155_0 : xrow 155 0 = some (.iload_n 1, 1, 0, 0, 0, 0) := by decide +kernel
theorem r_155_1 : xrow 155 1 = some (.ifCond .lt 15, 3, 16, 0, 0, 0) := by decide +kernel
theorem r_155_4 : xrow 155 4 = some (.iload_n 1, 1, 0, 0, 0, 0) := by decide +kernel
theorem r_155_5 : xrow 155 5 = some (.aload_n 0, 1, 0, 0, 0, 0) := by decide +kernel
theorem r_155_6 : xrow 155 6 = some (.getfield 59, 3, 21, 8, 0, 881) := by decide +kernel
theorem r_155_9 : xrow 155 9 = some (.if_icmp .ge 7, 3, 16, 0, 0, 0) := by decide +kernel
theorem r_155_12 : xrow 155 12 = some (.iconst 1, 1, 0, 0, 0, 0) := by decide +kernel
theorem r_155_13 : xrow 155 13 = some (.goto 4, 3, 17, 0, 0, 0) := by decide +kernel
theorem r_155_16 : xrow 155 16 = some (.iconst 0, 1, 0, 0, 0, 0) := by decide +kernel
theorem r_155_17 : xrow 155 17 = some (.ireturn, 1, 1, 0, 0, 0) := by decide +kernel
theorem r_156_0 : xrow 156 0 = some (.aload_n 0, 1, 0, 0, 0, 0) := by decide +kernel
theorem r_156_1 : xrow 156 1 = some (.iconst 0, 1, 0, 0, 0, 0) := by decide +kernel
theorem r_156_2 : xrow 156 2 = some (.putfield 118, 3, 21, 18, 0, 900) := by decide +kernel
theorem r_156_5 : xrow 156 5 = some (.iload_n 1, 1, 0, 0, 0, 0) := by decide +kernel
theorem r_156_6 : xrow 156 6 = some (.ireturn, 1, 0, 0, 0, 0) := by decide +kernel
theorem r_157_0 : xrow 157 0 = some (.aload_n 0, 1, 0, 0, 0, 0) := by decide +kernel
theorem r_157_1 : xrow 157 1 = some (.iload_n 1, 1, 0, 0, 0, 0) := by decide +kernel
theorem r_157_2 : xrow 157 2 = some (.putfield 118, 3, 21, 18, 0, 900) := by decide +kernel
theorem r_157_5 : xrow 157 5 = some (.iconst (-1), 1, 0, 0, 0, 0) := by decide +kernel
theorem r_157_6 : xrow 157 6 = some (.ireturn, 1, 0, 0, 0, 0) := by decide +kernel
theorem r_158_0 : xrow 158 0 = some (.aload_n 0, 1, 0, 0, 0, 0) := by decide +kernel
theorem r_158_1 : xrow 158 1 = some (.iload_n 1, 1, 0, 0, 0, 0) := by decide +kernel
theorem r_158_2 : xrow 158 2 = some (.putfield 118, 3, 21, 18, 0, 900) := by decide +kernel
theorem r_158_5 : xrow 158 5 = some (.ldc2_w 379, 3, 2, 0, 0, 980) := by decide +kernel
theorem r_158_8 : xrow 158 8 = some (.lreturn, 1, 0, 0, 0, 0) := by decide +kernel
theorem r_159_0 : xrow 159 0 = some (.aload_n 0, 1, 0, 0, 0, 0) := by decide +kernel
theorem r_159_1 : xrow 159 1 = some (.iconst 0, 1, 0, 0, 0, 0) := by decide +kernel
theorem r_159_2 : xrow 159 2 = some (.putfield 118, 3, 21, 18, 0, 900) := by decide +kernel
theorem r_159_5 : xrow 159 5 = some (.iconst 1, 1, 0, 0, 0, 0) := by decide +kernel
theorem r_159_6 : xrow 159 6 = some (.ireturn, 1, 1, 0, 0, 0) := by decide +kernel
theorem r_160_0 : xrow 160 0 = some (.aload_n 0, 1, 0, 0, 0, 0) := by decide +kernel
theorem r_160_1 : xrow 160 1 = some (.iload_n 1, 1, 0, 0, 0, 0) := by decide +kernel
theorem r_160_2 : xrow 160 2 = some (.putfield 118, 3, 21, 18, 0, 900) := by decide +kernel
theorem r_160_5 : xrow 160 5 = some (.iconst 0, 1, 0, 0, 0, 0) := by decide +kernel
theorem r_160_6 : xrow 160 6 = some (.ireturn, 1, 1, 0, 0, 0) := by decide +kernel
theorem r_161_0 : xrow 161 0 = some (.lload_n 0, 1, 0, 0, 0, 0) := by decide +kernel
theorem r_161_1 : xrow 161 1 = some (.lstore 5, 2, 0, 0, 0, 0) := by decide +kernel
theorem r_161_3 : xrow 161 3 = some (.lload_n 2, 1, 0, 0, 0, 0) := by decide +kernel
theorem r_161_4 : xrow 161 4 = some (.lstore 7, 2, 0, 0, 0, 0) := by decide +kernel
theorem r_161_6 : xrow 161 6 = some (.iconst 0, 1, 0, 0, 0, 0) := by decide +kernel
theorem r_161_7 : xrow 161 7 = some (.istore 9, 2, 0, 0, 0, 0) := by decide +kernel
theorem r_161_9 : xrow 161 9 = some (.iload 9, 2, 0, 0, 0, 0) := by decide +kernel
theorem r_161_11 : xrow 161 11 = some (.bipush 100, 2, 0, 0, 0, 0) := by decide +kernel
theorem r_161_13 : xrow 161 13 = some (.if_icmp .ge 31, 3, 44, 0, 0, 0) := by decide +kernel
theorem r_161_16 : xrow 161 16 = some (.lload 7, 2, 0, 0, 0, 0) := by decide +kernel
theorem r_161_18 : xrow 161 18 = some (.lconst 0, 1, 0, 0, 0, 0) := by decide +kernel
theorem r_161_19 : xrow 161 19 = some (.lcmp, 1, 0, 0, 0, 0) := by decide +kernel
theorem r_161_20 : xrow 161 20 = some (.ifCond .eq 24, 3, 44, 0, 0, 0) := by decide +kernel
theorem r_161_23 : xrow 161 23 = some (.lload 5, 2, 0, 0, 0, 0) := by decide +kernel
theorem r_161_25 : xrow 161 25 = some (.lload 7, 2, 0, 0, 0, 0) := by decide +kernel
theorem r_161_27 : xrow 161 27 = some (.lrem, 1, 0, 0, 0, 0) := by decide +kernel
theorem r_161_28 : xrow 161 28 = some (.lstore 10, 2, 0, 0, 0, 0) := by decide +kernel
theorem r_161_30 : xrow 161 30 = some (.lload 7, 2, 0, 0, 0, 0) := by decide +kernel
theorem r_161_32 : xrow 161 32 = some (.lstore 5, 2, 0, 0, 0, 0) := by decide +kernel
theorem r_161_34 : xrow 161 34 = some (.lload 10, 2, 0, 0, 0, 0) := by decide +kernel
theorem r_161_36 : xrow 161 36 = some (.lstore 7, 2, 0, 0, 0, 0) := by decide +kernel
theorem r_161_38 : xrow 161 38 = some (.iinc 9 1, 3, 0, 0, 0, 0) := by decide +kernel
theorem r_161_41 : xrow 161 41 = some (.goto (-32), 3, 9, 0, 0, 0) := by decide +kernel
theorem r_161_44 : xrow 161 44 = some (.lload 5, 2, 0, 0, 0, 0) := by decide +kernel
theorem r_161_46 : xrow 161 46 = some (.lconst 0, 1, 0, 0, 0, 0) := by decide +kernel
theorem r_161_47 : xrow 161 47 = some (.lcmp, 1, 0, 0, 0, 0) := by decide +kernel
theorem r_161_48 : xrow 161 48 = some (.ifCond .gt 14, 3, 62, 0, 0, 0) := by decide +kernel
theorem r_161_51 : xrow 161 51 = some (.iload 4, 2, 0, 0, 0, 0) := by decide +kernel
theorem r_161_53 : xrow 161 53 = some (.ifCond .eq 7, 3, 60, 0, 0, 0) := by decide +kernel
theorem r_161_56 : xrow 161 56 = some (.lload_n 2, 1, 0, 0, 0, 0) := by decide +kernel
theorem r_161_57 : xrow 161 57 = some (.goto 4, 3, 61, 0, 0, 0) := by decide +kernel
theorem r_161_60 : xrow 161 60 = some (.lload_n 0, 1, 0, 0, 0, 0) := by decide +kernel
theorem r_161_61 : xrow 161 61 = some (.lreturn, 1, 0, 0, 0, 0) := by decide +kernel
theorem r_161_62 : xrow 161 62 = some (.iload 4, 2, 0, 0, 0, 0) := by decide +kernel
theorem r_161_64 : xrow 161 64 = some (.ifCond .eq 7, 3, 71, 0, 0, 0) := by decide +kernel
theorem r_161_67 : xrow 161 67 = some (.lload_n 2, 1, 0, 0, 0, 0) := by decide +kernel
theorem r_161_68 : xrow 161 68 = some (.goto 4, 3, 72, 0, 0, 0) := by decide +kernel
theorem r_161_71 : xrow 161 71 = some (.lload_n 0, 1, 0, 0, 0, 0) := by decide +kernel
theorem r_161_72 : xrow 161 72 = some (.lload 5, 2, 0, 0, 0, 0) := by decide +kernel
theorem r_161_74 : xrow 161 74 = some (.ldiv, 1, 0, 0, 0, 0) := by decide +kernel
theorem r_161_75 : xrow 161 75 = some (.lreturn, 1, 0, 0, 0, 0) := by decide +kernel
theorem r_162_0 : xrow 162 0 = some (.aload_n 0, 1, 0, 0, 0, 0) := by decide +kernel
theorem r_162_1 : xrow 162 1 = some (.invokespecial 1, 3, 0, 1, 0, 981) := by decide +kernel
theorem r_162_4 : xrow 162 4 = some (.aload_n 0, 1, 0, 0, 0, 0) := by decide +kernel
theorem r_162_5 : xrow 162 5 = some (.sipush 500, 3, 0, 0, 0, 0) := by decide +kernel
theorem r_162_8 : xrow 162 8 = some (.newarray .int, 2, 0, 0, 0, 0) := by decide +kernel
theorem r_162_10 : xrow 162 10 = some (.putfield 7, 3, 22, 1, 2, 982) := by decide +kernel
theorem r_162_13 : xrow 162 13 = some (.aload_n 0, 1, 0, 0, 0, 0) := by decide +kernel
theorem r_162_14 : xrow 162 14 = some (.bipush 8, 2, 0, 0, 0, 0) := by decide +kernel
theorem r_162_16 : xrow 162 16 = some (.newarray .int, 2, 0, 0, 0, 0) := by decide +kernel
theorem r_162_18 : xrow 162 18 = some (.putfield 13, 3, 22, 11, 2, 983) := by decide +kernel
theorem r_162_21 : xrow 162 21 = some (.aload_n 0, 1, 0, 0, 0, 0) := by decide +kernel
theorem r_162_22 : xrow 162 22 = some (.bipush 64, 2, 0, 0, 0, 0) := by decide +kernel
theorem r_162_24 : xrow 162 24 = some (.newarray .int, 2, 0, 0, 0, 0) := by decide +kernel
theorem r_162_26 : xrow 162 26 = some (.putfield 16, 3, 22, 14, 2, 984) := by decide +kernel
theorem r_162_29 : xrow 162 29 = some (.aload_n 0, 1, 0, 0, 0, 0) := by decide +kernel
theorem r_162_30 : xrow 162 30 = some (.bipush 8, 2, 0, 0, 0, 0) := by decide +kernel
theorem r_162_32 : xrow 162 32 = some (.newarray .int, 2, 0, 0, 0, 0) := by decide +kernel
theorem r_162_34 : xrow 162 34 = some (.putfield 19, 3, 22, 15, 2, 985) := by decide +kernel
theorem r_162_37 : xrow 162 37 = some (.aload_n 0, 1, 0, 0, 0, 0) := by decide +kernel
theorem r_162_38 : xrow 162 38 = some (.bipush 64, 2, 0, 0, 0, 0) := by decide +kernel
theorem r_162_40 : xrow 162 40 = some (.newarray .int, 2, 0, 0, 0, 0) := by decide +kernel
theorem r_162_42 : xrow 162 42 = some (.putfield 22, 3, 22, 16, 2, 986) := by decide +kernel
theorem r_162_45 : xrow 162 45 = some (.aload_n 0, 1, 0, 0, 0, 0) := by decide +kernel
theorem r_162_46 : xrow 162 46 = some (.bipush 8, 2, 0, 0, 0, 0) := by decide +kernel
theorem r_162_48 : xrow 162 48 = some (.newarray .int, 2, 0, 0, 0, 0) := by decide +kernel
theorem r_162_50 : xrow 162 50 = some (.putfield 25, 3, 22, 17, 2, 987) := by decide +kernel
theorem r_162_53 : xrow 162 53 = some (.aload_n 0, 1, 0, 0, 0, 0) := by decide +kernel
theorem r_162_54 : xrow 162 54 = some (.bipush 8, 2, 0, 0, 0, 0) := by decide +kernel
theorem r_162_56 : xrow 162 56 = some (.newarray .int, 2, 0, 0, 0, 0) := by decide +kernel
theorem r_162_58 : xrow 162 58 = some (.putfield 28, 3, 22, 18, 2, 988) := by decide +kernel
theorem r_162_61 : xrow 162 61 = some (.aload_n 0, 1, 0, 0, 0, 0) := by decide +kernel
theorem r_162_62 : xrow 162 62 = some (.bipush 8, 2, 0, 0, 0, 0) := by decide +kernel
theorem r_162_64 : xrow 162 64 = some (.newarray .int, 2, 0, 0, 0, 0) := by decide +kernel
theorem r_162_66 : xrow 162 66 = some (.putfield 31, 3, 22, 19, 2, 989) := by decide +kernel
theorem r_162_69 : xrow 162 69 = some (.aload_n 0, 1, 0, 0, 0, 0) := by decide +kernel
theorem r_162_70 : xrow 162 70 = some (.bipush 64, 2, 0, 0, 0, 0) := by decide +kernel
theorem r_162_72 : xrow 162 72 = some (.newarray .int, 2, 0, 0, 0, 0) := by decide +kernel
theorem r_162_74 : xrow 162 74 = some (.putfield 34, 3, 22, 20, 2, 990) := by decide +kernel
theorem r_162_77 : xrow 162 77 = some (.aload_n 0, 1, 0, 0, 0, 0) := by decide +kernel
theorem r_162_78 : xrow 162 78 = some (.bipush 64, 2, 0, 0, 0, 0) := by decide +kernel
theorem r_162_80 : xrow 162 80 = some (.newarray .int, 2, 0, 0, 0, 0) := by decide +kernel
theorem r_162_82 : xrow 162 82 = some (.putfield 37, 3, 22, 21, 2, 991) := by decide +kernel
theorem r_162_85 : xrow 162 85 = some (.aload_n 0, 1, 0, 0, 0, 0) := by decide +kernel
theorem r_162_86 : xrow 162 86 = some (.bipush 6, 2, 0, 0, 0, 0) := by decide +kernel
theorem r_162_88 : xrow 162 88 = some (.newarray .int, 2, 0, 0, 0, 0) := by decide +kernel
theorem r_162_90 : xrow 162 90 = some (.putfield 40, 3, 22, 30, 2, 992) := by decide +kernel
theorem r_162_93 : xrow 162 93 = some (.aload_n 0, 1, 0, 0, 0, 0) := by decide +kernel
theorem r_162_94 : xrow 162 94 = some (.bipush 6, 2, 0, 0, 0, 0) := by decide +kernel
theorem r_162_96 : xrow 162 96 = some (.newarray .int, 2, 0, 0, 0, 0) := by decide +kernel
theorem r_162_98 : xrow 162 98 = some (.putfield 43, 3, 22, 31, 2, 993) := by decide +kernel
theorem r_162_101 : xrow 162 101 = some (.aload_n 0, 1, 0, 0, 0, 0) := by decide +kernel
theorem r_162_102 : xrow 162 102 = some (.bipush 6, 2, 0, 0, 0, 0) := by decide +kernel
theorem r_162_104 : xrow 162 104 = some (.newarray .int, 2, 0, 0, 0, 0) := by decide +kernel
theorem r_162_106 : xrow 162 106 = some (.putfield 46, 3, 22, 32, 2, 994) := by decide +kernel
theorem r_162_109 : xrow 162 109 = some (.aload_n 0, 1, 0, 0, 0, 0) := by decide +kernel
theorem r_162_110 : xrow 162 110 = some (.sipush 400, 3, 0, 0, 0, 0) := by decide +kernel
theorem r_162_113 : xrow 162 113 = some (.newarray .int, 2, 0, 0, 0, 0) := by decide +kernel
theorem r_162_115 : xrow 162 115 = some (.putfield 49, 3, 22, 33, 2, 995) := by decide +kernel
theorem r_162_118 : xrow 162 118 = some (.aload_n 0, 1, 0, 0, 0, 0) := by decide +kernel
theorem r_162_119 : xrow 162 119 = some (.bipush 100, 2, 0, 0, 0, 0) := by decide +kernel
theorem r_162_121 : xrow 162 121 = some (.newarray .int, 2, 0, 0, 0, 0) := by decide +kernel
theorem r_162_123 : xrow 162 123 = some (.putfield 52, 3, 22, 41, 2, 996) := by decide +kernel
theorem r_162_126 : xrow 162 126 = some (.aload_n 0, 1, 0, 0, 0, 0) := by decide +kernel
theorem r_162_127 : xrow 162 127 = some (.bipush 100, 2, 0, 0, 0, 0) := by decide +kernel
theorem r_162_129 : xrow 162 129 = some (.newarray .int, 2, 0, 0, 0, 0) := by decide +kernel
theorem r_162_131 : xrow 162 131 = some (.putfield 55, 3, 22, 42, 2, 997) := by decide +kernel
theorem r_162_134 : xrow 162 134 = some (.aload_n 0, 1, 0, 0, 0, 0) := by decide +kernel
theorem r_162_135 : xrow 162 135 = some (.bipush 100, 2, 0, 0, 0, 0) := by decide +kernel
theorem r_162_137 : xrow 162 137 = some (.newarray .int, 2, 0, 0, 0, 0) := by decide +kernel
theorem r_162_139 : xrow 162 139 = some (.putfield 58, 3, 22, 43, 2, 998) := by decide +kernel
theorem r_162_142 : xrow 162 142 = some (.aload_n 0, 1, 0, 0, 0, 0) := by decide +kernel
theorem r_162_143 : xrow 162 143 = some (.iconst 5, 1, 0, 0, 0, 0) := by decide +kernel
theorem r_162_144 : xrow 162 144 = some (.newarray .int, 2, 0, 0, 0, 0) := by decide +kernel
theorem r_162_146 : xrow 162 146 = some (.putfield 61, 3, 22, 44, 2, 999) := by decide +kernel
theorem r_162_149 : xrow 162 149 = some (.aload_n 0, 1, 0, 0, 0, 0) := by decide +kernel
theorem r_162_150 : xrow 162 150 = some (.iconst 5, 1, 0, 0, 0, 0) := by decide +kernel
theorem r_162_151 : xrow 162 151 = some (.newarray .int, 2, 0, 0, 0, 0) := by decide +kernel
theorem r_162_153 : xrow 162 153 = some (.putfield 64, 3, 22, 45, 2, 1000) := by decide +kernel
theorem r_162_156 : xrow 162 156 = some (.aload_n 0, 1, 0, 0, 0, 0) := by decide +kernel
theorem r_162_157 : xrow 162 157 = some (.bipush 40, 2, 0, 0, 0, 0) := by decide +kernel
theorem r_162_159 : xrow 162 159 = some (.newarray .int, 2, 0, 0, 0, 0) := by decide +kernel
theorem r_162_161 : xrow 162 161 = some (.putfield 67, 3, 22, 46, 2, 1001) := by decide +kernel
theorem r_162_164 : xrow 162 164 = some (.aload_n 0, 1, 0, 0, 0, 0) := by decide +kernel
theorem r_162_165 : xrow 162 165 = some (.bipush 6, 2, 0, 0, 0, 0) := by decide +kernel
theorem r_162_167 : xrow 162 167 = some (.newarray .int, 2, 0, 0, 0, 0) := by decide +kernel
theorem r_162_169 : xrow 162 169 = some (.putfield 70, 3, 22, 47, 2, 1002) := by decide +kernel
theorem r_162_172 : xrow 162 172 = some (.aload_n 0, 1, 0, 0, 0, 0) := by decide +kernel
theorem r_162_173 : xrow 162 173 = some (.ldc 73, 2, 102400, 0, 0, 1003) := by decide +kernel
theorem r_162_175 : xrow 162 175 = some (.newarray .long, 2, 0, 0, 0, 0) := by decide +kernel
theorem r_162_177 : xrow 162 177 = some (.putfield 74, 3, 22, 48, 2, 1004) := by decide +kernel
theorem r_162_180 : xrow 162 180 = some (.aload_n 0, 1, 0, 0, 0, 0) := by decide +kernel
theorem r_162_181 : xrow 162 181 = some (.iconst (-1), 1, 0, 0, 0, 0) := by decide +kernel
theorem r_162_182 : xrow 162 182 = some (.putfield 78, 3, 22, 49, 0, 1005) := by decide +kernel
theorem r_162_185 : xrow 162 185 = some (.aload_n 0, 1, 0, 0, 0, 0) := by decide +kernel
theorem r_162_186 : xrow 162 186 = some (.bipush 20, 2, 0, 0, 0, 0) := by decide +kernel
theorem r_162_188 : xrow 162 188 = some (.newarray .int, 2, 0, 0, 0, 0) := by decide +kernel
theorem r_162_190 : xrow 162 190 = some (.putfield 82, 3, 22, 52, 2, 1006) := by decide +kernel
theorem r_162_193 : xrow 162 193 = some (.aload_n 0, 1, 0, 0, 0, 0) := by decide +kernel
theorem r_162_194 : xrow 162 194 = some (.iconst 5, 1, 0, 0, 0, 0) := by decide +kernel
theorem r_162_195 : xrow 162 195 = some (.newarray .int, 2, 0, 0, 0, 0) := by decide +kernel
theorem r_162_197 : xrow 162 197 = some (.putfield 85, 3, 22, 53, 2, 1007) := by decide +kernel
theorem r_162_200 : xrow 162 200 = some (.aload_n 0, 1, 0, 0, 0, 0) := by decide +kernel
theorem r_162_201 : xrow 162 201 = some (.sipush 2000, 3, 0, 0, 0, 0) := by decide +kernel
theorem r_162_204 : xrow 162 204 = some (.newarray .int, 2, 0, 0, 0, 0) := by decide +kernel
theorem r_162_206 : xrow 162 206 = some (.putfield 88, 3, 22, 54, 2, 1008) := by decide +kernel
theorem r_162_209 : xrow 162 209 = some (.aload_n 0, 1, 0, 0, 0, 0) := by decide +kernel
theorem r_162_210 : xrow 162 210 = some (.sipush 4096, 3, 0, 0, 0, 0) := by decide +kernel
theorem r_162_213 : xrow 162 213 = some (.newarray .int, 2, 0, 0, 0, 0) := by decide +kernel
theorem r_162_215 : xrow 162 215 = some (.putfield 91, 3, 22, 56, 2, 1009) := by decide +kernel
theorem r_162_218 : xrow 162 218 = some (.aload_n 0, 1, 0, 0, 0, 0) := by decide +kernel
theorem r_162_219 : xrow 162 219 = some (.bipush 8, 2, 0, 0, 0, 0) := by decide +kernel
theorem r_162_221 : xrow 162 221 = some (.newarray .int, 2, 0, 0, 0, 0) := by decide +kernel
theorem r_162_223 : xrow 162 223 = some (.putfield 94, 3, 22, 57, 2, 1010) := by decide +kernel
theorem r_162_226 : xrow 162 226 = some (.aload_n 0, 1, 0, 0, 0, 0) := by decide +kernel
theorem r_162_227 : xrow 162 227 = some (.bipush 8, 2, 0, 0, 0, 0) := by decide +kernel
theorem r_162_229 : xrow 162 229 = some (.newarray .int, 2, 0, 0, 0, 0) := by decide +kernel
theorem r_162_231 : xrow 162 231 = some (.putfield 97, 3, 22, 60, 2, 1011) := by decide +kernel
theorem r_162_234 : xrow 162 234 = some (.aload_n 0, 1, 0, 0, 0, 0) := by decide +kernel
theorem r_162_235 : xrow 162 235 = some (.bipush 8, 2, 0, 0, 0, 0) := by decide +kernel
theorem r_162_237 : xrow 162 237 = some (.newarray .int, 2, 0, 0, 0, 0) := by decide +kernel
theorem r_162_239 : xrow 162 239 = some (.putfield 100, 3, 22, 61, 2, 1012) := by decide +kernel
theorem r_162_242 : xrow 162 242 = some (.aload_n 0, 1, 0, 0, 0, 0) := by decide +kernel
theorem r_162_243 : xrow 162 243 = some (.bipush 8, 2, 0, 0, 0, 0) := by decide +kernel
theorem r_162_245 : xrow 162 245 = some (.newarray .boolean, 2, 0, 0, 0, 0) := by decide +kernel
theorem r_162_247 : xrow 162 247 = some (.putfield 103, 3, 22, 62, 2, 1013) := by decide +kernel
theorem r_162_250 : xrow 162 250 = some (.aload_n 0, 1, 0, 0, 0, 0) := by decide +kernel
theorem r_162_251 : xrow 162 251 = some (.iconst (-1), 1, 0, 0, 0, 0) := by decide +kernel
theorem r_162_252 : xrow 162 252 = some (.putfield 107, 3, 22, 63, 0, 1014) := by decide +kernel
theorem r_162_255 : xrow 162 255 = some (.aload_n 0, 1, 0, 0, 0, 0) := by decide +kernel
theorem r_162_256 : xrow 162 256 = some (.iconst (-1), 1, 0, 0, 0, 0) := by decide +kernel
theorem r_162_257 : xrow 162 257 = some (.putfield 110, 3, 22, 64, 0, 1015) := by decide +kernel
theorem r_162_260 : xrow 162 260 = some (.aload_n 0, 1, 0, 0, 0, 0) := by decide +kernel
theorem r_162_261 : xrow 162 261 = some (.iconst (-1), 1, 0, 0, 0, 0) := by decide +kernel
theorem r_162_262 : xrow 162 262 = some (.putfield 113, 3, 22, 65, 0, 1016) := by decide +kernel
theorem r_162_265 : xrow 162 265 = some (.aload_n 0, 1, 0, 0, 0, 0) := by decide +kernel
theorem r_162_266 : xrow 162 266 = some (.sipush 15625, 3, 0, 0, 0, 0) := by decide +kernel
theorem r_162_269 : xrow 162 269 = some (.newarray .int, 2, 0, 0, 0, 0) := by decide +kernel
theorem r_162_271 : xrow 162 271 = some (.putfield 116, 3, 22, 68, 2, 1017) := by decide +kernel
theorem r_162_274 : xrow 162 274 = some (.aload_n 0, 1, 0, 0, 0, 0) := by decide +kernel
theorem r_162_275 : xrow 162 275 = some (.sipush 400, 3, 0, 0, 0, 0) := by decide +kernel
theorem r_162_278 : xrow 162 278 = some (.newarray .int, 2, 0, 0, 0, 0) := by decide +kernel
theorem r_162_280 : xrow 162 280 = some (.putfield 119, 3, 22, 70, 2, 1018) := by decide +kernel
theorem r_162_283 : xrow 162 283 = some (.aload_n 0, 1, 0, 0, 0, 0) := by decide +kernel
theorem r_162_284 : xrow 162 284 = some (.sipush 3200, 3, 0, 0, 0, 0) := by decide +kernel
theorem r_162_287 : xrow 162 287 = some (.newarray .int, 2, 0, 0, 0, 0) := by decide +kernel
theorem r_162_289 : xrow 162 289 = some (.putfield 122, 3, 22, 71, 2, 1019) := by decide +kernel
theorem r_162_292 : xrow 162 292 = some (.aload_n 0, 1, 0, 0, 0, 0) := by decide +kernel
theorem r_162_293 : xrow 162 293 = some (.bipush 100, 2, 0, 0, 0, 0) := by decide +kernel
theorem r_162_295 : xrow 162 295 = some (.newarray .int, 2, 0, 0, 0, 0) := by decide +kernel
theorem r_162_297 : xrow 162 297 = some (.putfield 125, 3, 22, 72, 2, 1020) := by decide +kernel
theorem r_162_300 : xrow 162 300 = some (.aload_n 0, 1, 0, 0, 0, 0) := by decide +kernel
theorem r_162_301 : xrow 162 301 = some (.sipush 2000, 3, 0, 0, 0, 0) := by decide +kernel
theorem r_162_304 : xrow 162 304 = some (.newarray .int, 2, 0, 0, 0, 0) := by decide +kernel
theorem r_162_306 : xrow 162 306 = some (.putfield 128, 3, 22, 74, 2, 1021) := by decide +kernel
theorem r_162_309 : xrow 162 309 = some (.return_, 1, 0, 0, 0, 0) := by decide +kernel
theorem r_163_0 : xrow 163 0 = some (.aload_n 0, 1, 0, 0, 0, 0) := by decide +kernel
theorem r_163_1 : xrow 163 1 = some (.getfield 131, 3, 22, 0, 0, 1022) := by decide +kernel
theorem r_163_4 : xrow 163 4 = some (.ireturn, 1, 0, 0, 0, 0) := by decide +kernel
theorem r_164_0 : xrow 164 0 = some (.aload_n 0, 1, 0, 0, 0, 0) := by decide +kernel
theorem r_164_1 : xrow 164 1 = some (.iconst 0, 1, 0, 0, 0, 0) := by decide +kernel
theorem r_164_2 : xrow 164 2 = some (.putfield 131, 3, 22, 0, 0, 1022) := by decide +kernel
theorem r_164_5 : xrow 164 5 = some (.aload_n 0, 1, 0, 0, 0, 0) := by decide +kernel
theorem r_164_6 : xrow 164 6 = some (.iconst 0, 1, 0, 0, 0, 0) := by decide +kernel
theorem r_164_7 : xrow 164 7 = some (.putfield 134, 3, 22, 39, 0, 1023) := by decide +kernel
theorem r_164_10 : xrow 164 10 = some (.return_, 1, 0, 0, 0, 0) := by decide +kernel
theorem r_165_0 : xrow 165 0 = some (.aload_n 0, 1, 0, 0, 0, 0) := by decide +kernel
theorem r_165_1 : xrow 165 1 = some (.iload_n 1, 1, 0, 0, 0, 0) := by decide +kernel
theorem r_165_2 : xrow 165 2 = some (.putfield 134, 3, 22, 39, 0, 1023) := by decide +kernel
theorem r_165_5 : xrow 165 5 = some (.iconst (-1), 1, 0, 0, 0, 0) := by decide +kernel
theorem r_165_6 : xrow 165 6 = some (.ireturn, 1, 0, 0, 0, 0) := by decide +kernel
theorem r_166_0 : xrow 166 0 = some (.aload_n 0, 1, 0, 0, 0, 0) := by decide +kernel
theorem r_166_1 : xrow 166 1 = some (.iload_n 1, 1, 0, 0, 0, 0) := by decide +kernel
theorem r_166_2 : xrow 166 2 = some (.putfield 134, 3, 22, 39, 0, 1023) := by decide +kernel
theorem r_166_5 : xrow 166 5 = some (.iconst 0, 1, 0, 0, 0, 0) := by decide +kernel
theorem r_166_6 : xrow 166 6 = some (.ireturn, 1, 1, 0, 0, 0) := by decide +kernel
theorem r_167_0 : xrow 167 0 = some (.iload_n 0, 1, 0, 0, 0, 0) := by decide +kernel
theorem r_167_1 : xrow 167 1 = some (.iload_n 1, 1, 0, 0, 0, 0) := by decide +kernel
theorem r_167_2 : xrow 167 2 = some (.if_icmp .lt 12, 3, 14, 0, 0, 0) := by decide +kernel
theorem r_167_5 : xrow 167 5 = some (.iload_n 0, 1, 0, 0, 0, 0) := by decide +kernel
theorem r_167_6 : xrow 167 6 = some (.iload_n 2, 1, 0, 0, 0, 0) := by decide +kernel
theorem r_167_7 : xrow 167 7 = some (.if_icmp .gt 7, 3, 14, 0, 0, 0) := by decide +kernel
theorem r_167_10 : xrow 167 10 = some (.iconst 1, 1, 0, 0, 0, 0) := by decide +kernel
theorem r_167_11 : xrow 167 11 = some (.goto 4, 3, 15, 0, 0, 0) := by decide +kernel
theorem r_167_14 : xrow 167 14 = some (.iconst 0, 1, 0, 0, 0, 0) := by decide +kernel
theorem r_167_15 : xrow 167 15 = some (.ireturn, 1, 1, 0, 0, 0) := by decide +kernel
theorem r_168_0 : xrow 168 0 = some (.aload_n 0, 1, 0, 0, 0, 0) := by decide +kernel
theorem r_168_1 : xrow 168 1 = some (.iconst 0, 1, 0, 0, 0, 0) := by decide +kernel
theorem r_168_2 : xrow 168 2 = some (.putfield 131, 3, 22, 0, 0, 1022) := by decide +kernel
theorem r_168_5 : xrow 168 5 = some (.aload_n 0, 1, 0, 0, 0, 0) := by decide +kernel
theorem r_168_6 : xrow 168 6 = some (.getfield 137, 3, 22, 2, 0, 1024) := by decide +kernel
theorem r_168_9 : xrow 168 9 = some (.bipush 20, 2, 0, 0, 0, 0) := by decide +kernel
theorem r_168_11 : xrow 168 11 = some (.iadd, 1, 0, 0, 0, 0) := by decide +kernel
theorem r_168_12 : xrow 168 12 = some (.sipush 500, 3, 0, 0, 0, 0) := by decide +kernel
theorem r_168_15 : xrow 168 15 = some (.if_icmp .le 5, 3, 20, 0, 0, 0) := by decide +kernel
theorem r_168_18 : xrow 168 18 = some (.iconst (-1), 1, 0, 0, 0, 0) := by decide +kernel
theorem r_168_19 : xrow 168 19 = some (.ireturn, 1, 0, 0, 0, 0) := by decide +kernel
theorem r_168_20 : xrow 168 20 = some (.iconst 0, 1, 0, 0, 0, 0) := by decide +kernel
theorem r_168_21 : xrow 168 21 = some (.istore 6, 2, 0, 0, 0, 0) := by decide +kernel
theorem r_168_23 : xrow 168 23 = some (.iload 6, 2, 0, 0, 0, 0) := by decide +kernel
theorem r_168_25 : xrow 168 25 = some (.bipush 20, 2, 0, 0, 0, 0) := by decide +kernel
theorem r_168_27 : xrow 168 27 = some (.if_icmp .ge 93, 3, 120, 0, 0, 0) := by decide +kernel
theorem r_168_30 : xrow 168 30 = some (.iload 6, 2, 0, 0, 0, 0) := by decide +kernel
theorem r_168_32 : xrow 168 32 = some (.iconst 4, 1, 0, 0, 0, 0) := by decide +kernel
theorem r_168_33 : xrow 168 33 = some (.if_icmp .ge 7, 3, 40, 0, 0, 0) := by decide +kernel
theorem r_168_36 : xrow 168 36 = some (.iload_n 1, 1, 0, 0, 0, 0) := by decide +kernel
theorem r_168_37 : xrow 168 37 = some (.goto 39, 3, 76, 0, 0, 0) := by decide +kernel
theorem r_168_40 : xrow 168 40 = some (.iload 6, 2, 0, 0, 0, 0) := by decide +kernel
theorem r_168_42 : xrow 168 42 = some (.bipush 8, 2, 0, 0, 0, 0) := by decide +kernel
theorem r_168_44 : xrow 168 44 = some (.if_icmp .ge 7, 3, 51, 0, 0, 0) := by decide +kernel
theorem r_168_47 : xrow 168 47 = some (.iload_n 2, 1, 0, 0, 0, 0) := by decide +kernel
theorem r_168_48 : xrow 168 48 = some (.goto 28, 3, 76, 0, 0, 0) := by decide +kernel
theorem r_168_51 : xrow 168 51 = some (.iload 6, 2, 0, 0, 0, 0) := by decide +kernel
theorem r_168_53 : xrow 168 53 = some (.bipush 12, 2, 0, 0, 0, 0) := by decide +kernel
theorem r_168_55 : xrow 168 55 = some (.if_icmp .ge 7, 3, 62, 0, 0, 0) := by decide +kernel
theorem r_168_58 : xrow 168 58 = some (.iload_n 3, 1, 0, 0, 0, 0) := by decide +kernel
theorem r_168_59 : xrow 168 59 = some (.goto 17, 3, 76, 0, 0, 0) := by decide +kernel
theorem r_168_62 : xrow 168 62 = some (.iload 6, 2, 0, 0, 0, 0) := by decide +kernel
theorem r_168_64 : xrow 168 64 = some (.bipush 16, 2, 0, 0, 0, 0) := by decide +kernel
theorem r_168_66 : xrow 168 66 = some (.if_icmp .ge 8, 3, 74, 0, 0, 0) := by decide +kernel
theorem r_168_69 : xrow 168 69 = some (.iload 4, 2, 0, 0, 0, 0) := by decide +kernel
theorem r_168_71 : xrow 168 71 = some (.goto 5, 3, 76, 0, 0, 0) := by decide +kernel
theorem r_168_74 : xrow 168 74 = some (.iload 5, 2, 0, 0, 0, 0) := by decide +kernel
theorem r_168_76 : xrow 168 76 = some (.istore 7, 2, 0, 0, 0, 0) := by decide +kernel
theorem r_168_78 : xrow 168 78 = some (.aload_n 0, 1, 0, 0, 0, 0) := by decide +kernel
theorem r_168_79 : xrow 168 79 = some (.getfield 7, 3, 22, 1, 2, 982) := by decide +kernel
theorem r_168_82 : xrow 168 82 = some (.aload_n 0, 1, 0, 0, 0, 0) := by decide +kernel
theorem r_168_83 : xrow 168 83 = some (.getfield 137, 3, 22, 2, 0, 1024) := by decide +kernel
theorem r_168_86 : xrow 168 86 = some (.iload 7, 2, 0, 0, 0, 0) := by decide +kernel
theorem r_168_88 : xrow 168 88 = some (.bipush 24, 2, 0, 0, 0, 0) := by decide +kernel
theorem r_168_90 : xrow 168 90 = some (.bipush 8, 2, 0, 0, 0, 0) := by decide +kernel
theorem r_168_92 : xrow 168 92 = some (.iload 6, 2, 0, 0, 0, 0) := by decide +kernel
theorem r_168_94 : xrow 168 94 = some (.iconst 4, 1, 0, 0, 0, 0) := by decide +kernel
theorem r_168_95 : xrow 168 95 = some (.irem, 1, 0, 0, 0, 0) := by decide +kernel
theorem r_168_96 : xrow 168 96 = some (.imul, 1, 0, 0, 0, 0) := by decide +kernel
theorem r_168_97 : xrow 168 97 = some (.isub, 1, 0, 0, 0, 0) := by decide +kernel
theorem r_168_98 : xrow 168 98 = some (.ishr, 1, 0, 0, 0, 0) := by decide +kernel
theorem r_168_99 : xrow 168 99 = some (.sipush 255, 3, 0, 0, 0, 0) := by decide +kernel
theorem r_168_102 : xrow 168 102 = some (.iand, 1, 0, 0, 0, 0) := by decide +kernel
theorem r_168_103 : xrow 168 103 = some (.iastore, 1, 0, 0, 0, 0) := by decide +kernel
theorem r_168_104 : xrow 168 104 = some (.aload_n 0, 1, 0, 0, 0, 0) := by decide +kernel
theorem r_168_105 : xrow 168 105 = some (.dup, 1, 0, 0, 0, 0) := by decide +kernel
theorem r_168_106 : xrow 168 106 = some (.getfield 137, 3, 22, 2, 0, 1024) := by decide +kernel
theorem r_168_109 : xrow 168 109 = some (.iconst 1, 1, 0, 0, 0, 0) := by decide +kernel
theorem r_168_110 : xrow 168 110 = some (.iadd, 1, 0, 0, 0, 0) := by decide +kernel
theorem r_168_111 : xrow 168 111 = some (.putfield 137, 3, 22, 2, 0, 1024) := by decide +kernel
theorem r_168_114 : xrow 168 114 = some (.iinc 6 1, 3, 0, 0, 0, 0) := by decide +kernel
theorem r_168_117 : xrow 168 117 = some (.goto (-94), 3, 23, 0, 0, 0) := by decide +kernel
theorem r_168_120 : xrow 168 120 = some (.aload_n 0, 1, 0, 0, 0, 0) := by decide +kernel
theorem r_168_121 : xrow 168 121 = some (.getfield 137, 3, 22, 2, 0, 1024) := by decide +kernel
theorem r_168_124 : xrow 168 124 = some (.ireturn, 1, 0, 0, 0, 0) := by decide +kernel
theorem r_169_0 : xrow 169 0 = some (.iload_n 1, 1, 0, 0, 0, 0) := by decide +kernel
theorem r_169_1 : xrow 169 1 = some (.aload_n 0, 1, 0, 0, 0, 0) := by decide +kernel
theorem r_169_2 : xrow 169 2 = some (.getfield 140, 3, 22, 3, 0, 1025) := by decide +kernel
theorem r_169_5 : xrow 169 5 = some (.if_icmp .ge 12, 3, 17, 0, 0, 0) := by decide +kernel
theorem r_169_8 : xrow 169 8 = some (.aload_n 0, 1, 0, 0, 0, 0) := by decide +kernel
theorem r_169_9 : xrow 169 9 = some (.getfield 7, 3, 22, 1, 2, 982) := by decide +kernel
theorem r_169_12 : xrow 169 12 = some (.iload_n 1, 1, 0, 0, 0, 0) := by decide +kernel
theorem r_169_13 : xrow 169 13 = some (.iaload, 1, 0, 0, 0, 0) := by decide +kernel
theorem r_169_14 : xrow 169 14 = some (.goto 4, 3, 18, 0, 0, 0) := by decide +kernel
theorem r_169_17 : xrow 169 17 = some (.iconst (-1), 1, 0, 0, 0, 0) := by decide +kernel
theorem r_169_18 : xrow 169 18 = some (.ireturn, 1, 0, 0, 0, 0) := by decide +kernel
