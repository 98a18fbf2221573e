/-! rows by their places (0) -/
theorem r_0_0 : xrow 0 0 = some (.aload_n 0, 1, 0, 0, 0, 0) := by decide +kernel
theorem r_0_1 : xrow 0 1 = some (.invokespecial 3, 3, 0, 1, 0, 567) := by decide +kernel
theorem r_0_4 : xrow 0 4 = some (.aload_n 0, 1, 0, 0, 0, 0) := by decide +kernel
theorem r_0_5 : xrow 0 5 = some (.bipush 8, 2, 0, 0, 0, 0) := by decide +kernel
theorem r_0_7 : xrow 0 7 = some (.newarray .long, 2, 0, 0, 0, 0) := by decide +kernel
theorem r_0_9 : xrow 0 9 = some (.putfield 9, 3, 10, 1, 2, 568) := by decide +kernel
theorem r_0_12 : xrow 0 12 = some (.aload_n 0, 1, 0, 0, 0, 0) := by decide +kernel
theorem r_0_13 : xrow 0 13 = some (.new 15, 3, 12, 3, 5, 569) := by decide +kernel
theorem r_0_16 : xrow 0 16 = some (.dup, 1, 0, 0, 0, 0) := by decide +kernel
theorem r_0_17 : xrow 0 17 = some (.invokespecial 17, 3, 16, 0, 1, 1) := by decide +kernel
theorem r_0_20 : xrow 0 20 = some (.putfield 18, 3, 10, 2, 2, 570) := by decide +kernel
theorem r_0_23 : xrow 0 23 = some (.aload_n 0, 1, 0, 0, 0, 0) := by decide +kernel
theorem r_0_24 : xrow 0 24 = some (.new 15, 3, 12, 3, 5, 569) := by decide +kernel
theorem r_0_27 : xrow 0 27 = some (.dup, 1, 0, 0, 0, 0) := by decide +kernel
theorem r_0_28 : xrow 0 28 = some (.invokespecial 17, 3, 16, 0, 1, 1) := by decide +kernel
theorem r_0_31 : xrow 0 31 = some (.putfield 22, 3, 10, 3, 2, 571) := by decide +kernel
theorem r_0_34 : xrow 0 34 = some (.aload_n 0, 1, 0, 0, 0, 0) := by decide +kernel
theorem r_0_35 : xrow 0 35 = some (.bipush 6, 2, 0, 0, 0, 0) := by decide +kernel
theorem r_0_37 : xrow 0 37 = some (.newarray .long, 2, 0, 0, 0, 0) := by decide +kernel
theorem r_0_39 : xrow 0 39 = some (.putfield 25, 3, 10, 5, 2, 572) := by decide +kernel
theorem r_0_42 : xrow 0 42 = some (.aload_n 0, 1, 0, 0, 0, 0) := by decide +kernel
theorem r_0_43 : xrow 0 43 = some (.bipush 6, 2, 0, 0, 0, 0) := by decide +kernel
theorem r_0_45 : xrow 0 45 = some (.newarray .int, 2, 0, 0, 0, 0) := by decide +kernel
theorem r_0_47 : xrow 0 47 = some (.putfield 28, 3, 10, 6, 2, 573) := by decide +kernel
theorem r_0_50 : xrow 0 50 = some (.aload_n 0, 1, 0, 0, 0, 0) := by decide +kernel
theorem r_0_51 : xrow 0 51 = some (.bipush 6, 2, 0, 0, 0, 0) := by decide +kernel
theorem r_0_53 : xrow 0 53 = some (.newarray .int, 2, 0, 0, 0, 0) := by decide +kernel
theorem r_0_55 : xrow 0 55 = some (.putfield 32, 3, 10, 7, 2, 574) := by decide +kernel
theorem r_0_58 : xrow 0 58 = some (.aload_n 0, 1, 0, 0, 0, 0) := by decide +kernel
theorem r_0_59 : xrow 0 59 = some (.bipush 6, 2, 0, 0, 0, 0) := by decide +kernel
theorem r_0_61 : xrow 0 61 = some (.newarray .int, 2, 0, 0, 0, 0) := by decide +kernel
theorem r_0_63 : xrow 0 63 = some (.putfield 35, 3, 10, 8, 2, 575) := by decide +kernel
theorem r_0_66 : xrow 0 66 = some (.return_, 1, 0, 0, 0, 0) := by decide +kernel
theorem r_1_0 : xrow 1 0 = some (.aload_n 0, 1, 0, 0, 0, 0) := by decide +kernel
theorem r_1_1 : xrow 1 1 = some (.iconst 0, 1, 0, 0, 0, 0) := by decide +kernel
theorem r_1_2 : xrow 1 2 = some (.putfield 38, 3, 10, 0, 0, 576) := by decide +kernel
theorem r_1_5 : xrow 1 5 = some (.aload_n 0, 1, 0, 0, 0, 0) := by decide +kernel
theorem r_1_6 : xrow 1 6 = some (.iconst 0, 1, 0, 0, 0, 0) := by decide +kernel
theorem r_1_7 : xrow 1 7 = some (.putfield 42, 3, 10, 4, 0, 577) := by decide +kernel
theorem r_1_10 : xrow 1 10 = some (.aload_n 0, 1, 0, 0, 0, 0) := by decide +kernel
theorem r_1_11 : xrow 1 11 = some (.iconst 0, 1, 0, 0, 0, 0) := by decide +kernel
theorem r_1_12 : xrow 1 12 = some (.putfield 45, 3, 10, 9, 3, 578) := by decide +kernel
theorem r_1_15 : xrow 1 15 = some (.aload_n 0, 1, 0, 0, 0, 0) := by decide +kernel
theorem r_1_16 : xrow 1 16 = some (.iconst 4, 1, 0, 0, 0, 0) := by decide +kernel
theorem r_1_17 : xrow 1 17 = some (.putfield 49, 3, 10, 10, 0, 579) := by decide +kernel
theorem r_1_20 : xrow 1 20 = some (.aload_n 0, 1, 0, 0, 0, 0) := by decide +kernel
theorem r_1_21 : xrow 1 21 = some (.bipush 100, 2, 0, 0, 0, 0) := by decide +kernel
theorem r_1_23 : xrow 1 23 = some (.putfield 52, 3, 10, 11, 0, 580) := by decide +kernel
theorem r_1_26 : xrow 1 26 = some (.aload_n 0, 1, 0, 0, 0, 0) := by decide +kernel
theorem r_1_27 : xrow 1 27 = some (.bipush 100, 2, 0, 0, 0, 0) := by decide +kernel
theorem r_1_29 : xrow 1 29 = some (.putfield 55, 3, 10, 12, 0, 581) := by decide +kernel
theorem r_1_32 : xrow 1 32 = some (.aload_n 0, 1, 0, 0, 0, 0) := by decide +kernel
theorem r_1_33 : xrow 1 33 = some (.bipush 100, 2, 0, 0, 0, 0) := by decide +kernel
theorem r_1_35 : xrow 1 35 = some (.putfield 58, 3, 10, 13, 0, 582) := by decide +kernel
theorem r_1_38 : xrow 1 38 = some (.aload_n 0, 1, 0, 0, 0, 0) := by decide +kernel
theorem r_1_39 : xrow 1 39 = some (.iconst 0, 1, 0, 0, 0, 0) := by decide +kernel
theorem r_1_40 : xrow 1 40 = some (.putfield 61, 3, 10, 14, 0, 583) := by decide +kernel
theorem r_1_43 : xrow 1 43 = some (.return_, 1, 0, 0, 0, 0) := by decide +kernel
theorem r_2_0 : xrow 2 0 = some (.aload_n 0, 1, 0, 0, 0, 0) := by decide +kernel
theorem r_2_1 : xrow 2 1 = some (.getfield 49, 3, 10, 10, 0, 579) := by decide +kernel
theorem r_2_4 : xrow 2 4 = some (.ifCond .le 7, 3, 11, 0, 0, 0) := by decide +kernel
theorem r_2_7 : xrow 2 7 = some (.iconst 1, 1, 0, 0, 0, 0) := by decide +kernel
theorem r_2_8 : xrow 2 8 = some (.goto 4, 3, 12, 0, 0, 0) := by decide +kernel
theorem r_2_11 : xrow 2 11 = some (.iconst 0, 1, 0, 0, 0, 0) := by decide +kernel
theorem r_2_12 : xrow 2 12 = some (.ireturn, 1, 1, 0, 0, 0) := by decide +kernel
theorem r_3_0 : xrow 3 0 = some (.iload_n 1, 1, 0, 0, 0, 0) := by decide +kernel
theorem r_3_1 : xrow 3 1 = some (.ifCond .lt 15, 3, 16, 0, 0, 0) := by decide +kernel
theorem r_3_4 : xrow 3 4 = some (.iload_n 1, 1, 0, 0, 0, 0) := by decide +kernel
theorem r_3_5 : xrow 3 5 = some (.aload_n 0, 1, 0, 0, 0, 0) := by decide +kernel
theorem r_3_6 : xrow 3 6 = some (.getfield 38, 3, 10, 0, 0, 576) := by decide +kernel
theorem r_3_9 : xrow 3 9 = some (.if_icmp .ge 7, 3, 16, 0, 0, 0) := by decide +kernel
theorem r_3_12 : xrow 3 12 = some (.iconst 1, 1, 0, 0, 0, 0) := by decide +kernel
theorem r_3_13 : xrow 3 13 = some (.goto 4, 3, 17, 0, 0, 0) := by decide +kernel
theorem r_3_16 : xrow 3 16 = some (.iconst 0, 1, 0, 0, 0, 0) := by decide +kernel
theorem r_3_17 : xrow 3 17 = some (.ireturn, 1, 1, 0, 0, 0) := by decide +kernel
theorem r_4_0 : xrow 4 0 = some (.aload_n 0, 1, 0, 0, 0, 0) := by decide +kernel
theorem r_4_1 : xrow 4 1 = some (.getfield 9, 3, 10, 1, 2, 568) := by decide +kernel
theorem r_4_4 : xrow 4 4 = some (.aload_n 0, 1, 0, 0, 0, 0) := by decide +kernel
theorem r_4_5 : xrow 4 5 = some (.getfield 38, 3, 10, 0, 0, 576) := by decide +kernel
theorem r_4_8 : xrow 4 8 = some (.lload_n 1, 1, 0, 0, 0, 0) := by decide +kernel
theorem r_4_9 : xrow 4 9 = some (.invokestatic 64, 3, 6, 0, 0, 584) := by decide +kernel
theorem r_4_12 : xrow 4 12 = some (.ireturn, 1, 0, 0, 0, 0) := by decide +kernel
theorem r_5_0 : xrow 5 0 = some (.aload_n 0, 1, 0, 0, 0, 0) := by decide +kernel
theorem r_5_1 : xrow 5 1 = some (.getfield 25, 3, 10, 5, 2, 572) := by decide +kernel
theorem r_5_4 : xrow 5 4 = some (.aload_n 0, 1, 0, 0, 0, 0) := by decide +kernel
theorem r_5_5 : xrow 5 5 = some (.getfield 42, 3, 10, 4, 0, 577) := by decide +kernel
theorem r_5_8 : xrow 5 8 = some (.lload_n 1, 1, 0, 0, 0, 0) := by decide +kernel
theorem r_5_9 : xrow 5 9 = some (.invokestatic 64, 3, 6, 0, 0, 584) := by decide +kernel
theorem r_5_12 : xrow 5 12 = some (.ireturn, 1, 0, 0, 0, 0) := by decide +kernel
theorem r_6_0 : xrow 6 0 = some (.iconst 0, 1, 0, 0, 0, 0) := by decide +kernel
theorem r_6_1 : xrow 6 1 = some (.istore 4, 2, 0, 0, 0, 0) := by decide +kernel
theorem r_6_3 : xrow 6 3 = some (.iload 4, 2, 0, 0, 0, 0) := by decide +kernel
theorem r_6_5 : xrow 6 5 = some (.iload_n 1, 1, 0, 0, 0, 0) := by decide +kernel
theorem r_6_6 : xrow 6 6 = some (.if_icmp .ge 28, 3, 34, 0, 0, 0) := by decide +kernel
theorem r_6_9 : xrow 6 9 = some (.iload 4, 2, 0, 0, 0, 0) := by decide +kernel
theorem r_6_11 : xrow 6 11 = some (.aload_n 0, 1, 0, 0, 0, 0) := by decide +kernel
theorem r_6_12 : xrow 6 12 = some (.arraylength, 1, 0, 0, 0, 0) := by decide +kernel
theorem r_6_13 : xrow 6 13 = some (.if_icmp .ge 21, 3, 34, 0, 0, 0) := by decide +kernel
theorem r_6_16 : xrow 6 16 = some (.aload_n 0, 1, 0, 0, 0, 0) := by decide +kernel
theorem r_6_17 : xrow 6 17 = some (.iload 4, 2, 0, 0, 0, 0) := by decide +kernel
theorem r_6_19 : xrow 6 19 = some (.laload, 1, 0, 0, 0, 0) := by decide +kernel
theorem r_6_20 : xrow 6 20 = some (.lload_n 2, 1, 0, 0, 0, 0) := by decide +kernel
theorem r_6_21 : xrow 6 21 = some (.lcmp, 1, 0, 0, 0, 0) := by decide +kernel
theorem r_6_22 : xrow 6 22 = some (.ifCond .ne 6, 3, 28, 0, 0, 0) := by decide +kernel
theorem r_6_25 : xrow 6 25 = some (.iload 4, 2, 0, 0, 0, 0) := by decide +kernel
theorem r_6_27 : xrow 6 27 = some (.ireturn, 1, 0, 0, 0, 0) := by decide +kernel
theorem r_6_28 : xrow 6 28 = some (.iinc 4 1, 3, 0, 0, 0, 0) := by decide +kernel
theorem r_6_31 : xrow 6 31 = some (.goto (-28), 3, 3, 0, 0, 0) := by decide +kernel
theorem r_6_34 : xrow 6 34 = some (.iconst (-1), 1, 0, 0, 0, 0) := by decide +kernel
theorem r_6_35 : xrow 6 35 = some (.ireturn, 1, 0, 0, 0, 0) := by decide +kernel
theorem r_7_0 : xrow 7 0 = some (.aload_n 0, 1, 0, 0, 0, 0) := by decide +kernel
theorem r_7_1 : xrow 7 1 = some (.invokespecial 3, 3, 0, 1, 0, 585) := by decide +kernel
theorem r_7_4 : xrow 7 4 = some (.aload_n 0, 1, 0, 0, 0, 0) := by decide +kernel
theorem r_7_5 : xrow 7 5 = some (.aload_n 1, 1, 0, 0, 0, 0) := by decide +kernel
theorem r_7_6 : xrow 7 6 = some (.putfield 9, 3, 11, 0, 2, 586) := by decide +kernel
theorem r_7_9 : xrow 7 9 = some (.return_, 1, 0, 0, 0, 0) := by decide +kernel
theorem r_8_0 : xrow 8 0 = some (.aload_n 1, 1, 0, 0, 0, 0) := by decide +kernel
theorem r_8_1 : xrow 8 1 = some (.invokevirtual 15, 3, 1, 0, 0, 587) := by decide +kernel
theorem r_8_4 : xrow 8 4 = some (.iconst 0, 1, 0, 0, 0, 0) := by decide +kernel
theorem r_8_5 : xrow 8 5 = some (.istore_n 2, 1, 0, 0, 0, 0) := by decide +kernel
theorem r_8_6 : xrow 8 6 = some (.iload_n 2, 1, 0, 0, 0, 0) := by decide +kernel
theorem r_8_7 : xrow 8 7 = some (.sipush 500, 3, 0, 0, 0, 0) := by decide +kernel
theorem r_8_10 : xrow 8 10 = some (.if_icmp .gt 113, 3, 123, 0, 0, 0) := by decide +kernel
theorem r_8_13 : xrow 8 13 = some (.iconst 0, 1, 0, 0, 0, 0) := by decide +kernel
theorem r_8_14 : xrow 8 14 = some (.istore_n 3, 1, 0, 0, 0, 0) := by decide +kernel
theorem r_8_15 : xrow 8 15 = some (.aload_n 0, 1, 0, 0, 0, 0) := by decide +kernel
theorem r_8_16 : xrow 8 16 = some (.getfield 9, 3, 11, 0, 2, 586) := by decide +kernel
theorem r_8_19 : xrow 8 19 = some (.ldc 20, 2, 0, 1, 0, 0) := by decide +kernel
theorem r_8_21 : xrow 8 21 = some (.invokevirtual 22, 3, 93, 0, 0, 588) := by decide +kernel
theorem r_8_24 : xrow 8 24 = some (.ifCond .eq 12, 3, 36, 0, 0, 0) := by decide +kernel
theorem r_8_27 : xrow 8 27 = some (.aload_n 0, 1, 0, 0, 0, 0) := by decide +kernel
theorem r_8_28 : xrow 8 28 = some (.aload_n 1, 1, 0, 0, 0, 0) := by decide +kernel
theorem r_8_29 : xrow 8 29 = some (.invokevirtual 28, 3, 9, 0, 0, 589) := by decide +kernel
theorem r_8_32 : xrow 8 32 = some (.istore_n 3, 1, 0, 0, 0, 0) := by decide +kernel
theorem r_8_33 : xrow 8 33 = some (.goto 54, 3, 87, 0, 0, 0) := by decide +kernel
theorem r_8_36 : xrow 8 36 = some (.aload_n 0, 1, 0, 0, 0, 0) := by decide +kernel
theorem r_8_37 : xrow 8 37 = some (.getfield 9, 3, 11, 0, 2, 586) := by decide +kernel
theorem r_8_40 : xrow 8 40 = some (.ldc 32, 2, 13, 1, 0, 0) := by decide +kernel
theorem r_8_42 : xrow 8 42 = some (.invokevirtual 22, 3, 93, 0, 0, 588) := by decide +kernel
theorem r_8_45 : xrow 8 45 = some (.ifCond .eq 12, 3, 57, 0, 0, 0) := by decide +kernel
theorem r_8_48 : xrow 8 48 = some (.aload_n 0, 1, 0, 0, 0, 0) := by decide +kernel
theorem r_8_49 : xrow 8 49 = some (.aload_n 1, 1, 0, 0, 0, 0) := by decide +kernel
theorem r_8_50 : xrow 8 50 = some (.invokevirtual 34, 3, 12, 0, 0, 590) := by decide +kernel
theorem r_8_53 : xrow 8 53 = some (.istore_n 3, 1, 0, 0, 0, 0) := by decide +kernel
theorem r_8_54 : xrow 8 54 = some (.goto 33, 3, 87, 0, 0, 0) := by decide +kernel
theorem r_8_57 : xrow 8 57 = some (.aload_n 0, 1, 0, 0, 0, 0) := by decide +kernel
theorem r_8_58 : xrow 8 58 = some (.getfield 9, 3, 11, 0, 2, 586) := by decide +kernel
theorem r_8_61 : xrow 8 61 = some (.ldc 37, 2, 19, 1, 0, 0) := by decide +kernel
theorem r_8_63 : xrow 8 63 = some (.invokevirtual 22, 3, 93, 0, 0, 588) := by decide +kernel
theorem r_8_66 : xrow 8 66 = some (.ifCond .eq 12, 3, 78, 0, 0, 0) := by decide +kernel
theorem r_8_69 : xrow 8 69 = some (.aload_n 0, 1, 0, 0, 0, 0) := by decide +kernel
theorem r_8_70 : xrow 8 70 = some (.aload_n 1, 1, 0, 0, 0, 0) := by decide +kernel
theorem r_8_71 : xrow 8 71 = some (.invokevirtual 39, 3, 14, 0, 0, 591) := by decide +kernel
theorem r_8_74 : xrow 8 74 = some (.istore_n 3, 1, 0, 0, 0, 0) := by decide +kernel
theorem r_8_75 : xrow 8 75 = some (.goto 12, 3, 87, 0, 0, 0) := by decide +kernel
theorem r_8_78 : xrow 8 78 = some (.aload_n 0, 1, 0, 0, 0, 0) := by decide +kernel
theorem r_8_79 : xrow 8 79 = some (.getfield 9, 3, 11, 0, 2, 586) := by decide +kernel
theorem r_8_82 : xrow 8 82 = some (.iconst 1, 1, 0, 0, 0, 0) := by decide +kernel
theorem r_8_83 : xrow 8 83 = some (.invokevirtual 42, 3, 99, 0, 0, 592) := by decide +kernel
theorem r_8_86 : xrow 8 86 = some (.pop, 1, 0, 0, 0, 0) := by decide +kernel
theorem r_8_87 : xrow 8 87 = some (.iload_n 3, 1, 0, 0, 0, 0) := by decide +kernel
theorem r_8_88 : xrow 8 88 = some (.ifCond .eq 13, 3, 101, 0, 0, 0) := by decide +kernel
theorem r_8_91 : xrow 8 91 = some (.aload_n 0, 1, 0, 0, 0, 0) := by decide +kernel
theorem r_8_92 : xrow 8 92 = some (.getfield 9, 3, 11, 0, 2, 586) := by decide +kernel
theorem r_8_95 : xrow 8 95 = some (.getfield 46, 3, 19, 4, 0, 593) := by decide +kernel
theorem r_8_98 : xrow 8 98 = some (.ifCond .ne 5, 3, 103, 0, 0, 0) := by decide +kernel
theorem r_8_101 : xrow 8 101 = some (.iload_n 3, 1, 0, 0, 0, 0) := by decide +kernel
theorem r_8_102 : xrow 8 102 = some (.ireturn, 1, 1, 0, 0, 0) := by decide +kernel
theorem r_8_103 : xrow 8 103 = some (.aload_n 0, 1, 0, 0, 0, 0) := by decide +kernel
theorem r_8_104 : xrow 8 104 = some (.getfield 9, 3, 11, 0, 2, 586) := by decide +kernel
theorem r_8_107 : xrow 8 107 = some (.bipush 59, 2, 0, 0, 0, 0) := by decide +kernel
theorem r_8_109 : xrow 8 109 = some (.invokevirtual 50, 3, 96, 0, 0, 594) := by decide +kernel
theorem r_8_112 : xrow 8 112 = some (.ifCond .ne 5, 3, 117, 0, 0, 0) := by decide +kernel
theorem r_8_115 : xrow 8 115 = some (.iconst 0, 1, 0, 0, 0, 0) := by decide +kernel
theorem r_8_116 : xrow 8 116 = some (.ireturn, 1, 1, 0, 0, 0) := by decide +kernel
theorem r_8_117 : xrow 8 117 = some (.iinc 2 1, 3, 0, 0, 0, 0) := by decide +kernel
theorem r_8_120 : xrow 8 120 = some (.goto (-114), 3, 6, 0, 0, 0) := by decide +kernel
theorem r_8_123 : xrow 8 123 = some (.aload_n 0, 1, 0, 0, 0, 0) := by decide +kernel
theorem r_8_124 : xrow 8 124 = some (.getfield 9, 3, 11, 0, 2, 586) := by decide +kernel
theorem r_8_127 : xrow 8 127 = some (.iconst 1, 1, 0, 0, 0, 0) := by decide +kernel
theorem r_8_128 : xrow 8 128 = some (.invokevirtual 42, 3, 99, 0, 0, 592) := by decide +kernel
theorem r_8_131 : xrow 8 131 = some (.ireturn, 1, 1, 0, 0, 0) := by decide +kernel
theorem r_9_0 : xrow 9 0 = some (.aload_n 0, 1, 0, 0, 0, 0) := by decide +kernel
theorem r_9_1 : xrow 9 1 = some (.getfield 9, 3, 11, 0, 2, 586) := by decide +kernel
theorem r_9_4 : xrow 9 4 = some (.invokevirtual 53, 3, 89, 0, 0, 595) := by decide +kernel
theorem r_9_7 : xrow 9 7 = some (.aload_n 1, 1, 0, 0, 0, 0) := by decide +kernel
theorem r_9_8 : xrow 9 8 = some (.getfield 56, 3, 10, 0, 0, 596) := by decide +kernel
theorem r_9_11 : xrow 9 11 = some (.istore_n 2, 1, 0, 0, 0, 0) := by decide +kernel
theorem r_9_12 : xrow 9 12 = some (.aload_n 1, 1, 0, 0, 0, 0) := by decide +kernel
theorem r_9_13 : xrow 9 13 = some (.aload_n 0, 1, 0, 0, 0, 0) := by decide +kernel
theorem r_9_14 : xrow 9 14 = some (.getfield 9, 3, 11, 0, 2, 586) := by decide +kernel
theorem r_9_17 : xrow 9 17 = some (.getfield 59, 3, 19, 6, 1, 597) := by decide +kernel
theorem r_9_20 : xrow 9 20 = some (.invokevirtual 63, 3, 4, 0, 0, 598) := by decide +kernel
theorem r_9_23 : xrow 9 23 = some (.iconst (-1), 1, 0, 0, 0, 0) := by decide +kernel
theorem r_9_24 : xrow 9 24 = some (.if_icmp .eq 7, 3, 31, 0, 0, 0) := by decide +kernel
theorem r_9_27 : xrow 9 27 = some (.iconst 1, 1, 0, 0, 0, 0) := by decide +kernel
theorem r_9_28 : xrow 9 28 = some (.goto 4, 3, 32, 0, 0, 0) := by decide +kernel
theorem r_9_31 : xrow 9 31 = some (.iconst 0, 1, 0, 0, 0, 0) := by decide +kernel
theorem r_9_32 : xrow 9 32 = some (.istore_n 3, 1, 0, 0, 0, 0) := by decide +kernel
theorem r_9_33 : xrow 9 33 = some (.aload_n 0, 1, 0, 0, 0, 0) := by decide +kernel
theorem r_9_34 : xrow 9 34 = some (.iload_n 3, 1, 0, 0, 0, 0) := by decide +kernel
theorem r_9_35 : xrow 9 35 = some (.iload_n 2, 1, 0, 0, 0, 0) := by decide +kernel
theorem r_9_36 : xrow 9 36 = some (.aload_n 1, 1, 0, 0, 0, 0) := by decide +kernel
theorem r_9_37 : xrow 9 37 = some (.getfield 67, 3, 10, 1, 2, 599) := by decide +kernel
theorem r_9_40 : xrow 9 40 = some (.invokevirtual 71, 3, 10, 0, 0, 600) := by decide +kernel
theorem r_9_43 : xrow 9 43 = some (.ifCond .ne 5, 3, 48, 0, 0, 0) := by decide +kernel
theorem r_9_46 : xrow 9 46 = some (.iconst 0, 1, 0, 0, 0, 0) := by decide +kernel
theorem r_9_47 : xrow 9 47 = some (.ireturn, 1, 1, 0, 0, 0) := by decide +kernel
theorem r_9_48 : xrow 9 48 = some (.aload_n 0, 1, 0, 0, 0, 0) := by decide +kernel
theorem r_9_49 : xrow 9 49 = some (.getfield 9, 3, 11, 0, 2, 586) := by decide +kernel
theorem r_9_52 : xrow 9 52 = some (.ldc 75, 2, 11, 1, 0, 0) := by decide +kernel
theorem r_9_54 : xrow 9 54 = some (.invokevirtual 77, 3, 97, 0, 0, 601) := by decide +kernel
theorem r_9_57 : xrow 9 57 = some (.ifCond .eq 52, 3, 109, 0, 0, 0) := by decide +kernel
theorem r_9_60 : xrow 9 60 = some (.aload_n 0, 1, 0, 0, 0, 0) := by decide +kernel
theorem r_9_61 : xrow 9 61 = some (.aload_n 1, 1, 0, 0, 0, 0) := by decide +kernel
theorem r_9_62 : xrow 9 62 = some (.getfield 80, 3, 10, 2, 2, 602) := by decide +kernel
theorem r_9_65 : xrow 9 65 = some (.iload_n 2, 1, 0, 0, 0, 0) := by decide +kernel
theorem r_9_66 : xrow 9 66 = some (.sipush 999, 3, 0, 0, 0, 0) := by decide +kernel
theorem r_9_69 : xrow 9 69 = some (.sipush 300, 3, 0, 0, 0, 0) := by decide +kernel
theorem r_9_72 : xrow 9 72 = some (.iconst 1, 1, 0, 0, 0, 0) := by decide +kernel
theorem r_9_73 : xrow 9 73 = some (.invokevirtual 83, 3, 11, 0, 0, 603) := by decide +kernel
theorem r_9_76 : xrow 9 76 = some (.ifCond .eq 33, 3, 109, 0, 0, 0) := by decide +kernel
theorem r_9_79 : xrow 9 79 = some (.aload_n 0, 1, 0, 0, 0, 0) := by decide +kernel
theorem r_9_80 : xrow 9 80 = some (.getfield 9, 3, 11, 0, 2, 586) := by decide +kernel
theorem r_9_83 : xrow 9 83 = some (.ldc 87, 2, 12, 1, 0, 0) := by decide +kernel
theorem r_9_85 : xrow 9 85 = some (.invokevirtual 77, 3, 97, 0, 0, 601) := by decide +kernel
theorem r_9_88 : xrow 9 88 = some (.ifCond .eq 21, 3, 109, 0, 0, 0) := by decide +kernel
theorem r_9_91 : xrow 9 91 = some (.aload_n 0, 1, 0, 0, 0, 0) := by decide +kernel
theorem r_9_92 : xrow 9 92 = some (.aload_n 1, 1, 0, 0, 0, 0) := by decide +kernel
theorem r_9_93 : xrow 9 93 = some (.getfield 89, 3, 10, 3, 2, 604) := by decide +kernel
theorem r_9_96 : xrow 9 96 = some (.iload_n 2, 1, 0, 0, 0, 0) := by decide +kernel
theorem r_9_97 : xrow 9 97 = some (.bipush 90, 2, 0, 0, 0, 0) := by decide +kernel
theorem r_9_99 : xrow 9 99 = some (.sipush 150, 3, 0, 0, 0, 0) := by decide +kernel
theorem r_9_102 : xrow 9 102 = some (.iconst 0, 1, 0, 0, 0, 0) := by decide +kernel
theorem r_9_103 : xrow 9 103 = some (.invokevirtual 83, 3, 11, 0, 0, 603) := by decide +kernel
theorem r_9_106 : xrow 9 106 = some (.ifCond .ne 5, 3, 111, 0, 0, 0) := by decide +kernel
theorem r_9_109 : xrow 9 109 = some (.iconst 0, 1, 0, 0, 0, 0) := by decide +kernel
theorem r_9_110 : xrow 9 110 = some (.ireturn, 1, 1, 0, 0, 0) := by decide +kernel
theorem r_9_111 : xrow 9 111 = some (.aload_n 1, 1, 0, 0, 0, 0) := by decide +kernel
theorem r_9_112 : xrow 9 112 = some (.iload_n 2, 1, 0, 0, 0, 0) := by decide +kernel
theorem r_9_113 : xrow 9 113 = some (.iconst 1, 1, 0, 0, 0, 0) := by decide +kernel
theorem r_9_114 : xrow 9 114 = some (.iadd, 1, 0, 0, 0, 0) := by decide +kernel
theorem r_9_115 : xrow 9 115 = some (.putfield 56, 3, 10, 0, 0, 596) := by decide +kernel
theorem r_9_118 : xrow 9 118 = some (.iconst 1, 1, 0, 0, 0, 0) := by decide +kernel
theorem r_9_119 : xrow 9 119 = some (.ireturn, 1, 1, 0, 0, 0) := by decide +kernel
theorem r_10_0 : xrow 10 0 = some (.aload_n 0, 1, 0, 0, 0, 0) := by decide +kernel
theorem r_10_1 : xrow 10 1 = some (.getfield 9, 3, 11, 0, 2, 586) := by decide +kernel
theorem r_10_4 : xrow 10 4 = some (.invokevirtual 91, 3, 94, 0, 0, 605) := by decide +kernel
theorem r_10_7 : xrow 10 7 = some (.ifCond .ne 12, 3, 19, 0, 0, 0) := by decide +kernel
theorem r_10_10 : xrow 10 10 = some (.aload_n 0, 1, 0, 0, 0, 0) := by decide +kernel
theorem r_10_11 : xrow 10 11 = some (.getfield 9, 3, 11, 0, 2, 586) := by decide +kernel
theorem r_10_14 : xrow 10 14 = some (.iconst 1, 1, 0, 0, 0, 0) := by decide +kernel
theorem r_10_15 : xrow 10 15 = some (.invokevirtual 42, 3, 99, 0, 0, 592) := by decide +kernel
theorem r_10_18 : xrow 10 18 = some (.ireturn, 1, 1, 0, 0, 0) := by decide +kernel
theorem r_10_19 : xrow 10 19 = some (.iload_n 1, 1, 0, 0, 0, 0) := by decide +kernel
theorem r_10_20 : xrow 10 20 = some (.ifCond .eq 12, 3, 32, 0, 0, 0) := by decide +kernel
theorem r_10_23 : xrow 10 23 = some (.aload_n 0, 1, 0, 0, 0, 0) := by decide +kernel
theorem r_10_24 : xrow 10 24 = some (.getfield 9, 3, 11, 0, 2, 586) := by decide +kernel
theorem r_10_27 : xrow 10 27 = some (.iconst 3, 1, 0, 0, 0, 0) := by decide +kernel
theorem r_10_28 : xrow 10 28 = some (.invokevirtual 42, 3, 99, 0, 0, 592) := by decide +kernel
theorem r_10_31 : xrow 10 31 = some (.ireturn, 1, 1, 0, 0, 0) := by decide +kernel
theorem r_10_32 : xrow 10 32 = some (.iload_n 2, 1, 0, 0, 0, 0) := by decide +kernel
theorem r_10_33 : xrow 10 33 = some (.aload_n 3, 1, 0, 0, 0, 0) := by decide +kernel
theorem r_10_34 : xrow 10 34 = some (.arraylength, 1, 0, 0, 0, 0) := by decide +kernel
theorem r_10_35 : xrow 10 35 = some (.if_icmp .lt 12, 3, 47, 0, 0, 0) := by decide +kernel
theorem r_10_38 : xrow 10 38 = some (.aload_n 0, 1, 0, 0, 0, 0) := by decide +kernel
theorem r_10_39 : xrow 10 39 = some (.getfield 9, 3, 11, 0, 2, 586) := by decide +kernel
theorem r_10_42 : xrow 10 42 = some (.iconst 5, 1, 0, 0, 0, 0) := by decide +kernel
theorem r_10_43 : xrow 10 43 = some (.invokevirtual 42, 3, 99, 0, 0, 592) := by decide +kernel
theorem r_10_46 : xrow 10 46 = some (.ireturn, 1, 1, 0, 0, 0) := by decide +kernel
theorem r_10_47 : xrow 10 47 = some (.aload_n 3, 1, 0, 0, 0, 0) := by decide +kernel
theorem r_10_48 : xrow 10 48 = some (.iload_n 2, 1, 0, 0, 0, 0) := by decide +kernel
theorem r_10_49 : xrow 10 49 = some (.aload_n 0, 1, 0, 0, 0, 0) := by decide +kernel
theorem r_10_50 : xrow 10 50 = some (.getfield 9, 3, 11, 0, 2, 586) := by decide +kernel
theorem r_10_53 : xrow 10 53 = some (.getfield 59, 3, 19, 6, 1, 597) := by decide +kernel
theorem r_10_56 : xrow 10 56 = some (.lastore, 1, 0, 0, 0, 0) := by decide +kernel
theorem r_10_57 : xrow 10 57 = some (.aload_n 0, 1, 0, 0, 0, 0) := by decide +kernel
theorem r_10_58 : xrow 10 58 = some (.getfield 9, 3, 11, 0, 2, 586) := by decide +kernel
theorem r_10_61 : xrow 10 61 = some (.invokevirtual 53, 3, 89, 0, 0, 595) := by decide +kernel
theorem r_10_64 : xrow 10 64 = some (.iconst 1, 1, 0, 0, 0, 0) := by decide +kernel
theorem r_10_65 : xrow 10 65 = some (.ireturn, 1, 1, 0, 0, 0) := by decide +kernel
theorem r_11_0 : xrow 11 0 = some (.iconst (-1), 1, 0, 0, 0, 0) := by decide +kernel
theorem r_11_1 : xrow 11 1 = some (.istore 6, 2, 0, 0, 0, 0) := by decide +kernel
theorem r_11_3 : xrow 11 3 = some (.iconst 0, 1, 0, 0, 0, 0) := by decide +kernel
theorem r_11_4 : xrow 11 4 = some (.istore 7, 2, 0, 0, 0, 0) := by decide +kernel
theorem r_11_6 : xrow 11 6 = some (.iconst 0, 1, 0, 0, 0, 0) := by decide +kernel
theorem r_11_7 : xrow 11 7 = some (.istore 8, 2, 0, 0, 0, 0) := by decide +kernel
theorem r_11_9 : xrow 11 9 = some (.iload 8, 2, 0, 0, 0, 0) := by decide +kernel
theorem r_11_11 : xrow 11 11 = some (.iconst 4, 1, 0, 0, 0, 0) := by decide +kernel
theorem r_11_12 : xrow 11 12 = some (.if_icmp .gt 144, 3, 156, 0, 0, 0) := by decide +kernel
theorem r_11_15 : xrow 11 15 = some (.aload_n 0, 1, 0, 0, 0, 0) := by decide +kernel
theorem r_11_16 : xrow 11 16 = some (.getfield 9, 3, 11, 0, 2, 586) := by decide +kernel
theorem r_11_19 : xrow 11 19 = some (.getfield 95, 3, 19, 2, 0, 606) := by decide +kernel
theorem r_11_22 : xrow 11 22 = some (.istore 9, 2, 0, 0, 0, 0) := by decide +kernel
theorem r_11_24 : xrow 11 24 = some (.aload_n 0, 1, 0, 0, 0, 0) := by decide +kernel
theorem r_11_25 : xrow 11 25 = some (.getfield 9, 3, 11, 0, 2, 586) := by decide +kernel
theorem r_11_28 : xrow 11 28 = some (.iload 6, 2, 0, 0, 0, 0) := by decide +kernel
theorem r_11_30 : xrow 11 30 = some (.iconst 1, 1, 0, 0, 0, 0) := by decide +kernel
theorem r_11_31 : xrow 11 31 = some (.iadd, 1, 0, 0, 0, 0) := by decide +kernel
theorem r_11_32 : xrow 11 32 = some (.iload_n 3, 1, 0, 0, 0, 0) := by decide +kernel
theorem r_11_33 : xrow 11 33 = some (.invokevirtual 98, 3, 98, 0, 0, 607) := by decide +kernel
theorem r_11_36 : xrow 11 36 = some (.istore 6, 2, 0, 0, 0, 0) := by decide +kernel
theorem r_11_38 : xrow 11 38 = some (.iload 6, 2, 0, 0, 0, 0) := by decide +kernel
theorem r_11_40 : xrow 11 40 = some (.iconst (-1), 1, 0, 0, 0, 0) := by decide +kernel
theorem r_11_41 : xrow 11 41 = some (.if_icmp .ne 5, 3, 46, 0, 0, 0) := by decide +kernel
theorem r_11_44 : xrow 11 44 = some (.iconst 0, 1, 0, 0, 0, 0) := by decide +kernel
theorem r_11_45 : xrow 11 45 = some (.ireturn, 1, 1, 0, 0, 0) := by decide +kernel
theorem r_11_46 : xrow 11 46 = some (.iload 8, 2, 0, 0, 0, 0) := by decide +kernel
theorem r_11_48 : xrow 11 48 = some (.iconst 4, 1, 0, 0, 0, 0) := by decide +kernel
theorem r_11_49 : xrow 11 49 = some (.if_icmp .ne 14, 3, 63, 0, 0, 0) := by decide +kernel
theorem r_11_52 : xrow 11 52 = some (.aload_n 0, 1, 0, 0, 0, 0) := by decide +kernel
theorem r_11_53 : xrow 11 53 = some (.getfield 9, 3, 11, 0, 2, 586) := by decide +kernel
theorem r_11_56 : xrow 11 56 = some (.iconst 5, 1, 0, 0, 0, 0) := by decide +kernel
theorem r_11_57 : xrow 11 57 = some (.iload 9, 2, 0, 0, 0, 0) := by decide +kernel
theorem r_11_59 : xrow 11 59 = some (.invokevirtual 102, 3, 100, 0, 0, 608) := by decide +kernel
theorem r_11_62 : xrow 11 62 = some (.ireturn, 1, 1, 0, 0, 0) := by decide +kernel
theorem r_11_63 : xrow 11 63 = some (.aload_n 0, 1, 0, 0, 0, 0) := by decide +kernel
theorem r_11_64 : xrow 11 64 = some (.getfield 9, 3, 11, 0, 2, 586) := by decide +kernel
theorem r_11_67 : xrow 11 67 = some (.iload 5, 2, 0, 0, 0, 0) := by decide +kernel
theorem r_11_69 : xrow 11 69 = some (.ifCond .eq 8, 3, 77, 0, 0, 0) := by decide +kernel
theorem r_11_72 : xrow 11 72 = some (.iload 7, 2, 0, 0, 0, 0) := by decide +kernel
theorem r_11_74 : xrow 11 74 = some (.goto 4, 3, 78, 0, 0, 0) := by decide +kernel
theorem r_11_77 : xrow 11 77 = some (.iconst 0, 1, 0, 0, 0, 0) := by decide +kernel
theorem r_11_78 : xrow 11 78 = some (.iload 4, 2, 0, 0, 0, 0) := by decide +kernel
theorem r_11_80 : xrow 11 80 = some (.invokevirtual 98, 3, 98, 0, 0, 607) := by decide +kernel
theorem r_11_83 : xrow 11 83 = some (.istore 7, 2, 0, 0, 0, 0) := by decide +kernel
theorem r_11_85 : xrow 11 85 = some (.iload 7, 2, 0, 0, 0, 0) := by decide +kernel
theorem r_11_87 : xrow 11 87 = some (.iconst (-1), 1, 0, 0, 0, 0) := by decide +kernel
theorem r_11_88 : xrow 11 88 = some (.if_icmp .ne 5, 3, 93, 0, 0, 0) := by decide +kernel
theorem r_11_91 : xrow 11 91 = some (.iconst 0, 1, 0, 0, 0, 0) := by decide +kernel
theorem r_11_92 : xrow 11 92 = some (.ireturn, 1, 1, 0, 0, 0) := by decide +kernel
theorem r_11_93 : xrow 11 93 = some (.aload_n 1, 1, 0, 0, 0, 0) := by decide +kernel
theorem r_11_94 : xrow 11 94 = some (.getfield 106, 3, 12, 0, 2, 609) := by decide +kernel
theorem r_11_97 : xrow 11 97 = some (.iload_n 2, 1, 0, 0, 0, 0) := by decide +kernel
theorem r_11_98 : xrow 11 98 = some (.iconst 4, 1, 0, 0, 0, 0) := by decide +kernel
theorem r_11_99 : xrow 11 99 = some (.imul, 1, 0, 0, 0, 0) := by decide +kernel
theorem r_11_100 : xrow 11 100 = some (.iload 8, 2, 0, 0, 0, 0) := by decide +kernel
theorem r_11_102 : xrow 11 102 = some (.iadd, 1, 0, 0, 0, 0) := by decide +kernel
theorem r_11_103 : xrow 11 103 = some (.iload 6, 2, 0, 0, 0, 0) := by decide +kernel
theorem r_11_105 : xrow 11 105 = some (.iastore, 1, 0, 0, 0, 0) := by decide +kernel
theorem r_11_106 : xrow 11 106 = some (.aload_n 1, 1, 0, 0, 0, 0) := by decide +kernel
theorem r_11_107 : xrow 11 107 = some (.getfield 112, 3, 12, 1, 2, 610) := by decide +kernel
theorem r_11_110 : xrow 11 110 = some (.iload_n 2, 1, 0, 0, 0, 0) := by decide +kernel
theorem r_11_111 : xrow 11 111 = some (.iconst 4, 1, 0, 0, 0, 0) := by decide +kernel
theorem r_11_112 : xrow 11 112 = some (.imul, 1, 0, 0, 0, 0) := by decide +kernel
theorem r_11_113 : xrow 11 113 = some (.iload 8, 2, 0, 0, 0, 0) := by decide +kernel
theorem r_11_115 : xrow 11 115 = some (.iadd, 1, 0, 0, 0, 0) := by decide +kernel
theorem r_11_116 : xrow 11 116 = some (.iload 7, 2, 0, 0, 0, 0) := by decide +kernel
theorem r_11_118 : xrow 11 118 = some (.iastore, 1, 0, 0, 0, 0) := by decide +kernel
theorem r_11_119 : xrow 11 119 = some (.aload_n 1, 1, 0, 0, 0, 0) := by decide +kernel
theorem r_11_120 : xrow 11 120 = some (.getfield 115, 3, 12, 2, 2, 611) := by decide +kernel
theorem r_11_123 : xrow 11 123 = some (.iload_n 2, 1, 0, 0, 0, 0) := by decide +kernel
theorem r_11_124 : xrow 11 124 = some (.iload 8, 2, 0, 0, 0, 0) := by decide +kernel
theorem r_11_126 : xrow 11 126 = some (.iconst 1, 1, 0, 0, 0, 0) := by decide +kernel
theorem r_11_127 : xrow 11 127 = some (.iadd, 1, 0, 0, 0, 0) := by decide +kernel
theorem r_11_128 : xrow 11 128 = some (.iastore, 1, 0, 0, 0, 0) := by decide +kernel
theorem r_11_129 : xrow 11 129 = some (.aload_n 0, 1, 0, 0, 0, 0) := by decide +kernel
theorem r_11_130 : xrow 11 130 = some (.getfield 9, 3, 11, 0, 2, 586) := by decide +kernel
theorem r_11_133 : xrow 11 133 = some (.getfield 46, 3, 19, 4, 0, 593) := by decide +kernel
theorem r_11_136 : xrow 11 136 = some (.bipush 44, 2, 0, 0, 0, 0) := by decide +kernel
theorem r_11_138 : xrow 11 138 = some (.if_icmp .eq 5, 3, 143, 0, 0, 0) := by decide +kernel
theorem r_11_141 : xrow 11 141 = some (.iconst 1, 1, 0, 0, 0, 0) := by decide +kernel
theorem r_11_142 : xrow 11 142 = some (.ireturn, 1, 1, 0, 0, 0) := by decide +kernel
theorem r_11_143 : xrow 11 143 = some (.aload_n 0, 1, 0, 0, 0, 0) := by decide +kernel
theorem r_11_144 : xrow 11 144 = some (.getfield 9, 3, 11, 0, 2, 586) := by decide +kernel
theorem r_11_147 : xrow 11 147 = some (.invokevirtual 53, 3, 89, 0, 0, 595) := by decide +kernel
theorem r_11_150 : xrow 11 150 = some (.iinc 8 1, 3, 0, 0, 0, 0) := by decide +kernel
theorem r_11_153 : xrow 11 153 = some (.goto (-144), 3, 9, 0, 0, 0) := by decide +kernel
theorem r_11_156 : xrow 11 156 = some (.aload_n 0, 1, 0, 0, 0, 0) := by decide +kernel
theorem r_11_157 : xrow 11 157 = some (.getfield 9, 3, 11, 0, 2, 586) := by decide +kernel
theorem r_11_160 : xrow 11 160 = some (.iconst 5, 1, 0, 0, 0, 0) := by decide +kernel
theorem r_11_161 : xrow 11 161 = some (.invokevirtual 42, 3, 99, 0, 0, 592) := by decide +kernel
theorem r_11_164 : xrow 11 164 = some (.ireturn, 1, 1, 0, 0, 0) := by decide +kernel
theorem r_12_0 : xrow 12 0 = some (.aload_n 1, 1, 0, 0, 0, 0) := by decide +kernel
theorem r_12_1 : xrow 12 1 = some (.getfield 118, 3, 10, 9, 0, 612) := by decide +kernel
theorem r_12_4 : xrow 12 4 = some (.ifCond .eq 12, 3, 16, 0, 0, 0) := by decide +kernel
theorem r_12_7 : xrow 12 7 = some (.aload_n 0, 1, 0, 0, 0, 0) := by decide +kernel
theorem r_12_8 : xrow 12 8 = some (.getfield 9, 3, 11, 0, 2, 586) := by decide +kernel
theorem r_12_11 : xrow 12 11 = some (.iconst 3, 1, 0, 0, 0, 0) := by decide +kernel
theorem r_12_12 : xrow 12 12 = some (.invokevirtual 42, 3, 99, 0, 0, 592) := by decide +kernel
theorem r_12_15 : xrow 12 15 = some (.ireturn, 1, 1, 0, 0, 0) := by decide +kernel
theorem r_12_16 : xrow 12 16 = some (.aload_n 0, 1, 0, 0, 0, 0) := by decide +kernel
theorem r_12_17 : xrow 12 17 = some (.getfield 9, 3, 11, 0, 2, 586) := by decide +kernel
theorem r_12_20 : xrow 12 20 = some (.invokevirtual 53, 3, 89, 0, 0, 595) := by decide +kernel
theorem r_12_23 : xrow 12 23 = some (.aload_n 1, 1, 0, 0, 0, 0) := by decide +kernel
theorem r_12_24 : xrow 12 24 = some (.iconst 1, 1, 0, 0, 0, 0) := by decide +kernel
theorem r_12_25 : xrow 12 25 = some (.putfield 118, 3, 10, 9, 3, 612) := by decide +kernel
theorem r_12_28 : xrow 12 28 = some (.aload_n 1, 1, 0, 0, 0, 0) := by decide +kernel
theorem r_12_29 : xrow 12 29 = some (.aload_n 0, 1, 0, 0, 0, 0) := by decide +kernel
theorem r_12_30 : xrow 12 30 = some (.ldc 122, 2, 14, 1, 0, 0) := by decide +kernel
theorem r_12_32 : xrow 12 32 = some (.iconst 2, 1, 0, 0, 0, 0) := by decide +kernel
theorem r_12_33 : xrow 12 33 = some (.bipush 6, 2, 0, 0, 0, 0) := by decide +kernel
theorem r_12_35 : xrow 12 35 = some (.invokevirtual 124, 3, 13, 0, 0, 613) := by decide +kernel
theorem r_12_38 : xrow 12 38 = some (.putfield 128, 3, 10, 10, 0, 614) := by decide +kernel
theorem r_12_41 : xrow 12 41 = some (.aload_n 1, 1, 0, 0, 0, 0) := by decide +kernel
theorem r_12_42 : xrow 12 42 = some (.getfield 128, 3, 10, 10, 0, 614) := by decide +kernel
theorem r_12_45 : xrow 12 45 = some (.iconst (-1), 1, 0, 0, 0, 0) := by decide +kernel
theorem r_12_46 : xrow 12 46 = some (.if_icmp .ne 5, 3, 51, 0, 0, 0) := by decide +kernel
theorem r_12_49 : xrow 12 49 = some (.iconst 0, 1, 0, 0, 0, 0) := by decide +kernel
theorem r_12_50 : xrow 12 50 = some (.ireturn, 1, 1, 0, 0, 0) := by decide +kernel
theorem r_12_51 : xrow 12 51 = some (.aload_n 1, 1, 0, 0, 0, 0) := by decide +kernel
theorem r_12_52 : xrow 12 52 = some (.aload_n 0, 1, 0, 0, 0, 0) := by decide +kernel
theorem r_12_53 : xrow 12 53 = some (.ldc 130, 2, 15, 1, 0, 0) := by decide +kernel
theorem r_12_55 : xrow 12 55 = some (.iconst 1, 1, 0, 0, 0, 0) := by decide +kernel
theorem r_12_56 : xrow 12 56 = some (.sipush 999, 3, 0, 0, 0, 0) := by decide +kernel
theorem r_12_59 : xrow 12 59 = some (.invokevirtual 124, 3, 13, 0, 0, 613) := by decide +kernel
theorem r_12_62 : xrow 12 62 = some (.putfield 132, 3, 10, 11, 0, 615) := by decide +kernel
theorem r_12_65 : xrow 12 65 = some (.aload_n 1, 1, 0, 0, 0, 0) := by decide +kernel
theorem r_12_66 : xrow 12 66 = some (.getfield 132, 3, 10, 11, 0, 615) := by decide +kernel
theorem r_12_69 : xrow 12 69 = some (.iconst (-1), 1, 0, 0, 0, 0) := by decide +kernel
theorem r_12_70 : xrow 12 70 = some (.if_icmp .ne 5, 3, 75, 0, 0, 0) := by decide +kernel
theorem r_12_73 : xrow 12 73 = some (.iconst 0, 1, 0, 0, 0, 0) := by decide +kernel
theorem r_12_74 : xrow 12 74 = some (.ireturn, 1, 1, 0, 0, 0) := by decide +kernel
theorem r_12_75 : xrow 12 75 = some (.aload_n 1, 1, 0, 0, 0, 0) := by decide +kernel
theorem r_12_76 : xrow 12 76 = some (.aload_n 0, 1, 0, 0, 0, 0) := by decide +kernel
theorem r_12_77 : xrow 12 77 = some (.ldc 134, 2, 16, 1, 0, 0) := by decide +kernel
theorem r_12_79 : xrow 12 79 = some (.iconst 1, 1, 0, 0, 0, 0) := by decide +kernel
theorem r_12_80 : xrow 12 80 = some (.sipush 300, 3, 0, 0, 0, 0) := by decide +kernel
theorem r_12_83 : xrow 12 83 = some (.invokevirtual 124, 3, 13, 0, 0, 613) := by decide +kernel
theorem r_12_86 : xrow 12 86 = some (.putfield 136, 3, 10, 12, 0, 616) := by decide +kernel
theorem r_12_89 : xrow 12 89 = some (.aload_n 1, 1, 0, 0, 0, 0) := by decide +kernel
theorem r_12_90 : xrow 12 90 = some (.getfield 136, 3, 10, 12, 0, 616) := by decide +kernel
theorem r_12_93 : xrow 12 93 = some (.iconst (-1), 1, 0, 0, 0, 0) := by decide +kernel
theorem r_12_94 : xrow 12 94 = some (.if_icmp .ne 5, 3, 99, 0, 0, 0) := by decide +kernel
theorem r_12_97 : xrow 12 97 = some (.iconst 0, 1, 0, 0, 0, 0) := by decide +kernel
theorem r_12_98 : xrow 12 98 = some (.ireturn, 1, 1, 0, 0, 0) := by decide +kernel
theorem r_12_99 : xrow 12 99 = some (.aload_n 1, 1, 0, 0, 0, 0) := by decide +kernel
theorem r_12_100 : xrow 12 100 = some (.aload_n 0, 1, 0, 0, 0, 0) := by decide +kernel
theorem r_12_101 : xrow 12 101 = some (.ldc 138, 2, 17, 1, 0, 0) := by decide +kernel
theorem r_12_103 : xrow 12 103 = some (.iconst 0, 1, 0, 0, 0, 0) := by decide +kernel
theorem r_12_104 : xrow 12 104 = some (.sipush 300, 3, 0, 0, 0, 0) := by decide +kernel
theorem r_12_107 : xrow 12 107 = some (.invokevirtual 124, 3, 13, 0, 0, 613) := by decide +kernel
theorem r_12_110 : xrow 12 110 = some (.putfield 140, 3, 10, 13, 0, 617) := by decide +kernel
theorem r_12_113 : xrow 12 113 = some (.aload_n 1, 1, 0, 0, 0, 0) := by decide +kernel
theorem r_12_114 : xrow 12 114 = some (.getfield 140, 3, 10, 13, 0, 617) := by decide +kernel
theorem r_12_117 : xrow 12 117 = some (.iconst (-1), 1, 0, 0, 0, 0) := by decide +kernel
theorem r_12_118 : xrow 12 118 = some (.if_icmp .ne 5, 3, 123, 0, 0, 0) := by decide +kernel
theorem r_12_121 : xrow 12 121 = some (.iconst 0, 1, 0, 0, 0, 0) := by decide +kernel
theorem r_12_122 : xrow 12 122 = some (.ireturn, 1, 1, 0, 0, 0) := by decide +kernel
theorem r_12_123 : xrow 12 123 = some (.aload_n 1, 1, 0, 0, 0, 0) := by decide +kernel
theorem r_12_124 : xrow 12 124 = some (.aload_n 0, 1, 0, 0, 0, 0) := by decide +kernel
theorem r_12_125 : xrow 12 125 = some (.ldc 142, 2, 18, 1, 0, 0) := by decide +kernel
theorem r_12_127 : xrow 12 127 = some (.iconst 0, 1, 0, 0, 0, 0) := by decide +kernel
theorem r_12_128 : xrow 12 128 = some (.bipush 99, 2, 0, 0, 0, 0) := by decide +kernel
theorem r_12_130 : xrow 12 130 = some (.invokevirtual 124, 3, 13, 0, 0, 613) := by decide +kernel
theorem r_12_133 : xrow 12 133 = some (.putfield 144, 3, 10, 14, 0, 618) := by decide +kernel
theorem r_12_136 : xrow 12 136 = some (.aload_n 1, 1, 0, 0, 0, 0) := by decide +kernel
theorem r_12_137 : xrow 12 137 = some (.getfield 144, 3, 10, 14, 0, 618) := by decide +kernel
theorem r_12_140 : xrow 12 140 = some (.iconst (-1), 1, 0, 0, 0, 0) := by decide +kernel
theorem r_12_141 : xrow 12 141 = some (.if_icmp .eq 7, 3, 148, 0, 0, 0) := by decide +kernel
theorem r_12_144 : xrow 12 144 = some (.iconst 1, 1, 0, 0, 0, 0) := by decide +kernel
theorem r_12_145 : xrow 12 145 = some (.goto 4, 3, 149, 0, 0, 0) := by decide +kernel
theorem r_12_148 : xrow 12 148 = some (.iconst 0, 1, 0, 0, 0, 0) := by decide +kernel
theorem r_12_149 : xrow 12 149 = some (.ireturn, 1, 1, 0, 0, 0) := by decide +kernel
theorem r_13_0 : xrow 13 0 = some (.aload_n 0, 1, 0, 0, 0, 0) := by decide +kernel
theorem r_13_1 : xrow 13 1 = some (.getfield 9, 3, 11, 0, 2, 586) := by decide +kernel
theorem r_13_4 : xrow 13 4 = some (.aload_n 1, 1, 0, 0, 0, 0) := by decide +kernel
theorem r_13_5 : xrow 13 5 = some (.invokevirtual 77, 3, 97, 0, 0, 601) := by decide +kernel
theorem r_13_8 : xrow 13 8 = some (.ifCond .eq 15, 3, 23, 0, 0, 0) := by decide +kernel
theorem r_13_11 : xrow 13 11 = some (.aload_n 0, 1, 0, 0, 0, 0) := by decide +kernel
theorem r_13_12 : xrow 13 12 = some (.getfield 9, 3, 11, 0, 2, 586) := by decide +kernel
theorem r_13_15 : xrow 13 15 = some (.iload_n 2, 1, 0, 0, 0, 0) := by decide +kernel
theorem r_13_16 : xrow 13 16 = some (.iload_n 3, 1, 0, 0, 0, 0) := by decide +kernel
theorem r_13_17 : xrow 13 17 = some (.invokevirtual 98, 3, 98, 0, 0, 607) := by decide +kernel
theorem r_13_20 : xrow 13 20 = some (.goto 4, 3, 24, 0, 0, 0) := by decide +kernel
theorem r_13_23 : xrow 13 23 = some (.iconst (-1), 1, 0, 0, 0, 0) := by decide +kernel
theorem r_13_24 : xrow 13 24 = some (.ireturn, 1, 0, 0, 0, 0) := by decide +kernel
theorem r_14_0 : xrow 14 0 = some (.aload_n 0, 1, 0, 0, 0, 0) := by decide +kernel
theorem r_14_1 : xrow 14 1 = some (.getfield 9, 3, 11, 0, 2, 586) := by decide +kernel
theorem r_14_4 : xrow 14 4 = some (.invokevirtual 53, 3, 89, 0, 0, 595) := by decide +kernel
theorem r_14_7 : xrow 14 7 = some (.aload_n 1, 1, 0, 0, 0, 0) := by decide +kernel
theorem r_14_8 : xrow 14 8 = some (.getfield 146, 3, 10, 4, 0, 619) := by decide +kernel
theorem r_14_11 : xrow 14 11 = some (.istore_n 2, 1, 0, 0, 0, 0) := by decide +kernel
theorem r_14_12 : xrow 14 12 = some (.aload_n 1, 1, 0, 0, 0, 0) := by decide +kernel
theorem r_14_13 : xrow 14 13 = some (.aload_n 0, 1, 0, 0, 0, 0) := by decide +kernel
theorem r_14_14 : xrow 14 14 = some (.getfield 9, 3, 11, 0, 2, 586) := by decide +kernel
theorem r_14_17 : xrow 14 17 = some (.getfield 59, 3, 19, 6, 1, 597) := by decide +kernel
theorem r_14_20 : xrow 14 20 = some (.invokevirtual 149, 3, 5, 0, 0, 620) := by decide +kernel
theorem r_14_23 : xrow 14 23 = some (.iconst (-1), 1, 0, 0, 0, 0) := by decide +kernel
theorem r_14_24 : xrow 14 24 = some (.if_icmp .eq 7, 3, 31, 0, 0, 0) := by decide +kernel
theorem r_14_27 : xrow 14 27 = some (.iconst 1, 1, 0, 0, 0, 0) := by decide +kernel
theorem r_14_28 : xrow 14 28 = some (.goto 4, 3, 32, 0, 0, 0) := by decide +kernel
theorem r_14_31 : xrow 14 31 = some (.iconst 0, 1, 0, 0, 0, 0) := by decide +kernel
theorem r_14_32 : xrow 14 32 = some (.istore_n 3, 1, 0, 0, 0, 0) := by decide +kernel
theorem r_14_33 : xrow 14 33 = some (.aload_n 0, 1, 0, 0, 0, 0) := by decide +kernel
theorem r_14_34 : xrow 14 34 = some (.iload_n 3, 1, 0, 0, 0, 0) := by decide +kernel
theorem r_14_35 : xrow 14 35 = some (.iload_n 2, 1, 0, 0, 0, 0) := by decide +kernel
theorem r_14_36 : xrow 14 36 = some (.aload_n 1, 1, 0, 0, 0, 0) := by decide +kernel
theorem r_14_37 : xrow 14 37 = some (.getfield 152, 3, 10, 5, 2, 621) := by decide +kernel
theorem r_14_40 : xrow 14 40 = some (.invokevirtual 71, 3, 10, 0, 0, 600) := by decide +kernel
theorem r_14_43 : xrow 14 43 = some (.ifCond .ne 5, 3, 48, 0, 0, 0) := by decide +kernel
theorem r_14_46 : xrow 14 46 = some (.iconst 0, 1, 0, 0, 0, 0) := by decide +kernel
theorem r_14_47 : xrow 14 47 = some (.ireturn, 1, 1, 0, 0, 0) := by decide +kernel
theorem r_14_48 : xrow 14 48 = some (.aload_n 1, 1, 0, 0, 0, 0) := by decide +kernel
theorem r_14_49 : xrow 14 49 = some (.getfield 155, 3, 10, 6, 2, 622) := by decide +kernel
theorem r_14_52 : xrow 14 52 = some (.iload_n 2, 1, 0, 0, 0, 0) := by decide +kernel
theorem r_14_53 : xrow 14 53 = some (.aload_n 0, 1, 0, 0, 0, 0) := by decide +kernel
theorem r_14_54 : xrow 14 54 = some (.ldc 158, 2, 20, 1, 0, 0) := by decide +kernel
theorem r_14_56 : xrow 14 56 = some (.invokevirtual 159, 3, 15, 0, 0, 623) := by decide +kernel
theorem r_14_59 : xrow 14 59 = some (.iastore, 1, 0, 0, 0, 0) := by decide +kernel
theorem r_14_60 : xrow 14 60 = some (.aload_n 1, 1, 0, 0, 0, 0) := by decide +kernel
theorem r_14_61 : xrow 14 61 = some (.getfield 155, 3, 10, 6, 2, 622) := by decide +kernel
theorem r_14_64 : xrow 14 64 = some (.iload_n 2, 1, 0, 0, 0, 0) := by decide +kernel
theorem r_14_65 : xrow 14 65 = some (.iaload, 1, 0, 0, 0, 0) := by decide +kernel
theorem r_14_66 : xrow 14 66 = some (.sipush (-1000), 3, 0, 0, 0, 0) := by decide +kernel
theorem r_14_69 : xrow 14 69 = some (.if_icmp .ne 5, 3, 74, 0, 0, 0) := by decide +kernel
theorem r_14_72 : xrow 14 72 = some (.iconst 0, 1, 0, 0, 0, 0) := by decide +kernel
theorem r_14_73 : xrow 14 73 = some (.ireturn, 1, 1, 0, 0, 0) := by decide +kernel
theorem r_14_74 : xrow 14 74 = some (.aload_n 1, 1, 0, 0, 0, 0) := by decide +kernel
theorem r_14_75 : xrow 14 75 = some (.getfield 163, 3, 10, 7, 2, 624) := by decide +kernel
theorem r_14_78 : xrow 14 78 = some (.iload_n 2, 1, 0, 0, 0, 0) := by decide +kernel
theorem r_14_79 : xrow 14 79 = some (.aload_n 0, 1, 0, 0, 0, 0) := by decide +kernel
theorem r_14_80 : xrow 14 80 = some (.ldc 166, 2, 21, 1, 0, 0) := by decide +kernel
theorem r_14_82 : xrow 14 82 = some (.invokevirtual 159, 3, 15, 0, 0, 623) := by decide +kernel
theorem r_14_85 : xrow 14 85 = some (.iastore, 1, 0, 0, 0, 0) := by decide +kernel
theorem r_14_86 : xrow 14 86 = some (.aload_n 1, 1, 0, 0, 0, 0) := by decide +kernel
theorem r_14_87 : xrow 14 87 = some (.getfield 163, 3, 10, 7, 2, 624) := by decide +kernel
theorem r_14_90 : xrow 14 90 = some (.iload_n 2, 1, 0, 0, 0, 0) := by decide +kernel
theorem r_14_91 : xrow 14 91 = some (.iaload, 1, 0, 0, 0, 0) := by decide +kernel
theorem r_14_92 : xrow 14 92 = some (.sipush (-1000), 3, 0, 0, 0, 0) := by decide +kernel
theorem r_14_95 : xrow 14 95 = some (.if_icmp .ne 5, 3, 100, 0, 0, 0) := by decide +kernel
theorem r_14_98 : xrow 14 98 = some (.iconst 0, 1, 0, 0, 0, 0) := by decide +kernel
theorem r_14_99 : xrow 14 99 = some (.ireturn, 1, 1, 0, 0, 0) := by decide +kernel
theorem r_14_100 : xrow 14 100 = some (.aload_n 1, 1, 0, 0, 0, 0) := by decide +kernel
theorem r_14_101 : xrow 14 101 = some (.getfield 167, 3, 10, 8, 2, 625) := by decide +kernel
theorem r_14_104 : xrow 14 104 = some (.iload_n 2, 1, 0, 0, 0, 0) := by decide +kernel
theorem r_14_105 : xrow 14 105 = some (.aload_n 0, 1, 0, 0, 0, 0) := by decide +kernel
theorem r_14_106 : xrow 14 106 = some (.ldc 170, 2, 22, 1, 0, 0) := by decide +kernel
theorem r_14_108 : xrow 14 108 = some (.iconst 1, 1, 0, 0, 0, 0) := by decide +kernel
theorem r_14_109 : xrow 14 109 = some (.bipush 99, 2, 0, 0, 0, 0) := by decide +kernel
theorem r_14_111 : xrow 14 111 = some (.invokevirtual 124, 3, 13, 0, 0, 613) := by decide +kernel
theorem r_14_114 : xrow 14 114 = some (.iastore, 1, 0, 0, 0, 0) := by decide +kernel
theorem r_14_115 : xrow 14 115 = some (.aload_n 1, 1, 0, 0, 0, 0) := by decide +kernel
theorem r_14_116 : xrow 14 116 = some (.getfield 167, 3, 10, 8, 2, 625) := by decide +kernel
theorem r_14_119 : xrow 14 119 = some (.iload_n 2, 1, 0, 0, 0, 0) := by decide +kernel
theorem r_14_120 : xrow 14 120 = some (.iaload, 1, 0, 0, 0, 0) := by decide +kernel
theorem r_14_121 : xrow 14 121 = some (.iconst (-1), 1, 0, 0, 0, 0) := by decide +kernel
theorem r_14_122 : xrow 14 122 = some (.if_icmp .ne 5, 3, 127, 0, 0, 0) := by decide +kernel
theorem r_14_125 : xrow 14 125 = some (.iconst 0, 1, 0, 0, 0, 0) := by decide +kernel
theorem r_14_126 : xrow 14 126 = some (.ireturn, 1, 1, 0, 0, 0) := by decide +kernel
theorem r_14_127 : xrow 14 127 = some (.aload_n 1, 1, 0, 0, 0, 0) := by decide +kernel
theorem r_14_128 : xrow 14 128 = some (.iload_n 2, 1, 0, 0, 0, 0) := by decide +kernel
theorem r_14_129 : xrow 14 129 = some (.iconst 1, 1, 0, 0, 0, 0) := by decide +kernel
theorem r_14_130 : xrow 14 130 = some (.iadd, 1, 0, 0, 0, 0) := by decide +kernel
theorem r_14_131 : xrow 14 131 = some (.putfield 146, 3, 10, 4, 0, 619) := by decide +kernel
theorem r_14_134 : xrow 14 134 = some (.iconst 1, 1, 0, 0, 0, 0) := by decide +kernel
theorem r_14_135 : xrow 14 135 = some (.ireturn, 1, 1, 0, 0, 0) := by decide +kernel
theorem r_15_0 : xrow 15 0 = some (.aload_n 0, 1, 0, 0, 0, 0) := by decide +kernel
theorem r_15_1 : xrow 15 1 = some (.getfield 9, 3, 11, 0, 2, 586) := by decide +kernel
theorem r_15_4 : xrow 15 4 = some (.aload_n 1, 1, 0, 0, 0, 0) := by decide +kernel
theorem r_15_5 : xrow 15 5 = some (.invokevirtual 77, 3, 97, 0, 0, 601) := by decide +kernel
theorem r_15_8 : xrow 15 8 = some (.ifCond .ne 7, 3, 15, 0, 0, 0) := by decide +kernel
theorem r_15_11 : xrow 15 11 = some (.sipush (-1000), 3, 0, 0, 0, 0) := by decide +kernel
theorem r_15_14 : xrow 15 14 = some (.ireturn, 1, 0, 0, 0, 0) := by decide +kernel
theorem r_15_15 : xrow 15 15 = some (.aload_n 0, 1, 0, 0, 0, 0) := by decide +kernel
theorem r_15_16 : xrow 15 16 = some (.getfield 9, 3, 11, 0, 2, 586) := by decide +kernel
theorem r_15_19 : xrow 15 19 = some (.getfield 95, 3, 19, 2, 0, 606) := by decide +kernel
theorem r_15_22 : xrow 15 22 = some (.istore_n 2, 1, 0, 0, 0, 0) := by decide +kernel
theorem r_15_23 : xrow 15 23 = some (.aload_n 0, 1, 0, 0, 0, 0) := by decide +kernel
theorem r_15_24 : xrow 15 24 = some (.getfield 9, 3, 11, 0, 2, 586) := by decide +kernel
theorem r_15_27 : xrow 15 27 = some (.getfield 46, 3, 19, 4, 0, 593) := by decide +kernel
theorem r_15_30 : xrow 15 30 = some (.bipush 45, 2, 0, 0, 0, 0) := by decide +kernel
theorem r_15_32 : xrow 15 32 = some (.if_icmp .ne 7, 3, 39, 0, 0, 0) := by decide +kernel
theorem r_15_35 : xrow 15 35 = some (.iconst 1, 1, 0, 0, 0, 0) := by decide +kernel
theorem r_15_36 : xrow 15 36 = some (.goto 4, 3, 40, 0, 0, 0) := by decide +kernel
theorem r_15_39 : xrow 15 39 = some (.iconst 0, 1, 0, 0, 0, 0) := by decide +kernel
theorem r_15_40 : xrow 15 40 = some (.istore_n 3, 1, 0, 0, 0, 0) := by decide +kernel
theorem r_15_41 : xrow 15 41 = some (.iload_n 3, 1, 0, 0, 0, 0) := by decide +kernel
theorem r_15_42 : xrow 15 42 = some (.ifCond .eq 10, 3, 52, 0, 0, 0) := by decide +kernel
theorem r_15_45 : xrow 15 45 = some (.aload_n 0, 1, 0, 0, 0, 0) := by decide +kernel
theorem r_15_46 : xrow 15 46 = some (.getfield 9, 3, 11, 0, 2, 586) := by decide +kernel
theorem r_15_49 : xrow 15 49 = some (.invokevirtual 53, 3, 89, 0, 0, 595) := by decide +kernel
theorem r_15_52 : xrow 15 52 = some (.aload_n 0, 1, 0, 0, 0, 0) := by decide +kernel
theorem r_15_53 : xrow 15 53 = some (.getfield 9, 3, 11, 0, 2, 586) := by decide +kernel
theorem r_15_56 : xrow 15 56 = some (.iconst 0, 1, 0, 0, 0, 0) := by decide +kernel
theorem r_15_57 : xrow 15 57 = some (.iconst 4, 1, 0, 0, 0, 0) := by decide +kernel
theorem r_15_58 : xrow 15 58 = some (.invokevirtual 98, 3, 98, 0, 0, 607) := by decide +kernel
theorem r_15_61 : xrow 15 61 = some (.istore 4, 2, 0, 0, 0, 0) := by decide +kernel
theorem r_15_63 : xrow 15 63 = some (.iload 4, 2, 0, 0, 0, 0) := by decide +kernel
theorem r_15_65 : xrow 15 65 = some (.iconst (-1), 1, 0, 0, 0, 0) := by decide +kernel
theorem r_15_66 : xrow 15 66 = some (.if_icmp .ne 28, 3, 94, 0, 0, 0) := by decide +kernel
theorem r_15_69 : xrow 15 69 = some (.aload_n 0, 1, 0, 0, 0, 0) := by decide +kernel
theorem r_15_70 : xrow 15 70 = some (.getfield 9, 3, 11, 0, 2, 586) := by decide +kernel
theorem r_15_73 : xrow 15 73 = some (.getfield 172, 3, 19, 7, 0, 626) := by decide +kernel
theorem r_15_76 : xrow 15 76 = some (.iconst 4, 1, 0, 0, 0, 0) := by decide +kernel
theorem r_15_77 : xrow 15 77 = some (.if_icmp .ne 13, 3, 90, 0, 0, 0) := by decide +kernel
theorem r_15_80 : xrow 15 80 = some (.aload_n 0, 1, 0, 0, 0, 0) := by decide +kernel
theorem r_15_81 : xrow 15 81 = some (.getfield 9, 3, 11, 0, 2, 586) := by decide +kernel
theorem r_15_84 : xrow 15 84 = some (.iconst 4, 1, 0, 0, 0, 0) := by decide +kernel
theorem r_15_85 : xrow 15 85 = some (.iload_n 2, 1, 0, 0, 0, 0) := by decide +kernel
theorem r_15_86 : xrow 15 86 = some (.invokevirtual 102, 3, 100, 0, 0, 608) := by decide +kernel
theorem r_15_89 : xrow 15 89 = some (.pop, 1, 0, 0, 0, 0) := by decide +kernel
theorem r_15_90 : xrow 15 90 = some (.sipush (-1000), 3, 0, 0, 0, 0) := by decide +kernel
theorem r_15_93 : xrow 15 93 = some (.ireturn, 1, 0, 0, 0, 0) := by decide +kernel
theorem r_15_94 : xrow 15 94 = some (.iload_n 3, 1, 0, 0, 0, 0) := by decide +kernel
theorem r_15_95 : xrow 15 95 = some (.ifCond .eq 9, 3, 104, 0, 0, 0) := by decide +kernel
theorem r_15_98 : xrow 15 98 = some (.iload 4, 2, 0, 0, 0, 0) := by decide +kernel
theorem r_15_100 : xrow 15 100 = some (.ineg, 1, 0, 0, 0, 0) := by decide +kernel
theorem r_15_101 : xrow 15 101 = some (.goto 5, 3, 106, 0, 0, 0) := by decide +kernel
theorem r_15_104 : xrow 15 104 = some (.iload 4, 2, 0, 0, 0, 0) := by decide +kernel
theorem r_15_106 : xrow 15 106 = some (.ireturn, 1, 0, 0, 0, 0) := by decide +kernel
theorem r_16_0 : xrow 16 0 = some (.aload_n 0, 1, 0, 0, 0, 0) := by decide +kernel
theorem r_16_1 : xrow 16 1 = some (.invokespecial 3, 3, 0, 1, 0, 627) := by decide +kernel
theorem r_16_4 : xrow 16 4 = some (.aload_n 0, 1, 0, 0, 0, 0) := by decide +kernel
theorem r_16_5 : xrow 16 5 = some (.bipush 32, 2, 0, 0, 0, 0) := by decide +kernel
theorem r_16_7 : xrow 16 7 = some (.newarray .int, 2, 0, 0, 0, 0) := by decide +kernel
theorem r_16_9 : xrow 16 9 = some (.putfield 9, 3, 12, 0, 2, 628) := by decide +kernel
theorem r_16_12 : xrow 16 12 = some (.aload_n 0, 1, 0, 0, 0, 0) := by decide +kernel
theorem r_16_13 : xrow 16 13 = some (.bipush 32, 2, 0, 0, 0, 0) := by decide +kernel
theorem r_16_15 : xrow 16 15 = some (.newarray .int, 2, 0, 0, 0, 0) := by decide +kernel
theorem r_16_17 : xrow 16 17 = some (.putfield 15, 3, 12, 1, 2, 629) := by decide +kernel
theorem r_16_20 : xrow 16 20 = some (.aload_n 0, 1, 0, 0, 0, 0) := by decide +kernel
theorem r_16_21 : xrow 16 21 = some (.bipush 8, 2, 0, 0, 0, 0) := by decide +kernel
theorem r_16_23 : xrow 16 23 = some (.newarray .int, 2, 0, 0, 0, 0) := by decide +kernel
theorem r_16_25 : xrow 16 25 = some (.putfield 18, 3, 12, 2, 2, 630) := by decide +kernel
theorem r_16_28 : xrow 16 28 = some (.return_, 1, 0, 0, 0, 0) := by decide +kernel
theorem r_17_0 : xrow 17 0 = some (.iload_n 1, 1, 0, 0, 0, 0) := by decide +kernel
theorem r_17_1 : xrow 17 1 = some (.ifCond .lt 19, 3, 20, 0, 0, 0) := by decide +kernel
theorem r_17_4 : xrow 17 4 = some (.iload_n 1, 1, 0, 0, 0, 0) := by decide +kernel
theorem r_17_5 : xrow 17 5 = some (.bipush 8, 2, 0, 0, 0, 0) := by decide +kernel
theorem r_17_7 : xrow 17 7 = some (.if_icmp .ge 13, 3, 20, 0, 0, 0) := by decide +kernel
theorem r_17_10 : xrow 17 10 = some (.aload_n 0, 1, 0, 0, 0, 0) := by decide +kernel
theorem r_17_11 : xrow 17 11 = some (.getfield 18, 3, 12, 2, 2, 630) := by decide +kernel
theorem r_17_14 : xrow 17 14 = some (.iload_n 1, 1, 0, 0, 0, 0) := by decide +kernel
theorem r_17_15 : xrow 17 15 = some (.iaload, 1, 0, 0, 0, 0) := by decide +kernel
theorem r_17_16 : xrow 17 16 = some (.iconst 1, 1, 0, 0, 0, 0) := by decide +kernel
theorem r_17_17 : xrow 17 17 = some (.if_icmp .ge 5, 3, 22, 0, 0, 0) := by decide +kernel
theorem r_17_20 : xrow 17 20 = some (.iconst 0, 1, 0, 0, 0, 0) := by decide +kernel
theorem r_17_21 : xrow 17 21 = some (.ireturn, 1, 0, 0, 0, 0) := by decide +kernel
theorem r_17_22 : xrow 17 22 = some (.iload_n 1, 1, 0, 0, 0, 0) := by decide +kernel
theorem r_17_23 : xrow 17 23 = some (.iconst 4, 1, 0, 0, 0, 0) := by decide +kernel
theorem r_17_24 : xrow 17 24 = some (.imul, 1, 0, 0, 0, 0) := by decide +kernel
theorem r_17_25 : xrow 17 25 = some (.istore_n 3, 1, 0, 0, 0, 0) := by decide +kernel
theorem r_17_26 : xrow 17 26 = some (.iload_n 3, 1, 0, 0, 0, 0) := by decide +kernel
theorem r_17_27 : xrow 17 27 = some (.aload_n 0, 1, 0, 0, 0, 0) := by decide +kernel
theorem r_17_28 : xrow 17 28 = some (.getfield 18, 3, 12, 2, 2, 630) := by decide +kernel
theorem r_17_31 : xrow 17 31 = some (.iload_n 1, 1, 0, 0, 0, 0) := by decide +kernel
theorem r_17_32 : xrow 17 32 = some (.iaload, 1, 0, 0, 0, 0) := by decide +kernel
theorem r_17_33 : xrow 17 33 = some (.iconst 4, 1, 0, 0, 0, 0) := by decide +kernel
theorem r_17_34 : xrow 17 34 = some (.invokestatic 21, 3, 270, 0, 0, 631) := by decide +kernel
theorem r_17_37 : xrow 17 37 = some (.iadd, 1, 0, 0, 0, 0) := by decide +kernel
theorem r_17_38 : xrow 17 38 = some (.iconst 1, 1, 0, 0, 0, 0) := by decide +kernel
theorem r_17_39 : xrow 17 39 = some (.isub, 1, 0, 0, 0, 0) := by decide +kernel
theorem r_17_40 : xrow 17 40 = some (.istore 4, 2, 0, 0, 0, 0) := by decide +kernel
theorem r_17_42 : xrow 17 42 = some (.iload_n 2, 1, 0, 0, 0, 0) := by decide +kernel
theorem r_17_43 : xrow 17 43 = some (.aload_n 0, 1, 0, 0, 0, 0) := by decide +kernel
theorem r_17_44 : xrow 17 44 = some (.getfield 9, 3, 12, 0, 2, 628) := by decide +kernel
theorem r_17_47 : xrow 17 47 = some (.iload_n 3, 1, 0, 0, 0, 0) := by decide +kernel
theorem r_17_48 : xrow 17 48 = some (.iaload, 1, 0, 0, 0, 0) := by decide +kernel
theorem r_17_49 : xrow 17 49 = some (.if_icmp .gt 10, 3, 59, 0, 0, 0) := by decide +kernel
theorem r_17_52 : xrow 17 52 = some (.aload_n 0, 1, 0, 0, 0, 0) := by decide +kernel
theorem r_17_53 : xrow 17 53 = some (.getfield 15, 3, 12, 1, 2, 629) := by decide +kernel
theorem r_17_56 : xrow 17 56 = some (.iload_n 3, 1, 0, 0, 0, 0) := by decide +kernel
theorem r_17_57 : xrow 17 57 = some (.iaload, 1, 0, 0, 0, 0) := by decide +kernel
theorem r_17_58 : xrow 17 58 = some (.ireturn, 1, 0, 0, 0, 0) := by decide +kernel
theorem r_17_59 : xrow 17 59 = some (.iload_n 3, 1, 0, 0, 0, 0) := by decide +kernel
theorem r_17_60 : xrow 17 60 = some (.istore 5, 2, 0, 0, 0, 0) := by decide +kernel
theorem r_17_62 : xrow 17 62 = some (.iload 5, 2, 0, 0, 0, 0) := by decide +kernel
theorem r_17_64 : xrow 17 64 = some (.iload 4, 2, 0, 0, 0, 0) := by decide +kernel
theorem r_17_66 : xrow 17 66 = some (.if_icmp .ge 30, 3, 96, 0, 0, 0) := by decide +kernel
theorem r_17_69 : xrow 17 69 = some (.iload_n 2, 1, 0, 0, 0, 0) := by decide +kernel
theorem r_17_70 : xrow 17 70 = some (.aload_n 0, 1, 0, 0, 0, 0) := by decide +kernel
theorem r_17_71 : xrow 17 71 = some (.getfield 9, 3, 12, 0, 2, 628) := by decide +kernel
theorem r_17_74 : xrow 17 74 = some (.iload 5, 2, 0, 0, 0, 0) := by decide +kernel
theorem r_17_76 : xrow 17 76 = some (.iconst 1, 1, 0, 0, 0, 0) := by decide +kernel
theorem r_17_77 : xrow 17 77 = some (.iadd, 1, 0, 0, 0, 0) := by decide +kernel
theorem r_17_78 : xrow 17 78 = some (.iaload, 1, 0, 0, 0, 0) := by decide +kernel
theorem r_17_79 : xrow 17 79 = some (.if_icmp .gt 11, 3, 90, 0, 0, 0) := by decide +kernel
theorem r_17_82 : xrow 17 82 = some (.aload_n 0, 1, 0, 0, 0, 0) := by decide +kernel
theorem r_17_83 : xrow 17 83 = some (.iload 5, 2, 0, 0, 0, 0) := by decide +kernel
theorem r_17_85 : xrow 17 85 = some (.iload_n 2, 1, 0, 0, 0, 0) := by decide +kernel
theorem r_17_86 : xrow 17 86 = some (.invokevirtual 27, 3, 18, 0, 0, 632) := by decide +kernel
theorem r_17_89 : xrow 17 89 = some (.ireturn, 1, 0, 0, 0, 0) := by decide +kernel
theorem r_17_90 : xrow 17 90 = some (.iinc 5 1, 3, 0, 0, 0, 0) := by decide +kernel
theorem r_17_93 : xrow 17 93 = some (.goto (-31), 3, 62, 0, 0, 0) := by decide +kernel
theorem r_17_96 : xrow 17 96 = some (.aload_n 0, 1, 0, 0, 0, 0) := by decide +kernel
theorem r_17_97 : xrow 17 97 = some (.getfield 15, 3, 12, 1, 2, 629) := by decide +kernel
theorem r_17_100 : xrow 17 100 = some (.iload 4, 2, 0, 0, 0, 0) := by decide +kernel
theorem r_17_102 : xrow 17 102 = some (.iaload, 1, 0, 0, 0, 0) := by decide +kernel
theorem r_17_103 : xrow 17 103 = some (.ireturn, 1, 0, 0, 0, 0) := by decide +kernel
theorem r_18_0 : xrow 18 0 = some (.aload_n 0, 1, 0, 0, 0, 0) := by decide +kernel
theorem r_18_1 : xrow 18 1 = some (.getfield 9, 3, 12, 0, 2, 628) := by decide +kernel
theorem r_18_4 : xrow 18 4 = some (.iload_n 1, 1, 0, 0, 0, 0) := by decide +kernel
theorem r_18_5 : xrow 18 5 = some (.iconst 1, 1, 0, 0, 0, 0) := by decide +kernel
theorem r_18_6 : xrow 18 6 = some (.iadd, 1, 0, 0, 0, 0) := by decide +kernel
theorem r_18_7 : xrow 18 7 = some (.iaload, 1, 0, 0, 0, 0) := by decide +kernel
theorem r_18_8 : xrow 18 8 = some (.aload_n 0, 1, 0, 0, 0, 0) := by decide +kernel
theorem r_18_9 : xrow 18 9 = some (.getfield 9, 3, 12, 0, 2, 628) := by decide +kernel
theorem r_18_12 : xrow 18 12 = some (.iload_n 1, 1, 0, 0, 0, 0) := by decide +kernel
theorem r_18_13 : xrow 18 13 = some (.iaload, 1, 0, 0, 0, 0) := by decide +kernel
theorem r_18_14 : xrow 18 14 = some (.isub, 1, 0, 0, 0, 0) := by decide +kernel
theorem r_18_15 : xrow 18 15 = some (.istore_n 3, 1, 0, 0, 0, 0) := by decide +kernel
theorem r_18_16 : xrow 18 16 = some (.iload_n 3, 1, 0, 0, 0, 0) := by decide +kernel
theorem r_18_17 : xrow 18 17 = some (.ifCond .gt 10, 3, 27, 0, 0, 0) := by decide +kernel
theorem r_18_20 : xrow 18 20 = some (.aload_n 0, 1, 0, 0, 0, 0) := by decide +kernel
theorem r_18_21 : xrow 18 21 = some (.getfield 15, 3, 12, 1, 2, 629) := by decide +kernel
theorem r_18_24 : xrow 18 24 = some (.iload_n 1, 1, 0, 0, 0, 0) := by decide +kernel
theorem r_18_25 : xrow 18 25 = some (.iaload, 1, 0, 0, 0, 0) := by decide +kernel
theorem r_18_26 : xrow 18 26 = some (.ireturn, 1, 0, 0, 0, 0) := by decide +kernel
theorem r_18_27 : xrow 18 27 = some (.aload_n 0, 1, 0, 0, 0, 0) := by decide +kernel
theorem r_18_28 : xrow 18 28 = some (.getfield 15, 3, 12, 1, 2, 629) := by decide +kernel
theorem r_18_31 : xrow 18 31 = some (.iload_n 1, 1, 0, 0, 0, 0) := by decide +kernel
theorem r_18_32 : xrow 18 32 = some (.iaload, 1, 0, 0, 0, 0) := by decide +kernel
theorem r_18_33 : xrow 18 33 = some (.aload_n 0, 1, 0, 0, 0, 0) := by decide +kernel
theorem r_18_34 : xrow 18 34 = some (.getfield 15, 3, 12, 1, 2, 629) := by decide +kernel
theorem r_18_37 : xrow 18 37 = some (.iload_n 1, 1, 0, 0, 0, 0) := by decide +kernel
theorem r_18_38 : xrow 18 38 = some (.iconst 1, 1, 0, 0, 0, 0) := by decide +kernel
theorem r_18_39 : xrow 18 39 = some (.iadd, 1, 0, 0, 0, 0) := by decide +kernel
theorem r_18_40 : xrow 18 40 = some (.iaload, 1, 0, 0, 0, 0) := by decide +kernel
theorem r_18_41 : xrow 18 41 = some (.aload_n 0, 1, 0, 0, 0, 0) := by decide +kernel
theorem r_18_42 : xrow 18 42 = some (.getfield 15, 3, 12, 1, 2, 629) := by decide +kernel
theorem r_18_45 : xrow 18 45 = some (.iload_n 1, 1, 0, 0, 0, 0) := by decide +kernel
theorem r_18_46 : xrow 18 46 = some (.iaload, 1, 0, 0, 0, 0) := by decide +kernel
theorem r_18_47 : xrow 18 47 = some (.isub, 1, 0, 0, 0, 0) := by decide +kernel
theorem r_18_48 : xrow 18 48 = some (.iload_n 2, 1, 0, 0, 0, 0) := by decide +kernel
theorem r_18_49 : xrow 18 49 = some (.aload_n 0, 1, 0, 0, 0, 0) := by decide +kernel
theorem r_18_50 : xrow 18 50 = some (.getfield 9, 3, 12, 0, 2, 628) := by decide +kernel
theorem r_18_53 : xrow 18 53 = some (.iload_n 1, 1, 0, 0, 0, 0) := by decide +kernel
theorem r_18_54 : xrow 18 54 = some (.iaload, 1, 0, 0, 0, 0) := by decide +kernel
theorem r_18_55 : xrow 18 55 = some (.isub, 1, 0, 0, 0, 0) := by decide +kernel
theorem r_18_56 : xrow 18 56 = some (.imul, 1, 0, 0, 0, 0) := by decide +kernel
theorem r_18_57 : xrow 18 57 = some (.iload_n 3, 1, 0, 0, 0, 0) := by decide +kernel
theorem r_18_58 : xrow 18 58 = some (.invokestatic 30, 3, 266, 0, 0, 633) := by decide +kernel
theorem r_18_61 : xrow 18 61 = some (.iadd, 1, 0, 0, 0, 0) := by decide +kernel
theorem r_18_62 : xrow 18 62 = some (.ireturn, 1, 0, 0, 0, 0) := by decide +kernel
theorem r_19_0 : xrow 19 0 = some (.aload_n 0, 1, 0, 0, 0, 0) := by decide +kernel
theorem r_19_1 : xrow 19 1 = some (.invokespecial 5, 3, 0, 1, 0, 634) := by decide +kernel
theorem r_19_4 : xrow 19 4 = some (.aload_n 0, 1, 0, 0, 0, 0) := by decide +kernel
theorem r_19_5 : xrow 19 5 = some (.bipush 6, 2, 0, 0, 0, 0) := by decide +kernel
theorem r_19_7 : xrow 19 7 = some (.newarray .int, 2, 0, 0, 0, 0) := by decide +kernel
theorem r_19_9 : xrow 19 9 = some (.putfield 11, 3, 13, 1, 2, 635) := by decide +kernel
theorem r_19_12 : xrow 19 12 = some (.aload_n 0, 1, 0, 0, 0, 0) := by decide +kernel
theorem r_19_13 : xrow 19 13 = some (.bipush 6, 2, 0, 0, 0, 0) := by decide +kernel
theorem r_19_15 : xrow 19 15 = some (.newarray .int, 2, 0, 0, 0, 0) := by decide +kernel
theorem r_19_17 : xrow 19 17 = some (.putfield 15, 3, 13, 2, 2, 636) := by decide +kernel
theorem r_19_20 : xrow 19 20 = some (.aload_n 0, 1, 0, 0, 0, 0) := by decide +kernel
theorem r_19_21 : xrow 19 21 = some (.iconst 5, 1, 0, 0, 0, 0) := by decide +kernel
theorem r_19_22 : xrow 19 22 = some (.newarray .int, 2, 0, 0, 0, 0) := by decide +kernel
theorem r_19_24 : xrow 19 24 = some (.putfield 18, 3, 13, 3, 2, 637) := by decide +kernel
theorem r_19_27 : xrow 19 27 = some (.aload_n 0, 1, 0, 0, 0, 0) := by decide +kernel
theorem r_19_28 : xrow 19 28 = some (.aload_n 1, 1, 0, 0, 0, 0) := by decide +kernel
theorem r_19_29 : xrow 19 29 = some (.putfield 21, 3, 13, 0, 2, 638) := by decide +kernel
theorem r_19_32 : xrow 19 32 = some (.aload_n 0, 1, 0, 0, 0, 0) := by decide +kernel
theorem r_19_33 : xrow 19 33 = some (.iconst 0, 1, 0, 0, 0, 0) := by decide +kernel
theorem r_19_34 : xrow 19 34 = some (.newarray .int, 2, 0, 0, 0, 0) := by decide +kernel
theorem r_19_36 : xrow 19 36 = some (.putfield 25, 3, 13, 6, 2, 639) := by decide +kernel
theorem r_19_39 : xrow 19 39 = some (.aload_n 0, 1, 0, 0, 0, 0) := by decide +kernel
theorem r_19_40 : xrow 19 40 = some (.iconst 0, 1, 0, 0, 0, 0) := by decide +kernel
theorem r_19_41 : xrow 19 41 = some (.newarray .int, 2, 0, 0, 0, 0) := by decide +kernel
theorem r_19_43 : xrow 19 43 = some (.putfield 28, 3, 13, 7, 2, 640) := by decide +kernel
theorem r_19_46 : xrow 19 46 = some (.aload_n 0, 1, 0, 0, 0, 0) := by decide +kernel
theorem r_19_47 : xrow 19 47 = some (.iconst 0, 1, 0, 0, 0, 0) := by decide +kernel
theorem r_19_48 : xrow 19 48 = some (.newarray .int, 2, 0, 0, 0, 0) := by decide +kernel
theorem r_19_50 : xrow 19 50 = some (.putfield 31, 3, 13, 8, 2, 641) := by decide +kernel
theorem r_19_53 : xrow 19 53 = some (.aload_n 0, 1, 0, 0, 0, 0) := by decide +kernel
theorem r_19_54 : xrow 19 54 = some (.iconst 0, 1, 0, 0, 0, 0) := by decide +kernel
theorem r_19_55 : xrow 19 55 = some (.newarray .int, 2, 0, 0, 0, 0) := by decide +kernel
theorem r_19_57 : xrow 19 57 = some (.putfield 34, 3, 13, 9, 2, 642) := by decide +kernel
theorem r_19_60 : xrow 19 60 = some (.aload_n 0, 1, 0, 0, 0, 0) := by decide +kernel
theorem r_19_61 : xrow 19 61 = some (.iconst 0, 1, 0, 0, 0, 0) := by decide +kernel
theorem r_19_62 : xrow 19 62 = some (.newarray .int, 2, 0, 0, 0, 0) := by decide +kernel
theorem r_19_64 : xrow 19 64 = some (.putfield 37, 3, 13, 11, 2, 643) := by decide +kernel
theorem r_19_67 : xrow 19 67 = some (.return_, 1, 0, 0, 0, 0) := by decide +kernel
theorem r_20_0 : xrow 20 0 = some (.aload_n 0, 1, 0, 0, 0, 0) := by decide +kernel
theorem r_20_1 : xrow 20 1 = some (.aload_n 1, 1, 0, 0, 0, 0) := by decide +kernel
theorem r_20_2 : xrow 20 2 = some (.putfield 21, 3, 13, 0, 2, 638) := by decide +kernel
theorem r_20_5 : xrow 20 5 = some (.aload_n 0, 1, 0, 0, 0, 0) := by decide +kernel
theorem r_20_6 : xrow 20 6 = some (.getfield 11, 3, 13, 1, 2, 635) := by decide +kernel
theorem r_20_9 : xrow 20 9 = some (.iconst 0, 1, 0, 0, 0, 0) := by decide +kernel
theorem r_20_10 : xrow 20 10 = some (.invokestatic 40, 3, 281, 0, 0, 644) := by decide +kernel
theorem r_20_13 : xrow 20 13 = some (.aload_n 0, 1, 0, 0, 0, 0) := by decide +kernel
theorem r_20_14 : xrow 20 14 = some (.iconst 0, 1, 0, 0, 0, 0) := by decide +kernel
theorem r_20_15 : xrow 20 15 = some (.putfield 46, 3, 13, 4, 3, 645) := by decide +kernel
theorem r_20_18 : xrow 20 18 = some (.aload_n 0, 1, 0, 0, 0, 0) := by decide +kernel
theorem r_20_19 : xrow 20 19 = some (.iconst 0, 1, 0, 0, 0, 0) := by decide +kernel
theorem r_20_20 : xrow 20 20 = some (.putfield 50, 3, 13, 10, 3, 646) := by decide +kernel
theorem r_20_23 : xrow 20 23 = some (.return_, 1, 0, 0, 0, 0) := by decide +kernel
theorem r_21_0 : xrow 21 0 = some (.aload_n 0, 1, 0, 0, 0, 0) := by decide +kernel
theorem r_21_1 : xrow 21 1 = some (.getfield 11, 3, 13, 1, 2, 635) := by decide +kernel
theorem r_21_4 : xrow 21 4 = some (.iload_n 1, 1, 0, 0, 0, 0) := by decide +kernel
theorem r_21_5 : xrow 21 5 = some (.iload_n 2, 1, 0, 0, 0, 0) := by decide +kernel
theorem r_21_6 : xrow 21 6 = some (.iastore, 1, 0, 0, 0, 0) := by decide +kernel
theorem r_21_7 : xrow 21 7 = some (.aload_n 0, 1, 0, 0, 0, 0) := by decide +kernel
theorem r_21_8 : xrow 21 8 = some (.iconst 0, 1, 0, 0, 0, 0) := by decide +kernel
theorem r_21_9 : xrow 21 9 = some (.putfield 50, 3, 13, 10, 3, 646) := by decide +kernel
theorem r_21_12 : xrow 21 12 = some (.return_, 1, 0, 0, 0, 0) := by decide +kernel
theorem r_22_0 : xrow 22 0 = some (.aload_n 0, 1, 0, 0, 0, 0) := by decide +kernel
theorem r_22_1 : xrow 22 1 = some (.aload_n 0, 1, 0, 0, 0, 0) := by decide +kernel
theorem r_22_2 : xrow 22 2 = some (.getfield 11, 3, 13, 1, 2, 635) := by decide +kernel
theorem r_22_5 : xrow 22 5 = some (.iload_n 1, 1, 0, 0, 0, 0) := by decide +kernel
theorem r_22_6 : xrow 22 6 = some (.iload_n 2, 1, 0, 0, 0, 0) := by decide +kernel
theorem r_22_7 : xrow 22 7 = some (.invokevirtual 53, 3, 24, 0, 0, 647) := by decide +kernel
theorem r_22_10 : xrow 22 10 = some (.aload_n 0, 1, 0, 0, 0, 0) := by decide +kernel
theorem r_22_11 : xrow 22 11 = some (.iconst 0, 1, 0, 0, 0, 0) := by decide +kernel
theorem r_22_12 : xrow 22 12 = some (.putfield 50, 3, 13, 10, 3, 646) := by decide +kernel
theorem r_22_15 : xrow 22 15 = some (.return_, 1, 0, 0, 0, 0) := by decide +kernel
theorem r_23_0 : xrow 23 0 = some (.iconst 0, 1, 0, 0, 0, 0) := by decide +kernel
theorem r_23_1 : xrow 23 1 = some (.istore_n 1, 1, 0, 0, 0, 0) := by decide +kernel
theorem r_23_2 : xrow 23 2 = some (.iconst 0, 1, 0, 0, 0, 0) := by decide +kernel
theorem r_23_3 : xrow 23 3 = some (.istore_n 2, 1, 0, 0, 0, 0) := by decide +kernel
theorem r_23_4 : xrow 23 4 = some (.iload_n 2, 1, 0, 0, 0, 0) := by decide +kernel
theorem r_23_5 : xrow 23 5 = some (.bipush 6, 2, 0, 0, 0, 0) := by decide +kernel
theorem r_23_7 : xrow 23 7 = some (.if_icmp .ge 20, 3, 27, 0, 0, 0) := by decide +kernel
theorem r_23_10 : xrow 23 10 = some (.iload_n 1, 1, 0, 0, 0, 0) := by decide +kernel
theorem r_23_11 : xrow 23 11 = some (.aload_n 0, 1, 0, 0, 0, 0) := by decide +kernel
theorem r_23_12 : xrow 23 12 = some (.getfield 11, 3, 13, 1, 2, 635) := by decide +kernel
theorem r_23_15 : xrow 23 15 = some (.iload_n 2, 1, 0, 0, 0, 0) := by decide +kernel
theorem r_23_16 : xrow 23 16 = some (.iaload, 1, 0, 0, 0, 0) := by decide +kernel
theorem r_23_17 : xrow 23 17 = some (.invokestatic 57, 3, 268, 0, 0, 648) := by decide +kernel
theorem r_23_20 : xrow 23 20 = some (.istore_n 1, 1, 0, 0, 0, 0) := by decide +kernel
theorem r_23_21 : xrow 23 21 = some (.iinc 2 1, 3, 0, 0, 0, 0) := by decide +kernel
theorem r_23_24 : xrow 23 24 = some (.goto (-20), 3, 4, 0, 0, 0) := by decide +kernel
theorem r_23_27 : xrow 23 27 = some (.iload_n 1, 1, 0, 0, 0, 0) := by decide +kernel
theorem r_23_28 : xrow 23 28 = some (.ireturn, 1, 0, 0, 0, 0) := by decide +kernel
theorem r_24_0 : xrow 24 0 = some (.iconst 0, 1, 0, 0, 0, 0) := by decide +kernel
theorem r_24_1 : xrow 24 1 = some (.istore 4, 2, 0, 0, 0, 0) := by decide +kernel
theorem r_24_3 : xrow 24 3 = some (.iload 4, 2, 0, 0, 0, 0) := by decide +kernel
theorem r_24_5 : xrow 24 5 = some (.aload_n 0, 1, 0, 0, 0, 0) := by decide +kernel
theorem r_24_6 : xrow 24 6 = some (.getfield 21, 3, 13, 0, 2, 638) := by decide +kernel
theorem r_24_9 : xrow 24 9 = some (.getfield 63, 3, 10, 10, 0, 649) := by decide +kernel
theorem r_24_12 : xrow 24 12 = some (.if_icmp .ge 52, 3, 64, 0, 0, 0) := by decide +kernel
theorem r_24_15 : xrow 24 15 = some (.iload 4, 2, 0, 0, 0, 0) := by decide +kernel
theorem r_24_17 : xrow 24 17 = some (.iload_n 3, 1, 0, 0, 0, 0) := by decide +kernel
theorem r_24_18 : xrow 24 18 = some (.if_icmp .ne 15, 3, 33, 0, 0, 0) := by decide +kernel
theorem r_24_21 : xrow 24 21 = some (.aload_n 0, 1, 0, 0, 0, 0) := by decide +kernel
theorem r_24_22 : xrow 24 22 = some (.getfield 21, 3, 13, 0, 2, 638) := by decide +kernel
theorem r_24_25 : xrow 24 25 = some (.getfield 69, 3, 10, 7, 2, 650) := by decide +kernel
theorem r_24_28 : xrow 24 28 = some (.iload_n 2, 1, 0, 0, 0, 0) := by decide +kernel
theorem r_24_29 : xrow 24 29 = some (.iaload, 1, 0, 0, 0, 0) := by decide +kernel
theorem r_24_30 : xrow 24 30 = some (.goto 12, 3, 42, 0, 0, 0) := by decide +kernel
theorem r_24_33 : xrow 24 33 = some (.aload_n 0, 1, 0, 0, 0, 0) := by decide +kernel
theorem r_24_34 : xrow 24 34 = some (.getfield 21, 3, 13, 0, 2, 638) := by decide +kernel
theorem r_24_37 : xrow 24 37 = some (.getfield 72, 3, 10, 6, 2, 651) := by decide +kernel
theorem r_24_40 : xrow 24 40 = some (.iload_n 2, 1, 0, 0, 0, 0) := by decide +kernel
theorem r_24_41 : xrow 24 41 = some (.iaload, 1, 0, 0, 0, 0) := by decide +kernel
theorem r_24_42 : xrow 24 42 = some (.istore 5, 2, 0, 0, 0, 0) := by decide +kernel
theorem r_24_44 : xrow 24 44 = some (.aload_n 1, 1, 0, 0, 0, 0) := by decide +kernel
theorem r_24_45 : xrow 24 45 = some (.iload 4, 2, 0, 0, 0, 0) := by decide +kernel
theorem r_24_47 : xrow 24 47 = some (.aload_n 1, 1, 0, 0, 0, 0) := by decide +kernel
theorem r_24_48 : xrow 24 48 = some (.iload 4, 2, 0, 0, 0, 0) := by decide +kernel
theorem r_24_50 : xrow 24 50 = some (.iaload, 1, 0, 0, 0, 0) := by decide +kernel
theorem r_24_51 : xrow 24 51 = some (.iload 5, 2, 0, 0, 0, 0) := by decide +kernel
theorem r_24_53 : xrow 24 53 = some (.iadd, 1, 0, 0, 0, 0) := by decide +kernel
theorem r_24_54 : xrow 24 54 = some (.invokestatic 75, 3, 25, 0, 0, 652) := by decide +kernel
theorem r_24_57 : xrow 24 57 = some (.iastore, 1, 0, 0, 0, 0) := by decide +kernel
theorem r_24_58 : xrow 24 58 = some (.iinc 4 1, 3, 0, 0, 0, 0) := by decide +kernel
theorem r_24_61 : xrow 24 61 = some (.goto (-58), 3, 3, 0, 0, 0) := by decide +kernel
theorem r_24_64 : xrow 24 64 = some (.return_, 1, 0, 0, 0, 0) := by decide +kernel
theorem r_25_0 : xrow 25 0 = some (.iconst 0, 1, 0, 0, 0, 0) := by decide +kernel
theorem r_25_1 : xrow 25 1 = some (.iconst 4, 1, 0, 0, 0, 0) := by decide +kernel
theorem r_25_2 : xrow 25 2 = some (.iload_n 0, 1, 0, 0, 0, 0) := by decide +kernel
theorem r_25_3 : xrow 25 3 = some (.invokestatic 79, 3, 270, 0, 0, 653) := by decide +kernel
theorem r_25_6 : xrow 25 6 = some (.invokestatic 57, 3, 268, 0, 0, 648) := by decide +kernel
theorem r_25_9 : xrow 25 9 = some (.ireturn, 1, 0, 0, 0, 0) := by decide +kernel
theorem r_26_0 : xrow 26 0 = some (.aload_n 0, 1, 0, 0, 0, 0) := by decide +kernel
theorem r_26_1 : xrow 26 1 = some (.invokevirtual 82, 3, 32, 0, 0, 654) := by decide +kernel
theorem r_26_4 : xrow 26 4 = some (.aload_n 0, 1, 0, 0, 0, 0) := by decide +kernel
theorem r_26_5 : xrow 26 5 = some (.getfield 34, 3, 13, 9, 2, 642) := by decide +kernel
theorem r_26_8 : xrow 26 8 = some (.aload_n 0, 1, 0, 0, 0, 0) := by decide +kernel
theorem r_26_9 : xrow 26 9 = some (.getfield 25, 3, 13, 6, 2, 639) := by decide +kernel
theorem r_26_12 : xrow 26 12 = some (.aload_n 0, 1, 0, 0, 0, 0) := by decide +kernel
theorem r_26_13 : xrow 26 13 = some (.aload_n 0, 1, 0, 0, 0, 0) := by decide +kernel
theorem r_26_14 : xrow 26 14 = some (.getfield 11, 3, 13, 1, 2, 635) := by decide +kernel
theorem r_26_17 : xrow 26 17 = some (.invokevirtual 85, 3, 28, 0, 0, 655) := by decide +kernel
theorem r_26_20 : xrow 26 20 = some (.iaload, 1, 0, 0, 0, 0) := by decide +kernel
theorem r_26_21 : xrow 26 21 = some (.iaload, 1, 0, 0, 0, 0) := by decide +kernel
theorem r_26_22 : xrow 26 22 = some (.istore_n 1, 1, 0, 0, 0, 0) := by decide +kernel
theorem r_26_23 : xrow 26 23 = some (.iload_n 1, 1, 0, 0, 0, 0) := by decide +kernel
theorem r_26_24 : xrow 26 24 = some (.ldc 89, 2, 536870912, 0, 0, 656) := by decide +kernel
theorem r_26_26 : xrow 26 26 = some (.if_icmp .lt 7, 3, 33, 0, 0, 0) := by decide +kernel
theorem r_26_29 : xrow 26 29 = some (.iconst (-1), 1, 0, 0, 0, 0) := by decide +kernel
theorem r_26_30 : xrow 26 30 = some (.goto 8, 3, 38, 0, 0, 0) := by decide +kernel
theorem r_26_33 : xrow 26 33 = some (.iload_n 1, 1, 0, 0, 0, 0) := by decide +kernel
theorem r_26_34 : xrow 26 34 = some (.sipush 1024, 3, 0, 0, 0, 0) := by decide +kernel
theorem r_26_37 : xrow 26 37 = some (.idiv, 1, 0, 0, 0, 0) := by decide +kernel
theorem r_26_38 : xrow 26 38 = some (.ireturn, 1, 0, 0, 0, 0) := by decide +kernel
theorem r_27_0 : xrow 27 0 = some (.aload_n 0, 1, 0, 0, 0, 0) := by decide +kernel
theorem r_27_1 : xrow 27 1 = some (.invokevirtual 90, 3, 29, 0, 0, 657) := by decide +kernel
theorem r_27_4 : xrow 27 4 = some (.iload_n 1, 1, 0, 0, 0, 0) := by decide +kernel
theorem r_27_5 : xrow 27 5 = some (.ifCond .lt 20, 3, 25, 0, 0, 0) := by decide +kernel
theorem r_27_8 : xrow 27 8 = some (.iload_n 1, 1, 0, 0, 0, 0) := by decide +kernel
theorem r_27_9 : xrow 27 9 = some (.aload_n 0, 1, 0, 0, 0, 0) := by decide +kernel
theorem r_27_10 : xrow 27 10 = some (.getfield 93, 3, 13, 12, 0, 658) := by decide +kernel
theorem r_27_13 : xrow 27 13 = some (.if_icmp .ge 12, 3, 25, 0, 0, 0) := by decide +kernel
theorem r_27_16 : xrow 27 16 = some (.aload_n 0, 1, 0, 0, 0, 0) := by decide +kernel
theorem r_27_17 : xrow 27 17 = some (.getfield 37, 3, 13, 11, 2, 643) := by decide +kernel
theorem r_27_20 : xrow 27 20 = some (.iload_n 1, 1, 0, 0, 0, 0) := by decide +kernel
theorem r_27_21 : xrow 27 21 = some (.iaload, 1, 0, 0, 0, 0) := by decide +kernel
theorem r_27_22 : xrow 27 22 = some (.goto 5, 3, 27, 0, 0, 0) := by decide +kernel
theorem r_27_25 : xrow 27 25 = some (.bipush (-2), 2, 0, 0, 0, 0) := by decide +kernel
theorem r_27_27 : xrow 27 27 = some (.ireturn, 1, 0, 0, 0, 0) := by decide +kernel
theorem r_28_0 : xrow 28 0 = some (.iconst 0, 1, 0, 0, 0, 0) := by decide +kernel
theorem r_28_1 : xrow 28 1 = some (.istore_n 2, 1, 0, 0, 0, 0) := by decide +kernel
theorem r_28_2 : xrow 28 2 = some (.iconst 0, 1, 0, 0, 0, 0) := by decide +kernel
theorem r_28_3 : xrow 28 3 = some (.istore_n 3, 1, 0, 0, 0, 0) := by decide +kernel
theorem r_28_4 : xrow 28 4 = some (.iload_n 3, 1, 0, 0, 0, 0) := by decide +kernel
theorem r_28_5 : xrow 28 5 = some (.aload_n 0, 1, 0, 0, 0, 0) := by decide +kernel
theorem r_28_6 : xrow 28 6 = some (.getfield 21, 3, 13, 0, 2, 638) := by decide +kernel
theorem r_28_9 : xrow 28 9 = some (.getfield 63, 3, 10, 10, 0, 649) := by decide +kernel
theorem r_28_12 : xrow 28 12 = some (.if_icmp .ge 19, 3, 31, 0, 0, 0) := by decide +kernel
theorem r_28_15 : xrow 28 15 = some (.iload_n 2, 1, 0, 0, 0, 0) := by decide +kernel
theorem r_28_16 : xrow 28 16 = some (.getstatic 96, 3, 1, 0, 0, 659) := by decide +kernel
theorem r_28_19 : xrow 28 19 = some (.aload_n 1, 1, 0, 0, 0, 0) := by decide +kernel
theorem r_28_20 : xrow 28 20 = some (.iload_n 3, 1, 0, 0, 0, 0) := by decide +kernel
theorem r_28_21 : xrow 28 21 = some (.iaload, 1, 0, 0, 0, 0) := by decide +kernel
theorem r_28_22 : xrow 28 22 = some (.iaload, 1, 0, 0, 0, 0) := by decide +kernel
theorem r_28_23 : xrow 28 23 = some (.iadd, 1, 0, 0, 0, 0) := by decide +kernel
theorem r_28_24 : xrow 28 24 = some (.istore_n 2, 1, 0, 0, 0, 0) := by decide +kernel
theorem r_28_25 : xrow 28 25 = some (.iinc 3 1, 3, 0, 0, 0, 0) := by decide +kernel
theorem r_28_28 : xrow 28 28 = some (.goto (-24), 3, 4, 0, 0, 0) := by decide +kernel
theorem r_28_31 : xrow 28 31 = some (.iload_n 2, 1, 0, 0, 0, 0) := by decide +kernel
theorem r_28_32 : xrow 28 32 = some (.ireturn, 1, 0, 0, 0, 0) := by decide +kernel
theorem r_29_0 : xrow 29 0 = some (.aload_n 0, 1, 0, 0, 0, 0) := by decide +kernel
theorem r_29_1 : xrow 29 1 = some (.getfield 50, 3, 13, 10, 0, 646) := by decide +kernel
theorem r_29_4 : xrow 29 4 = some (.ifCond .eq 4, 3, 8, 0, 0, 0) := by decide +kernel
theorem r_29_7 : xrow 29 7 = some (.return_, 1, 0, 0, 0, 0) := by decide +kernel
theorem r_29_8 : xrow 29 8 = some (.aload_n 0, 1, 0, 0, 0, 0) := by decide +kernel
theorem r_29_9 : xrow 29 9 = some (.invokevirtual 82, 3, 32, 0, 0, 654) := by decide +kernel
theorem r_29_12 : xrow 29 12 = some (.aload_n 0, 1, 0, 0, 0, 0) := by decide +kernel
theorem r_29_13 : xrow 29 13 = some (.iconst 1, 1, 0, 0, 0, 0) := by decide +kernel
theorem r_29_14 : xrow 29 14 = some (.putfield 50, 3, 13, 10, 3, 646) := by decide +kernel
theorem r_29_17 : xrow 29 17 = some (.aload_n 0, 1, 0, 0, 0, 0) := by decide +kernel
theorem r_29_18 : xrow 29 18 = some (.iconst 0, 1, 0, 0, 0, 0) := by decide +kernel
theorem r_29_19 : xrow 29 19 = some (.putfield 93, 3, 13, 12, 0, 658) := by decide +kernel
theorem r_29_22 : xrow 29 22 = some (.aload_n 0, 1, 0, 0, 0, 0) := by decide +kernel
theorem r_29_23 : xrow 29 23 = some (.getfield 11, 3, 13, 1, 2, 635) := by decide +kernel
theorem r_29_26 : xrow 29 26 = some (.iconst 0, 1, 0, 0, 0, 0) := by decide +kernel
theorem r_29_27 : xrow 29 27 = some (.aload_n 0, 1, 0, 0, 0, 0) := by decide +kernel
theorem r_29_28 : xrow 29 28 = some (.getfield 15, 3, 13, 2, 2, 636) := by decide +kernel
theorem r_29_31 : xrow 29 31 = some (.iconst 0, 1, 0, 0, 0, 0) := by decide +kernel
theorem r_29_32 : xrow 29 32 = some (.bipush 6, 2, 0, 0, 0, 0) := by decide +kernel
theorem r_29_34 : xrow 29 34 = some (.invokestatic 99, 3, 0, 2, 0, 660) := by decide +kernel
theorem r_29_37 : xrow 29 37 = some (.aload_n 0, 1, 0, 0, 0, 0) := by decide +kernel
theorem r_29_38 : xrow 29 38 = some (.getfield 25, 3, 13, 6, 2, 639) := by decide +kernel
theorem r_29_41 : xrow 29 41 = some (.aload_n 0, 1, 0, 0, 0, 0) := by decide +kernel
theorem r_29_42 : xrow 29 42 = some (.aload_n 0, 1, 0, 0, 0, 0) := by decide +kernel
theorem r_29_43 : xrow 29 43 = some (.getfield 15, 3, 13, 2, 2, 636) := by decide +kernel
theorem r_29_46 : xrow 29 46 = some (.invokevirtual 85, 3, 28, 0, 0, 655) := by decide +kernel
theorem r_29_49 : xrow 29 49 = some (.iaload, 1, 0, 0, 0, 0) := by decide +kernel
theorem r_29_50 : xrow 29 50 = some (.istore_n 1, 1, 0, 0, 0, 0) := by decide +kernel
theorem r_29_51 : xrow 29 51 = some (.aload_n 0, 1, 0, 0, 0, 0) := by decide +kernel
theorem r_29_52 : xrow 29 52 = some (.getfield 34, 3, 13, 9, 2, 642) := by decide +kernel
theorem r_29_55 : xrow 29 55 = some (.iload_n 1, 1, 0, 0, 0, 0) := by decide +kernel
theorem r_29_56 : xrow 29 56 = some (.iaload, 1, 0, 0, 0, 0) := by decide +kernel
theorem r_29_57 : xrow 29 57 = some (.ldc 89, 2, 536870912, 0, 0, 656) := by decide +kernel
theorem r_29_59 : xrow 29 59 = some (.if_icmp .lt 4, 3, 63, 0, 0, 0) := by decide +kernel
theorem r_29_62 : xrow 29 62 = some (.return_, 1, 0, 0, 0, 0) := by decide +kernel
theorem r_29_63 : xrow 29 63 = some (.iconst 0, 1, 0, 0, 0, 0) := by decide +kernel
theorem r_29_64 : xrow 29 64 = some (.istore_n 2, 1, 0, 0, 0, 0) := by decide +kernel
theorem r_29_65 : xrow 29 65 = some (.iload_n 2, 1, 0, 0, 0, 0) := by decide +kernel
theorem r_29_66 : xrow 29 66 = some (.sipush 210, 3, 0, 0, 0, 0) := by decide +kernel
theorem r_29_69 : xrow 29 69 = some (.if_icmp .ge 79, 3, 148, 0, 0, 0) := by decide +kernel
theorem r_29_72 : xrow 29 72 = some (.aload_n 0, 1, 0, 0, 0, 0) := by decide +kernel
theorem r_29_73 : xrow 29 73 = some (.getfield 34, 3, 13, 9, 2, 642) := by decide +kernel
theorem r_29_76 : xrow 29 76 = some (.iload_n 1, 1, 0, 0, 0, 0) := by decide +kernel
theorem r_29_77 : xrow 29 77 = some (.iaload, 1, 0, 0, 0, 0) := by decide +kernel
theorem r_29_78 : xrow 29 78 = some (.ifCond .le 70, 3, 148, 0, 0, 0) := by decide +kernel
theorem r_29_81 : xrow 29 81 = some (.aload_n 0, 1, 0, 0, 0, 0) := by decide +kernel
theorem r_29_82 : xrow 29 82 = some (.iload_n 1, 1, 0, 0, 0, 0) := by decide +kernel
theorem r_29_83 : xrow 29 83 = some (.invokevirtual 105, 3, 30, 0, 0, 661) := by decide +kernel
theorem r_29_86 : xrow 29 86 = some (.istore_n 3, 1, 0, 0, 0, 0) := by decide +kernel
theorem r_29_87 : xrow 29 87 = some (.iload_n 3, 1, 0, 0, 0, 0) := by decide +kernel
theorem r_29_88 : xrow 29 88 = some (.ifCond .ge 4, 3, 92, 0, 0, 0) := by decide +kernel
theorem r_29_91 : xrow 29 91 = some (.return_, 1, 0, 0, 0, 0) := by decide +kernel
theorem r_29_92 : xrow 29 92 = some (.aload_n 0, 1, 0, 0, 0, 0) := by decide +kernel
theorem r_29_93 : xrow 29 93 = some (.getfield 37, 3, 13, 11, 2, 643) := by decide +kernel
theorem r_29_96 : xrow 29 96 = some (.aload_n 0, 1, 0, 0, 0, 0) := by decide +kernel
theorem r_29_97 : xrow 29 97 = some (.getfield 93, 3, 13, 12, 0, 658) := by decide +kernel
theorem r_29_100 : xrow 29 100 = some (.iload_n 3, 1, 0, 0, 0, 0) := by decide +kernel
theorem r_29_101 : xrow 29 101 = some (.iastore, 1, 0, 0, 0, 0) := by decide +kernel
theorem r_29_102 : xrow 29 102 = some (.aload_n 0, 1, 0, 0, 0, 0) := by decide +kernel
theorem r_29_103 : xrow 29 103 = some (.dup, 1, 0, 0, 0, 0) := by decide +kernel
theorem r_29_104 : xrow 29 104 = some (.getfield 93, 3, 13, 12, 0, 658) := by decide +kernel
theorem r_29_107 : xrow 29 107 = some (.iconst 1, 1, 0, 0, 0, 0) := by decide +kernel
theorem r_29_108 : xrow 29 108 = some (.iadd, 1, 0, 0, 0, 0) := by decide +kernel
theorem r_29_109 : xrow 29 109 = some (.putfield 93, 3, 13, 12, 0, 658) := by decide +kernel
theorem r_29_112 : xrow 29 112 = some (.aload_n 0, 1, 0, 0, 0, 0) := by decide +kernel
theorem r_29_113 : xrow 29 113 = some (.aload_n 0, 1, 0, 0, 0, 0) := by decide +kernel
theorem r_29_114 : xrow 29 114 = some (.getfield 15, 3, 13, 2, 2, 636) := by decide +kernel
theorem r_29_117 : xrow 29 117 = some (.iload_n 3, 1, 0, 0, 0, 0) := by decide +kernel
theorem r_29_118 : xrow 29 118 = some (.bipush 10, 2, 0, 0, 0, 0) := by decide +kernel
theorem r_29_120 : xrow 29 120 = some (.idiv, 1, 0, 0, 0, 0) := by decide +kernel
theorem r_29_121 : xrow 29 121 = some (.iload_n 3, 1, 0, 0, 0, 0) := by decide +kernel
theorem r_29_122 : xrow 29 122 = some (.bipush 10, 2, 0, 0, 0, 0) := by decide +kernel
theorem r_29_124 : xrow 29 124 = some (.irem, 1, 0, 0, 0, 0) := by decide +kernel
theorem r_29_125 : xrow 29 125 = some (.invokevirtual 53, 3, 24, 0, 0, 647) := by decide +kernel
theorem r_29_128 : xrow 29 128 = some (.aload_n 0, 1, 0, 0, 0, 0) := by decide +kernel
theorem r_29_129 : xrow 29 129 = some (.getfield 25, 3, 13, 6, 2, 639) := by decide +kernel
theorem r_29_132 : xrow 29 132 = some (.aload_n 0, 1, 0, 0, 0, 0) := by decide +kernel
theorem r_29_133 : xrow 29 133 = some (.aload_n 0, 1, 0, 0, 0, 0) := by decide +kernel
theorem r_29_134 : xrow 29 134 = some (.getfield 15, 3, 13, 2, 2, 636) := by decide +kernel
theorem r_29_137 : xrow 29 137 = some (.invokevirtual 85, 3, 28, 0, 0, 655) := by decide +kernel
theorem r_29_140 : xrow 29 140 = some (.iaload, 1, 0, 0, 0, 0) := by decide +kernel
theorem r_29_141 : xrow 29 141 = some (.istore_n 1, 1, 0, 0, 0, 0) := by decide +kernel
theorem r_29_142 : xrow 29 142 = some (.iinc 2 1, 3, 0, 0, 0, 0) := by decide +kernel
theorem r_29_145 : xrow 29 145 = some (.goto (-80), 3, 65, 0, 0, 0) := by decide +kernel
theorem r_29_148 : xrow 29 148 = some (.return_, 1, 0, 0, 0, 0) := by decide +kernel
theorem r_30_0 : xrow 30 0 = some (.iconst 0, 1, 0, 0, 0, 0) := by decide +kernel
theorem r_30_1 : xrow 30 1 = some (.istore_n 2, 1, 0, 0, 0, 0) := by decide +kernel
theorem r_30_2 : xrow 30 2 = some (.iload_n 2, 1, 0, 0, 0, 0) := by decide +kernel
theorem r_30_3 : xrow 30 3 = some (.aload_n 0, 1, 0, 0, 0, 0) := by decide +kernel
theorem r_30_4 : xrow 30 4 = some (.getfield 21, 3, 13, 0, 2, 638) := by decide +kernel
theorem r_30_7 : xrow 30 7 = some (.getfield 108, 3, 10, 4, 0, 662) := by decide +kernel
theorem r_30_10 : xrow 30 10 = some (.if_icmp .ge 84, 3, 94, 0, 0, 0) := by decide +kernel
theorem r_30_13 : xrow 30 13 = some (.iconst 0, 1, 0, 0, 0, 0) := by decide +kernel
theorem r_30_14 : xrow 30 14 = some (.istore_n 3, 1, 0, 0, 0, 0) := by decide +kernel
theorem r_30_15 : xrow 30 15 = some (.iload_n 3, 1, 0, 0, 0, 0) := by decide +kernel
theorem r_30_16 : xrow 30 16 = some (.aload_n 0, 1, 0, 0, 0, 0) := by decide +kernel
theorem r_30_17 : xrow 30 17 = some (.getfield 21, 3, 13, 0, 2, 638) := by decide +kernel
theorem r_30_20 : xrow 30 20 = some (.getfield 63, 3, 10, 10, 0, 649) := by decide +kernel
theorem r_30_23 : xrow 30 23 = some (.if_icmp .ge 65, 3, 88, 0, 0, 0) := by decide +kernel
theorem r_30_26 : xrow 30 26 = some (.aload_n 0, 1, 0, 0, 0, 0) := by decide +kernel
theorem r_30_27 : xrow 30 27 = some (.getfield 31, 3, 13, 8, 2, 641) := by decide +kernel
theorem r_30_30 : xrow 30 30 = some (.iload_n 1, 1, 0, 0, 0, 0) := by decide +kernel
theorem r_30_31 : xrow 30 31 = some (.bipush 30, 2, 0, 0, 0, 0) := by decide +kernel
theorem r_30_33 : xrow 30 33 = some (.imul, 1, 0, 0, 0, 0) := by decide +kernel
theorem r_30_34 : xrow 30 34 = some (.iload_n 2, 1, 0, 0, 0, 0) := by decide +kernel
theorem r_30_35 : xrow 30 35 = some (.iconst 5, 1, 0, 0, 0, 0) := by decide +kernel
theorem r_30_36 : xrow 30 36 = some (.imul, 1, 0, 0, 0, 0) := by decide +kernel
theorem r_30_37 : xrow 30 37 = some (.iadd, 1, 0, 0, 0, 0) := by decide +kernel
theorem r_30_38 : xrow 30 38 = some (.aload_n 0, 1, 0, 0, 0, 0) := by decide +kernel
theorem r_30_39 : xrow 30 39 = some (.getfield 15, 3, 13, 2, 2, 636) := by decide +kernel
theorem r_30_42 : xrow 30 42 = some (.iload_n 3, 1, 0, 0, 0, 0) := by decide +kernel
theorem r_30_43 : xrow 30 43 = some (.iaload, 1, 0, 0, 0, 0) := by decide +kernel
theorem r_30_44 : xrow 30 44 = some (.iadd, 1, 0, 0, 0, 0) := by decide +kernel
theorem r_30_45 : xrow 30 45 = some (.iaload, 1, 0, 0, 0, 0) := by decide +kernel
theorem r_30_46 : xrow 30 46 = some (.istore 4, 2, 0, 0, 0, 0) := by decide +kernel
theorem r_30_48 : xrow 30 48 = some (.iload 4, 2, 0, 0, 0, 0) := by decide +kernel
theorem r_30_50 : xrow 30 50 = some (.ifCond .lt 32, 3, 82, 0, 0, 0) := by decide +kernel
theorem r_30_53 : xrow 30 53 = some (.aload_n 0, 1, 0, 0, 0, 0) := by decide +kernel
theorem r_30_54 : xrow 30 54 = some (.getfield 34, 3, 13, 9, 2, 642) := by decide +kernel
theorem r_30_57 : xrow 30 57 = some (.iload 4, 2, 0, 0, 0, 0) := by decide +kernel
theorem r_30_59 : xrow 30 59 = some (.iaload, 1, 0, 0, 0, 0) := by decide +kernel
theorem r_30_60 : xrow 30 60 = some (.aload_n 0, 1, 0, 0, 0, 0) := by decide +kernel
theorem r_30_61 : xrow 30 61 = some (.iload_n 2, 1, 0, 0, 0, 0) := by decide +kernel
theorem r_30_62 : xrow 30 62 = some (.invokevirtual 111, 3, 31, 0, 0, 663) := by decide +kernel
theorem r_30_65 : xrow 30 65 = some (.iadd, 1, 0, 0, 0, 0) := by decide +kernel
theorem r_30_66 : xrow 30 66 = some (.aload_n 0, 1, 0, 0, 0, 0) := by decide +kernel
theorem r_30_67 : xrow 30 67 = some (.getfield 34, 3, 13, 9, 2, 642) := by decide +kernel
theorem r_30_70 : xrow 30 70 = some (.iload_n 1, 1, 0, 0, 0, 0) := by decide +kernel
theorem r_30_71 : xrow 30 71 = some (.iaload, 1, 0, 0, 0, 0) := by decide +kernel
theorem r_30_72 : xrow 30 72 = some (.if_icmp .ne 10, 3, 82, 0, 0, 0) := by decide +kernel
theorem r_30_75 : xrow 30 75 = some (.bipush 10, 2, 0, 0, 0, 0) := by decide +kernel
theorem r_30_77 : xrow 30 77 = some (.iload_n 2, 1, 0, 0, 0, 0) := by decide +kernel
theorem r_30_78 : xrow 30 78 = some (.imul, 1, 0, 0, 0, 0) := by decide +kernel
theorem r_30_79 : xrow 30 79 = some (.iload_n 3, 1, 0, 0, 0, 0) := by decide +kernel
theorem r_30_80 : xrow 30 80 = some (.iadd, 1, 0, 0, 0, 0) := by decide +kernel
theorem r_30_81 : xrow 30 81 = some (.ireturn, 1, 0, 0, 0, 0) := by decide +kernel
theorem r_30_82 : xrow 30 82 = some (.iinc 3 1, 3, 0, 0, 0, 0) := by decide +kernel
theorem r_30_85 : xrow 30 85 = some (.goto (-70), 3, 15, 0, 0, 0) := by decide +kernel
theorem r_30_88 : xrow 30 88 = some (.iinc 2 1, 3, 0, 0, 0, 0) := by decide +kernel
theorem r_30_91 : xrow 30 91 = some (.goto (-89), 3, 2, 0, 0, 0) := by decide +kernel
theorem r_30_94 : xrow 30 94 = some (.iconst (-1), 1, 0, 0, 0, 0) := by decide +kernel
theorem r_30_95 : xrow 30 95 = some (.ireturn, 1, 0, 0, 0, 0) := by decide +kernel
theorem r_31_0 : xrow 31 0 = some (.aload_n 0, 1, 0, 0, 0, 0) := by decide +kernel
theorem r_31_1 : xrow 31 1 = some (.getfield 21, 3, 13, 0, 2, 638) := by decide +kernel
theorem r_31_4 : xrow 31 4 = some (.getfield 114, 3, 10, 8, 2, 664) := by decide +kernel
theorem r_31_7 : xrow 31 7 = some (.iload_n 1, 1, 0, 0, 0, 0) := by decide +kernel
theorem r_31_8 : xrow 31 8 = some (.iaload, 1, 0, 0, 0, 0) := by decide +kernel
theorem r_31_9 : xrow 31 9 = some (.sipush 1024, 3, 0, 0, 0, 0) := by decide +kernel
theorem r_31_12 : xrow 31 12 = some (.imul, 1, 0, 0, 0, 0) := by decide +kernel
theorem r_31_13 : xrow 31 13 = some (.iconst 1, 1, 0, 0, 0, 0) := by decide +kernel
theorem r_31_14 : xrow 31 14 = some (.iadd, 1, 0, 0, 0, 0) := by decide +kernel
theorem r_31_15 : xrow 31 15 = some (.ireturn, 1, 0, 0, 0, 0) := by decide +kernel
theorem r_32_0 : xrow 32 0 = some (.aload_n 0, 1, 0, 0, 0, 0) := by decide +kernel
theorem r_32_1 : xrow 32 1 = some (.getfield 46, 3, 13, 4, 0, 645) := by decide +kernel
theorem r_32_4 : xrow 32 4 = some (.ifCond .eq 4, 3, 8, 0, 0, 0) := by decide +kernel
theorem r_32_7 : xrow 32 7 = some (.return_, 1, 0, 0, 0, 0) := by decide +kernel
theorem r_32_8 : xrow 32 8 = some (.aload_n 0, 1, 0, 0, 0, 0) := by decide +kernel
theorem r_32_9 : xrow 32 9 = some (.iconst 1, 1, 0, 0, 0, 0) := by decide +kernel
theorem r_32_10 : xrow 32 10 = some (.putfield 46, 3, 13, 4, 3, 645) := by decide +kernel
theorem r_32_13 : xrow 32 13 = some (.aload_n 0, 1, 0, 0, 0, 0) := by decide +kernel
theorem r_32_14 : xrow 32 14 = some (.getfield 37, 3, 13, 11, 2, 643) := by decide +kernel
theorem r_32_17 : xrow 32 17 = some (.arraylength, 1, 0, 0, 0, 0) := by decide +kernel
theorem r_32_18 : xrow 32 18 = some (.ifCond .ne 48, 3, 66, 0, 0, 0) := by decide +kernel
theorem r_32_21 : xrow 32 21 = some (.aload_n 0, 1, 0, 0, 0, 0) := by decide +kernel
theorem r_32_22 : xrow 32 22 = some (.sipush 2401, 3, 0, 0, 0, 0) := by decide +kernel
theorem r_32_25 : xrow 32 25 = some (.newarray .int, 2, 0, 0, 0, 0) := by decide +kernel
theorem r_32_27 : xrow 32 27 = some (.putfield 25, 3, 13, 6, 2, 639) := by decide +kernel
theorem r_32_30 : xrow 32 30 = some (.aload_n 0, 1, 0, 0, 0, 0) := by decide +kernel
theorem r_32_31 : xrow 32 31 = some (.sipush 210, 3, 0, 0, 0, 0) := by decide +kernel
theorem r_32_34 : xrow 32 34 = some (.newarray .int, 2, 0, 0, 0, 0) := by decide +kernel
theorem r_32_36 : xrow 32 36 = some (.putfield 28, 3, 13, 7, 2, 640) := by decide +kernel
theorem r_32_39 : xrow 32 39 = some (.aload_n 0, 1, 0, 0, 0, 0) := by decide +kernel
theorem r_32_40 : xrow 32 40 = some (.sipush 6300, 3, 0, 0, 0, 0) := by decide +kernel
theorem r_32_43 : xrow 32 43 = some (.newarray .int, 2, 0, 0, 0, 0) := by decide +kernel
theorem r_32_45 : xrow 32 45 = some (.putfield 31, 3, 13, 8, 2, 641) := by decide +kernel
theorem r_32_48 : xrow 32 48 = some (.aload_n 0, 1, 0, 0, 0, 0) := by decide +kernel
theorem r_32_49 : xrow 32 49 = some (.sipush 210, 3, 0, 0, 0, 0) := by decide +kernel
theorem r_32_52 : xrow 32 52 = some (.newarray .int, 2, 0, 0, 0, 0) := by decide +kernel
theorem r_32_54 : xrow 32 54 = some (.putfield 34, 3, 13, 9, 2, 642) := by decide +kernel
theorem r_32_57 : xrow 32 57 = some (.aload_n 0, 1, 0, 0, 0, 0) := by decide +kernel
theorem r_32_58 : xrow 32 58 = some (.sipush 210, 3, 0, 0, 0, 0) := by decide +kernel
theorem r_32_61 : xrow 32 61 = some (.newarray .int, 2, 0, 0, 0, 0) := by decide +kernel
theorem r_32_63 : xrow 32 63 = some (.putfield 37, 3, 13, 11, 2, 643) := by decide +kernel
theorem r_32_66 : xrow 32 66 = some (.aload_n 0, 1, 0, 0, 0, 0) := by decide +kernel
theorem r_32_67 : xrow 32 67 = some (.invokevirtual 117, 3, 33, 0, 0, 665) := by decide +kernel
theorem r_32_70 : xrow 32 70 = some (.iconst 0, 1, 0, 0, 0, 0) := by decide +kernel
theorem r_32_71 : xrow 32 71 = some (.istore_n 1, 1, 0, 0, 0, 0) := by decide +kernel
theorem r_32_72 : xrow 32 72 = some (.iload_n 1, 1, 0, 0, 0, 0) := by decide +kernel
theorem r_32_73 : xrow 32 73 = some (.aload_n 0, 1, 0, 0, 0, 0) := by decide +kernel
theorem r_32_74 : xrow 32 74 = some (.getfield 120, 3, 13, 5, 0, 666) := by decide +kernel
theorem r_32_77 : xrow 32 77 = some (.if_icmp .ge 14, 3, 91, 0, 0, 0) := by decide +kernel
theorem r_32_80 : xrow 32 80 = some (.aload_n 0, 1, 0, 0, 0, 0) := by decide +kernel
theorem r_32_81 : xrow 32 81 = some (.iload_n 1, 1, 0, 0, 0, 0) := by decide +kernel
theorem r_32_82 : xrow 32 82 = some (.invokevirtual 123, 3, 35, 0, 0, 667) := by decide +kernel
theorem r_32_85 : xrow 32 85 = some (.iinc 1 1, 3, 0, 0, 0, 0) := by decide +kernel
theorem r_32_88 : xrow 32 88 = some (.goto (-16), 3, 72, 0, 0, 0) := by decide +kernel
theorem r_32_91 : xrow 32 91 = some (.aload_n 0, 1, 0, 0, 0, 0) := by decide +kernel
theorem r_32_92 : xrow 32 92 = some (.getfield 34, 3, 13, 9, 2, 642) := by decide +kernel
theorem r_32_95 : xrow 32 95 = some (.ldc 89, 2, 536870912, 0, 0, 656) := by decide +kernel
theorem r_32_97 : xrow 32 97 = some (.invokestatic 40, 3, 281, 0, 0, 644) := by decide +kernel
theorem r_32_100 : xrow 32 100 = some (.aload_n 0, 1, 0, 0, 0, 0) := by decide +kernel
theorem r_32_101 : xrow 32 101 = some (.getfield 34, 3, 13, 9, 2, 642) := by decide +kernel
theorem r_32_104 : xrow 32 104 = some (.iconst 0, 1, 0, 0, 0, 0) := by decide +kernel
theorem r_32_105 : xrow 32 105 = some (.iconst 0, 1, 0, 0, 0, 0) := by decide +kernel
theorem r_32_106 : xrow 32 106 = some (.iastore, 1, 0, 0, 0, 0) := by decide +kernel
theorem r_32_107 : xrow 32 107 = some (.iconst 0, 1, 0, 0, 0, 0) := by decide +kernel
theorem r_32_108 : xrow 32 108 = some (.istore_n 1, 1, 0, 0, 0, 0) := by decide +kernel
theorem r_32_109 : xrow 32 109 = some (.iload_n 1, 1, 0, 0, 0, 0) := by decide +kernel
theorem r_32_110 : xrow 32 110 = some (.sipush 210, 3, 0, 0, 0, 0) := by decide +kernel
theorem r_32_113 : xrow 32 113 = some (.if_icmp .ge 19, 3, 132, 0, 0, 0) := by decide +kernel
theorem r_32_116 : xrow 32 116 = some (.aload_n 0, 1, 0, 0, 0, 0) := by decide +kernel
theorem r_32_117 : xrow 32 117 = some (.invokevirtual 127, 3, 37, 0, 0, 668) := by decide +kernel
theorem r_32_120 : xrow 32 120 = some (.ifCond .ne 6, 3, 126, 0, 0, 0) := by decide +kernel
theorem r_32_123 : xrow 32 123 = some (.goto 9, 3, 132, 0, 0, 0) := by decide +kernel
theorem r_32_126 : xrow 32 126 = some (.iinc 1 1, 3, 0, 0, 0, 0) := by decide +kernel
theorem r_32_129 : xrow 32 129 = some (.goto (-20), 3, 109, 0, 0, 0) := by decide +kernel
theorem r_32_132 : xrow 32 132 = some (.return_, 1, 0, 0, 0, 0) := by decide +kernel
theorem r_33_0 : xrow 33 0 = some (.aload_n 0, 1, 0, 0, 0, 0) := by decide +kernel
theorem r_33_1 : xrow 33 1 = some (.iconst 0, 1, 0, 0, 0, 0) := by decide +kernel
theorem r_33_2 : xrow 33 2 = some (.putfield 120, 3, 13, 5, 0, 666) := by decide +kernel
theorem r_33_5 : xrow 33 5 = some (.iconst 0, 1, 0, 0, 0, 0) := by decide +kernel
theorem r_33_6 : xrow 33 6 = some (.istore_n 1, 1, 0, 0, 0, 0) := by decide +kernel
theorem r_33_7 : xrow 33 7 = some (.iload_n 1, 1, 0, 0, 0, 0) := by decide +kernel
theorem r_33_8 : xrow 33 8 = some (.sipush 2401, 3, 0, 0, 0, 0) := by decide +kernel
theorem r_33_11 : xrow 33 11 = some (.if_icmp .ge 101, 3, 112, 0, 0, 0) := by decide +kernel
theorem r_33_14 : xrow 33 14 = some (.iconst 0, 1, 0, 0, 0, 0) := by decide +kernel
theorem r_33_15 : xrow 33 15 = some (.istore_n 2, 1, 0, 0, 0, 0) := by decide +kernel
theorem r_33_16 : xrow 33 16 = some (.iconst 1, 1, 0, 0, 0, 0) := by decide +kernel
theorem r_33_17 : xrow 33 17 = some (.istore_n 3, 1, 0, 0, 0, 0) := by decide +kernel
theorem r_33_18 : xrow 33 18 = some (.iload_n 3, 1, 0, 0, 0, 0) := by decide +kernel
theorem r_33_19 : xrow 33 19 = some (.iconst 5, 1, 0, 0, 0, 0) := by decide +kernel
theorem r_33_20 : xrow 33 20 = some (.if_icmp .ge 17, 3, 37, 0, 0, 0) := by decide +kernel
theorem r_33_23 : xrow 33 23 = some (.iload_n 2, 1, 0, 0, 0, 0) := by decide +kernel
theorem r_33_24 : xrow 33 24 = some (.iload_n 1, 1, 0, 0, 0, 0) := by decide +kernel
theorem r_33_25 : xrow 33 25 = some (.iload_n 3, 1, 0, 0, 0, 0) := by decide +kernel
theorem r_33_26 : xrow 33 26 = some (.invokestatic 131, 3, 34, 0, 0, 669) := by decide +kernel
theorem r_33_29 : xrow 33 29 = some (.iadd, 1, 0, 0, 0, 0) := by decide +kernel
theorem r_33_30 : xrow 33 30 = some (.istore_n 2, 1, 0, 0, 0, 0) := by decide +kernel
theorem r_33_31 : xrow 33 31 = some (.iinc 3 1, 3, 0, 0, 0, 0) := by decide +kernel
theorem r_33_34 : xrow 33 34 = some (.goto (-16), 3, 18, 0, 0, 0) := by decide +kernel
theorem r_33_37 : xrow 33 37 = some (.iload_n 2, 1, 0, 0, 0, 0) := by decide +kernel
theorem r_33_38 : xrow 33 38 = some (.aload_n 0, 1, 0, 0, 0, 0) := by decide +kernel
theorem r_33_39 : xrow 33 39 = some (.getfield 21, 3, 13, 0, 2, 638) := by decide +kernel
theorem r_33_42 : xrow 33 42 = some (.getfield 63, 3, 10, 10, 0, 649) := by decide +kernel
theorem r_33_45 : xrow 33 45 = some (.if_icmp .gt 17, 3, 62, 0, 0, 0) := by decide +kernel
theorem r_33_48 : xrow 33 48 = some (.aload_n 0, 1, 0, 0, 0, 0) := by decide +kernel
theorem r_33_49 : xrow 33 49 = some (.getfield 120, 3, 13, 5, 0, 666) := by decide +kernel
theorem r_33_52 : xrow 33 52 = some (.sipush 210, 3, 0, 0, 0, 0) := by decide +kernel
theorem r_33_55 : xrow 33 55 = some (.if_icmp .ge 7, 3, 62, 0, 0, 0) := by decide +kernel
theorem r_33_58 : xrow 33 58 = some (.iconst 1, 1, 0, 0, 0, 0) := by decide +kernel
theorem r_33_59 : xrow 33 59 = some (.goto 4, 3, 63, 0, 0, 0) := by decide +kernel
theorem r_33_62 : xrow 33 62 = some (.iconst 0, 1, 0, 0, 0, 0) := by decide +kernel
theorem r_33_63 : xrow 33 63 = some (.istore_n 3, 1, 0, 0, 0, 0) := by decide +kernel
theorem r_33_64 : xrow 33 64 = some (.aload_n 0, 1, 0, 0, 0, 0) := by decide +kernel
theorem r_33_65 : xrow 33 65 = some (.getfield 25, 3, 13, 6, 2, 639) := by decide +kernel
theorem r_33_68 : xrow 33 68 = some (.iload_n 1, 1, 0, 0, 0, 0) := by decide +kernel
theorem r_33_69 : xrow 33 69 = some (.iload_n 3, 1, 0, 0, 0, 0) := by decide +kernel
theorem r_33_70 : xrow 33 70 = some (.ifCond .eq 10, 3, 80, 0, 0, 0) := by decide +kernel
theorem r_33_73 : xrow 33 73 = some (.aload_n 0, 1, 0, 0, 0, 0) := by decide +kernel
theorem r_33_74 : xrow 33 74 = some (.getfield 120, 3, 13, 5, 0, 666) := by decide +kernel
theorem r_33_77 : xrow 33 77 = some (.goto 4, 3, 81, 0, 0, 0) := by decide +kernel
theorem r_33_80 : xrow 33 80 = some (.iconst 0, 1, 0, 0, 0, 0) := by decide +kernel
theorem r_33_81 : xrow 33 81 = some (.iastore, 1, 0, 0, 0, 0) := by decide +kernel
theorem r_33_82 : xrow 33 82 = some (.iload_n 3, 1, 0, 0, 0, 0) := by decide +kernel
theorem r_33_83 : xrow 33 83 = some (.ifCond .eq 23, 3, 106, 0, 0, 0) := by decide +kernel
theorem r_33_86 : xrow 33 86 = some (.aload_n 0, 1, 0, 0, 0, 0) := by decide +kernel
theorem r_33_87 : xrow 33 87 = some (.getfield 28, 3, 13, 7, 2, 640) := by decide +kernel
theorem r_33_90 : xrow 33 90 = some (.aload_n 0, 1, 0, 0, 0, 0) := by decide +kernel
theorem r_33_91 : xrow 33 91 = some (.getfield 120, 3, 13, 5, 0, 666) := by decide +kernel
theorem r_33_94 : xrow 33 94 = some (.iload_n 1, 1, 0, 0, 0, 0) := by decide +kernel
theorem r_33_95 : xrow 33 95 = some (.iastore, 1, 0, 0, 0, 0) := by decide +kernel
theorem r_33_96 : xrow 33 96 = some (.aload_n 0, 1, 0, 0, 0, 0) := by decide +kernel
theorem r_33_97 : xrow 33 97 = some (.dup, 1, 0, 0, 0, 0) := by decide +kernel
theorem r_33_98 : xrow 33 98 = some (.getfield 120, 3, 13, 5, 0, 666) := by decide +kernel
theorem r_33_101 : xrow 33 101 = some (.iconst 1, 1, 0, 0, 0, 0) := by decide +kernel
theorem r_33_102 : xrow 33 102 = some (.iadd, 1, 0, 0, 0, 0) := by decide +kernel
theorem r_33_103 : xrow 33 103 = some (.putfield 120, 3, 13, 5, 0, 666) := by decide +kernel
theorem r_33_106 : xrow 33 106 = some (.iinc 1 1, 3, 0, 0, 0, 0) := by decide +kernel
theorem r_33_109 : xrow 33 109 = some (.goto (-102), 3, 7, 0, 0, 0) := by decide +kernel
theorem r_33_112 : xrow 33 112 = some (.return_, 1, 0, 0, 0, 0) := by decide +kernel
theorem r_34_0 : xrow 34 0 = some (.getstatic 96, 3, 1, 0, 0, 659) := by decide +kernel
theorem r_34_3 : xrow 34 3 = some (.iload_n 1, 1, 0, 0, 0, 0) := by decide +kernel
theorem r_34_4 : xrow 34 4 = some (.iaload, 1, 0, 0, 0, 0) := by decide +kernel
theorem r_34_5 : xrow 34 5 = some (.istore_n 2, 1, 0, 0, 0, 0) := by decide +kernel
theorem r_34_6 : xrow 34 6 = some (.iload_n 2, 1, 0, 0, 0, 0) := by decide +kernel
theorem r_34_7 : xrow 34 7 = some (.ifCond .le 12, 3, 19, 0, 0, 0) := by decide +kernel
theorem r_34_10 : xrow 34 10 = some (.iload_n 0, 1, 0, 0, 0, 0) := by decide +kernel
theorem r_34_11 : xrow 34 11 = some (.iload_n 2, 1, 0, 0, 0, 0) := by decide +kernel
theorem r_34_12 : xrow 34 12 = some (.idiv, 1, 0, 0, 0, 0) := by decide +kernel
theorem r_34_13 : xrow 34 13 = some (.bipush 7, 2, 0, 0, 0, 0) := by decide +kernel
theorem r_34_15 : xrow 34 15 = some (.irem, 1, 0, 0, 0, 0) := by decide +kernel
theorem r_34_16 : xrow 34 16 = some (.goto 4, 3, 20, 0, 0, 0) := by decide +kernel
theorem r_34_19 : xrow 34 19 = some (.iconst 0, 1, 0, 0, 0, 0) := by decide +kernel
theorem r_34_20 : xrow 34 20 = some (.ireturn, 1, 0, 0, 0, 0) := by decide +kernel
theorem r_35_0 : xrow 35 0 = some (.aload_n 0, 1, 0, 0, 0, 0) := by decide +kernel
theorem r_35_1 : xrow 35 1 = some (.getfield 21, 3, 13, 0, 2, 638) := by decide +kernel
theorem r_35_4 : xrow 35 4 = some (.getfield 63, 3, 10, 10, 0, 649) := by decide +kernel
theorem r_35_7 : xrow 35 7 = some (.istore_n 2, 1, 0, 0, 0, 0) := by decide +kernel
theorem r_35_8 : xrow 35 8 = some (.iconst 1, 1, 0, 0, 0, 0) := by decide +kernel
theorem r_35_9 : xrow 35 9 = some (.istore_n 3, 1, 0, 0, 0, 0) := by decide +kernel
theorem r_35_10 : xrow 35 10 = some (.iload_n 3, 1, 0, 0, 0, 0) := by decide +kernel
theorem r_35_11 : xrow 35 11 = some (.iconst 5, 1, 0, 0, 0, 0) := by decide +kernel
theorem r_35_12 : xrow 35 12 = some (.if_icmp .ge 34, 3, 46, 0, 0, 0) := by decide +kernel
theorem r_35_15 : xrow 35 15 = some (.aload_n 0, 1, 0, 0, 0, 0) := by decide +kernel
theorem r_35_16 : xrow 35 16 = some (.getfield 18, 3, 13, 3, 2, 637) := by decide +kernel
theorem r_35_19 : xrow 35 19 = some (.iload_n 3, 1, 0, 0, 0, 0) := by decide +kernel
theorem r_35_20 : xrow 35 20 = some (.aload_n 0, 1, 0, 0, 0, 0) := by decide +kernel
theorem r_35_21 : xrow 35 21 = some (.getfield 28, 3, 13, 7, 2, 640) := by decide +kernel
theorem r_35_24 : xrow 35 24 = some (.iload_n 1, 1, 0, 0, 0, 0) := by decide +kernel
theorem r_35_25 : xrow 35 25 = some (.iaload, 1, 0, 0, 0, 0) := by decide +kernel
theorem r_35_26 : xrow 35 26 = some (.iload_n 3, 1, 0, 0, 0, 0) := by decide +kernel
theorem r_35_27 : xrow 35 27 = some (.invokestatic 131, 3, 34, 0, 0, 669) := by decide +kernel
theorem r_35_30 : xrow 35 30 = some (.iastore, 1, 0, 0, 0, 0) := by decide +kernel
theorem r_35_31 : xrow 35 31 = some (.iload_n 2, 1, 0, 0, 0, 0) := by decide +kernel
theorem r_35_32 : xrow 35 32 = some (.aload_n 0, 1, 0, 0, 0, 0) := by decide +kernel
theorem r_35_33 : xrow 35 33 = some (.getfield 18, 3, 13, 3, 2, 637) := by decide +kernel
theorem r_35_36 : xrow 35 36 = some (.iload_n 3, 1, 0, 0, 0, 0) := by decide +kernel
theorem r_35_37 : xrow 35 37 = some (.iaload, 1, 0, 0, 0, 0) := by decide +kernel
theorem r_35_38 : xrow 35 38 = some (.isub, 1, 0, 0, 0, 0) := by decide +kernel
theorem r_35_39 : xrow 35 39 = some (.istore_n 2, 1, 0, 0, 0, 0) := by decide +kernel
theorem r_35_40 : xrow 35 40 = some (.iinc 3 1, 3, 0, 0, 0, 0) := by decide +kernel
theorem r_35_43 : xrow 35 43 = some (.goto (-33), 3, 10, 0, 0, 0) := by decide +kernel
theorem r_35_46 : xrow 35 46 = some (.aload_n 0, 1, 0, 0, 0, 0) := by decide +kernel
theorem r_35_47 : xrow 35 47 = some (.getfield 18, 3, 13, 3, 2, 637) := by decide +kernel
theorem r_35_50 : xrow 35 50 = some (.iconst 0, 1, 0, 0, 0, 0) := by decide +kernel
theorem r_35_51 : xrow 35 51 = some (.iload_n 2, 1, 0, 0, 0, 0) := by decide +kernel
theorem r_35_52 : xrow 35 52 = some (.iastore, 1, 0, 0, 0, 0) := by decide +kernel
theorem r_35_53 : xrow 35 53 = some (.iconst 0, 1, 0, 0, 0, 0) := by decide +kernel
theorem r_35_54 : xrow 35 54 = some (.istore_n 3, 1, 0, 0, 0, 0) := by decide +kernel
theorem r_35_55 : xrow 35 55 = some (.iload_n 3, 1, 0, 0, 0, 0) := by decide +kernel
theorem r_35_56 : xrow 35 56 = some (.aload_n 0, 1, 0, 0, 0, 0) := by decide +kernel
theorem r_35_57 : xrow 35 57 = some (.getfield 21, 3, 13, 0, 2, 638) := by decide +kernel
theorem r_35_60 : xrow 35 60 = some (.getfield 108, 3, 10, 4, 0, 662) := by decide +kernel
theorem r_35_63 : xrow 35 63 = some (.if_icmp .ge 70, 3, 133, 0, 0, 0) := by decide +kernel
theorem r_35_66 : xrow 35 66 = some (.iconst 0, 1, 0, 0, 0, 0) := by decide +kernel
theorem r_35_67 : xrow 35 67 = some (.istore 4, 2, 0, 0, 0, 0) := by decide +kernel
theorem r_35_69 : xrow 35 69 = some (.iload 4, 2, 0, 0, 0, 0) := by decide +kernel
theorem r_35_71 : xrow 35 71 = some (.iconst 5, 1, 0, 0, 0, 0) := by decide +kernel
theorem r_35_72 : xrow 35 72 = some (.if_icmp .ge 55, 3, 127, 0, 0, 0) := by decide +kernel
theorem r_35_75 : xrow 35 75 = some (.aload_n 0, 1, 0, 0, 0, 0) := by decide +kernel
theorem r_35_76 : xrow 35 76 = some (.getfield 18, 3, 13, 3, 2, 637) := by decide +kernel
theorem r_35_79 : xrow 35 79 = some (.iload 4, 2, 0, 0, 0, 0) := by decide +kernel
theorem r_35_81 : xrow 35 81 = some (.iaload, 1, 0, 0, 0, 0) := by decide +kernel
theorem r_35_82 : xrow 35 82 = some (.ifCond .le 18, 3, 100, 0, 0, 0) := by decide +kernel
theorem r_35_85 : xrow 35 85 = some (.aload_n 0, 1, 0, 0, 0, 0) := by decide +kernel
theorem r_35_86 : xrow 35 86 = some (.getfield 25, 3, 13, 6, 2, 639) := by decide +kernel
theorem r_35_89 : xrow 35 89 = some (.aload_n 0, 1, 0, 0, 0, 0) := by decide +kernel
theorem r_35_90 : xrow 35 90 = some (.iload_n 3, 1, 0, 0, 0, 0) := by decide +kernel
theorem r_35_91 : xrow 35 91 = some (.iload 4, 2, 0, 0, 0, 0) := by decide +kernel
theorem r_35_93 : xrow 35 93 = some (.invokevirtual 134, 3, 36, 0, 0, 670) := by decide +kernel
theorem r_35_96 : xrow 35 96 = some (.iaload, 1, 0, 0, 0, 0) := by decide +kernel
theorem r_35_97 : xrow 35 97 = some (.goto 4, 3, 101, 0, 0, 0) := by decide +kernel
theorem r_35_100 : xrow 35 100 = some (.iconst (-1), 1, 0, 0, 0, 0) := by decide +kernel
theorem r_35_101 : xrow 35 101 = some (.istore 5, 2, 0, 0, 0, 0) := by decide +kernel
theorem r_35_103 : xrow 35 103 = some (.aload_n 0, 1, 0, 0, 0, 0) := by decide +kernel
theorem r_35_104 : xrow 35 104 = some (.getfield 31, 3, 13, 8, 2, 641) := by decide +kernel
theorem r_35_107 : xrow 35 107 = some (.iload_n 1, 1, 0, 0, 0, 0) := by decide +kernel
theorem r_35_108 : xrow 35 108 = some (.bipush 30, 2, 0, 0, 0, 0) := by decide +kernel
theorem r_35_110 : xrow 35 110 = some (.imul, 1, 0, 0, 0, 0) := by decide +kernel
theorem r_35_111 : xrow 35 111 = some (.iload_n 3, 1, 0, 0, 0, 0) := by decide +kernel
theorem r_35_112 : xrow 35 112 = some (.iconst 5, 1, 0, 0, 0, 0) := by decide +kernel
theorem r_35_113 : xrow 35 113 = some (.imul, 1, 0, 0, 0, 0) := by decide +kernel
theorem r_35_114 : xrow 35 114 = some (.iadd, 1, 0, 0, 0, 0) := by decide +kernel
theorem r_35_115 : xrow 35 115 = some (.iload 4, 2, 0, 0, 0, 0) := by decide +kernel
theorem r_35_117 : xrow 35 117 = some (.iadd, 1, 0, 0, 0, 0) := by decide +kernel
theorem r_35_118 : xrow 35 118 = some (.iload 5, 2, 0, 0, 0, 0) := by decide +kernel
theorem r_35_120 : xrow 35 120 = some (.iastore, 1, 0, 0, 0, 0) := by decide +kernel
theorem r_35_121 : xrow 35 121 = some (.iinc 4 1, 3, 0, 0, 0, 0) := by decide +kernel
theorem r_35_124 : xrow 35 124 = some (.goto (-55), 3, 69, 0, 0, 0) := by decide +kernel
theorem r_35_127 : xrow 35 127 = some (.iinc 3 1, 3, 0, 0, 0, 0) := by decide +kernel
theorem r_35_130 : xrow 35 130 = some (.goto (-75), 3, 55, 0, 0, 0) := by decide +kernel
theorem r_35_133 : xrow 35 133 = some (.return_, 1, 0, 0, 0, 0) := by decide +kernel
theorem r_36_0 : xrow 36 0 = some (.getstatic 96, 3, 1, 0, 0, 659) := by decide +kernel
theorem r_36_3 : xrow 36 3 = some (.iload_n 2, 1, 0, 0, 0, 0) := by decide +kernel
theorem r_36_4 : xrow 36 4 = some (.aload_n 0, 1, 0, 0, 0, 0) := by decide +kernel
theorem r_36_5 : xrow 36 5 = some (.getfield 21, 3, 13, 0, 2, 638) := by decide +kernel
theorem r_36_8 : xrow 36 8 = some (.getfield 69, 3, 10, 7, 2, 650) := by decide +kernel
theorem r_36_11 : xrow 36 11 = some (.iload_n 1, 1, 0, 0, 0, 0) := by decide +kernel
theorem r_36_12 : xrow 36 12 = some (.iaload, 1, 0, 0, 0, 0) := by decide +kernel
theorem r_36_13 : xrow 36 13 = some (.iadd, 1, 0, 0, 0, 0) := by decide +kernel
theorem r_36_14 : xrow 36 14 = some (.invokestatic 75, 3, 25, 0, 0, 652) := by decide +kernel
theorem r_36_17 : xrow 36 17 = some (.iaload, 1, 0, 0, 0, 0) := by decide +kernel
theorem r_36_18 : xrow 36 18 = some (.istore_n 3, 1, 0, 0, 0, 0) := by decide +kernel
theorem r_36_19 : xrow 36 19 = some (.iconst 0, 1, 0, 0, 0, 0) := by decide +kernel
theorem r_36_20 : xrow 36 20 = some (.istore 4, 2, 0, 0, 0, 0) := by decide +kernel
theorem r_36_22 : xrow 36 22 = some (.iload 4, 2, 0, 0, 0, 0) := by decide +kernel
theorem r_36_24 : xrow 36 24 = some (.iconst 5, 1, 0, 0, 0, 0) := by decide +kernel
theorem r_36_25 : xrow 36 25 = some (.if_icmp .ge 61, 3, 86, 0, 0, 0) := by decide +kernel
theorem r_36_28 : xrow 36 28 = some (.iload 4, 2, 0, 0, 0, 0) := by decide +kernel
theorem r_36_30 : xrow 36 30 = some (.iload_n 2, 1, 0, 0, 0, 0) := by decide +kernel
theorem r_36_31 : xrow 36 31 = some (.if_icmp .ne 15, 3, 46, 0, 0, 0) := by decide +kernel
theorem r_36_34 : xrow 36 34 = some (.aload_n 0, 1, 0, 0, 0, 0) := by decide +kernel
theorem r_36_35 : xrow 36 35 = some (.getfield 18, 3, 13, 3, 2, 637) := by decide +kernel
theorem r_36_38 : xrow 36 38 = some (.iload 4, 2, 0, 0, 0, 0) := by decide +kernel
theorem r_36_40 : xrow 36 40 = some (.iaload, 1, 0, 0, 0, 0) := by decide +kernel
theorem r_36_41 : xrow 36 41 = some (.iconst 1, 1, 0, 0, 0, 0) := by decide +kernel
theorem r_36_42 : xrow 36 42 = some (.isub, 1, 0, 0, 0, 0) := by decide +kernel
theorem r_36_43 : xrow 36 43 = some (.goto 10, 3, 53, 0, 0, 0) := by decide +kernel
theorem r_36_46 : xrow 36 46 = some (.aload_n 0, 1, 0, 0, 0, 0) := by decide +kernel
theorem r_36_47 : xrow 36 47 = some (.getfield 18, 3, 13, 3, 2, 637) := by decide +kernel
theorem r_36_50 : xrow 36 50 = some (.iload 4, 2, 0, 0, 0, 0) := by decide +kernel
theorem r_36_52 : xrow 36 52 = some (.iaload, 1, 0, 0, 0, 0) := by decide +kernel
theorem r_36_53 : xrow 36 53 = some (.istore 5, 2, 0, 0, 0, 0) := by decide +kernel
theorem r_36_55 : xrow 36 55 = some (.iload_n 3, 1, 0, 0, 0, 0) := by decide +kernel
theorem r_36_56 : xrow 36 56 = some (.iload 5, 2, 0, 0, 0, 0) := by decide +kernel
theorem r_36_58 : xrow 36 58 = some (.getstatic 96, 3, 1, 0, 0, 659) := by decide +kernel
theorem r_36_61 : xrow 36 61 = some (.iload 4, 2, 0, 0, 0, 0) := by decide +kernel
theorem r_36_63 : xrow 36 63 = some (.aload_n 0, 1, 0, 0, 0, 0) := by decide +kernel
theorem r_36_64 : xrow 36 64 = some (.getfield 21, 3, 13, 0, 2, 638) := by decide +kernel
theorem r_36_67 : xrow 36 67 = some (.getfield 72, 3, 10, 6, 2, 651) := by decide +kernel
theorem r_36_70 : xrow 36 70 = some (.iload_n 1, 1, 0, 0, 0, 0) := by decide +kernel
theorem r_36_71 : xrow 36 71 = some (.iaload, 1, 0, 0, 0, 0) := by decide +kernel
theorem r_36_72 : xrow 36 72 = some (.iadd, 1, 0, 0, 0, 0) := by decide +kernel
theorem r_36_73 : xrow 36 73 = some (.invokestatic 75, 3, 25, 0, 0, 652) := by decide +kernel
theorem r_36_76 : xrow 36 76 = some (.iaload, 1, 0, 0, 0, 0) := by decide +kernel
theorem r_36_77 : xrow 36 77 = some (.imul, 1, 0, 0, 0, 0) := by decide +kernel
theorem r_36_78 : xrow 36 78 = some (.iadd, 1, 0, 0, 0, 0) := by decide +kernel
theorem r_36_79 : xrow 36 79 = some (.istore_n 3, 1, 0, 0, 0, 0) := by decide +kernel
theorem r_36_80 : xrow 36 80 = some (.iinc 4 1, 3, 0, 0, 0, 0) := by decide +kernel
theorem r_36_83 : xrow 36 83 = some (.goto (-61), 3, 22, 0, 0, 0) := by decide +kernel
theorem r_36_86 : xrow 36 86 = some (.iload_n 3, 1, 0, 0, 0, 0) := by decide +kernel
theorem r_36_87 : xrow 36 87 = some (.ireturn, 1, 0, 0, 0, 0) := by decide +kernel
theorem r_37_0 : xrow 37 0 = some (.iconst 0, 1, 0, 0, 0, 0) := by decide +kernel
theorem r_37_1 : xrow 37 1 = some (.istore_n 1, 1, 0, 0, 0, 0) := by decide +kernel
theorem r_37_2 : xrow 37 2 = some (.iconst 1, 1, 0, 0, 0, 0) := by decide +kernel
theorem r_37_3 : xrow 37 3 = some (.istore_n 2, 1, 0, 0, 0, 0) := by decide +kernel
theorem r_37_4 : xrow 37 4 = some (.iload_n 2, 1, 0, 0, 0, 0) := by decide +kernel
theorem r_37_5 : xrow 37 5 = some (.aload_n 0, 1, 0, 0, 0, 0) := by decide +kernel
theorem r_37_6 : xrow 37 6 = some (.getfield 120, 3, 13, 5, 0, 666) := by decide +kernel
theorem r_37_9 : xrow 37 9 = some (.if_icmp .ge 109, 3, 118, 0, 0, 0) := by decide +kernel
theorem r_37_12 : xrow 37 12 = some (.iconst 0, 1, 0, 0, 0, 0) := by decide +kernel
theorem r_37_13 : xrow 37 13 = some (.istore_n 3, 1, 0, 0, 0, 0) := by decide +kernel
theorem r_37_14 : xrow 37 14 = some (.iload_n 3, 1, 0, 0, 0, 0) := by decide +kernel
theorem r_37_15 : xrow 37 15 = some (.aload_n 0, 1, 0, 0, 0, 0) := by decide +kernel
theorem r_37_16 : xrow 37 16 = some (.getfield 21, 3, 13, 0, 2, 638) := by decide +kernel
theorem r_37_19 : xrow 37 19 = some (.getfield 108, 3, 10, 4, 0, 662) := by decide +kernel
theorem r_37_22 : xrow 37 22 = some (.if_icmp .ge 90, 3, 112, 0, 0, 0) := by decide +kernel
theorem r_37_25 : xrow 37 25 = some (.iconst 0, 1, 0, 0, 0, 0) := by decide +kernel
theorem r_37_26 : xrow 37 26 = some (.istore 4, 2, 0, 0, 0, 0) := by decide +kernel
theorem r_37_28 : xrow 37 28 = some (.iload 4, 2, 0, 0, 0, 0) := by decide +kernel
theorem r_37_30 : xrow 37 30 = some (.iconst 5, 1, 0, 0, 0, 0) := by decide +kernel
theorem r_37_31 : xrow 37 31 = some (.if_icmp .ge 75, 3, 106, 0, 0, 0) := by decide +kernel
theorem r_37_34 : xrow 37 34 = some (.aload_n 0, 1, 0, 0, 0, 0) := by decide +kernel
theorem r_37_35 : xrow 37 35 = some (.getfield 31, 3, 13, 8, 2, 641) := by decide +kernel
theorem r_37_38 : xrow 37 38 = some (.iload_n 2, 1, 0, 0, 0, 0) := by decide +kernel
theorem r_37_39 : xrow 37 39 = some (.bipush 30, 2, 0, 0, 0, 0) := by decide +kernel
theorem r_37_41 : xrow 37 41 = some (.imul, 1, 0, 0, 0, 0) := by decide +kernel
theorem r_37_42 : xrow 37 42 = some (.iload_n 3, 1, 0, 0, 0, 0) := by decide +kernel
theorem r_37_43 : xrow 37 43 = some (.iconst 5, 1, 0, 0, 0, 0) := by decide +kernel
theorem r_37_44 : xrow 37 44 = some (.imul, 1, 0, 0, 0, 0) := by decide +kernel
theorem r_37_45 : xrow 37 45 = some (.iadd, 1, 0, 0, 0, 0) := by decide +kernel
theorem r_37_46 : xrow 37 46 = some (.iload 4, 2, 0, 0, 0, 0) := by decide +kernel
theorem r_37_48 : xrow 37 48 = some (.iadd, 1, 0, 0, 0, 0) := by decide +kernel
theorem r_37_49 : xrow 37 49 = some (.iaload, 1, 0, 0, 0, 0) := by decide +kernel
theorem r_37_50 : xrow 37 50 = some (.istore 5, 2, 0, 0, 0, 0) := by decide +kernel
theorem r_37_52 : xrow 37 52 = some (.iload 5, 2, 0, 0, 0, 0) := by decide +kernel
theorem r_37_54 : xrow 37 54 = some (.ifCond .lt 46, 3, 100, 0, 0, 0) := by decide +kernel
theorem r_37_57 : xrow 37 57 = some (.aload_n 0, 1, 0, 0, 0, 0) := by decide +kernel
theorem r_37_58 : xrow 37 58 = some (.getfield 34, 3, 13, 9, 2, 642) := by decide +kernel
theorem r_37_61 : xrow 37 61 = some (.iload 5, 2, 0, 0, 0, 0) := by decide +kernel
theorem r_37_63 : xrow 37 63 = some (.iaload, 1, 0, 0, 0, 0) := by decide +kernel
theorem r_37_64 : xrow 37 64 = some (.aload_n 0, 1, 0, 0, 0, 0) := by decide +kernel
theorem r_37_65 : xrow 37 65 = some (.iload_n 3, 1, 0, 0, 0, 0) := by decide +kernel
theorem r_37_66 : xrow 37 66 = some (.invokevirtual 111, 3, 31, 0, 0, 663) := by decide +kernel
theorem r_37_69 : xrow 37 69 = some (.iadd, 1, 0, 0, 0, 0) := by decide +kernel
theorem r_37_70 : xrow 37 70 = some (.aload_n 0, 1, 0, 0, 0, 0) := by decide +kernel
theorem r_37_71 : xrow 37 71 = some (.getfield 34, 3, 13, 9, 2, 642) := by decide +kernel
theorem r_37_74 : xrow 37 74 = some (.iload_n 2, 1, 0, 0, 0, 0) := by decide +kernel
theorem r_37_75 : xrow 37 75 = some (.iaload, 1, 0, 0, 0, 0) := by decide +kernel
theorem r_37_76 : xrow 37 76 = some (.if_icmp .ge 24, 3, 100, 0, 0, 0) := by decide +kernel
theorem r_37_79 : xrow 37 79 = some (.aload_n 0, 1, 0, 0, 0, 0) := by decide +kernel
theorem r_37_80 : xrow 37 80 = some (.getfield 34, 3, 13, 9, 2, 642) := by decide +kernel
theorem r_37_83 : xrow 37 83 = some (.iload_n 2, 1, 0, 0, 0, 0) := by decide +kernel
theorem r_37_84 : xrow 37 84 = some (.aload_n 0, 1, 0, 0, 0, 0) := by decide +kernel
theorem r_37_85 : xrow 37 85 = some (.getfield 34, 3, 13, 9, 2, 642) := by decide +kernel
theorem r_37_88 : xrow 37 88 = some (.iload 5, 2, 0, 0, 0, 0) := by decide +kernel
theorem r_37_90 : xrow 37 90 = some (.iaload, 1, 0, 0, 0, 0) := by decide +kernel
theorem r_37_91 : xrow 37 91 = some (.aload_n 0, 1, 0, 0, 0, 0) := by decide +kernel
theorem r_37_92 : xrow 37 92 = some (.iload_n 3, 1, 0, 0, 0, 0) := by decide +kernel
theorem r_37_93 : xrow 37 93 = some (.invokevirtual 111, 3, 31, 0, 0, 663) := by decide +kernel
theorem r_37_96 : xrow 37 96 = some (.iadd, 1, 0, 0, 0, 0) := by decide +kernel
theorem r_37_97 : xrow 37 97 = some (.iastore, 1, 0, 0, 0, 0) := by decide +kernel
theorem r_37_98 : xrow 37 98 = some (.iconst 1, 1, 0, 0, 0, 0) := by decide +kernel
theorem r_37_99 : xrow 37 99 = some (.istore_n 1, 1, 0, 0, 0, 0) := by decide +kernel
theorem r_37_100 : xrow 37 100 = some (.iinc 4 1, 3, 0, 0, 0, 0) := by decide +kernel
theorem r_37_103 : xrow 37 103 = some (.goto (-75), 3, 28, 0, 0, 0) := by decide +kernel
theorem r_37_106 : xrow 37 106 = some (.iinc 3 1, 3, 0, 0, 0, 0) := by decide +kernel
theorem r_37_109 : xrow 37 109 = some (.goto (-95), 3, 14, 0, 0, 0) := by decide +kernel
theorem r_37_112 : xrow 37 112 = some (.iinc 2 1, 3, 0, 0, 0, 0) := by decide +kernel
theorem r_37_115 : xrow 37 115 = some (.goto (-111), 3, 4, 0, 0, 0) := by decide +kernel
theorem r_37_118 : xrow 37 118 = some (.iload_n 1, 1, 0, 0, 0, 0) := by decide +kernel
theorem r_37_119 : xrow 37 119 = some (.ireturn, 1, 1, 0, 0, 0) := by decide +kernel
theorem r_38_0 : xrow 38 0 = some (.aload_n 0, 1, 0, 0, 0, 0) := by decide +kernel
theorem r_38_1 : xrow 38 1 = some (.invokespecial 3, 3, 0, 1, 0, 671) := by decide +kernel
theorem r_38_4 : xrow 38 4 = some (.aload_n 0, 1, 0, 0, 0, 0) := by decide +kernel
theorem r_38_5 : xrow 38 5 = some (.aload_n 1, 1, 0, 0, 0, 0) := by decide +kernel
theorem r_38_6 : xrow 38 6 = some (.putfield 9, 3, 14, 0, 2, 672) := by decide +kernel
theorem r_38_9 : xrow 38 9 = some (.aload_n 0, 1, 0, 0, 0, 0) := by decide +kernel
theorem r_38_10 : xrow 38 10 = some (.aload_n 2, 1, 0, 0, 0, 0) := by decide +kernel
theorem r_38_11 : xrow 38 11 = some (.putfield 15, 3, 14, 1, 2, 673) := by decide +kernel
theorem r_38_14 : xrow 38 14 = some (.aload_n 0, 1, 0, 0, 0, 0) := by decide +kernel
theorem r_38_15 : xrow 38 15 = some (.iconst (-1), 1, 0, 0, 0, 0) := by decide +kernel
theorem r_38_16 : xrow 38 16 = some (.putfield 19, 3, 14, 2, 0, 674) := by decide +kernel
theorem r_38_19 : xrow 38 19 = some (.aload_n 0, 1, 0, 0, 0, 0) := by decide +kernel
theorem r_38_20 : xrow 38 20 = some (.iconst (-1), 1, 0, 0, 0, 0) := by decide +kernel
theorem r_38_21 : xrow 38 21 = some (.putfield 23, 3, 14, 3, 0, 675) := by decide +kernel
theorem r_38_24 : xrow 38 24 = some (.aload_n 0, 1, 0, 0, 0, 0) := by decide +kernel
theorem r_38_25 : xrow 38 25 = some (.iconst (-1), 1, 0, 0, 0, 0) := by decide +kernel
theorem r_38_26 : xrow 38 26 = some (.putfield 26, 3, 14, 4, 0, 676) := by decide +kernel
theorem r_38_29 : xrow 38 29 = some (.return_, 1, 0, 0, 0, 0) := by decide +kernel
theorem r_39_0 : xrow 39 0 = some (.aload_n 0, 1, 0, 0, 0, 0) := by decide +kernel
theorem r_39_1 : xrow 39 1 = some (.getfield 15, 3, 14, 1, 2, 673) := by decide +kernel
theorem r_39_4 : xrow 39 4 = some (.invokevirtual 29, 3, 83, 0, 0, 677) := by decide +kernel
theorem r_39_7 : xrow 39 7 = some (.aload_n 0, 1, 0, 0, 0, 0) := by decide +kernel
theorem r_39_8 : xrow 39 8 = some (.bipush (-2), 2, 0, 0, 0, 0) := by decide +kernel
theorem r_39_10 : xrow 39 10 = some (.putfield 19, 3, 14, 2, 0, 674) := by decide +kernel
theorem r_39_13 : xrow 39 13 = some (.aload_n 0, 1, 0, 0, 0, 0) := by decide +kernel
theorem r_39_14 : xrow 39 14 = some (.bipush (-2), 2, 0, 0, 0, 0) := by decide +kernel
theorem r_39_16 : xrow 39 16 = some (.putfield 23, 3, 14, 3, 0, 675) := by decide +kernel
theorem r_39_19 : xrow 39 19 = some (.aload_n 0, 1, 0, 0, 0, 0) := by decide +kernel
theorem r_39_20 : xrow 39 20 = some (.bipush (-2), 2, 0, 0, 0, 0) := by decide +kernel
theorem r_39_22 : xrow 39 22 = some (.putfield 26, 3, 14, 4, 0, 676) := by decide +kernel
theorem r_39_25 : xrow 39 25 = some (.iconst 0, 1, 0, 0, 0, 0) := by decide +kernel
theorem r_39_26 : xrow 39 26 = some (.istore 5, 2, 0, 0, 0, 0) := by decide +kernel
theorem r_39_28 : xrow 39 28 = some (.aload_n 0, 1, 0, 0, 0, 0) := by decide +kernel
theorem r_39_29 : xrow 39 29 = some (.getfield 9, 3, 14, 0, 2, 672) := by decide +kernel
theorem r_39_32 : xrow 39 32 = some (.invokevirtual 34, 3, 55, 0, 0, 678) := by decide +kernel
theorem r_39_35 : xrow 39 35 = some (.istore 6, 2, 0, 0, 0, 0) := by decide +kernel
theorem r_39_37 : xrow 39 37 = some (.iconst 0, 1, 0, 0, 0, 0) := by decide +kernel
theorem r_39_38 : xrow 39 38 = some (.istore 7, 2, 0, 0, 0, 0) := by decide +kernel
theorem r_39_40 : xrow 39 40 = some (.iload 7, 2, 0, 0, 0, 0) := by decide +kernel
theorem r_39_42 : xrow 39 42 = some (.iload 6, 2, 0, 0, 0, 0) := by decide +kernel
theorem r_39_44 : xrow 39 44 = some (.if_icmp .ge 77, 3, 121, 0, 0, 0) := by decide +kernel
theorem r_39_47 : xrow 39 47 = some (.aload_n 0, 1, 0, 0, 0, 0) := by decide +kernel
theorem r_39_48 : xrow 39 48 = some (.aload_n 1, 1, 0, 0, 0, 0) := by decide +kernel
theorem r_39_49 : xrow 39 49 = some (.iload_n 2, 1, 0, 0, 0, 0) := by decide +kernel
theorem r_39_50 : xrow 39 50 = some (.iload_n 3, 1, 0, 0, 0, 0) := by decide +kernel
theorem r_39_51 : xrow 39 51 = some (.iload 7, 2, 0, 0, 0, 0) := by decide +kernel
theorem r_39_53 : xrow 39 53 = some (.invokevirtual 40, 3, 41, 0, 0, 679) := by decide +kernel
theorem r_39_56 : xrow 39 56 = some (.istore 8, 2, 0, 0, 0, 0) := by decide +kernel
theorem r_39_58 : xrow 39 58 = some (.iload 8, 2, 0, 0, 0, 0) := by decide +kernel
theorem r_39_60 : xrow 39 60 = some (.ifCond .ne 16, 3, 76, 0, 0, 0) := by decide +kernel
theorem r_39_63 : xrow 39 63 = some (.aload_n 0, 1, 0, 0, 0, 0) := by decide +kernel
theorem r_39_64 : xrow 39 64 = some (.getfield 44, 3, 14, 9, 0, 680) := by decide +kernel
theorem r_39_67 : xrow 39 67 = some (.iload 4, 2, 0, 0, 0, 0) := by decide +kernel
theorem r_39_69 : xrow 39 69 = some (.if_icmp .le 7, 3, 76, 0, 0, 0) := by decide +kernel
theorem r_39_72 : xrow 39 72 = some (.bipush 7, 2, 0, 0, 0, 0) := by decide +kernel
theorem r_39_74 : xrow 39 74 = some (.istore 8, 2, 0, 0, 0, 0) := by decide +kernel
theorem r_39_76 : xrow 39 76 = some (.iload 8, 2, 0, 0, 0, 0) := by decide +kernel
theorem r_39_78 : xrow 39 78 = some (.ifCond .eq 6, 3, 84, 0, 0, 0) := by decide +kernel
theorem r_39_81 : xrow 39 81 = some (.iinc 5 1, 3, 0, 0, 0, 0) := by decide +kernel
theorem r_39_84 : xrow 39 84 = some (.iload 8, 2, 0, 0, 0, 0) := by decide +kernel
theorem r_39_86 : xrow 39 86 = some (.ifCond .eq 29, 3, 115, 0, 0, 0) := by decide +kernel
theorem r_39_89 : xrow 39 89 = some (.iload 5, 2, 0, 0, 0, 0) := by decide +kernel
theorem r_39_91 : xrow 39 91 = some (.iconst 1, 1, 0, 0, 0, 0) := by decide +kernel
theorem r_39_92 : xrow 39 92 = some (.if_icmp .ne 23, 3, 115, 0, 0, 0) := by decide +kernel
theorem r_39_95 : xrow 39 95 = some (.aload_n 0, 1, 0, 0, 0, 0) := by decide +kernel
theorem r_39_96 : xrow 39 96 = some (.iload 7, 2, 0, 0, 0, 0) := by decide +kernel
theorem r_39_98 : xrow 39 98 = some (.putfield 19, 3, 14, 2, 0, 674) := by decide +kernel
theorem r_39_101 : xrow 39 101 = some (.aload_n 0, 1, 0, 0, 0, 0) := by decide +kernel
theorem r_39_102 : xrow 39 102 = some (.iload 8, 2, 0, 0, 0, 0) := by decide +kernel
theorem r_39_104 : xrow 39 104 = some (.putfield 23, 3, 14, 3, 0, 675) := by decide +kernel
theorem r_39_107 : xrow 39 107 = some (.aload_n 0, 1, 0, 0, 0, 0) := by decide +kernel
theorem r_39_108 : xrow 39 108 = some (.aload_n 0, 1, 0, 0, 0, 0) := by decide +kernel
theorem r_39_109 : xrow 39 109 = some (.getfield 47, 3, 14, 8, 0, 681) := by decide +kernel
theorem r_39_112 : xrow 39 112 = some (.putfield 26, 3, 14, 4, 0, 676) := by decide +kernel
theorem r_39_115 : xrow 39 115 = some (.iinc 7 1, 3, 0, 0, 0, 0) := by decide +kernel
theorem r_39_118 : xrow 39 118 = some (.goto (-78), 3, 40, 0, 0, 0) := by decide +kernel
theorem r_39_121 : xrow 39 121 = some (.iload 5, 2, 0, 0, 0, 0) := by decide +kernel
theorem r_39_123 : xrow 39 123 = some (.ireturn, 1, 0, 0, 0, 0) := by decide +kernel
theorem r_40_0 : xrow 40 0 = some (.aload_n 0, 1, 0, 0, 0, 0) := by decide +kernel
theorem r_40_1 : xrow 40 1 = some (.getfield 15, 3, 14, 1, 2, 673) := by decide +kernel
theorem r_40_4 : xrow 40 4 = some (.invokevirtual 29, 3, 83, 0, 0, 677) := by decide +kernel
theorem r_40_7 : xrow 40 7 = some (.iconst 0, 1, 0, 0, 0, 0) := by decide +kernel
theorem r_40_8 : xrow 40 8 = some (.istore 4, 2, 0, 0, 0, 0) := by decide +kernel
theorem r_40_10 : xrow 40 10 = some (.aload_n 0, 1, 0, 0, 0, 0) := by decide +kernel
theorem r_40_11 : xrow 40 11 = some (.getfield 9, 3, 14, 0, 2, 672) := by decide +kernel
theorem r_40_14 : xrow 40 14 = some (.invokevirtual 34, 3, 55, 0, 0, 678) := by decide +kernel
theorem r_40_17 : xrow 40 17 = some (.istore 5, 2, 0, 0, 0, 0) := by decide +kernel
theorem r_40_19 : xrow 40 19 = some (.iconst 0, 1, 0, 0, 0, 0) := by decide +kernel
theorem r_40_20 : xrow 40 20 = some (.istore 6, 2, 0, 0, 0, 0) := by decide +kernel
theorem r_40_22 : xrow 40 22 = some (.iload 6, 2, 0, 0, 0, 0) := by decide +kernel
theorem r_40_24 : xrow 40 24 = some (.iload 5, 2, 0, 0, 0, 0) := by decide +kernel
theorem r_40_26 : xrow 40 26 = some (.if_icmp .ge 34, 3, 60, 0, 0, 0) := by decide +kernel
theorem r_40_29 : xrow 40 29 = some (.aload_n 0, 1, 0, 0, 0, 0) := by decide +kernel
theorem r_40_30 : xrow 40 30 = some (.aload_n 1, 1, 0, 0, 0, 0) := by decide +kernel
theorem r_40_31 : xrow 40 31 = some (.iload_n 2, 1, 0, 0, 0, 0) := by decide +kernel
theorem r_40_32 : xrow 40 32 = some (.iload_n 3, 1, 0, 0, 0, 0) := by decide +kernel
theorem r_40_33 : xrow 40 33 = some (.iload 6, 2, 0, 0, 0, 0) := by decide +kernel
theorem r_40_35 : xrow 40 35 = some (.invokevirtual 40, 3, 41, 0, 0, 679) := by decide +kernel
theorem r_40_38 : xrow 40 38 = some (.ifCond .eq 5, 3, 43, 0, 0, 0) := by decide +kernel
theorem r_40_41 : xrow 40 41 = some (.iconst (-1), 1, 0, 0, 0, 0) := by decide +kernel
theorem r_40_42 : xrow 40 42 = some (.ireturn, 1, 0, 0, 0, 0) := by decide +kernel
theorem r_40_43 : xrow 40 43 = some (.iload 4, 2, 0, 0, 0, 0) := by decide +kernel
theorem r_40_45 : xrow 40 45 = some (.aload_n 0, 1, 0, 0, 0, 0) := by decide +kernel
theorem r_40_46 : xrow 40 46 = some (.getfield 44, 3, 14, 9, 0, 680) := by decide +kernel
theorem r_40_49 : xrow 40 49 = some (.invokestatic 50, 3, 268, 0, 0, 682) := by decide +kernel
theorem r_40_52 : xrow 40 52 = some (.istore 4, 2, 0, 0, 0, 0) := by decide +kernel
theorem r_40_54 : xrow 40 54 = some (.iinc 6 1, 3, 0, 0, 0, 0) := by decide +kernel
theorem r_40_57 : xrow 40 57 = some (.goto (-35), 3, 22, 0, 0, 0) := by decide +kernel
theorem r_40_60 : xrow 40 60 = some (.iload 4, 2, 0, 0, 0, 0) := by decide +kernel
theorem r_40_62 : xrow 40 62 = some (.ireturn, 1, 0, 0, 0, 0) := by decide +kernel
theorem r_41_0 : xrow 41 0 = some (.aload_n 0, 1, 0, 0, 0, 0) := by decide +kernel
theorem r_41_1 : xrow 41 1 = some (.aload_n 0, 1, 0, 0, 0, 0) := by decide +kernel
theorem r_41_2 : xrow 41 2 = some (.getfield 9, 3, 14, 0, 2, 672) := by decide +kernel
theorem r_41_5 : xrow 41 5 = some (.iload 4, 2, 0, 0, 0, 0) := by decide +kernel
theorem r_41_7 : xrow 41 7 = some (.invokevirtual 56, 3, 59, 0, 0, 683) := by decide +kernel
theorem r_41_10 : xrow 41 10 = some (.putfield 60, 3, 14, 7, 0, 684) := by decide +kernel
theorem r_41_13 : xrow 41 13 = some (.aload_n 0, 1, 0, 0, 0, 0) := by decide +kernel
theorem r_41_14 : xrow 41 14 = some (.iload_n 2, 1, 0, 0, 0, 0) := by decide +kernel
theorem r_41_15 : xrow 41 15 = some (.putfield 63, 3, 14, 5, 0, 685) := by decide +kernel
theorem r_41_18 : xrow 41 18 = some (.aload_n 0, 1, 0, 0, 0, 0) := by decide +kernel
theorem r_41_19 : xrow 41 19 = some (.aload_n 0, 1, 0, 0, 0, 0) := by decide +kernel
theorem r_41_20 : xrow 41 20 = some (.getfield 9, 3, 14, 0, 2, 672) := by decide +kernel
theorem r_41_23 : xrow 41 23 = some (.invokevirtual 66, 3, 56, 0, 0, 686) := by decide +kernel
theorem r_41_26 : xrow 41 26 = some (.aload_n 0, 1, 0, 0, 0, 0) := by decide +kernel
theorem r_41_27 : xrow 41 27 = some (.getfield 60, 3, 14, 7, 0, 684) := by decide +kernel
theorem r_41_30 : xrow 41 30 = some (.aload_n 0, 1, 0, 0, 0, 0) := by decide +kernel
theorem r_41_31 : xrow 41 31 = some (.getfield 9, 3, 14, 0, 2, 672) := by decide +kernel
theorem r_41_34 : xrow 41 34 = some (.getfield 69, 3, 15, 8, 2, 687) := by decide +kernel
theorem r_41_37 : xrow 41 37 = some (.iload_n 2, 1, 0, 0, 0, 0) := by decide +kernel
theorem r_41_38 : xrow 41 38 = some (.iaload, 1, 0, 0, 0, 0) := by decide +kernel
theorem r_41_39 : xrow 41 39 = some (.iand, 1, 0, 0, 0, 0) := by decide +kernel
theorem r_41_40 : xrow 41 40 = some (.ior, 1, 0, 0, 0, 0) := by decide +kernel
theorem r_41_41 : xrow 41 41 = some (.putfield 73, 3, 14, 6, 0, 688) := by decide +kernel
theorem r_41_44 : xrow 41 44 = some (.aload_n 0, 1, 0, 0, 0, 0) := by decide +kernel
theorem r_41_45 : xrow 41 45 = some (.iconst 0, 1, 0, 0, 0, 0) := by decide +kernel
theorem r_41_46 : xrow 41 46 = some (.putfield 47, 3, 14, 8, 0, 681) := by decide +kernel
theorem r_41_49 : xrow 41 49 = some (.aload_n 0, 1, 0, 0, 0, 0) := by decide +kernel
theorem r_41_50 : xrow 41 50 = some (.iconst 0, 1, 0, 0, 0, 0) := by decide +kernel
theorem r_41_51 : xrow 41 51 = some (.putfield 44, 3, 14, 9, 0, 680) := by decide +kernel
theorem r_41_54 : xrow 41 54 = some (.iconst 0, 1, 0, 0, 0, 0) := by decide +kernel
theorem r_41_55 : xrow 41 55 = some (.istore 5, 2, 0, 0, 0, 0) := by decide +kernel
theorem r_41_57 : xrow 41 57 = some (.iconst 0, 1, 0, 0, 0, 0) := by decide +kernel
theorem r_41_58 : xrow 41 58 = some (.istore 6, 2, 0, 0, 0, 0) := by decide +kernel
theorem r_41_60 : xrow 41 60 = some (.iload 6, 2, 0, 0, 0, 0) := by decide +kernel
theorem r_41_62 : xrow 41 62 = some (.bipush 80, 2, 0, 0, 0, 0) := by decide +kernel
theorem r_41_64 : xrow 41 64 = some (.if_icmp .ge 141, 3, 205, 0, 0, 0) := by decide +kernel
theorem r_41_67 : xrow 41 67 = some (.iload 5, 2, 0, 0, 0, 0) := by decide +kernel
theorem r_41_69 : xrow 41 69 = some (.aload_n 1, 1, 0, 0, 0, 0) := by decide +kernel
theorem r_41_70 : xrow 41 70 = some (.getfield 78, 3, 16, 4, 0, 689) := by decide +kernel
theorem r_41_73 : xrow 41 73 = some (.if_icmp .ge 132, 3, 205, 0, 0, 0) := by decide +kernel
theorem r_41_76 : xrow 41 76 = some (.aload_n 1, 1, 0, 0, 0, 0) := by decide +kernel
theorem r_41_77 : xrow 41 77 = some (.getfield 81, 3, 16, 0, 2, 690) := by decide +kernel
theorem r_41_80 : xrow 41 80 = some (.iload 5, 2, 0, 0, 0, 0) := by decide +kernel
theorem r_41_82 : xrow 41 82 = some (.iaload, 1, 0, 0, 0, 0) := by decide +kernel
theorem r_41_83 : xrow 41 83 = some (.istore 7, 2, 0, 0, 0, 0) := by decide +kernel
theorem r_41_85 : xrow 41 85 = some (.iload 5, 2, 0, 0, 0, 0) := by decide +kernel
theorem r_41_87 : xrow 41 87 = some (.iconst 1, 1, 0, 0, 0, 0) := by decide +kernel
theorem r_41_88 : xrow 41 88 = some (.iadd, 1, 0, 0, 0, 0) := by decide +kernel
theorem r_41_89 : xrow 41 89 = some (.istore 8, 2, 0, 0, 0, 0) := by decide +kernel
theorem r_41_91 : xrow 41 91 = some (.iload 7, 2, 0, 0, 0, 0) := by decide +kernel
theorem r_41_93 : xrow 41 93 = some (.iconst 5, 1, 0, 0, 0, 0) := by decide +kernel
theorem r_41_94 : xrow 41 94 = some (.if_icmp .ne 15, 3, 109, 0, 0, 0) := by decide +kernel
theorem r_41_97 : xrow 41 97 = some (.aload_n 1, 1, 0, 0, 0, 0) := by decide +kernel
theorem r_41_98 : xrow 41 98 = some (.getfield 84, 3, 16, 3, 2, 691) := by decide +kernel
theorem r_41_101 : xrow 41 101 = some (.iload 5, 2, 0, 0, 0, 0) := by decide +kernel
theorem r_41_103 : xrow 41 103 = some (.iaload, 1, 0, 0, 0, 0) := by decide +kernel
theorem r_41_104 : xrow 41 104 = some (.istore 8, 2, 0, 0, 0, 0) := by decide +kernel
theorem r_41_106 : xrow 41 106 = some (.goto 89, 3, 195, 0, 0, 0) := by decide +kernel
theorem r_41_109 : xrow 41 109 = some (.iload 7, 2, 0, 0, 0, 0) := by decide +kernel
theorem r_41_111 : xrow 41 111 = some (.iconst 4, 1, 0, 0, 0, 0) := by decide +kernel
theorem r_41_112 : xrow 41 112 = some (.if_icmp .ne 60, 3, 172, 0, 0, 0) := by decide +kernel
theorem r_41_115 : xrow 41 115 = some (.aload_n 0, 1, 0, 0, 0, 0) := by decide +kernel
theorem r_41_116 : xrow 41 116 = some (.getfield 9, 3, 14, 0, 2, 672) := by decide +kernel
theorem r_41_119 : xrow 41 119 = some (.aload_n 0, 1, 0, 0, 0, 0) := by decide +kernel
theorem r_41_120 : xrow 41 120 = some (.getfield 73, 3, 14, 6, 0, 688) := by decide +kernel
theorem r_41_123 : xrow 41 123 = some (.aload_n 1, 1, 0, 0, 0, 0) := by decide +kernel
theorem r_41_124 : xrow 41 124 = some (.getfield 87, 3, 16, 1, 2, 692) := by decide +kernel
theorem r_41_127 : xrow 41 127 = some (.iload 5, 2, 0, 0, 0, 0) := by decide +kernel
theorem r_41_129 : xrow 41 129 = some (.iaload, 1, 0, 0, 0, 0) := by decide +kernel
theorem r_41_130 : xrow 41 130 = some (.invokevirtual 90, 3, 61, 0, 0, 693) := by decide +kernel
theorem r_41_133 : xrow 41 133 = some (.istore 9, 2, 0, 0, 0, 0) := by decide +kernel
theorem r_41_135 : xrow 41 135 = some (.iload 9, 2, 0, 0, 0, 0) := by decide +kernel
theorem r_41_137 : xrow 41 137 = some (.iconst (-1), 1, 0, 0, 0, 0) := by decide +kernel
theorem r_41_138 : xrow 41 138 = some (.if_icmp .ne 5, 3, 143, 0, 0, 0) := by decide +kernel
theorem r_41_141 : xrow 41 141 = some (.iconst 5, 1, 0, 0, 0, 0) := by decide +kernel
theorem r_41_142 : xrow 41 142 = some (.ireturn, 1, 0, 0, 0, 0) := by decide +kernel
theorem r_41_143 : xrow 41 143 = some (.iload 9, 2, 0, 0, 0, 0) := by decide +kernel
theorem r_41_145 : xrow 41 145 = some (.aload_n 1, 1, 0, 0, 0, 0) := by decide +kernel
theorem r_41_146 : xrow 41 146 = some (.getfield 93, 3, 16, 2, 2, 694) := by decide +kernel
theorem r_41_149 : xrow 41 149 = some (.iload 5, 2, 0, 0, 0, 0) := by decide +kernel
theorem r_41_151 : xrow 41 151 = some (.iaload, 1, 0, 0, 0, 0) := by decide +kernel
theorem r_41_152 : xrow 41 152 = some (.if_icmp .ne 8, 3, 160, 0, 0, 0) := by decide +kernel
theorem r_41_155 : xrow 41 155 = some (.iload 8, 2, 0, 0, 0, 0) := by decide +kernel
theorem r_41_157 : xrow 41 157 = some (.goto 10, 3, 167, 0, 0, 0) := by decide +kernel
theorem r_41_160 : xrow 41 160 = some (.aload_n 1, 1, 0, 0, 0, 0) := by decide +kernel
theorem r_41_161 : xrow 41 161 = some (.getfield 84, 3, 16, 3, 2, 691) := by decide +kernel
theorem r_41_164 : xrow 41 164 = some (.iload 5, 2, 0, 0, 0, 0) := by decide +kernel
theorem r_41_166 : xrow 41 166 = some (.iaload, 1, 0, 0, 0, 0) := by decide +kernel
theorem r_41_167 : xrow 41 167 = some (.istore 8, 2, 0, 0, 0, 0) := by decide +kernel
theorem r_41_169 : xrow 41 169 = some (.goto 26, 3, 195, 0, 0, 0) := by decide +kernel
theorem r_41_172 : xrow 41 172 = some (.aload_n 0, 1, 0, 0, 0, 0) := by decide +kernel
theorem r_41_173 : xrow 41 173 = some (.iload 7, 2, 0, 0, 0, 0) := by decide +kernel
theorem r_41_175 : xrow 41 175 = some (.aload_n 1, 1, 0, 0, 0, 0) := by decide +kernel
theorem r_41_176 : xrow 41 176 = some (.getfield 87, 3, 16, 1, 2, 692) := by decide +kernel
theorem r_41_179 : xrow 41 179 = some (.iload 5, 2, 0, 0, 0, 0) := by decide +kernel
theorem r_41_181 : xrow 41 181 = some (.iaload, 1, 0, 0, 0, 0) := by decide +kernel
theorem r_41_182 : xrow 41 182 = some (.invokevirtual 96, 3, 42, 0, 0, 695) := by decide +kernel
theorem r_41_185 : xrow 41 185 = some (.istore 9, 2, 0, 0, 0, 0) := by decide +kernel
theorem r_41_187 : xrow 41 187 = some (.iload 9, 2, 0, 0, 0, 0) := by decide +kernel
theorem r_41_189 : xrow 41 189 = some (.ifCond .eq 6, 3, 195, 0, 0, 0) := by decide +kernel
theorem r_41_192 : xrow 41 192 = some (.iload 9, 2, 0, 0, 0, 0) := by decide +kernel
theorem r_41_194 : xrow 41 194 = some (.ireturn, 1, 0, 0, 0, 0) := by decide +kernel
theorem r_41_195 : xrow 41 195 = some (.iload 8, 2, 0, 0, 0, 0) := by decide +kernel
theorem r_41_197 : xrow 41 197 = some (.istore 5, 2, 0, 0, 0, 0) := by decide +kernel
theorem r_41_199 : xrow 41 199 = some (.iinc 6 1, 3, 0, 0, 0, 0) := by decide +kernel
theorem r_41_202 : xrow 41 202 = some (.goto (-142), 3, 60, 0, 0, 0) := by decide +kernel
theorem r_41_205 : xrow 41 205 = some (.aload_n 0, 1, 0, 0, 0, 0) := by decide +kernel
theorem r_41_206 : xrow 41 206 = some (.getfield 63, 3, 14, 5, 0, 685) := by decide +kernel
theorem r_41_209 : xrow 41 209 = some (.iload_n 3, 1, 0, 0, 0, 0) := by decide +kernel
theorem r_41_210 : xrow 41 210 = some (.if_icmp .ne 7, 3, 217, 0, 0, 0) := by decide +kernel
theorem r_41_213 : xrow 41 213 = some (.iconst 0, 1, 0, 0, 0, 0) := by decide +kernel
theorem r_41_214 : xrow 41 214 = some (.goto 5, 3, 219, 0, 0, 0) := by decide +kernel
theorem r_41_217 : xrow 41 217 = some (.bipush 6, 2, 0, 0, 0, 0) := by decide +kernel
theorem r_41_219 : xrow 41 219 = some (.ireturn, 1, 0, 0, 0, 0) := by decide +kernel
theorem r_42_0 : xrow 42 0 = some (.iconst 0, 1, 0, 0, 0, 0) := by decide +kernel
theorem r_42_1 : xrow 42 1 = some (.istore_n 3, 1, 0, 0, 0, 0) := by decide +kernel
theorem r_42_2 : xrow 42 2 = some (.iload_n 3, 1, 0, 0, 0, 0) := by decide +kernel
theorem r_42_3 : xrow 42 3 = some (.iload_n 2, 1, 0, 0, 0, 0) := by decide +kernel
theorem r_42_4 : xrow 42 4 = some (.if_icmp .ge 114, 3, 118, 0, 0, 0) := by decide +kernel
theorem r_42_7 : xrow 42 7 = some (.aload_n 0, 1, 0, 0, 0, 0) := by decide +kernel
theorem r_42_8 : xrow 42 8 = some (.getfield 9, 3, 14, 0, 2, 672) := by decide +kernel
theorem r_42_11 : xrow 42 11 = some (.getfield 99, 3, 15, 9, 2, 696) := by decide +kernel
theorem r_42_14 : xrow 42 14 = some (.aload_n 0, 1, 0, 0, 0, 0) := by decide +kernel
theorem r_42_15 : xrow 42 15 = some (.getfield 63, 3, 14, 5, 0, 685) := by decide +kernel
theorem r_42_18 : xrow 42 18 = some (.iconst 4, 1, 0, 0, 0, 0) := by decide +kernel
theorem r_42_19 : xrow 42 19 = some (.imul, 1, 0, 0, 0, 0) := by decide +kernel
theorem r_42_20 : xrow 42 20 = some (.iload_n 1, 1, 0, 0, 0, 0) := by decide +kernel
theorem r_42_21 : xrow 42 21 = some (.iadd, 1, 0, 0, 0, 0) := by decide +kernel
theorem r_42_22 : xrow 42 22 = some (.iaload, 1, 0, 0, 0, 0) := by decide +kernel
theorem r_42_23 : xrow 42 23 = some (.istore 4, 2, 0, 0, 0, 0) := by decide +kernel
theorem r_42_25 : xrow 42 25 = some (.iload 4, 2, 0, 0, 0, 0) := by decide +kernel
theorem r_42_27 : xrow 42 27 = some (.ifCond .ge 5, 3, 32, 0, 0, 0) := by decide +kernel
theorem r_42_30 : xrow 42 30 = some (.iconst 1, 1, 0, 0, 0, 0) := by decide +kernel
theorem r_42_31 : xrow 42 31 = some (.ireturn, 1, 0, 0, 0, 0) := by decide +kernel
theorem r_42_32 : xrow 42 32 = some (.aload_n 0, 1, 0, 0, 0, 0) := by decide +kernel
theorem r_42_33 : xrow 42 33 = some (.getfield 15, 3, 14, 1, 2, 673) := by decide +kernel
theorem r_42_36 : xrow 42 36 = some (.aload_n 0, 1, 0, 0, 0, 0) := by decide +kernel
theorem r_42_37 : xrow 42 37 = some (.getfield 63, 3, 14, 5, 0, 685) := by decide +kernel
theorem r_42_40 : xrow 42 40 = some (.iload_n 1, 1, 0, 0, 0, 0) := by decide +kernel
theorem r_42_41 : xrow 42 41 = some (.aload_n 0, 1, 0, 0, 0, 0) := by decide +kernel
theorem r_42_42 : xrow 42 42 = some (.getfield 73, 3, 14, 6, 0, 688) := by decide +kernel
theorem r_42_45 : xrow 42 45 = some (.invokevirtual 102, 3, 86, 0, 0, 697) := by decide +kernel
theorem r_42_48 : xrow 42 48 = some (.istore 5, 2, 0, 0, 0, 0) := by decide +kernel
theorem r_42_50 : xrow 42 50 = some (.iload 5, 2, 0, 0, 0, 0) := by decide +kernel
theorem r_42_52 : xrow 42 52 = some (.ifCond .gt 7, 3, 59, 0, 0, 0) := by decide +kernel
theorem r_42_55 : xrow 42 55 = some (.iload 5, 2, 0, 0, 0, 0) := by decide +kernel
theorem r_42_57 : xrow 42 57 = some (.ineg, 1, 0, 0, 0, 0) := by decide +kernel
theorem r_42_58 : xrow 42 58 = some (.ireturn, 1, 0, 0, 0, 0) := by decide +kernel
theorem r_42_59 : xrow 42 59 = some (.aload_n 0, 1, 0, 0, 0, 0) := by decide +kernel
theorem r_42_60 : xrow 42 60 = some (.dup, 1, 0, 0, 0, 0) := by decide +kernel
theorem r_42_61 : xrow 42 61 = some (.getfield 44, 3, 14, 9, 0, 680) := by decide +kernel
theorem r_42_64 : xrow 42 64 = some (.iload 5, 2, 0, 0, 0, 0) := by decide +kernel
theorem r_42_66 : xrow 42 66 = some (.iadd, 1, 0, 0, 0, 0) := by decide +kernel
theorem r_42_67 : xrow 42 67 = some (.putfield 44, 3, 14, 9, 0, 680) := by decide +kernel
theorem r_42_70 : xrow 42 70 = some (.aload_n 0, 1, 0, 0, 0, 0) := by decide +kernel
theorem r_42_71 : xrow 42 71 = some (.dup, 1, 0, 0, 0, 0) := by decide +kernel
theorem r_42_72 : xrow 42 72 = some (.getfield 47, 3, 14, 8, 0, 681) := by decide +kernel
theorem r_42_75 : xrow 42 75 = some (.iconst 1, 1, 0, 0, 0, 0) := by decide +kernel
theorem r_42_76 : xrow 42 76 = some (.iadd, 1, 0, 0, 0, 0) := by decide +kernel
theorem r_42_77 : xrow 42 77 = some (.putfield 47, 3, 14, 8, 0, 681) := by decide +kernel
theorem r_42_80 : xrow 42 80 = some (.aload_n 0, 1, 0, 0, 0, 0) := by decide +kernel
theorem r_42_81 : xrow 42 81 = some (.iload 4, 2, 0, 0, 0, 0) := by decide +kernel
theorem r_42_83 : xrow 42 83 = some (.putfield 63, 3, 14, 5, 0, 685) := by decide +kernel
theorem r_42_86 : xrow 42 86 = some (.aload_n 0, 1, 0, 0, 0, 0) := by decide +kernel
theorem r_42_87 : xrow 42 87 = some (.dup, 1, 0, 0, 0, 0) := by decide +kernel
theorem r_42_88 : xrow 42 88 = some (.getfield 73, 3, 14, 6, 0, 688) := by decide +kernel
theorem r_42_91 : xrow 42 91 = some (.aload_n 0, 1, 0, 0, 0, 0) := by decide +kernel
theorem r_42_92 : xrow 42 92 = some (.getfield 60, 3, 14, 7, 0, 684) := by decide +kernel
theorem r_42_95 : xrow 42 95 = some (.aload_n 0, 1, 0, 0, 0, 0) := by decide +kernel
theorem r_42_96 : xrow 42 96 = some (.getfield 9, 3, 14, 0, 2, 672) := by decide +kernel
theorem r_42_99 : xrow 42 99 = some (.getfield 69, 3, 15, 8, 2, 687) := by decide +kernel
theorem r_42_102 : xrow 42 102 = some (.aload_n 0, 1, 0, 0, 0, 0) := by decide +kernel
theorem r_42_103 : xrow 42 103 = some (.getfield 63, 3, 14, 5, 0, 685) := by decide +kernel
theorem r_42_106 : xrow 42 106 = some (.iaload, 1, 0, 0, 0, 0) := by decide +kernel
theorem r_42_107 : xrow 42 107 = some (.iand, 1, 0, 0, 0, 0) := by decide +kernel
theorem r_42_108 : xrow 42 108 = some (.ior, 1, 0, 0, 0, 0) := by decide +kernel
theorem r_42_109 : xrow 42 109 = some (.putfield 73, 3, 14, 6, 0, 688) := by decide +kernel
theorem r_42_112 : xrow 42 112 = some (.iinc 3 1, 3, 0, 0, 0, 0) := by decide +kernel
theorem r_42_115 : xrow 42 115 = some (.goto (-113), 3, 2, 0, 0, 0) := by decide +kernel
theorem r_42_118 : xrow 42 118 = some (.iconst 0, 1, 0, 0, 0, 0) := by decide +kernel
theorem r_42_119 : xrow 42 119 = some (.ireturn, 1, 0, 0, 0, 0) := by decide +kernel
theorem r_43_0 : xrow 43 0 = some (.aload_n 0, 1, 0, 0, 0, 0) := by decide +kernel
theorem r_43_1 : xrow 43 1 = some (.invokespecial 3, 3, 0, 1, 0, 698) := by decide +kernel
theorem r_43_4 : xrow 43 4 = some (.aload_n 0, 1, 0, 0, 0, 0) := by decide +kernel
theorem r_43_5 : xrow 43 5 = some (.bipush 100, 2, 0, 0, 0, 0) := by decide +kernel
theorem r_43_7 : xrow 43 7 = some (.newarray .int, 2, 0, 0, 0, 0) := by decide +kernel
theorem r_43_9 : xrow 43 9 = some (.putfield 9, 3, 15, 5, 2, 699) := by decide +kernel
theorem r_43_12 : xrow 43 12 = some (.aload_n 0, 1, 0, 0, 0, 0) := by decide +kernel
theorem r_43_13 : xrow 43 13 = some (.bipush 100, 2, 0, 0, 0, 0) := by decide +kernel
theorem r_43_15 : xrow 43 15 = some (.newarray .int, 2, 0, 0, 0, 0) := by decide +kernel
theorem r_43_17 : xrow 43 17 = some (.putfield 15, 3, 15, 6, 2, 700) := by decide +kernel
theorem r_43_20 : xrow 43 20 = some (.aload_n 0, 1, 0, 0, 0, 0) := by decide +kernel
theorem r_43_21 : xrow 43 21 = some (.bipush 100, 2, 0, 0, 0, 0) := by decide +kernel
theorem r_43_23 : xrow 43 23 = some (.newarray .int, 2, 0, 0, 0, 0) := by decide +kernel
theorem r_43_25 : xrow 43 25 = some (.putfield 18, 3, 15, 7, 2, 701) := by decide +kernel
theorem r_43_28 : xrow 43 28 = some (.aload_n 0, 1, 0, 0, 0, 0) := by decide +kernel
theorem r_43_29 : xrow 43 29 = some (.bipush 100, 2, 0, 0, 0, 0) := by decide +kernel
theorem r_43_31 : xrow 43 31 = some (.newarray .int, 2, 0, 0, 0, 0) := by decide +kernel
theorem r_43_33 : xrow 43 33 = some (.putfield 21, 3, 15, 8, 2, 702) := by decide +kernel
theorem r_43_36 : xrow 43 36 = some (.aload_n 0, 1, 0, 0, 0, 0) := by decide +kernel
theorem r_43_37 : xrow 43 37 = some (.sipush 400, 3, 0, 0, 0, 0) := by decide +kernel
theorem r_43_40 : xrow 43 40 = some (.newarray .int, 2, 0, 0, 0, 0) := by decide +kernel
theorem r_43_42 : xrow 43 42 = some (.putfield 24, 3, 15, 9, 2, 703) := by decide +kernel
theorem r_43_45 : xrow 43 45 = some (.aload_n 0, 1, 0, 0, 0, 0) := by decide +kernel
theorem r_43_46 : xrow 43 46 = some (.iconst 5, 1, 0, 0, 0, 0) := by decide +kernel
theorem r_43_47 : xrow 43 47 = some (.newarray .int, 2, 0, 0, 0, 0) := by decide +kernel
theorem r_43_49 : xrow 43 49 = some (.putfield 27, 3, 15, 10, 2, 704) := by decide +kernel
theorem r_43_52 : xrow 43 52 = some (.aload_n 0, 1, 0, 0, 0, 0) := by decide +kernel
theorem r_43_53 : xrow 43 53 = some (.bipush 40, 2, 0, 0, 0, 0) := by decide +kernel
theorem r_43_55 : xrow 43 55 = some (.newarray .int, 2, 0, 0, 0, 0) := by decide +kernel
theorem r_43_57 : xrow 43 57 = some (.putfield 30, 3, 15, 11, 2, 705) := by decide +kernel
theorem r_43_60 : xrow 43 60 = some (.aload_n 0, 1, 0, 0, 0, 0) := by decide +kernel
theorem r_43_61 : xrow 43 61 = some (.bipush 15, 2, 0, 0, 0, 0) := by decide +kernel
theorem r_43_63 : xrow 43 63 = some (.newarray .int, 2, 0, 0, 0, 0) := by decide +kernel
theorem r_43_65 : xrow 43 65 = some (.putfield 33, 3, 15, 12, 2, 706) := by decide +kernel
theorem r_43_68 : xrow 43 68 = some (.aload_n 0, 1, 0, 0, 0, 0) := by decide +kernel
theorem r_43_69 : xrow 43 69 = some (.iconst 5, 1, 0, 0, 0, 0) := by decide +kernel
theorem r_43_70 : xrow 43 70 = some (.newarray .int, 2, 0, 0, 0, 0) := by decide +kernel
theorem r_43_72 : xrow 43 72 = some (.putfield 36, 3, 15, 13, 2, 707) := by decide +kernel
theorem r_43_75 : xrow 43 75 = some (.aload_n 0, 1, 0, 0, 0, 0) := by decide +kernel
theorem r_43_76 : xrow 43 76 = some (.iconst 5, 1, 0, 0, 0, 0) := by decide +kernel
theorem r_43_77 : xrow 43 77 = some (.newarray .int, 2, 0, 0, 0, 0) := by decide +kernel
theorem r_43_79 : xrow 43 79 = some (.putfield 39, 3, 15, 14, 2, 708) := by decide +kernel
theorem r_43_82 : xrow 43 82 = some (.return_, 1, 0, 0, 0, 0) := by decide +kernel
theorem r_44_0 : xrow 44 0 = some (.aload_n 0, 1, 0, 0, 0, 0) := by decide +kernel
theorem r_44_1 : xrow 44 1 = some (.iconst 0, 1, 0, 0, 0, 0) := by decide +kernel
theorem r_44_2 : xrow 44 2 = some (.putfield 42, 3, 15, 0, 0, 709) := by decide +kernel
theorem r_44_5 : xrow 44 5 = some (.aload_n 0, 1, 0, 0, 0, 0) := by decide +kernel
theorem r_44_6 : xrow 44 6 = some (.iconst 0, 1, 0, 0, 0, 0) := by decide +kernel
theorem r_44_7 : xrow 44 7 = some (.putfield 46, 3, 15, 1, 0, 710) := by decide +kernel
theorem r_44_10 : xrow 44 10 = some (.aload_n 0, 1, 0, 0, 0, 0) := by decide +kernel
theorem r_44_11 : xrow 44 11 = some (.iconst 0, 1, 0, 0, 0, 0) := by decide +kernel
theorem r_44_12 : xrow 44 12 = some (.putfield 49, 3, 15, 2, 0, 711) := by decide +kernel
theorem r_44_15 : xrow 44 15 = some (.aload_n 0, 1, 0, 0, 0, 0) := by decide +kernel
theorem r_44_16 : xrow 44 16 = some (.iconst 0, 1, 0, 0, 0, 0) := by decide +kernel
theorem r_44_17 : xrow 44 17 = some (.putfield 52, 3, 15, 3, 0, 712) := by decide +kernel
theorem r_44_20 : xrow 44 20 = some (.aload_n 0, 1, 0, 0, 0, 0) := by decide +kernel
theorem r_44_21 : xrow 44 21 = some (.dup, 1, 0, 0, 0, 0) := by decide +kernel
theorem r_44_22 : xrow 44 22 = some (.getfield 55, 3, 15, 4, 0, 713) := by decide +kernel
theorem r_44_25 : xrow 44 25 = some (.iconst 1, 1, 0, 0, 0, 0) := by decide +kernel
theorem r_44_26 : xrow 44 26 = some (.iadd, 1, 0, 0, 0, 0) := by decide +kernel
theorem r_44_27 : xrow 44 27 = some (.putfield 55, 3, 15, 4, 0, 713) := by decide +kernel
theorem r_44_30 : xrow 44 30 = some (.return_, 1, 0, 0, 0, 0) := by decide +kernel
theorem r_45_0 : xrow 45 0 = some (.aload_n 0, 1, 0, 0, 0, 0) := by decide +kernel
theorem r_45_1 : xrow 45 1 = some (.iload_n 1, 1, 0, 0, 0, 0) := by decide +kernel
theorem r_45_2 : xrow 45 2 = some (.putfield 42, 3, 15, 0, 0, 709) := by decide +kernel
theorem r_45_5 : xrow 45 5 = some (.aload_n 0, 1, 0, 0, 0, 0) := by decide +kernel
theorem r_45_6 : xrow 45 6 = some (.iload_n 2, 1, 0, 0, 0, 0) := by decide +kernel
theorem r_45_7 : xrow 45 7 = some (.putfield 46, 3, 15, 1, 0, 710) := by decide +kernel
theorem r_45_10 : xrow 45 10 = some (.aload_n 0, 1, 0, 0, 0, 0) := by decide +kernel
theorem r_45_11 : xrow 45 11 = some (.iload_n 1, 1, 0, 0, 0, 0) := by decide +kernel
theorem r_45_12 : xrow 45 12 = some (.iload_n 2, 1, 0, 0, 0, 0) := by decide +kernel
theorem r_45_13 : xrow 45 13 = some (.imul, 1, 0, 0, 0, 0) := by decide +kernel
theorem r_45_14 : xrow 45 14 = some (.putfield 49, 3, 15, 2, 0, 711) := by decide +kernel
theorem r_45_17 : xrow 45 17 = some (.aload_n 0, 1, 0, 0, 0, 0) := by decide +kernel
theorem r_45_18 : xrow 45 18 = some (.iconst 0, 1, 0, 0, 0, 0) := by decide +kernel
theorem r_45_19 : xrow 45 19 = some (.putfield 52, 3, 15, 3, 0, 712) := by decide +kernel
theorem r_45_22 : xrow 45 22 = some (.aload_n 0, 1, 0, 0, 0, 0) := by decide +kernel
theorem r_45_23 : xrow 45 23 = some (.dup, 1, 0, 0, 0, 0) := by decide +kernel
theorem r_45_24 : xrow 45 24 = some (.getfield 55, 3, 15, 4, 0, 713) := by decide +kernel
theorem r_45_27 : xrow 45 27 = some (.iconst 1, 1, 0, 0, 0, 0) := by decide +kernel
theorem r_45_28 : xrow 45 28 = some (.iadd, 1, 0, 0, 0, 0) := by decide +kernel
theorem r_45_29 : xrow 45 29 = some (.putfield 55, 3, 15, 4, 0, 713) := by decide +kernel
theorem r_45_32 : xrow 45 32 = some (.aload_n 0, 1, 0, 0, 0, 0) := by decide +kernel
theorem r_45_33 : xrow 45 33 = some (.getfield 9, 3, 15, 5, 2, 699) := by decide +kernel
theorem r_45_36 : xrow 45 36 = some (.iconst 0, 1, 0, 0, 0, 0) := by decide +kernel
theorem r_45_37 : xrow 45 37 = some (.invokestatic 58, 3, 281, 0, 0, 714) := by decide +kernel
theorem r_45_40 : xrow 45 40 = some (.aload_n 0, 1, 0, 0, 0, 0) := by decide +kernel
theorem r_45_41 : xrow 45 41 = some (.getfield 15, 3, 15, 6, 2, 700) := by decide +kernel
theorem r_45_44 : xrow 45 44 = some (.iconst 0, 1, 0, 0, 0, 0) := by decide +kernel
theorem r_45_45 : xrow 45 45 = some (.invokestatic 58, 3, 281, 0, 0, 714) := by decide +kernel
theorem r_45_48 : xrow 45 48 = some (.aload_n 0, 1, 0, 0, 0, 0) := by decide +kernel
theorem r_45_49 : xrow 45 49 = some (.getfield 18, 3, 15, 7, 2, 701) := by decide +kernel
theorem r_45_52 : xrow 45 52 = some (.iconst (-1), 1, 0, 0, 0, 0) := by decide +kernel
theorem r_45_53 : xrow 45 53 = some (.invokestatic 58, 3, 281, 0, 0, 714) := by decide +kernel
theorem r_45_56 : xrow 45 56 = some (.aload_n 0, 1, 0, 0, 0, 0) := by decide +kernel
theorem r_45_57 : xrow 45 57 = some (.getfield 21, 3, 15, 8, 2, 702) := by decide +kernel
theorem r_45_60 : xrow 45 60 = some (.iconst 0, 1, 0, 0, 0, 0) := by decide +kernel
theorem r_45_61 : xrow 45 61 = some (.invokestatic 58, 3, 281, 0, 0, 714) := by decide +kernel
theorem r_45_64 : xrow 45 64 = some (.iconst 0, 1, 0, 0, 0, 0) := by decide +kernel
theorem r_45_65 : xrow 45 65 = some (.istore_n 3, 1, 0, 0, 0, 0) := by decide +kernel
theorem r_45_66 : xrow 45 66 = some (.iload_n 3, 1, 0, 0, 0, 0) := by decide +kernel
theorem r_45_67 : xrow 45 67 = some (.aload_n 0, 1, 0, 0, 0, 0) := by decide +kernel
theorem r_45_68 : xrow 45 68 = some (.getfield 46, 3, 15, 1, 0, 710) := by decide +kernel
theorem r_45_71 : xrow 45 71 = some (.if_icmp .ge 34, 3, 105, 0, 0, 0) := by decide +kernel
theorem r_45_74 : xrow 45 74 = some (.iconst 0, 1, 0, 0, 0, 0) := by decide +kernel
theorem r_45_75 : xrow 45 75 = some (.istore 4, 2, 0, 0, 0, 0) := by decide +kernel
theorem r_45_77 : xrow 45 77 = some (.iload 4, 2, 0, 0, 0, 0) := by decide +kernel
theorem r_45_79 : xrow 45 79 = some (.aload_n 0, 1, 0, 0, 0, 0) := by decide +kernel
theorem r_45_80 : xrow 45 80 = some (.getfield 42, 3, 15, 0, 0, 709) := by decide +kernel
theorem r_45_83 : xrow 45 83 = some (.if_icmp .ge 16, 3, 99, 0, 0, 0) := by decide +kernel
theorem r_45_86 : xrow 45 86 = some (.aload_n 0, 1, 0, 0, 0, 0) := by decide +kernel
theorem r_45_87 : xrow 45 87 = some (.iload 4, 2, 0, 0, 0, 0) := by decide +kernel
theorem r_45_89 : xrow 45 89 = some (.iload_n 3, 1, 0, 0, 0, 0) := by decide +kernel
theorem r_45_90 : xrow 45 90 = some (.invokevirtual 64, 3, 46, 0, 0, 715) := by decide +kernel
theorem r_45_93 : xrow 45 93 = some (.iinc 4 1, 3, 0, 0, 0, 0) := by decide +kernel
theorem r_45_96 : xrow 45 96 = some (.goto (-19), 3, 77, 0, 0, 0) := by decide +kernel
theorem r_45_99 : xrow 45 99 = some (.iinc 3 1, 3, 0, 0, 0, 0) := by decide +kernel
theorem r_45_102 : xrow 45 102 = some (.goto (-36), 3, 66, 0, 0, 0) := by decide +kernel
theorem r_45_105 : xrow 45 105 = some (.return_, 1, 0, 0, 0, 0) := by decide +kernel
theorem r_46_0 : xrow 46 0 = some (.iload_n 2, 1, 0, 0, 0, 0) := by decide +kernel
theorem r_46_1 : xrow 46 1 = some (.aload_n 0, 1, 0, 0, 0, 0) := by decide +kernel
theorem r_46_2 : xrow 46 2 = some (.getfield 42, 3, 15, 0, 0, 709) := by decide +kernel
theorem r_46_5 : xrow 46 5 = some (.imul, 1, 0, 0, 0, 0) := by decide +kernel
theorem r_46_6 : xrow 46 6 = some (.iload_n 1, 1, 0, 0, 0, 0) := by decide +kernel
theorem r_46_7 : xrow 46 7 = some (.iadd, 1, 0, 0, 0, 0) := by decide +kernel
theorem r_46_8 : xrow 46 8 = some (.istore_n 3, 1, 0, 0, 0, 0) := by decide +kernel
theorem r_46_9 : xrow 46 9 = some (.aload_n 0, 1, 0, 0, 0, 0) := by decide +kernel
theorem r_46_10 : xrow 46 10 = some (.getfield 24, 3, 15, 9, 2, 703) := by decide +kernel
theorem r_46_13 : xrow 46 13 = some (.iload_n 3, 1, 0, 0, 0, 0) := by decide +kernel
theorem r_46_14 : xrow 46 14 = some (.iconst 4, 1, 0, 0, 0, 0) := by decide +kernel
theorem r_46_15 : xrow 46 15 = some (.imul, 1, 0, 0, 0, 0) := by decide +kernel
theorem r_46_16 : xrow 46 16 = some (.iload_n 1, 1, 0, 0, 0, 0) := by decide +kernel
theorem r_46_17 : xrow 46 17 = some (.iconst 1, 1, 0, 0, 0, 0) := by decide +kernel
theorem r_46_18 : xrow 46 18 = some (.iadd, 1, 0, 0, 0, 0) := by decide +kernel
theorem r_46_19 : xrow 46 19 = some (.aload_n 0, 1, 0, 0, 0, 0) := by decide +kernel
theorem r_46_20 : xrow 46 20 = some (.getfield 42, 3, 15, 0, 0, 709) := by decide +kernel
theorem r_46_23 : xrow 46 23 = some (.if_icmp .ge 9, 3, 32, 0, 0, 0) := by decide +kernel
theorem r_46_26 : xrow 46 26 = some (.iload_n 3, 1, 0, 0, 0, 0) := by decide +kernel
theorem r_46_27 : xrow 46 27 = some (.iconst 1, 1, 0, 0, 0, 0) := by decide +kernel
theorem r_46_28 : xrow 46 28 = some (.iadd, 1, 0, 0, 0, 0) := by decide +kernel
theorem r_46_29 : xrow 46 29 = some (.goto 4, 3, 33, 0, 0, 0) := by decide +kernel
theorem r_46_32 : xrow 46 32 = some (.iconst (-1), 1, 0, 0, 0, 0) := by decide +kernel
theorem r_46_33 : xrow 46 33 = some (.iastore, 1, 0, 0, 0, 0) := by decide +kernel
theorem r_46_34 : xrow 46 34 = some (.aload_n 0, 1, 0, 0, 0, 0) := by decide +kernel
theorem r_46_35 : xrow 46 35 = some (.getfield 24, 3, 15, 9, 2, 703) := by decide +kernel
theorem r_46_38 : xrow 46 38 = some (.iload_n 3, 1, 0, 0, 0, 0) := by decide +kernel
theorem r_46_39 : xrow 46 39 = some (.iconst 4, 1, 0, 0, 0, 0) := by decide +kernel
theorem r_46_40 : xrow 46 40 = some (.imul, 1, 0, 0, 0, 0) := by decide +kernel
theorem r_46_41 : xrow 46 41 = some (.iconst 1, 1, 0, 0, 0, 0) := by decide +kernel
theorem r_46_42 : xrow 46 42 = some (.iadd, 1, 0, 0, 0, 0) := by decide +kernel
theorem r_46_43 : xrow 46 43 = some (.iload_n 1, 1, 0, 0, 0, 0) := by decide +kernel
theorem r_46_44 : xrow 46 44 = some (.ifCond .le 9, 3, 53, 0, 0, 0) := by decide +kernel
theorem r_46_47 : xrow 46 47 = some (.iload_n 3, 1, 0, 0, 0, 0) := by decide +kernel
theorem r_46_48 : xrow 46 48 = some (.iconst 1, 1, 0, 0, 0, 0) := by decide +kernel
theorem r_46_49 : xrow 46 49 = some (.isub, 1, 0, 0, 0, 0) := by decide +kernel
theorem r_46_50 : xrow 46 50 = some (.goto 4, 3, 54, 0, 0, 0) := by decide +kernel
theorem r_46_53 : xrow 46 53 = some (.iconst (-1), 1, 0, 0, 0, 0) := by decide +kernel
theorem r_46_54 : xrow 46 54 = some (.iastore, 1, 0, 0, 0, 0) := by decide +kernel
theorem r_46_55 : xrow 46 55 = some (.aload_n 0, 1, 0, 0, 0, 0) := by decide +kernel
theorem r_46_56 : xrow 46 56 = some (.getfield 24, 3, 15, 9, 2, 703) := by decide +kernel
theorem r_46_59 : xrow 46 59 = some (.iload_n 3, 1, 0, 0, 0, 0) := by decide +kernel
theorem r_46_60 : xrow 46 60 = some (.iconst 4, 1, 0, 0, 0, 0) := by decide +kernel
theorem r_46_61 : xrow 46 61 = some (.imul, 1, 0, 0, 0, 0) := by decide +kernel
theorem r_46_62 : xrow 46 62 = some (.iconst 2, 1, 0, 0, 0, 0) := by decide +kernel
theorem r_46_63 : xrow 46 63 = some (.iadd, 1, 0, 0, 0, 0) := by decide +kernel
theorem r_46_64 : xrow 46 64 = some (.iload_n 2, 1, 0, 0, 0, 0) := by decide +kernel
theorem r_46_65 : xrow 46 65 = some (.ifCond .le 12, 3, 77, 0, 0, 0) := by decide +kernel
theorem r_46_68 : xrow 46 68 = some (.iload_n 3, 1, 0, 0, 0, 0) := by decide +kernel
theorem r_46_69 : xrow 46 69 = some (.aload_n 0, 1, 0, 0, 0, 0) := by decide +kernel
theorem r_46_70 : xrow 46 70 = some (.getfield 42, 3, 15, 0, 0, 709) := by decide +kernel
theorem r_46_73 : xrow 46 73 = some (.isub, 1, 0, 0, 0, 0) := by decide +kernel
theorem r_46_74 : xrow 46 74 = some (.goto 4, 3, 78, 0, 0, 0) := by decide +kernel
theorem r_46_77 : xrow 46 77 = some (.iconst (-1), 1, 0, 0, 0, 0) := by decide +kernel
theorem r_46_78 : xrow 46 78 = some (.iastore, 1, 0, 0, 0, 0) := by decide +kernel
theorem r_46_79 : xrow 46 79 = some (.aload_n 0, 1, 0, 0, 0, 0) := by decide +kernel
theorem r_46_80 : xrow 46 80 = some (.getfield 24, 3, 15, 9, 2, 703) := by decide +kernel
theorem r_46_83 : xrow 46 83 = some (.iload_n 3, 1, 0, 0, 0, 0) := by decide +kernel
theorem r_46_84 : xrow 46 84 = some (.iconst 4, 1, 0, 0, 0, 0) := by decide +kernel
theorem r_46_85 : xrow 46 85 = some (.imul, 1, 0, 0, 0, 0) := by decide +kernel
theorem r_46_86 : xrow 46 86 = some (.iconst 3, 1, 0, 0, 0, 0) := by decide +kernel
theorem r_46_87 : xrow 46 87 = some (.iadd, 1, 0, 0, 0, 0) := by decide +kernel
theorem r_46_88 : xrow 46 88 = some (.iload_n 2, 1, 0, 0, 0, 0) := by decide +kernel
theorem r_46_89 : xrow 46 89 = some (.iconst 1, 1, 0, 0, 0, 0) := by decide +kernel
theorem r_46_90 : xrow 46 90 = some (.iadd, 1, 0, 0, 0, 0) := by decide +kernel
theorem r_46_91 : xrow 46 91 = some (.aload_n 0, 1, 0, 0, 0, 0) := by decide +kernel
theorem r_46_92 : xrow 46 92 = some (.getfield 46, 3, 15, 1, 0, 710) := by decide +kernel
theorem r_46_95 : xrow 46 95 = some (.if_icmp .ge 12, 3, 107, 0, 0, 0) := by decide +kernel
theorem r_46_98 : xrow 46 98 = some (.iload_n 3, 1, 0, 0, 0, 0) := by decide +kernel
theorem r_46_99 : xrow 46 99 = some (.aload_n 0, 1, 0, 0, 0, 0) := by decide +kernel
theorem r_46_100 : xrow 46 100 = some (.getfield 42, 3, 15, 0, 0, 709) := by decide +kernel
theorem r_46_103 : xrow 46 103 = some (.iadd, 1, 0, 0, 0, 0) := by decide +kernel
theorem r_46_104 : xrow 46 104 = some (.goto 4, 3, 108, 0, 0, 0) := by decide +kernel
theorem r_46_107 : xrow 46 107 = some (.iconst (-1), 1, 0, 0, 0, 0) := by decide +kernel
theorem r_46_108 : xrow 46 108 = some (.iastore, 1, 0, 0, 0, 0) := by decide +kernel
theorem r_46_109 : xrow 46 109 = some (.return_, 1, 0, 0, 0, 0) := by decide +kernel
theorem r_47_0 : xrow 47 0 = some (.iload_n 1, 1, 0, 0, 0, 0) := by decide +kernel
theorem r_47_1 : xrow 47 1 = some (.ifCond .lt 15, 3, 16, 0, 0, 0) := by decide +kernel
theorem r_47_4 : xrow 47 4 = some (.iload_n 1, 1, 0, 0, 0, 0) := by decide +kernel
theorem r_47_5 : xrow 47 5 = some (.aload_n 0, 1, 0, 0, 0, 0) := by decide +kernel
theorem r_47_6 : xrow 47 6 = some (.getfield 49, 3, 15, 2, 0, 711) := by decide +kernel
theorem r_47_9 : xrow 47 9 = some (.if_icmp .ge 7, 3, 16, 0, 0, 0) := by decide +kernel
theorem r_47_12 : xrow 47 12 = some (.iconst 1, 1, 0, 0, 0, 0) := by decide +kernel
theorem r_47_13 : xrow 47 13 = some (.goto 4, 3, 17, 0, 0, 0) := by decide +kernel
theorem r_47_16 : xrow 47 16 = some (.iconst 0, 1, 0, 0, 0, 0) := by decide +kernel
theorem r_47_17 : xrow 47 17 = some (.ireturn, 1, 1, 0, 0, 0) := by decide +kernel
theorem r_48_0 : xrow 48 0 = some (.iload_n 1, 1, 0, 0, 0, 0) := by decide +kernel
theorem r_48_1 : xrow 48 1 = some (.ifCond .lt 15, 3, 16, 0, 0, 0) := by decide +kernel
theorem r_48_4 : xrow 48 4 = some (.iload_n 1, 1, 0, 0, 0, 0) := by decide +kernel
theorem r_48_5 : xrow 48 5 = some (.aload_n 0, 1, 0, 0, 0, 0) := by decide +kernel
theorem r_48_6 : xrow 48 6 = some (.getfield 52, 3, 15, 3, 0, 712) := by decide +kernel
theorem r_48_9 : xrow 48 9 = some (.if_icmp .ge 7, 3, 16, 0, 0, 0) := by decide +kernel
theorem r_48_12 : xrow 48 12 = some (.iconst 1, 1, 0, 0, 0, 0) := by decide +kernel
theorem r_48_13 : xrow 48 13 = some (.goto 4, 3, 17, 0, 0, 0) := by decide +kernel
theorem r_48_16 : xrow 48 16 = some (.iconst 0, 1, 0, 0, 0, 0) := by decide +kernel
theorem r_48_17 : xrow 48 17 = some (.ireturn, 1, 1, 0, 0, 0) := by decide +kernel
theorem r_49_0 : xrow 49 0 = some (.aload_n 0, 1, 0, 0, 0, 0) := by decide +kernel
theorem r_49_1 : xrow 49 1 = some (.getfield 52, 3, 15, 3, 0, 712) := by decide +kernel
theorem r_49_4 : xrow 49 4 = some (.istore_n 2, 1, 0, 0, 0, 0) := by decide +kernel
theorem r_49_5 : xrow 49 5 = some (.aload_n 0, 1, 0, 0, 0, 0) := by decide +kernel
theorem r_49_6 : xrow 49 6 = some (.dup, 1, 0, 0, 0, 0) := by decide +kernel
theorem r_49_7 : xrow 49 7 = some (.getfield 52, 3, 15, 3, 0, 712) := by decide +kernel
theorem r_49_10 : xrow 49 10 = some (.iconst 1, 1, 0, 0, 0, 0) := by decide +kernel
theorem r_49_11 : xrow 49 11 = some (.iadd, 1, 0, 0, 0, 0) := by decide +kernel
theorem r_49_12 : xrow 49 12 = some (.putfield 52, 3, 15, 3, 0, 712) := by decide +kernel
theorem r_49_15 : xrow 49 15 = some (.aload_n 0, 1, 0, 0, 0, 0) := by decide +kernel
theorem r_49_16 : xrow 49 16 = some (.getfield 18, 3, 15, 7, 2, 701) := by decide +kernel
theorem r_49_19 : xrow 49 19 = some (.iload_n 1, 1, 0, 0, 0, 0) := by decide +kernel
theorem r_49_20 : xrow 49 20 = some (.iload_n 2, 1, 0, 0, 0, 0) := by decide +kernel
theorem r_49_21 : xrow 49 21 = some (.iastore, 1, 0, 0, 0, 0) := by decide +kernel
theorem r_49_22 : xrow 49 22 = some (.aload_n 0, 1, 0, 0, 0, 0) := by decide +kernel
theorem r_49_23 : xrow 49 23 = some (.getfield 27, 3, 15, 10, 2, 704) := by decide +kernel
theorem r_49_26 : xrow 49 26 = some (.iload_n 2, 1, 0, 0, 0, 0) := by decide +kernel
theorem r_49_27 : xrow 49 27 = some (.iconst (-1), 1, 0, 0, 0, 0) := by decide +kernel
theorem r_49_28 : xrow 49 28 = some (.iastore, 1, 0, 0, 0, 0) := by decide +kernel
theorem r_49_29 : xrow 49 29 = some (.iconst 0, 1, 0, 0, 0, 0) := by decide +kernel
theorem r_49_30 : xrow 49 30 = some (.istore_n 3, 1, 0, 0, 0, 0) := by decide +kernel
theorem r_49_31 : xrow 49 31 = some (.iload_n 3, 1, 0, 0, 0, 0) := by decide +kernel
theorem r_49_32 : xrow 49 32 = some (.bipush 8, 2, 0, 0, 0, 0) := by decide +kernel
theorem r_49_34 : xrow 49 34 = some (.if_icmp .ge 35, 3, 69, 0, 0, 0) := by decide +kernel
theorem r_49_37 : xrow 49 37 = some (.aload_n 0, 1, 0, 0, 0, 0) := by decide +kernel
theorem r_49_38 : xrow 49 38 = some (.getfield 30, 3, 15, 11, 2, 705) := by decide +kernel
theorem r_49_41 : xrow 49 41 = some (.iload_n 2, 1, 0, 0, 0, 0) := by decide +kernel
theorem r_49_42 : xrow 49 42 = some (.bipush 8, 2, 0, 0, 0, 0) := by decide +kernel
theorem r_49_44 : xrow 49 44 = some (.imul, 1, 0, 0, 0, 0) := by decide +kernel
theorem r_49_45 : xrow 49 45 = some (.iload_n 3, 1, 0, 0, 0, 0) := by decide +kernel
theorem r_49_46 : xrow 49 46 = some (.iadd, 1, 0, 0, 0, 0) := by decide +kernel
theorem r_49_47 : xrow 49 47 = some (.iload_n 3, 1, 0, 0, 0, 0) := by decide +kernel
theorem r_49_48 : xrow 49 48 = some (.aload_n 0, 1, 0, 0, 0, 0) := by decide +kernel
theorem r_49_49 : xrow 49 49 = some (.getfield 15, 3, 15, 6, 2, 700) := by decide +kernel
theorem r_49_52 : xrow 49 52 = some (.iload_n 1, 1, 0, 0, 0, 0) := by decide +kernel
theorem r_49_53 : xrow 49 53 = some (.iaload, 1, 0, 0, 0, 0) := by decide +kernel
theorem r_49_54 : xrow 49 54 = some (.if_icmp .ne 7, 3, 61, 0, 0, 0) := by decide +kernel
theorem r_49_57 : xrow 49 57 = some (.iconst 1, 1, 0, 0, 0, 0) := by decide +kernel
theorem r_49_58 : xrow 49 58 = some (.goto 4, 3, 62, 0, 0, 0) := by decide +kernel
theorem r_49_61 : xrow 49 61 = some (.iconst 0, 1, 0, 0, 0, 0) := by decide +kernel
theorem r_49_62 : xrow 49 62 = some (.iastore, 1, 0, 0, 0, 0) := by decide +kernel
theorem r_49_63 : xrow 49 63 = some (.iinc 3 1, 3, 0, 0, 0, 0) := by decide +kernel
theorem r_49_66 : xrow 49 66 = some (.goto (-35), 3, 31, 0, 0, 0) := by decide +kernel
theorem r_49_69 : xrow 49 69 = some (.iconst 3, 1, 0, 0, 0, 0) := by decide +kernel
theorem r_49_70 : xrow 49 70 = some (.iconst 2, 1, 0, 0, 0, 0) := by decide +kernel
theorem r_49_71 : xrow 49 71 = some (.iload_n 2, 1, 0, 0, 0, 0) := by decide +kernel
theorem r_49_72 : xrow 49 72 = some (.imul, 1, 0, 0, 0, 0) := by decide +kernel
theorem r_49_73 : xrow 49 73 = some (.ishl, 1, 0, 0, 0, 0) := by decide +kernel
theorem r_49_74 : xrow 49 74 = some (.istore_n 3, 1, 0, 0, 0, 0) := by decide +kernel
theorem r_49_75 : xrow 49 75 = some (.aload_n 0, 1, 0, 0, 0, 0) := by decide +kernel
theorem r_49_76 : xrow 49 76 = some (.getfield 21, 3, 15, 8, 2, 702) := by decide +kernel
theorem r_49_79 : xrow 49 79 = some (.iload_n 1, 1, 0, 0, 0, 0) := by decide +kernel
theorem r_49_80 : xrow 49 80 = some (.dup2, 1, 0, 0, 0, 0) := by decide +kernel
theorem r_49_81 : xrow 49 81 = some (.iaload, 1, 0, 0, 0, 0) := by decide +kernel
theorem r_49_82 : xrow 49 82 = some (.iload_n 3, 1, 0, 0, 0, 0) := by decide +kernel
theorem r_49_83 : xrow 49 83 = some (.ior, 1, 0, 0, 0, 0) := by decide +kernel
theorem r_49_84 : xrow 49 84 = some (.iastore, 1, 0, 0, 0, 0) := by decide +kernel
theorem r_49_85 : xrow 49 85 = some (.iconst 0, 1, 0, 0, 0, 0) := by decide +kernel
theorem r_49_86 : xrow 49 86 = some (.istore 4, 2, 0, 0, 0, 0) := by decide +kernel
theorem r_49_88 : xrow 49 88 = some (.iload 4, 2, 0, 0, 0, 0) := by decide +kernel
theorem r_49_90 : xrow 49 90 = some (.iconst 4, 1, 0, 0, 0, 0) := by decide +kernel
theorem r_49_91 : xrow 49 91 = some (.if_icmp .ge 38, 3, 129, 0, 0, 0) := by decide +kernel
theorem r_49_94 : xrow 49 94 = some (.aload_n 0, 1, 0, 0, 0, 0) := by decide +kernel
theorem r_49_95 : xrow 49 95 = some (.getfield 24, 3, 15, 9, 2, 703) := by decide +kernel
theorem r_49_98 : xrow 49 98 = some (.iload_n 1, 1, 0, 0, 0, 0) := by decide +kernel
theorem r_49_99 : xrow 49 99 = some (.iconst 4, 1, 0, 0, 0, 0) := by decide +kernel
theorem r_49_100 : xrow 49 100 = some (.imul, 1, 0, 0, 0, 0) := by decide +kernel
theorem r_49_101 : xrow 49 101 = some (.iload 4, 2, 0, 0, 0, 0) := by decide +kernel
theorem r_49_103 : xrow 49 103 = some (.iadd, 1, 0, 0, 0, 0) := by decide +kernel
theorem r_49_104 : xrow 49 104 = some (.iaload, 1, 0, 0, 0, 0) := by decide +kernel
theorem r_49_105 : xrow 49 105 = some (.istore 5, 2, 0, 0, 0, 0) := by decide +kernel
theorem r_49_107 : xrow 49 107 = some (.iload 5, 2, 0, 0, 0, 0) := by decide +kernel
theorem r_49_109 : xrow 49 109 = some (.ifCond .lt 14, 3, 123, 0, 0, 0) := by decide +kernel
theorem r_49_112 : xrow 49 112 = some (.aload_n 0, 1, 0, 0, 0, 0) := by decide +kernel
theorem r_49_113 : xrow 49 113 = some (.getfield 21, 3, 15, 8, 2, 702) := by decide +kernel
theorem r_49_116 : xrow 49 116 = some (.iload 5, 2, 0, 0, 0, 0) := by decide +kernel
theorem r_49_118 : xrow 49 118 = some (.dup2, 1, 0, 0, 0, 0) := by decide +kernel
theorem r_49_119 : xrow 49 119 = some (.iaload, 1, 0, 0, 0, 0) := by decide +kernel
theorem r_49_120 : xrow 49 120 = some (.iload_n 3, 1, 0, 0, 0, 0) := by decide +kernel
theorem r_49_121 : xrow 49 121 = some (.ior, 1, 0, 0, 0, 0) := by decide +kernel
theorem r_49_122 : xrow 49 122 = some (.iastore, 1, 0, 0, 0, 0) := by decide +kernel
theorem r_49_123 : xrow 49 123 = some (.iinc 4 1, 3, 0, 0, 0, 0) := by decide +kernel
theorem r_49_126 : xrow 49 126 = some (.goto (-38), 3, 88, 0, 0, 0) := by decide +kernel
theorem r_49_129 : xrow 49 129 = some (.aload_n 0, 1, 0, 0, 0, 0) := by decide +kernel
theorem r_49_130 : xrow 49 130 = some (.iload_n 2, 1, 0, 0, 0, 0) := by decide +kernel
theorem r_49_131 : xrow 49 131 = some (.invokevirtual 68, 3, 53, 0, 0, 716) := by decide +kernel
theorem r_49_134 : xrow 49 134 = some (.iload_n 2, 1, 0, 0, 0, 0) := by decide +kernel
theorem r_49_135 : xrow 49 135 = some (.ireturn, 1, 0, 0, 0, 0) := by decide +kernel
theorem r_50_0 : xrow 50 0 = some (.aload_n 0, 1, 0, 0, 0, 0) := by decide +kernel
theorem r_50_1 : xrow 50 1 = some (.getfield 30, 3, 15, 11, 2, 705) := by decide +kernel
theorem r_50_4 : xrow 50 4 = some (.iload_n 1, 1, 0, 0, 0, 0) := by decide +kernel
theorem r_50_5 : xrow 50 5 = some (.bipush 8, 2, 0, 0, 0, 0) := by decide +kernel
theorem r_50_7 : xrow 50 7 = some (.imul, 1, 0, 0, 0, 0) := by decide +kernel
theorem r_50_8 : xrow 50 8 = some (.iload_n 2, 1, 0, 0, 0, 0) := by decide +kernel
theorem r_50_9 : xrow 50 9 = some (.iadd, 1, 0, 0, 0, 0) := by decide +kernel
theorem r_50_10 : xrow 50 10 = some (.iaload, 1, 0, 0, 0, 0) := by decide +kernel
theorem r_50_11 : xrow 50 11 = some (.ireturn, 1, 0, 0, 0, 0) := by decide +kernel
theorem r_51_0 : xrow 51 0 = some (.aload_n 0, 1, 0, 0, 0, 0) := by decide +kernel
theorem r_51_1 : xrow 51 1 = some (.getfield 36, 3, 15, 13, 2, 707) := by decide +kernel
theorem r_51_4 : xrow 51 4 = some (.iload_n 1, 1, 0, 0, 0, 0) := by decide +kernel
theorem r_51_5 : xrow 51 5 = some (.iaload, 1, 0, 0, 0, 0) := by decide +kernel
theorem r_51_6 : xrow 51 6 = some (.aload_n 0, 1, 0, 0, 0, 0) := by decide +kernel
theorem r_51_7 : xrow 51 7 = some (.iload_n 1, 1, 0, 0, 0, 0) := by decide +kernel
theorem r_51_8 : xrow 51 8 = some (.iload_n 2, 1, 0, 0, 0, 0) := by decide +kernel
theorem r_51_9 : xrow 51 9 = some (.invokevirtual 72, 3, 50, 0, 0, 717) := by decide +kernel
theorem r_51_12 : xrow 51 12 = some (.ifCond .le 7, 3, 19, 0, 0, 0) := by decide +kernel
theorem r_51_15 : xrow 51 15 = some (.iconst 1, 1, 0, 0, 0, 0) := by decide +kernel
theorem r_51_16 : xrow 51 16 = some (.goto 4, 3, 20, 0, 0, 0) := by decide +kernel
theorem r_51_19 : xrow 51 19 = some (.iconst 0, 1, 0, 0, 0, 0) := by decide +kernel
theorem r_51_20 : xrow 51 20 = some (.isub, 1, 0, 0, 0, 0) := by decide +kernel
theorem r_51_21 : xrow 51 21 = some (.istore 4, 2, 0, 0, 0, 0) := by decide +kernel
theorem r_51_23 : xrow 51 23 = some (.iload_n 3, 1, 0, 0, 0, 0) := by decide +kernel
theorem r_51_24 : xrow 51 24 = some (.ifCond .le 15, 3, 39, 0, 0, 0) := by decide +kernel
theorem r_51_27 : xrow 51 27 = some (.iload 4, 2, 0, 0, 0, 0) := by decide +kernel
theorem r_51_29 : xrow 51 29 = some (.iconst 3, 1, 0, 0, 0, 0) := by decide +kernel
theorem r_51_30 : xrow 51 30 = some (.if_icmp .ge 7, 3, 37, 0, 0, 0) := by decide +kernel
theorem r_51_33 : xrow 51 33 = some (.iconst 1, 1, 0, 0, 0, 0) := by decide +kernel
theorem r_51_34 : xrow 51 34 = some (.goto 4, 3, 38, 0, 0, 0) := by decide +kernel
theorem r_51_37 : xrow 51 37 = some (.iconst 0, 1, 0, 0, 0, 0) := by decide +kernel
theorem r_51_38 : xrow 51 38 = some (.ireturn, 1, 1, 0, 0, 0) := by decide +kernel
theorem r_51_39 : xrow 51 39 = some (.iload 4, 2, 0, 0, 0, 0) := by decide +kernel
theorem r_51_41 : xrow 51 41 = some (.ifCond .le 17, 3, 58, 0, 0, 0) := by decide +kernel
theorem r_51_44 : xrow 51 44 = some (.aload_n 0, 1, 0, 0, 0, 0) := by decide +kernel
theorem r_51_45 : xrow 51 45 = some (.getfield 27, 3, 15, 10, 2, 704) := by decide +kernel
theorem r_51_48 : xrow 51 48 = some (.iload_n 1, 1, 0, 0, 0, 0) := by decide +kernel
theorem r_51_49 : xrow 51 49 = some (.iaload, 1, 0, 0, 0, 0) := by decide +kernel
theorem r_51_50 : xrow 51 50 = some (.iload_n 2, 1, 0, 0, 0, 0) := by decide +kernel
theorem r_51_51 : xrow 51 51 = some (.if_icmp .eq 7, 3, 58, 0, 0, 0) := by decide +kernel
theorem r_51_54 : xrow 51 54 = some (.iconst 1, 1, 0, 0, 0, 0) := by decide +kernel
theorem r_51_55 : xrow 51 55 = some (.goto 4, 3, 59, 0, 0, 0) := by decide +kernel
theorem r_51_58 : xrow 51 58 = some (.iconst 0, 1, 0, 0, 0, 0) := by decide +kernel
theorem r_51_59 : xrow 51 59 = some (.ireturn, 1, 1, 0, 0, 0) := by decide +kernel
theorem r_52_0 : xrow 52 0 = some (.aload_n 0, 1, 0, 0, 0, 0) := by decide +kernel
theorem r_52_1 : xrow 52 1 = some (.getfield 30, 3, 15, 11, 2, 705) := by decide +kernel
theorem r_52_4 : xrow 52 4 = some (.iload_n 1, 1, 0, 0, 0, 0) := by decide +kernel
theorem r_52_5 : xrow 52 5 = some (.bipush 8, 2, 0, 0, 0, 0) := by decide +kernel
theorem r_52_7 : xrow 52 7 = some (.imul, 1, 0, 0, 0, 0) := by decide +kernel
theorem r_52_8 : xrow 52 8 = some (.iload_n 2, 1, 0, 0, 0, 0) := by decide +kernel
theorem r_52_9 : xrow 52 9 = some (.iadd, 1, 0, 0, 0, 0) := by decide +kernel
theorem r_52_10 : xrow 52 10 = some (.iload_n 3, 1, 0, 0, 0, 0) := by decide +kernel
theorem r_52_11 : xrow 52 11 = some (.iastore, 1, 0, 0, 0, 0) := by decide +kernel
theorem r_52_12 : xrow 52 12 = some (.aload_n 0, 1, 0, 0, 0, 0) := by decide +kernel
theorem r_52_13 : xrow 52 13 = some (.iload_n 1, 1, 0, 0, 0, 0) := by decide +kernel
theorem r_52_14 : xrow 52 14 = some (.invokevirtual 68, 3, 53, 0, 0, 716) := by decide +kernel
theorem r_52_17 : xrow 52 17 = some (.return_, 1, 0, 0, 0, 0) := by decide +kernel
theorem r_53_0 : xrow 53 0 = some (.iconst 0, 1, 0, 0, 0, 0) := by decide +kernel
theorem r_53_1 : xrow 53 1 = some (.istore_n 2, 1, 0, 0, 0, 0) := by decide +kernel
theorem r_53_2 : xrow 53 2 = some (.iconst 0, 1, 0, 0, 0, 0) := by decide +kernel
theorem r_53_3 : xrow 53 3 = some (.istore_n 3, 1, 0, 0, 0, 0) := by decide +kernel
theorem r_53_4 : xrow 53 4 = some (.iconst 0, 1, 0, 0, 0, 0) := by decide +kernel
theorem r_53_5 : xrow 53 5 = some (.istore 4, 2, 0, 0, 0, 0) := by decide +kernel
theorem r_53_7 : xrow 53 7 = some (.iload 4, 2, 0, 0, 0, 0) := by decide +kernel
theorem r_53_9 : xrow 53 9 = some (.bipush 8, 2, 0, 0, 0, 0) := by decide +kernel
theorem r_53_11 : xrow 53 11 = some (.if_icmp .ge 48, 3, 59, 0, 0, 0) := by decide +kernel
theorem r_53_14 : xrow 53 14 = some (.aload_n 0, 1, 0, 0, 0, 0) := by decide +kernel
theorem r_53_15 : xrow 53 15 = some (.iload_n 1, 1, 0, 0, 0, 0) := by decide +kernel
theorem r_53_16 : xrow 53 16 = some (.iload 4, 2, 0, 0, 0, 0) := by decide +kernel
theorem r_53_18 : xrow 53 18 = some (.invokevirtual 72, 3, 50, 0, 0, 717) := by decide +kernel
theorem r_53_21 : xrow 53 21 = some (.istore 5, 2, 0, 0, 0, 0) := by decide +kernel
theorem r_53_23 : xrow 53 23 = some (.iload 5, 2, 0, 0, 0, 0) := by decide +kernel
theorem r_53_25 : xrow 53 25 = some (.ifCond .le 28, 3, 53, 0, 0, 0) := by decide +kernel
theorem r_53_28 : xrow 53 28 = some (.iload_n 2, 1, 0, 0, 0, 0) := by decide +kernel
theorem r_53_29 : xrow 53 29 = some (.iconst 3, 1, 0, 0, 0, 0) := by decide +kernel
theorem r_53_30 : xrow 53 30 = some (.if_icmp .ge 23, 3, 53, 0, 0, 0) := by decide +kernel
theorem r_53_33 : xrow 53 33 = some (.aload_n 0, 1, 0, 0, 0, 0) := by decide +kernel
theorem r_53_34 : xrow 53 34 = some (.getfield 33, 3, 15, 12, 2, 706) := by decide +kernel
theorem r_53_37 : xrow 53 37 = some (.iload_n 1, 1, 0, 0, 0, 0) := by decide +kernel
theorem r_53_38 : xrow 53 38 = some (.iconst 3, 1, 0, 0, 0, 0) := by decide +kernel
theorem r_53_39 : xrow 53 39 = some (.imul, 1, 0, 0, 0, 0) := by decide +kernel
theorem r_53_40 : xrow 53 40 = some (.iload_n 2, 1, 0, 0, 0, 0) := by decide +kernel
theorem r_53_41 : xrow 53 41 = some (.iadd, 1, 0, 0, 0, 0) := by decide +kernel
theorem r_53_42 : xrow 53 42 = some (.iload 4, 2, 0, 0, 0, 0) := by decide +kernel
theorem r_53_44 : xrow 53 44 = some (.iastore, 1, 0, 0, 0, 0) := by decide +kernel
theorem r_53_45 : xrow 53 45 = some (.iinc 2 1, 3, 0, 0, 0, 0) := by decide +kernel
theorem r_53_48 : xrow 53 48 = some (.iload_n 3, 1, 0, 0, 0, 0) := by decide +kernel
theorem r_53_49 : xrow 53 49 = some (.iload 5, 2, 0, 0, 0, 0) := by decide +kernel
theorem r_53_51 : xrow 53 51 = some (.iadd, 1, 0, 0, 0, 0) := by decide +kernel
theorem r_53_52 : xrow 53 52 = some (.istore_n 3, 1, 0, 0, 0, 0) := by decide +kernel
theorem r_53_53 : xrow 53 53 = some (.iinc 4 1, 3, 0, 0, 0, 0) := by decide +kernel
theorem r_53_56 : xrow 53 56 = some (.goto (-49), 3, 7, 0, 0, 0) := by decide +kernel
theorem r_53_59 : xrow 53 59 = some (.aload_n 0, 1, 0, 0, 0, 0) := by decide +kernel
theorem r_53_60 : xrow 53 60 = some (.getfield 36, 3, 15, 13, 2, 707) := by decide +kernel
theorem r_53_63 : xrow 53 63 = some (.iload_n 1, 1, 0, 0, 0, 0) := by decide +kernel
theorem r_53_64 : xrow 53 64 = some (.iload_n 2, 1, 0, 0, 0, 0) := by decide +kernel
theorem r_53_65 : xrow 53 65 = some (.iastore, 1, 0, 0, 0, 0) := by decide +kernel
theorem r_53_66 : xrow 53 66 = some (.aload_n 0, 1, 0, 0, 0, 0) := by decide +kernel
theorem r_53_67 : xrow 53 67 = some (.getfield 39, 3, 15, 14, 2, 708) := by decide +kernel
theorem r_53_70 : xrow 53 70 = some (.iload_n 1, 1, 0, 0, 0, 0) := by decide +kernel
theorem r_53_71 : xrow 53 71 = some (.iload_n 3, 1, 0, 0, 0, 0) := by decide +kernel
theorem r_53_72 : xrow 53 72 = some (.iastore, 1, 0, 0, 0, 0) := by decide +kernel
theorem r_53_73 : xrow 53 73 = some (.aload_n 0, 1, 0, 0, 0, 0) := by decide +kernel
theorem r_53_74 : xrow 53 74 = some (.dup, 1, 0, 0, 0, 0) := by decide +kernel
theorem r_53_75 : xrow 53 75 = some (.getfield 55, 3, 15, 4, 0, 713) := by decide +kernel
theorem r_53_78 : xrow 53 78 = some (.iconst 1, 1, 0, 0, 0, 0) := by decide +kernel
theorem r_53_79 : xrow 53 79 = some (.iadd, 1, 0, 0, 0, 0) := by decide +kernel
theorem r_53_80 : xrow 53 80 = some (.putfield 55, 3, 15, 4, 0, 713) := by decide +kernel
theorem r_53_83 : xrow 53 83 = some (.return_, 1, 0, 0, 0, 0) := by decide +kernel
theorem r_54_0 : xrow 54 0 = some (.iconst 0, 1, 0, 0, 0, 0) := by decide +kernel
theorem r_54_1 : xrow 54 1 = some (.istore_n 1, 1, 0, 0, 0, 0) := by decide +kernel
theorem r_54_2 : xrow 54 2 = some (.iconst 0, 1, 0, 0, 0, 0) := by decide +kernel
theorem r_54_3 : xrow 54 3 = some (.istore_n 2, 1, 0, 0, 0, 0) := by decide +kernel
theorem r_54_4 : xrow 54 4 = some (.iload_n 2, 1, 0, 0, 0, 0) := by decide +kernel
theorem r_54_5 : xrow 54 5 = some (.aload_n 0, 1, 0, 0, 0, 0) := by decide +kernel
theorem r_54_6 : xrow 54 6 = some (.getfield 52, 3, 15, 3, 0, 712) := by decide +kernel
theorem r_54_9 : xrow 54 9 = some (.if_icmp .ge 22, 3, 31, 0, 0, 0) := by decide +kernel
theorem r_54_12 : xrow 54 12 = some (.aload_n 0, 1, 0, 0, 0, 0) := by decide +kernel
theorem r_54_13 : xrow 54 13 = some (.getfield 27, 3, 15, 10, 2, 704) := by decide +kernel
theorem r_54_16 : xrow 54 16 = some (.iload_n 2, 1, 0, 0, 0, 0) := by decide +kernel
theorem r_54_17 : xrow 54 17 = some (.iaload, 1, 0, 0, 0, 0) := by decide +kernel
theorem r_54_18 : xrow 54 18 = some (.iconst (-1), 1, 0, 0, 0, 0) := by decide +kernel
theorem r_54_19 : xrow 54 19 = some (.if_icmp .ne 6, 3, 25, 0, 0, 0) := by decide +kernel
theorem r_54_22 : xrow 54 22 = some (.iinc 1 1, 3, 0, 0, 0, 0) := by decide +kernel
theorem r_54_25 : xrow 54 25 = some (.iinc 2 1, 3, 0, 0, 0, 0) := by decide +kernel
theorem r_54_28 : xrow 54 28 = some (.goto (-24), 3, 4, 0, 0, 0) := by decide +kernel
theorem r_54_31 : xrow 54 31 = some (.iload_n 1, 1, 0, 0, 0, 0) := by decide +kernel
theorem r_54_32 : xrow 54 32 = some (.ireturn, 1, 0, 0, 0, 0) := by decide +kernel
theorem r_55_0 : xrow 55 0 = some (.aload_n 0, 1, 0, 0, 0, 0) := by decide +kernel
theorem r_55_1 : xrow 55 1 = some (.getfield 49, 3, 15, 2, 0, 711) := by decide +kernel
theorem r_55_4 : xrow 55 4 = some (.ifCond .ne 5, 3, 9, 0, 0, 0) := by decide +kernel
theorem r_55_7 : xrow 55 7 = some (.iconst 0, 1, 0, 0, 0, 0) := by decide +kernel
theorem r_55_8 : xrow 55 8 = some (.ireturn, 1, 0, 0, 0, 0) := by decide +kernel
theorem r_55_9 : xrow 55 9 = some (.iconst 1, 1, 0, 0, 0, 0) := by decide +kernel
theorem r_55_10 : xrow 55 10 = some (.istore_n 1, 1, 0, 0, 0, 0) := by decide +kernel
theorem r_55_11 : xrow 55 11 = some (.iconst 0, 1, 0, 0, 0, 0) := by decide +kernel
theorem r_55_12 : xrow 55 12 = some (.istore_n 2, 1, 0, 0, 0, 0) := by decide +kernel
theorem r_55_13 : xrow 55 13 = some (.iload_n 2, 1, 0, 0, 0, 0) := by decide +kernel
theorem r_55_14 : xrow 55 14 = some (.aload_n 0, 1, 0, 0, 0, 0) := by decide +kernel
theorem r_55_15 : xrow 55 15 = some (.getfield 52, 3, 15, 3, 0, 712) := by decide +kernel
theorem r_55_18 : xrow 55 18 = some (.if_icmp .ge 28, 3, 46, 0, 0, 0) := by decide +kernel
theorem r_55_21 : xrow 55 21 = some (.aload_n 0, 1, 0, 0, 0, 0) := by decide +kernel
theorem r_55_22 : xrow 55 22 = some (.getfield 27, 3, 15, 10, 2, 704) := by decide +kernel
theorem r_55_25 : xrow 55 25 = some (.iload_n 2, 1, 0, 0, 0, 0) := by decide +kernel
theorem r_55_26 : xrow 55 26 = some (.iaload, 1, 0, 0, 0, 0) := by decide +kernel
theorem r_55_27 : xrow 55 27 = some (.iconst (-1), 1, 0, 0, 0, 0) := by decide +kernel
theorem r_55_28 : xrow 55 28 = some (.if_icmp .ne 12, 3, 40, 0, 0, 0) := by decide +kernel
theorem r_55_31 : xrow 55 31 = some (.iload_n 1, 1, 0, 0, 0, 0) := by decide +kernel
theorem r_55_32 : xrow 55 32 = some (.aload_n 0, 1, 0, 0, 0, 0) := by decide +kernel
theorem r_55_33 : xrow 55 33 = some (.getfield 36, 3, 15, 13, 2, 707) := by decide +kernel
theorem r_55_36 : xrow 55 36 = some (.iload_n 2, 1, 0, 0, 0, 0) := by decide +kernel
theorem r_55_37 : xrow 55 37 = some (.iaload, 1, 0, 0, 0, 0) := by decide +kernel
theorem r_55_38 : xrow 55 38 = some (.imul, 1, 0, 0, 0, 0) := by decide +kernel
theorem r_55_39 : xrow 55 39 = some (.istore_n 1, 1, 0, 0, 0, 0) := by decide +kernel
theorem r_55_40 : xrow 55 40 = some (.iinc 2 1, 3, 0, 0, 0, 0) := by decide +kernel
theorem r_55_43 : xrow 55 43 = some (.goto (-30), 3, 13, 0, 0, 0) := by decide +kernel
theorem r_55_46 : xrow 55 46 = some (.iload_n 1, 1, 0, 0, 0, 0) := by decide +kernel
theorem r_55_47 : xrow 55 47 = some (.ireturn, 1, 0, 0, 0, 0) := by decide +kernel
theorem r_56_0 : xrow 56 0 = some (.iconst 0, 1, 0, 0, 0, 0) := by decide +kernel
theorem r_56_1 : xrow 56 1 = some (.istore_n 1, 1, 0, 0, 0, 0) := by decide +kernel
theorem r_56_2 : xrow 56 2 = some (.iconst 0, 1, 0, 0, 0, 0) := by decide +kernel
theorem r_56_3 : xrow 56 3 = some (.istore_n 2, 1, 0, 0, 0, 0) := by decide +kernel
theorem r_56_4 : xrow 56 4 = some (.iload_n 2, 1, 0, 0, 0, 0) := by decide +kernel
theorem r_56_5 : xrow 56 5 = some (.aload_n 0, 1, 0, 0, 0, 0) := by decide +kernel
theorem r_56_6 : xrow 56 6 = some (.getfield 52, 3, 15, 3, 0, 712) := by decide +kernel
theorem r_56_9 : xrow 56 9 = some (.if_icmp .ge 17, 3, 26, 0, 0, 0) := by decide +kernel
theorem r_56_12 : xrow 56 12 = some (.iload_n 1, 1, 0, 0, 0, 0) := by decide +kernel
theorem r_56_13 : xrow 56 13 = some (.aload_n 0, 1, 0, 0, 0, 0) := by decide +kernel
theorem r_56_14 : xrow 56 14 = some (.iload_n 2, 1, 0, 0, 0, 0) := by decide +kernel
theorem r_56_15 : xrow 56 15 = some (.invokevirtual 76, 3, 57, 0, 0, 718) := by decide +kernel
theorem r_56_18 : xrow 56 18 = some (.ior, 1, 0, 0, 0, 0) := by decide +kernel
theorem r_56_19 : xrow 56 19 = some (.istore_n 1, 1, 0, 0, 0, 0) := by decide +kernel
theorem r_56_20 : xrow 56 20 = some (.iinc 2 1, 3, 0, 0, 0, 0) := by decide +kernel
theorem r_56_23 : xrow 56 23 = some (.goto (-19), 3, 4, 0, 0, 0) := by decide +kernel
theorem r_56_26 : xrow 56 26 = some (.iload_n 1, 1, 0, 0, 0, 0) := by decide +kernel
theorem r_56_27 : xrow 56 27 = some (.ireturn, 1, 0, 0, 0, 0) := by decide +kernel
theorem r_57_0 : xrow 57 0 = some (.iconst 0, 1, 0, 0, 0, 0) := by decide +kernel
theorem r_57_1 : xrow 57 1 = some (.istore_n 2, 1, 0, 0, 0, 0) := by decide +kernel
theorem r_57_2 : xrow 57 2 = some (.iload_n 2, 1, 0, 0, 0, 0) := by decide +kernel
theorem r_57_3 : xrow 57 3 = some (.aload_n 0, 1, 0, 0, 0, 0) := by decide +kernel
theorem r_57_4 : xrow 57 4 = some (.getfield 36, 3, 15, 13, 2, 707) := by decide +kernel
theorem r_57_7 : xrow 57 7 = some (.iload_n 1, 1, 0, 0, 0, 0) := by decide +kernel
theorem r_57_8 : xrow 57 8 = some (.iaload, 1, 0, 0, 0, 0) := by decide +kernel
theorem r_57_9 : xrow 57 9 = some (.if_icmp .ge 35, 3, 44, 0, 0, 0) := by decide +kernel
theorem r_57_12 : xrow 57 12 = some (.aload_n 0, 1, 0, 0, 0, 0) := by decide +kernel
theorem r_57_13 : xrow 57 13 = some (.getfield 33, 3, 15, 12, 2, 706) := by decide +kernel
theorem r_57_16 : xrow 57 16 = some (.iload_n 1, 1, 0, 0, 0, 0) := by decide +kernel
theorem r_57_17 : xrow 57 17 = some (.iconst 3, 1, 0, 0, 0, 0) := by decide +kernel
theorem r_57_18 : xrow 57 18 = some (.imul, 1, 0, 0, 0, 0) := by decide +kernel
theorem r_57_19 : xrow 57 19 = some (.iload_n 2, 1, 0, 0, 0, 0) := by decide +kernel
theorem r_57_20 : xrow 57 20 = some (.iadd, 1, 0, 0, 0, 0) := by decide +kernel
theorem r_57_21 : xrow 57 21 = some (.iaload, 1, 0, 0, 0, 0) := by decide +kernel
theorem r_57_22 : xrow 57 22 = some (.aload_n 0, 1, 0, 0, 0, 0) := by decide +kernel
theorem r_57_23 : xrow 57 23 = some (.getfield 27, 3, 15, 10, 2, 704) := by decide +kernel
theorem r_57_26 : xrow 57 26 = some (.iload_n 1, 1, 0, 0, 0, 0) := by decide +kernel
theorem r_57_27 : xrow 57 27 = some (.iaload, 1, 0, 0, 0, 0) := by decide +kernel
theorem r_57_28 : xrow 57 28 = some (.if_icmp .ne 10, 3, 38, 0, 0, 0) := by decide +kernel
theorem r_57_31 : xrow 57 31 = some (.aload_n 0, 1, 0, 0, 0, 0) := by decide +kernel
theorem r_57_32 : xrow 57 32 = some (.iload_n 1, 1, 0, 0, 0, 0) := by decide +kernel
theorem r_57_33 : xrow 57 33 = some (.iload_n 2, 1, 0, 0, 0, 0) := by decide +kernel
theorem r_57_34 : xrow 57 34 = some (.invokevirtual 80, 3, 58, 0, 0, 719) := by decide +kernel
theorem r_57_37 : xrow 57 37 = some (.ireturn, 1, 0, 0, 0, 0) := by decide +kernel
theorem r_57_38 : xrow 57 38 = some (.iinc 2 1, 3, 0, 0, 0, 0) := by decide +kernel
theorem r_57_41 : xrow 57 41 = some (.goto (-39), 3, 2, 0, 0, 0) := by decide +kernel
theorem r_57_44 : xrow 57 44 = some (.iconst 0, 1, 0, 0, 0, 0) := by decide +kernel
theorem r_57_45 : xrow 57 45 = some (.ireturn, 1, 0, 0, 0, 0) := by decide +kernel
theorem r_58_0 : xrow 58 0 = some (.iload_n 2, 1, 0, 0, 0, 0) := by decide +kernel
theorem r_58_1 : xrow 58 1 = some (.iconst 1, 1, 0, 0, 0, 0) := by decide +kernel
theorem r_58_2 : xrow 58 2 = some (.iadd, 1, 0, 0, 0, 0) := by decide +kernel
theorem r_58_3 : xrow 58 3 = some (.iconst 2, 1, 0, 0, 0, 0) := by decide +kernel
theorem r_58_4 : xrow 58 4 = some (.iload_n 1, 1, 0, 0, 0, 0) := by decide +kernel
theorem r_58_5 : xrow 58 5 = some (.imul, 1, 0, 0, 0, 0) := by decide +kernel
theorem r_58_6 : xrow 58 6 = some (.ishl, 1, 0, 0, 0, 0) := by decide +kernel
theorem r_58_7 : xrow 58 7 = some (.ireturn, 1, 0, 0, 0, 0) := by decide +kernel
theorem r_59_0 : xrow 59 0 = some (.aload_n 0, 1, 0, 0, 0, 0) := by decide +kernel
theorem r_59_1 : xrow 59 1 = some (.invokevirtual 83, 3, 56, 0, 0, 720) := by decide +kernel
theorem r_59_4 : xrow 59 4 = some (.istore_n 2, 1, 0, 0, 0, 0) := by decide +kernel
theorem r_59_5 : xrow 59 5 = some (.iload_n 1, 1, 0, 0, 0, 0) := by decide +kernel
theorem r_59_6 : xrow 59 6 = some (.istore_n 3, 1, 0, 0, 0, 0) := by decide +kernel
theorem r_59_7 : xrow 59 7 = some (.aload_n 0, 1, 0, 0, 0, 0) := by decide +kernel
theorem r_59_8 : xrow 59 8 = some (.getfield 52, 3, 15, 3, 0, 712) := by decide +kernel
theorem r_59_11 : xrow 59 11 = some (.iconst 1, 1, 0, 0, 0, 0) := by decide +kernel
theorem r_59_12 : xrow 59 12 = some (.isub, 1, 0, 0, 0, 0) := by decide +kernel
theorem r_59_13 : xrow 59 13 = some (.istore 4, 2, 0, 0, 0, 0) := by decide +kernel
theorem r_59_15 : xrow 59 15 = some (.iload 4, 2, 0, 0, 0, 0) := by decide +kernel
theorem r_59_17 : xrow 59 17 = some (.ifCond .lt 58, 3, 75, 0, 0, 0) := by decide +kernel
theorem r_59_20 : xrow 59 20 = some (.aload_n 0, 1, 0, 0, 0, 0) := by decide +kernel
theorem r_59_21 : xrow 59 21 = some (.getfield 27, 3, 15, 10, 2, 704) := by decide +kernel
theorem r_59_24 : xrow 59 24 = some (.iload 4, 2, 0, 0, 0, 0) := by decide +kernel
theorem r_59_26 : xrow 59 26 = some (.iaload, 1, 0, 0, 0, 0) := by decide +kernel
theorem r_59_27 : xrow 59 27 = some (.iconst (-1), 1, 0, 0, 0, 0) := by decide +kernel
theorem r_59_28 : xrow 59 28 = some (.if_icmp .ne 41, 3, 69, 0, 0, 0) := by decide +kernel
theorem r_59_31 : xrow 59 31 = some (.aload_n 0, 1, 0, 0, 0, 0) := by decide +kernel
theorem r_59_32 : xrow 59 32 = some (.getfield 36, 3, 15, 13, 2, 707) := by decide +kernel
theorem r_59_35 : xrow 59 35 = some (.iload 4, 2, 0, 0, 0, 0) := by decide +kernel
theorem r_59_37 : xrow 59 37 = some (.iaload, 1, 0, 0, 0, 0) := by decide +kernel
theorem r_59_38 : xrow 59 38 = some (.ifCond .le 31, 3, 69, 0, 0, 0) := by decide +kernel
theorem r_59_41 : xrow 59 41 = some (.iload_n 2, 1, 0, 0, 0, 0) := by decide +kernel
theorem r_59_42 : xrow 59 42 = some (.aload_n 0, 1, 0, 0, 0, 0) := by decide +kernel
theorem r_59_43 : xrow 59 43 = some (.iload 4, 2, 0, 0, 0, 0) := by decide +kernel
theorem r_59_45 : xrow 59 45 = some (.iload_n 3, 1, 0, 0, 0, 0) := by decide +kernel
theorem r_59_46 : xrow 59 46 = some (.aload_n 0, 1, 0, 0, 0, 0) := by decide +kernel
theorem r_59_47 : xrow 59 47 = some (.getfield 36, 3, 15, 13, 2, 707) := by decide +kernel
theorem r_59_50 : xrow 59 50 = some (.iload 4, 2, 0, 0, 0, 0) := by decide +kernel
theorem r_59_52 : xrow 59 52 = some (.iaload, 1, 0, 0, 0, 0) := by decide +kernel
theorem r_59_53 : xrow 59 53 = some (.irem, 1, 0, 0, 0, 0) := by decide +kernel
theorem r_59_54 : xrow 59 54 = some (.invokevirtual 80, 3, 58, 0, 0, 719) := by decide +kernel
theorem r_59_57 : xrow 59 57 = some (.ior, 1, 0, 0, 0, 0) := by decide +kernel
theorem r_59_58 : xrow 59 58 = some (.istore_n 2, 1, 0, 0, 0, 0) := by decide +kernel
theorem r_59_59 : xrow 59 59 = some (.iload_n 3, 1, 0, 0, 0, 0) := by decide +kernel
theorem r_59_60 : xrow 59 60 = some (.aload_n 0, 1, 0, 0, 0, 0) := by decide +kernel
theorem r_59_61 : xrow 59 61 = some (.getfield 36, 3, 15, 13, 2, 707) := by decide +kernel
theorem r_59_64 : xrow 59 64 = some (.iload 4, 2, 0, 0, 0, 0) := by decide +kernel
theorem r_59_66 : xrow 59 66 = some (.iaload, 1, 0, 0, 0, 0) := by decide +kernel
theorem r_59_67 : xrow 59 67 = some (.idiv, 1, 0, 0, 0, 0) := by decide +kernel
theorem r_59_68 : xrow 59 68 = some (.istore_n 3, 1, 0, 0, 0, 0) := by decide +kernel
theorem r_59_69 : xrow 59 69 = some (.iinc 4 (-1), 3, 0, 0, 0, 0) := by decide +kernel
theorem r_59_72 : xrow 59 72 = some (.goto (-57), 3, 15, 0, 0, 0) := by decide +kernel
theorem r_59_75 : xrow 59 75 = some (.iload_n 2, 1, 0, 0, 0, 0) := by decide +kernel
theorem r_59_76 : xrow 59 76 = some (.ireturn, 1, 0, 0, 0, 0) := by decide +kernel
theorem r_60_0 : xrow 60 0 = some (.iload_n 1, 1, 0, 0, 0, 0) := by decide +kernel
theorem r_60_1 : xrow 60 1 = some (.iconst 2, 1, 0, 0, 0, 0) := by decide +kernel
theorem r_60_2 : xrow 60 2 = some (.iload_n 2, 1, 0, 0, 0, 0) := by decide +kernel
theorem r_60_3 : xrow 60 3 = some (.imul, 1, 0, 0, 0, 0) := by decide +kernel
theorem r_60_4 : xrow 60 4 = some (.ishr, 1, 0, 0, 0, 0) := by decide +kernel
theorem r_60_5 : xrow 60 5 = some (.iconst 3, 1, 0, 0, 0, 0) := by decide +kernel
theorem r_60_6 : xrow 60 6 = some (.iand, 1, 0, 0, 0, 0) := by decide +kernel
theorem r_60_7 : xrow 60 7 = some (.iconst 1, 1, 0, 0, 0, 0) := by decide +kernel
theorem r_60_8 : xrow 60 8 = some (.isub, 1, 0, 0, 0, 0) := by decide +kernel
theorem r_60_9 : xrow 60 9 = some (.ireturn, 1, 0, 0, 0, 0) := by decide +kernel
theorem r_61_0 : xrow 61 0 = some (.aload_n 0, 1, 0, 0, 0, 0) := by decide +kernel
theorem r_61_1 : xrow 61 1 = some (.iload_n 1, 1, 0, 0, 0, 0) := by decide +kernel
theorem r_61_2 : xrow 61 2 = some (.iload_n 2, 1, 0, 0, 0, 0) := by decide +kernel
theorem r_61_3 : xrow 61 3 = some (.invokevirtual 87, 3, 60, 0, 0, 721) := by decide +kernel
theorem r_61_6 : xrow 61 6 = some (.istore_n 3, 1, 0, 0, 0, 0) := by decide +kernel
theorem r_61_7 : xrow 61 7 = some (.iload_n 3, 1, 0, 0, 0, 0) := by decide +kernel
theorem r_61_8 : xrow 61 8 = some (.ifCond .ge 7, 3, 15, 0, 0, 0) := by decide +kernel
theorem r_61_11 : xrow 61 11 = some (.iconst (-1), 1, 0, 0, 0, 0) := by decide +kernel
theorem r_61_12 : xrow 61 12 = some (.goto 13, 3, 25, 0, 0, 0) := by decide +kernel
theorem r_61_15 : xrow 61 15 = some (.aload_n 0, 1, 0, 0, 0, 0) := by decide +kernel
theorem r_61_16 : xrow 61 16 = some (.getfield 33, 3, 15, 12, 2, 706) := by decide +kernel
theorem r_61_19 : xrow 61 19 = some (.iload_n 2, 1, 0, 0, 0, 0) := by decide +kernel
theorem r_61_20 : xrow 61 20 = some (.iconst 3, 1, 0, 0, 0, 0) := by decide +kernel
theorem r_61_21 : xrow 61 21 = some (.imul, 1, 0, 0, 0, 0) := by decide +kernel
theorem r_61_22 : xrow 61 22 = some (.iload_n 3, 1, 0, 0, 0, 0) := by decide +kernel
theorem r_61_23 : xrow 61 23 = some (.iadd, 1, 0, 0, 0, 0) := by decide +kernel
theorem r_61_24 : xrow 61 24 = some (.iaload, 1, 0, 0, 0, 0) := by decide +kernel
theorem r_61_25 : xrow 61 25 = some (.ireturn, 1, 0, 0, 0, 0) := by decide +kernel
theorem r_62_0 : xrow 62 0 = some (.iload_n 1, 1, 0, 0, 0, 0) := by decide +kernel
theorem r_62_1 : xrow 62 1 = some (.iload_n 1, 1, 0, 0, 0, 0) := by decide +kernel
theorem r_62_2 : xrow 62 2 = some (.iconst 1, 1, 0, 0, 0, 0) := by decide +kernel
theorem r_62_3 : xrow 62 3 = some (.ishr, 1, 0, 0, 0, 0) := by decide +kernel
theorem r_62_4 : xrow 62 4 = some (.ior, 1, 0, 0, 0, 0) := by decide +kernel
theorem r_62_5 : xrow 62 5 = some (.sipush 341, 3, 0, 0, 0, 0) := by decide +kernel
theorem r_62_8 : xrow 62 8 = some (.iand, 1, 0, 0, 0, 0) := by decide +kernel
theorem r_62_9 : xrow 62 9 = some (.istore_n 2, 1, 0, 0, 0, 0) := by decide +kernel
theorem r_62_10 : xrow 62 10 = some (.sipush 341, 3, 0, 0, 0, 0) := by decide +kernel
theorem r_62_13 : xrow 62 13 = some (.iload_n 2, 1, 0, 0, 0, 0) := by decide +kernel
theorem r_62_14 : xrow 62 14 = some (.iconst (-1), 1, 0, 0, 0, 0) := by decide +kernel
theorem r_62_15 : xrow 62 15 = some (.ixor, 1, 0, 0, 0, 0) := by decide +kernel
theorem r_62_16 : xrow 62 16 = some (.iand, 1, 0, 0, 0, 0) := by decide +kernel
theorem r_62_17 : xrow 62 17 = some (.iconst 3, 1, 0, 0, 0, 0) := by decide +kernel
theorem r_62_18 : xrow 62 18 = some (.imul, 1, 0, 0, 0, 0) := by decide +kernel
theorem r_62_19 : xrow 62 19 = some (.ireturn, 1, 0, 0, 0, 0) := by decide +kernel
theorem r_63_0 : xrow 63 0 = some (.lconst 1, 1, 0, 0, 0, 0) := by decide +kernel
theorem r_63_1 : xrow 63 1 = some (.lstore_n 2, 1, 0, 0, 0, 0) := by decide +kernel
theorem r_63_2 : xrow 63 2 = some (.iconst 0, 1, 0, 0, 0, 0) := by decide +kernel
theorem r_63_3 : xrow 63 3 = some (.istore 4, 2, 0, 0, 0, 0) := by decide +kernel
theorem r_63_5 : xrow 63 5 = some (.iload 4, 2, 0, 0, 0, 0) := by decide +kernel
theorem r_63_7 : xrow 63 7 = some (.aload_n 0, 1, 0, 0, 0, 0) := by decide +kernel
theorem r_63_8 : xrow 63 8 = some (.getfield 52, 3, 15, 3, 0, 712) := by decide +kernel
theorem r_63_11 : xrow 63 11 = some (.if_icmp .ge 30, 3, 41, 0, 0, 0) := by decide +kernel
theorem r_63_14 : xrow 63 14 = some (.aload_n 0, 1, 0, 0, 0, 0) := by decide +kernel
theorem r_63_15 : xrow 63 15 = some (.iload_n 1, 1, 0, 0, 0, 0) := by decide +kernel
theorem r_63_16 : xrow 63 16 = some (.iload 4, 2, 0, 0, 0, 0) := by decide +kernel
theorem r_63_18 : xrow 63 18 = some (.invokevirtual 87, 3, 60, 0, 0, 721) := by decide +kernel
theorem r_63_21 : xrow 63 21 = some (.ifCond .ge 14, 3, 35, 0, 0, 0) := by decide +kernel
theorem r_63_24 : xrow 63 24 = some (.lload_n 2, 1, 0, 0, 0, 0) := by decide +kernel
theorem r_63_25 : xrow 63 25 = some (.aload_n 0, 1, 0, 0, 0, 0) := by decide +kernel
theorem r_63_26 : xrow 63 26 = some (.getfield 39, 3, 15, 14, 2, 708) := by decide +kernel
theorem r_63_29 : xrow 63 29 = some (.iload 4, 2, 0, 0, 0, 0) := by decide +kernel
theorem r_63_31 : xrow 63 31 = some (.iaload, 1, 0, 0, 0, 0) := by decide +kernel
theorem r_63_32 : xrow 63 32 = some (.i2l, 1, 0, 0, 0, 0) := by decide +kernel
theorem r_63_33 : xrow 63 33 = some (.lmul, 1, 0, 0, 0, 0) := by decide +kernel
theorem r_63_34 : xrow 63 34 = some (.lstore_n 2, 1, 0, 0, 0, 0) := by decide +kernel
theorem r_63_35 : xrow 63 35 = some (.iinc 4 1, 3, 0, 0, 0, 0) := by decide +kernel
theorem r_63_38 : xrow 63 38 = some (.goto (-33), 3, 5, 0, 0, 0) := by decide +kernel
theorem r_63_41 : xrow 63 41 = some (.lload_n 2, 1, 0, 0, 0, 0) := by decide +kernel
theorem r_63_42 : xrow 63 42 = some (.lreturn, 1, 0, 0, 0, 0) := by decide +kernel
theorem r_64_0 : xrow 64 0 = some (.aload_n 0, 1, 0, 0, 0, 0) := by decide +kernel
theorem r_64_1 : xrow 64 1 = some (.getfield 21, 3, 15, 8, 2, 702) := by decide +kernel
theorem r_64_4 : xrow 64 4 = some (.iload_n 2, 1, 0, 0, 0, 0) := by decide +kernel
theorem r_64_5 : xrow 64 5 = some (.iaload, 1, 0, 0, 0, 0) := by decide +kernel
theorem r_64_6 : xrow 64 6 = some (.aload_n 0, 1, 0, 0, 0, 0) := by decide +kernel
theorem r_64_7 : xrow 64 7 = some (.iload_n 1, 1, 0, 0, 0, 0) := by decide +kernel
theorem r_64_8 : xrow 64 8 = some (.invokevirtual 90, 3, 62, 0, 0, 722) := by decide +kernel
theorem r_64_11 : xrow 64 11 = some (.iand, 1, 0, 0, 0, 0) := by decide +kernel
theorem r_64_12 : xrow 64 12 = some (.istore_n 3, 1, 0, 0, 0, 0) := by decide +kernel
theorem r_64_13 : xrow 64 13 = some (.iconst 0, 1, 0, 0, 0, 0) := by decide +kernel
theorem r_64_14 : xrow 64 14 = some (.istore 4, 2, 0, 0, 0, 0) := by decide +kernel
theorem r_64_16 : xrow 64 16 = some (.iload 4, 2, 0, 0, 0, 0) := by decide +kernel
theorem r_64_18 : xrow 64 18 = some (.aload_n 0, 1, 0, 0, 0, 0) := by decide +kernel
theorem r_64_19 : xrow 64 19 = some (.getfield 52, 3, 15, 3, 0, 712) := by decide +kernel
theorem r_64_22 : xrow 64 22 = some (.if_icmp .ge 27, 3, 49, 0, 0, 0) := by decide +kernel
theorem r_64_25 : xrow 64 25 = some (.iload_n 3, 1, 0, 0, 0, 0) := by decide +kernel
theorem r_64_26 : xrow 64 26 = some (.ifCond .eq 23, 3, 49, 0, 0, 0) := by decide +kernel
theorem r_64_29 : xrow 64 29 = some (.iload_n 3, 1, 0, 0, 0, 0) := by decide +kernel
theorem r_64_30 : xrow 64 30 = some (.iconst 2, 1, 0, 0, 0, 0) := by decide +kernel
theorem r_64_31 : xrow 64 31 = some (.iload 4, 2, 0, 0, 0, 0) := by decide +kernel
theorem r_64_33 : xrow 64 33 = some (.imul, 1, 0, 0, 0, 0) := by decide +kernel
theorem r_64_34 : xrow 64 34 = some (.ishr, 1, 0, 0, 0, 0) := by decide +kernel
theorem r_64_35 : xrow 64 35 = some (.iconst 3, 1, 0, 0, 0, 0) := by decide +kernel
theorem r_64_36 : xrow 64 36 = some (.iand, 1, 0, 0, 0, 0) := by decide +kernel
theorem r_64_37 : xrow 64 37 = some (.ifCond .eq 6, 3, 43, 0, 0, 0) := by decide +kernel
theorem r_64_40 : xrow 64 40 = some (.iload 4, 2, 0, 0, 0, 0) := by decide +kernel
theorem r_64_42 : xrow 64 42 = some (.ireturn, 1, 0, 0, 0, 0) := by decide +kernel
theorem r_64_43 : xrow 64 43 = some (.iinc 4 1, 3, 0, 0, 0, 0) := by decide +kernel
theorem r_64_46 : xrow 64 46 = some (.goto (-30), 3, 16, 0, 0, 0) := by decide +kernel
theorem r_64_49 : xrow 64 49 = some (.iconst (-1), 1, 0, 0, 0, 0) := by decide +kernel
theorem r_64_50 : xrow 64 50 = some (.ireturn, 1, 0, 0, 0, 0) := by decide +kernel
theorem r_65_0 : xrow 65 0 = some (.aload_n 0, 1, 0, 0, 0, 0) := by decide +kernel
theorem r_65_1 : xrow 65 1 = some (.invokespecial 3, 3, 0, 1, 0, 723) := by decide +kernel
theorem r_65_4 : xrow 65 4 = some (.aload_n 0, 1, 0, 0, 0, 0) := by decide +kernel
theorem r_65_5 : xrow 65 5 = some (.bipush 80, 2, 0, 0, 0, 0) := by decide +kernel
theorem r_65_7 : xrow 65 7 = some (.newarray .int, 2, 0, 0, 0, 0) := by decide +kernel
theorem r_65_9 : xrow 65 9 = some (.putfield 11, 3, 16, 0, 2, 724) := by decide +kernel
theorem r_65_12 : xrow 65 12 = some (.aload_n 0, 1, 0, 0, 0, 0) := by decide +kernel
theorem r_65_13 : xrow 65 13 = some (.bipush 80, 2, 0, 0, 0, 0) := by decide +kernel
theorem r_65_15 : xrow 65 15 = some (.newarray .int, 2, 0, 0, 0, 0) := by decide +kernel
theorem r_65_17 : xrow 65 17 = some (.putfield 15, 3, 16, 1, 2, 725) := by decide +kernel
theorem r_65_20 : xrow 65 20 = some (.aload_n 0, 1, 0, 0, 0, 0) := by decide +kernel
theorem r_65_21 : xrow 65 21 = some (.bipush 80, 2, 0, 0, 0, 0) := by decide +kernel
theorem r_65_23 : xrow 65 23 = some (.newarray .int, 2, 0, 0, 0, 0) := by decide +kernel
theorem r_65_25 : xrow 65 25 = some (.putfield 18, 3, 16, 2, 2, 726) := by decide +kernel
theorem r_65_28 : xrow 65 28 = some (.aload_n 0, 1, 0, 0, 0, 0) := by decide +kernel
theorem r_65_29 : xrow 65 29 = some (.bipush 80, 2, 0, 0, 0, 0) := by decide +kernel
theorem r_65_31 : xrow 65 31 = some (.newarray .int, 2, 0, 0, 0, 0) := by decide +kernel
theorem r_65_33 : xrow 65 33 = some (.putfield 21, 3, 16, 3, 2, 727) := by decide +kernel
theorem r_65_36 : xrow 65 36 = some (.return_, 1, 0, 0, 0, 0) := by decide +kernel
theorem r_66_0 : xrow 66 0 = some (.aload_n 0, 1, 0, 0, 0, 0) := by decide +kernel
theorem r_66_1 : xrow 66 1 = some (.iconst 0, 1, 0, 0, 0, 0) := by decide +kernel
theorem r_66_2 : xrow 66 2 = some (.putfield 24, 3, 16, 4, 0, 728) := by decide +kernel
theorem r_66_5 : xrow 66 5 = some (.aload_n 0, 1, 0, 0, 0, 0) := by decide +kernel
theorem r_66_6 : xrow 66 6 = some (.iconst 0, 1, 0, 0, 0, 0) := by decide +kernel
theorem r_66_7 : xrow 66 7 = some (.putfield 28, 3, 16, 5, 0, 729) := by decide +kernel
theorem r_66_10 : xrow 66 10 = some (.return_, 1, 0, 0, 0, 0) := by decide +kernel
theorem r_67_0 : xrow 67 0 = some (.aload_n 0, 1, 0, 0, 0, 0) := by decide +kernel
theorem r_67_1 : xrow 67 1 = some (.getfield 24, 3, 16, 4, 0, 728) := by decide +kernel
theorem r_67_4 : xrow 67 4 = some (.bipush 80, 2, 0, 0, 0, 0) := by decide +kernel
theorem r_67_6 : xrow 67 6 = some (.if_icmp .lt 5, 3, 11, 0, 0, 0) := by decide +kernel
theorem r_67_9 : xrow 67 9 = some (.iconst (-1), 1, 0, 0, 0, 0) := by decide +kernel
theorem r_67_10 : xrow 67 10 = some (.ireturn, 1, 0, 0, 0, 0) := by decide +kernel
theorem r_67_11 : xrow 67 11 = some (.aload_n 0, 1, 0, 0, 0, 0) := by decide +kernel
theorem r_67_12 : xrow 67 12 = some (.getfield 11, 3, 16, 0, 2, 724) := by decide +kernel
theorem r_67_15 : xrow 67 15 = some (.aload_n 0, 1, 0, 0, 0, 0) := by decide +kernel
theorem r_67_16 : xrow 67 16 = some (.getfield 24, 3, 16, 4, 0, 728) := by decide +kernel
theorem r_67_19 : xrow 67 19 = some (.iload_n 1, 1, 0, 0, 0, 0) := by decide +kernel
theorem r_67_20 : xrow 67 20 = some (.iastore, 1, 0, 0, 0, 0) := by decide +kernel
theorem r_67_21 : xrow 67 21 = some (.aload_n 0, 1, 0, 0, 0, 0) := by decide +kernel
theorem r_67_22 : xrow 67 22 = some (.getfield 15, 3, 16, 1, 2, 725) := by decide +kernel
theorem r_67_25 : xrow 67 25 = some (.aload_n 0, 1, 0, 0, 0, 0) := by decide +kernel
theorem r_67_26 : xrow 67 26 = some (.getfield 24, 3, 16, 4, 0, 728) := by decide +kernel
theorem r_67_29 : xrow 67 29 = some (.iload_n 2, 1, 0, 0, 0, 0) := by decide +kernel
theorem r_67_30 : xrow 67 30 = some (.iastore, 1, 0, 0, 0, 0) := by decide +kernel
theorem r_67_31 : xrow 67 31 = some (.aload_n 0, 1, 0, 0, 0, 0) := by decide +kernel
theorem r_67_32 : xrow 67 32 = some (.getfield 18, 3, 16, 2, 2, 726) := by decide +kernel
theorem r_67_35 : xrow 67 35 = some (.aload_n 0, 1, 0, 0, 0, 0) := by decide +kernel
theorem r_67_36 : xrow 67 36 = some (.getfield 24, 3, 16, 4, 0, 728) := by decide +kernel
theorem r_67_39 : xrow 67 39 = some (.iload_n 3, 1, 0, 0, 0, 0) := by decide +kernel
theorem r_67_40 : xrow 67 40 = some (.iastore, 1, 0, 0, 0, 0) := by decide +kernel
theorem r_67_41 : xrow 67 41 = some (.aload_n 0, 1, 0, 0, 0, 0) := by decide +kernel
theorem r_67_42 : xrow 67 42 = some (.getfield 21, 3, 16, 3, 2, 727) := by decide +kernel
theorem r_67_45 : xrow 67 45 = some (.aload_n 0, 1, 0, 0, 0, 0) := by decide +kernel
theorem r_67_46 : xrow 67 46 = some (.getfield 24, 3, 16, 4, 0, 728) := by decide +kernel
theorem r_67_49 : xrow 67 49 = some (.aload_n 0, 1, 0, 0, 0, 0) := by decide +kernel
theorem r_67_50 : xrow 67 50 = some (.getfield 24, 3, 16, 4, 0, 728) := by decide +kernel
theorem r_67_53 : xrow 67 53 = some (.iconst 1, 1, 0, 0, 0, 0) := by decide +kernel
theorem r_67_54 : xrow 67 54 = some (.iadd, 1, 0, 0, 0, 0) := by decide +kernel
theorem r_67_55 : xrow 67 55 = some (.iastore, 1, 0, 0, 0, 0) := by decide +kernel
theorem r_67_56 : xrow 67 56 = some (.aload_n 0, 1, 0, 0, 0, 0) := by decide +kernel
theorem r_67_57 : xrow 67 57 = some (.dup, 1, 0, 0, 0, 0) := by decide +kernel
theorem r_67_58 : xrow 67 58 = some (.getfield 24, 3, 16, 4, 0, 728) := by decide +kernel
theorem r_67_61 : xrow 67 61 = some (.iconst 1, 1, 0, 0, 0, 0) := by decide +kernel
theorem r_67_62 : xrow 67 62 = some (.iadd, 1, 0, 0, 0, 0) := by decide +kernel
theorem r_67_63 : xrow 67 63 = some (.putfield 24, 3, 16, 4, 0, 728) := by decide +kernel
theorem r_67_66 : xrow 67 66 = some (.aload_n 0, 1, 0, 0, 0, 0) := by decide +kernel
theorem r_67_67 : xrow 67 67 = some (.getfield 24, 3, 16, 4, 0, 728) := by decide +kernel
theorem r_67_70 : xrow 67 70 = some (.iconst 1, 1, 0, 0, 0, 0) := by decide +kernel
theorem r_67_71 : xrow 67 71 = some (.isub, 1, 0, 0, 0, 0) := by decide +kernel
theorem r_67_72 : xrow 67 72 = some (.ireturn, 1, 0, 0, 0, 0) := by decide +kernel
theorem r_68_0 : xrow 68 0 = some (.iload_n 1, 1, 0, 0, 0, 0) := by decide +kernel
theorem r_68_1 : xrow 68 1 = some (.ifCond .lt 19, 3, 20, 0, 0, 0) := by decide +kernel
theorem r_68_4 : xrow 68 4 = some (.iload_n 1, 1, 0, 0, 0, 0) := by decide +kernel
theorem r_68_5 : xrow 68 5 = some (.bipush 80, 2, 0, 0, 0, 0) := by decide +kernel
theorem r_68_7 : xrow 68 7 = some (.if_icmp .ge 13, 3, 20, 0, 0, 0) := by decide +kernel
theorem r_68_10 : xrow 68 10 = some (.aload_n 0, 1, 0, 0, 0, 0) := by decide +kernel
theorem r_68_11 : xrow 68 11 = some (.getfield 21, 3, 16, 3, 2, 727) := by decide +kernel
theorem r_68_14 : xrow 68 14 = some (.iload_n 1, 1, 0, 0, 0, 0) := by decide +kernel
theorem r_68_15 : xrow 68 15 = some (.aload_n 0, 1, 0, 0, 0, 0) := by decide +kernel
theorem r_68_16 : xrow 68 16 = some (.getfield 24, 3, 16, 4, 0, 728) := by decide +kernel
theorem r_68_19 : xrow 68 19 = some (.iastore, 1, 0, 0, 0, 0) := by decide +kernel
theorem r_68_20 : xrow 68 20 = some (.return_, 1, 0, 0, 0, 0) := by decide +kernel
theorem r_69_0 : xrow 69 0 = some (.aload_n 0, 1, 0, 0, 0, 0) := by decide +kernel
theorem r_69_1 : xrow 69 1 = some (.invokespecial 3, 3, 0, 1, 0, 730) := by decide +kernel
theorem r_69_4 : xrow 69 4 = some (.aload_n 0, 1, 0, 0, 0, 0) := by decide +kernel
theorem r_69_5 : xrow 69 5 = some (.aload_n 1, 1, 0, 0, 0, 0) := by decide +kernel
theorem r_69_6 : xrow 69 6 = some (.putfield 9, 3, 17, 0, 2, 731) := by decide +kernel
theorem r_69_9 : xrow 69 9 = some (.return_, 1, 0, 0, 0, 0) := by decide +kernel
theorem r_70_0 : xrow 70 0 = some (.aload_n 0, 1, 0, 0, 0, 0) := by decide +kernel
theorem r_70_1 : xrow 70 1 = some (.aload_n 1, 1, 0, 0, 0, 0) := by decide +kernel
theorem r_70_2 : xrow 70 2 = some (.putfield 15, 3, 17, 1, 2, 732) := by decide +kernel
theorem r_70_5 : xrow 70 5 = some (.aload_n 0, 1, 0, 0, 0, 0) := by decide +kernel
theorem r_70_6 : xrow 70 6 = some (.aload_n 2, 1, 0, 0, 0, 0) := by decide +kernel
theorem r_70_7 : xrow 70 7 = some (.putfield 19, 3, 17, 2, 2, 733) := by decide +kernel
theorem r_70_10 : xrow 70 10 = some (.aload_n 0, 1, 0, 0, 0, 0) := by decide +kernel
theorem r_70_11 : xrow 70 11 = some (.iload_n 3, 1, 0, 0, 0, 0) := by decide +kernel
theorem r_70_12 : xrow 70 12 = some (.putfield 23, 3, 17, 3, 0, 734) := by decide +kernel
theorem r_70_15 : xrow 70 15 = some (.aload_n 0, 1, 0, 0, 0, 0) := by decide +kernel
theorem r_70_16 : xrow 70 16 = some (.getfield 15, 3, 17, 1, 2, 732) := by decide +kernel
theorem r_70_19 : xrow 70 19 = some (.invokevirtual 27, 3, 66, 0, 0, 735) := by decide +kernel
theorem r_70_22 : xrow 70 22 = some (.aload_n 0, 1, 0, 0, 0, 0) := by decide +kernel
theorem r_70_23 : xrow 70 23 = some (.iconst 0, 1, 0, 0, 0, 0) := by decide +kernel
theorem r_70_24 : xrow 70 24 = some (.invokevirtual 32, 3, 71, 0, 0, 736) := by decide +kernel
theorem r_70_27 : xrow 70 27 = some (.ifCond .eq 28, 3, 55, 0, 0, 0) := by decide +kernel
theorem r_70_30 : xrow 70 30 = some (.aload_n 0, 1, 0, 0, 0, 0) := by decide +kernel
theorem r_70_31 : xrow 70 31 = some (.getfield 9, 3, 17, 0, 2, 731) := by decide +kernel
theorem r_70_34 : xrow 70 34 = some (.getfield 36, 3, 19, 4, 0, 737) := by decide +kernel
theorem r_70_37 : xrow 70 37 = some (.ifCond .eq 14, 3, 51, 0, 0, 0) := by decide +kernel
theorem r_70_40 : xrow 70 40 = some (.aload_n 0, 1, 0, 0, 0, 0) := by decide +kernel
theorem r_70_41 : xrow 70 41 = some (.getfield 9, 3, 17, 0, 2, 731) := by decide +kernel
theorem r_70_44 : xrow 70 44 = some (.iconst 1, 1, 0, 0, 0, 0) := by decide +kernel
theorem r_70_45 : xrow 70 45 = some (.invokevirtual 41, 3, 99, 0, 0, 738) := by decide +kernel
theorem r_70_48 : xrow 70 48 = some (.ifCond .eq 7, 3, 55, 0, 0, 0) := by decide +kernel
theorem r_70_51 : xrow 70 51 = some (.iconst 1, 1, 0, 0, 0, 0) := by decide +kernel
theorem r_70_52 : xrow 70 52 = some (.goto 4, 3, 56, 0, 0, 0) := by decide +kernel
theorem r_70_55 : xrow 70 55 = some (.iconst 0, 1, 0, 0, 0, 0) := by decide +kernel
theorem r_70_56 : xrow 70 56 = some (.ireturn, 1, 1, 0, 0, 0) := by decide +kernel
theorem r_71_0 : xrow 71 0 = some (.iconst 0, 1, 0, 0, 0, 0) := by decide +kernel
theorem r_71_1 : xrow 71 1 = some (.istore_n 2, 1, 0, 0, 0, 0) := by decide +kernel
theorem r_71_2 : xrow 71 2 = some (.iload_n 2, 1, 0, 0, 0, 0) := by decide +kernel
theorem r_71_3 : xrow 71 3 = some (.bipush 40, 2, 0, 0, 0, 0) := by decide +kernel
theorem r_71_5 : xrow 71 5 = some (.if_icmp .gt 40, 3, 45, 0, 0, 0) := by decide +kernel
theorem r_71_8 : xrow 71 8 = some (.aload_n 0, 1, 0, 0, 0, 0) := by decide +kernel
theorem r_71_9 : xrow 71 9 = some (.iload_n 1, 1, 0, 0, 0, 0) := by decide +kernel
theorem r_71_10 : xrow 71 10 = some (.invokevirtual 44, 3, 72, 0, 0, 739) := by decide +kernel
theorem r_71_13 : xrow 71 13 = some (.ifCond .ne 5, 3, 18, 0, 0, 0) := by decide +kernel
theorem r_71_16 : xrow 71 16 = some (.iconst 0, 1, 0, 0, 0, 0) := by decide +kernel
theorem r_71_17 : xrow 71 17 = some (.ireturn, 1, 1, 0, 0, 0) := by decide +kernel
theorem r_71_18 : xrow 71 18 = some (.aload_n 0, 1, 0, 0, 0, 0) := by decide +kernel
theorem r_71_19 : xrow 71 19 = some (.getfield 9, 3, 17, 0, 2, 731) := by decide +kernel
theorem r_71_22 : xrow 71 22 = some (.getfield 36, 3, 19, 4, 0, 737) := by decide +kernel
theorem r_71_25 : xrow 71 25 = some (.bipush 59, 2, 0, 0, 0, 0) := by decide +kernel
theorem r_71_27 : xrow 71 27 = some (.if_icmp .eq 5, 3, 32, 0, 0, 0) := by decide +kernel
theorem r_71_30 : xrow 71 30 = some (.iconst 1, 1, 0, 0, 0, 0) := by decide +kernel
theorem r_71_31 : xrow 71 31 = some (.ireturn, 1, 1, 0, 0, 0) := by decide +kernel
theorem r_71_32 : xrow 71 32 = some (.aload_n 0, 1, 0, 0, 0, 0) := by decide +kernel
theorem r_71_33 : xrow 71 33 = some (.getfield 9, 3, 17, 0, 2, 731) := by decide +kernel
theorem r_71_36 : xrow 71 36 = some (.invokevirtual 47, 3, 89, 0, 0, 740) := by decide +kernel
theorem r_71_39 : xrow 71 39 = some (.iinc 2 1, 3, 0, 0, 0, 0) := by decide +kernel
theorem r_71_42 : xrow 71 42 = some (.goto (-40), 3, 2, 0, 0, 0) := by decide +kernel
theorem r_71_45 : xrow 71 45 = some (.aload_n 0, 1, 0, 0, 0, 0) := by decide +kernel
theorem r_71_46 : xrow 71 46 = some (.getfield 9, 3, 17, 0, 2, 731) := by decide +kernel
theorem r_71_49 : xrow 71 49 = some (.iconst 5, 1, 0, 0, 0, 0) := by decide +kernel
theorem r_71_50 : xrow 71 50 = some (.invokevirtual 41, 3, 99, 0, 0, 738) := by decide +kernel
theorem r_71_53 : xrow 71 53 = some (.ireturn, 1, 1, 0, 0, 0) := by decide +kernel
theorem r_72_0 : xrow 72 0 = some (.aload_n 0, 1, 0, 0, 0, 0) := by decide +kernel
theorem r_72_1 : xrow 72 1 = some (.getfield 9, 3, 17, 0, 2, 731) := by decide +kernel
theorem r_72_4 : xrow 72 4 = some (.invokevirtual 50, 3, 95, 0, 0, 741) := by decide +kernel
theorem r_72_7 : xrow 72 7 = some (.istore_n 2, 1, 0, 0, 0, 0) := by decide +kernel
theorem r_72_8 : xrow 72 8 = some (.iload_n 2, 1, 0, 0, 0, 0) := by decide +kernel
theorem r_72_9 : xrow 72 9 = some (.iconst (-1), 1, 0, 0, 0, 0) := by decide +kernel
theorem r_72_10 : xrow 72 10 = some (.if_icmp .ne 24, 3, 34, 0, 0, 0) := by decide +kernel
theorem r_72_13 : xrow 72 13 = some (.aload_n 0, 1, 0, 0, 0, 0) := by decide +kernel
theorem r_72_14 : xrow 72 14 = some (.getfield 9, 3, 17, 0, 2, 731) := by decide +kernel
theorem r_72_17 : xrow 72 17 = some (.ldc 54, 2, 23, 1, 0, 0) := by decide +kernel
theorem r_72_19 : xrow 72 19 = some (.invokevirtual 56, 3, 93, 0, 0, 742) := by decide +kernel
theorem r_72_22 : xrow 72 22 = some (.ifCond .ne 12, 3, 34, 0, 0, 0) := by decide +kernel
theorem r_72_25 : xrow 72 25 = some (.aload_n 0, 1, 0, 0, 0, 0) := by decide +kernel
theorem r_72_26 : xrow 72 26 = some (.getfield 9, 3, 17, 0, 2, 731) := by decide +kernel
theorem r_72_29 : xrow 72 29 = some (.iconst 1, 1, 0, 0, 0, 0) := by decide +kernel
theorem r_72_30 : xrow 72 30 = some (.invokevirtual 41, 3, 99, 0, 0, 738) := by decide +kernel
theorem r_72_33 : xrow 72 33 = some (.ireturn, 1, 1, 0, 0, 0) := by decide +kernel
theorem r_72_34 : xrow 72 34 = some (.aload_n 0, 1, 0, 0, 0, 0) := by decide +kernel
theorem r_72_35 : xrow 72 35 = some (.getfield 15, 3, 17, 1, 2, 732) := by decide +kernel
theorem r_72_38 : xrow 72 38 = some (.getfield 60, 3, 16, 5, 0, 743) := by decide +kernel
theorem r_72_41 : xrow 72 41 = some (.bipush 40, 2, 0, 0, 0, 0) := by decide +kernel
theorem r_72_43 : xrow 72 43 = some (.if_icmp .lt 12, 3, 55, 0, 0, 0) := by decide +kernel
theorem r_72_46 : xrow 72 46 = some (.aload_n 0, 1, 0, 0, 0, 0) := by decide +kernel
theorem r_72_47 : xrow 72 47 = some (.getfield 9, 3, 17, 0, 2, 731) := by decide +kernel
theorem r_72_50 : xrow 72 50 = some (.iconst 5, 1, 0, 0, 0, 0) := by decide +kernel
theorem r_72_51 : xrow 72 51 = some (.invokevirtual 41, 3, 99, 0, 0, 738) := by decide +kernel
theorem r_72_54 : xrow 72 54 = some (.ireturn, 1, 1, 0, 0, 0) := by decide +kernel
theorem r_72_55 : xrow 72 55 = some (.aload_n 0, 1, 0, 0, 0, 0) := by decide +kernel
theorem r_72_56 : xrow 72 56 = some (.getfield 15, 3, 17, 1, 2, 732) := by decide +kernel
theorem r_72_59 : xrow 72 59 = some (.dup, 1, 0, 0, 0, 0) := by decide +kernel
theorem r_72_60 : xrow 72 60 = some (.getfield 60, 3, 16, 5, 0, 743) := by decide +kernel
theorem r_72_63 : xrow 72 63 = some (.iconst 1, 1, 0, 0, 0, 0) := by decide +kernel
theorem r_72_64 : xrow 72 64 = some (.iadd, 1, 0, 0, 0, 0) := by decide +kernel
theorem r_72_65 : xrow 72 65 = some (.putfield 60, 3, 16, 5, 0, 743) := by decide +kernel
theorem r_72_68 : xrow 72 68 = some (.aload_n 0, 1, 0, 0, 0, 0) := by decide +kernel
theorem r_72_69 : xrow 72 69 = some (.getfield 9, 3, 17, 0, 2, 731) := by decide +kernel
theorem r_72_72 : xrow 72 72 = some (.invokevirtual 47, 3, 89, 0, 0, 740) := by decide +kernel
theorem r_72_75 : xrow 72 75 = some (.iload_n 2, 1, 0, 0, 0, 0) := by decide +kernel
theorem r_72_76 : xrow 72 76 = some (.iconst (-1), 1, 0, 0, 0, 0) := by decide +kernel
theorem r_72_77 : xrow 72 77 = some (.if_icmp .ne 11, 3, 88, 0, 0, 0) := by decide +kernel
theorem r_72_80 : xrow 72 80 = some (.aload_n 0, 1, 0, 0, 0, 0) := by decide +kernel
theorem r_72_81 : xrow 72 81 = some (.iload_n 1, 1, 0, 0, 0, 0) := by decide +kernel
theorem r_72_82 : xrow 72 82 = some (.invokevirtual 63, 3, 74, 0, 0, 744) := by decide +kernel
theorem r_72_85 : xrow 72 85 = some (.goto 8, 3, 93, 0, 0, 0) := by decide +kernel
theorem r_72_88 : xrow 72 88 = some (.aload_n 0, 1, 0, 0, 0, 0) := by decide +kernel
theorem r_72_89 : xrow 72 89 = some (.iload_n 2, 1, 0, 0, 0, 0) := by decide +kernel
theorem r_72_90 : xrow 72 90 = some (.invokevirtual 66, 3, 73, 0, 0, 745) := by decide +kernel
theorem r_72_93 : xrow 72 93 = some (.ireturn, 1, 1, 0, 0, 0) := by decide +kernel
theorem r_73_0 : xrow 73 0 = some (.iconst 1, 1, 0, 0, 0, 0) := by decide +kernel
theorem r_73_1 : xrow 73 1 = some (.istore_n 2, 1, 0, 0, 0, 0) := by decide +kernel
theorem r_73_2 : xrow 73 2 = some (.aload_n 0, 1, 0, 0, 0, 0) := by decide +kernel
theorem r_73_3 : xrow 73 3 = some (.getfield 9, 3, 17, 0, 2, 731) := by decide +kernel
theorem r_73_6 : xrow 73 6 = some (.getfield 36, 3, 19, 4, 0, 737) := by decide +kernel
theorem r_73_9 : xrow 73 9 = some (.iconst 2, 1, 0, 0, 0, 0) := by decide +kernel
theorem r_73_10 : xrow 73 10 = some (.if_icmp .ne 21, 3, 31, 0, 0, 0) := by decide +kernel
theorem r_73_13 : xrow 73 13 = some (.aload_n 0, 1, 0, 0, 0, 0) := by decide +kernel
theorem r_73_14 : xrow 73 14 = some (.getfield 9, 3, 17, 0, 2, 731) := by decide +kernel
theorem r_73_17 : xrow 73 17 = some (.iconst 1, 1, 0, 0, 0, 0) := by decide +kernel
theorem r_73_18 : xrow 73 18 = some (.bipush 9, 2, 0, 0, 0, 0) := by decide +kernel
theorem r_73_20 : xrow 73 20 = some (.invokevirtual 69, 3, 98, 0, 0, 746) := by decide +kernel
theorem r_73_23 : xrow 73 23 = some (.istore_n 2, 1, 0, 0, 0, 0) := by decide +kernel
theorem r_73_24 : xrow 73 24 = some (.iload_n 2, 1, 0, 0, 0, 0) := by decide +kernel
theorem r_73_25 : xrow 73 25 = some (.iconst (-1), 1, 0, 0, 0, 0) := by decide +kernel
theorem r_73_26 : xrow 73 26 = some (.if_icmp .ne 5, 3, 31, 0, 0, 0) := by decide +kernel
theorem r_73_29 : xrow 73 29 = some (.iconst 0, 1, 0, 0, 0, 0) := by decide +kernel
theorem r_73_30 : xrow 73 30 = some (.ireturn, 1, 1, 0, 0, 0) := by decide +kernel
theorem r_73_31 : xrow 73 31 = some (.aload_n 0, 1, 0, 0, 0, 0) := by decide +kernel
theorem r_73_32 : xrow 73 32 = some (.getfield 15, 3, 17, 1, 2, 732) := by decide +kernel
theorem r_73_35 : xrow 73 35 = some (.iload_n 1, 1, 0, 0, 0, 0) := by decide +kernel
theorem r_73_36 : xrow 73 36 = some (.iload_n 2, 1, 0, 0, 0, 0) := by decide +kernel
theorem r_73_37 : xrow 73 37 = some (.iconst (-1), 1, 0, 0, 0, 0) := by decide +kernel
theorem r_73_38 : xrow 73 38 = some (.invokevirtual 73, 3, 67, 0, 0, 747) := by decide +kernel
theorem r_73_41 : xrow 73 41 = some (.iconst (-1), 1, 0, 0, 0, 0) := by decide +kernel
theorem r_73_42 : xrow 73 42 = some (.if_icmp .ne 14, 3, 56, 0, 0, 0) := by decide +kernel
theorem r_73_45 : xrow 73 45 = some (.aload_n 0, 1, 0, 0, 0, 0) := by decide +kernel
theorem r_73_46 : xrow 73 46 = some (.getfield 9, 3, 17, 0, 2, 731) := by decide +kernel
theorem r_73_49 : xrow 73 49 = some (.iconst 5, 1, 0, 0, 0, 0) := by decide +kernel
theorem r_73_50 : xrow 73 50 = some (.invokevirtual 41, 3, 99, 0, 0, 738) := by decide +kernel
theorem r_73_53 : xrow 73 53 = some (.ifCond .eq 7, 3, 60, 0, 0, 0) := by decide +kernel
theorem r_73_56 : xrow 73 56 = some (.iconst 1, 1, 0, 0, 0, 0) := by decide +kernel
theorem r_73_57 : xrow 73 57 = some (.goto 4, 3, 61, 0, 0, 0) := by decide +kernel
theorem r_73_60 : xrow 73 60 = some (.iconst 0, 1, 0, 0, 0, 0) := by decide +kernel
theorem r_73_61 : xrow 73 61 = some (.ireturn, 1, 1, 0, 0, 0) := by decide +kernel
theorem r_74_0 : xrow 74 0 = some (.aload_n 0, 1, 0, 0, 0, 0) := by decide +kernel
theorem r_74_1 : xrow 74 1 = some (.invokevirtual 77, 3, 75, 0, 0, 748) := by decide +kernel
theorem r_74_4 : xrow 74 4 = some (.istore_n 2, 1, 0, 0, 0, 0) := by decide +kernel
theorem r_74_5 : xrow 74 5 = some (.iload_n 2, 1, 0, 0, 0, 0) := by decide +kernel
theorem r_74_6 : xrow 74 6 = some (.iconst (-1), 1, 0, 0, 0, 0) := by decide +kernel
theorem r_74_7 : xrow 74 7 = some (.if_icmp .eq 11, 3, 18, 0, 0, 0) := by decide +kernel
theorem r_74_10 : xrow 74 10 = some (.aload_n 0, 1, 0, 0, 0, 0) := by decide +kernel
theorem r_74_11 : xrow 74 11 = some (.iload_n 1, 1, 0, 0, 0, 0) := by decide +kernel
theorem r_74_12 : xrow 74 12 = some (.invokevirtual 80, 3, 76, 0, 0, 749) := by decide +kernel
theorem r_74_15 : xrow 74 15 = some (.ifCond .ne 5, 3, 20, 0, 0, 0) := by decide +kernel
theorem r_74_18 : xrow 74 18 = some (.iconst 0, 1, 0, 0, 0, 0) := by decide +kernel
theorem r_74_19 : xrow 74 19 = some (.ireturn, 1, 1, 0, 0, 0) := by decide +kernel
theorem r_74_20 : xrow 74 20 = some (.aload_n 0, 1, 0, 0, 0, 0) := by decide +kernel
theorem r_74_21 : xrow 74 21 = some (.getfield 9, 3, 17, 0, 2, 731) := by decide +kernel
theorem r_74_24 : xrow 74 24 = some (.ldc 83, 2, 25, 1, 0, 0) := by decide +kernel
theorem r_74_26 : xrow 74 26 = some (.invokevirtual 56, 3, 93, 0, 0, 742) := by decide +kernel
theorem r_74_29 : xrow 74 29 = some (.ifCond .ne 13, 3, 42, 0, 0, 0) := by decide +kernel
theorem r_74_32 : xrow 74 32 = some (.aload_n 0, 1, 0, 0, 0, 0) := by decide +kernel
theorem r_74_33 : xrow 74 33 = some (.getfield 15, 3, 17, 1, 2, 732) := by decide +kernel
theorem r_74_36 : xrow 74 36 = some (.iload_n 2, 1, 0, 0, 0, 0) := by decide +kernel
theorem r_74_37 : xrow 74 37 = some (.invokevirtual 85, 3, 68, 0, 0, 750) := by decide +kernel
theorem r_74_40 : xrow 74 40 = some (.iconst 1, 1, 0, 0, 0, 0) := by decide +kernel
theorem r_74_41 : xrow 74 41 = some (.ireturn, 1, 1, 0, 0, 0) := by decide +kernel
theorem r_74_42 : xrow 74 42 = some (.aload_n 0, 1, 0, 0, 0, 0) := by decide +kernel
theorem r_74_43 : xrow 74 43 = some (.getfield 9, 3, 17, 0, 2, 731) := by decide +kernel
theorem r_74_46 : xrow 74 46 = some (.invokevirtual 47, 3, 89, 0, 0, 740) := by decide +kernel
theorem r_74_49 : xrow 74 49 = some (.aload_n 0, 1, 0, 0, 0, 0) := by decide +kernel
theorem r_74_50 : xrow 74 50 = some (.getfield 15, 3, 17, 1, 2, 732) := by decide +kernel
theorem r_74_53 : xrow 74 53 = some (.iconst 5, 1, 0, 0, 0, 0) := by decide +kernel
theorem r_74_54 : xrow 74 54 = some (.iconst 0, 1, 0, 0, 0, 0) := by decide +kernel
theorem r_74_55 : xrow 74 55 = some (.iconst (-1), 1, 0, 0, 0, 0) := by decide +kernel
theorem r_74_56 : xrow 74 56 = some (.invokevirtual 73, 3, 67, 0, 0, 747) := by decide +kernel
theorem r_74_59 : xrow 74 59 = some (.istore_n 3, 1, 0, 0, 0, 0) := by decide +kernel
theorem r_74_60 : xrow 74 60 = some (.aload_n 0, 1, 0, 0, 0, 0) := by decide +kernel
theorem r_74_61 : xrow 74 61 = some (.getfield 15, 3, 17, 1, 2, 732) := by decide +kernel
theorem r_74_64 : xrow 74 64 = some (.iload_n 2, 1, 0, 0, 0, 0) := by decide +kernel
theorem r_74_65 : xrow 74 65 = some (.invokevirtual 85, 3, 68, 0, 0, 750) := by decide +kernel
theorem r_74_68 : xrow 74 68 = some (.aload_n 0, 1, 0, 0, 0, 0) := by decide +kernel
theorem r_74_69 : xrow 74 69 = some (.iload_n 1, 1, 0, 0, 0, 0) := by decide +kernel
theorem r_74_70 : xrow 74 70 = some (.invokevirtual 80, 3, 76, 0, 0, 749) := by decide +kernel
theorem r_74_73 : xrow 74 73 = some (.ifCond .ne 5, 3, 78, 0, 0, 0) := by decide +kernel
theorem r_74_76 : xrow 74 76 = some (.iconst 0, 1, 0, 0, 0, 0) := by decide +kernel
theorem r_74_77 : xrow 74 77 = some (.ireturn, 1, 1, 0, 0, 0) := by decide +kernel
theorem r_74_78 : xrow 74 78 = some (.aload_n 0, 1, 0, 0, 0, 0) := by decide +kernel
theorem r_74_79 : xrow 74 79 = some (.getfield 15, 3, 17, 1, 2, 732) := by decide +kernel
theorem r_74_82 : xrow 74 82 = some (.iload_n 3, 1, 0, 0, 0, 0) := by decide +kernel
theorem r_74_83 : xrow 74 83 = some (.invokevirtual 85, 3, 68, 0, 0, 750) := by decide +kernel
theorem r_74_86 : xrow 74 86 = some (.iconst 1, 1, 0, 0, 0, 0) := by decide +kernel
theorem r_74_87 : xrow 74 87 = some (.ireturn, 1, 1, 0, 0, 0) := by decide +kernel
theorem r_75_0 : xrow 75 0 = some (.aload_n 0, 1, 0, 0, 0, 0) := by decide +kernel
theorem r_75_1 : xrow 75 1 = some (.getfield 9, 3, 17, 0, 2, 731) := by decide +kernel
theorem r_75_4 : xrow 75 4 = some (.getfield 36, 3, 19, 4, 0, 737) := by decide +kernel
theorem r_75_7 : xrow 75 7 = some (.iconst 2, 1, 0, 0, 0, 0) := by decide +kernel
theorem r_75_8 : xrow 75 8 = some (.if_icmp .eq 14, 3, 22, 0, 0, 0) := by decide +kernel
theorem r_75_11 : xrow 75 11 = some (.aload_n 0, 1, 0, 0, 0, 0) := by decide +kernel
theorem r_75_12 : xrow 75 12 = some (.getfield 9, 3, 17, 0, 2, 731) := by decide +kernel
theorem r_75_15 : xrow 75 15 = some (.iconst 1, 1, 0, 0, 0, 0) := by decide +kernel
theorem r_75_16 : xrow 75 16 = some (.invokevirtual 41, 3, 99, 0, 0, 738) := by decide +kernel
theorem r_75_19 : xrow 75 19 = some (.pop, 1, 0, 0, 0, 0) := by decide +kernel
theorem r_75_20 : xrow 75 20 = some (.iconst (-1), 1, 0, 0, 0, 0) := by decide +kernel
theorem r_75_21 : xrow 75 21 = some (.ireturn, 1, 0, 0, 0, 0) := by decide +kernel
theorem r_75_22 : xrow 75 22 = some (.aload_n 0, 1, 0, 0, 0, 0) := by decide +kernel
theorem r_75_23 : xrow 75 23 = some (.getfield 9, 3, 17, 0, 2, 731) := by decide +kernel
theorem r_75_26 : xrow 75 26 = some (.getfield 89, 3, 19, 5, 0, 751) := by decide +kernel
theorem r_75_29 : xrow 75 29 = some (.istore_n 1, 1, 0, 0, 0, 0) := by decide +kernel
theorem r_75_30 : xrow 75 30 = some (.iload_n 1, 1, 0, 0, 0, 0) := by decide +kernel
theorem r_75_31 : xrow 75 31 = some (.aload_n 0, 1, 0, 0, 0, 0) := by decide +kernel
theorem r_75_32 : xrow 75 32 = some (.getfield 23, 3, 17, 3, 0, 734) := by decide +kernel
theorem r_75_35 : xrow 75 35 = some (.if_icmp .lt 14, 3, 49, 0, 0, 0) := by decide +kernel
theorem r_75_38 : xrow 75 38 = some (.aload_n 0, 1, 0, 0, 0, 0) := by decide +kernel
theorem r_75_39 : xrow 75 39 = some (.getfield 9, 3, 17, 0, 2, 731) := by decide +kernel
theorem r_75_42 : xrow 75 42 = some (.iconst 2, 1, 0, 0, 0, 0) := by decide +kernel
theorem r_75_43 : xrow 75 43 = some (.invokevirtual 41, 3, 99, 0, 0, 738) := by decide +kernel
theorem r_75_46 : xrow 75 46 = some (.pop, 1, 0, 0, 0, 0) := by decide +kernel
theorem r_75_47 : xrow 75 47 = some (.iconst (-1), 1, 0, 0, 0, 0) := by decide +kernel
theorem r_75_48 : xrow 75 48 = some (.ireturn, 1, 0, 0, 0, 0) := by decide +kernel
theorem r_75_49 : xrow 75 49 = some (.aload_n 0, 1, 0, 0, 0, 0) := by decide +kernel
theorem r_75_50 : xrow 75 50 = some (.getfield 9, 3, 17, 0, 2, 731) := by decide +kernel
theorem r_75_53 : xrow 75 53 = some (.invokevirtual 47, 3, 89, 0, 0, 740) := by decide +kernel
theorem r_75_56 : xrow 75 56 = some (.aload_n 0, 1, 0, 0, 0, 0) := by decide +kernel
theorem r_75_57 : xrow 75 57 = some (.getfield 9, 3, 17, 0, 2, 731) := by decide +kernel
theorem r_75_60 : xrow 75 60 = some (.ldc 92, 2, 24, 1, 0, 0) := by decide +kernel
theorem r_75_62 : xrow 75 62 = some (.invokevirtual 94, 3, 97, 0, 0, 752) := by decide +kernel
theorem r_75_65 : xrow 75 65 = some (.ifCond .ne 5, 3, 70, 0, 0, 0) := by decide +kernel
theorem r_75_68 : xrow 75 68 = some (.iconst (-1), 1, 0, 0, 0, 0) := by decide +kernel
theorem r_75_69 : xrow 75 69 = some (.ireturn, 1, 0, 0, 0, 0) := by decide +kernel
theorem r_75_70 : xrow 75 70 = some (.aload_n 0, 1, 0, 0, 0, 0) := by decide +kernel
theorem r_75_71 : xrow 75 71 = some (.getfield 9, 3, 17, 0, 2, 731) := by decide +kernel
theorem r_75_74 : xrow 75 74 = some (.invokevirtual 97, 3, 94, 0, 0, 753) := by decide +kernel
theorem r_75_77 : xrow 75 77 = some (.ifCond .ne 14, 3, 91, 0, 0, 0) := by decide +kernel
theorem r_75_80 : xrow 75 80 = some (.aload_n 0, 1, 0, 0, 0, 0) := by decide +kernel
theorem r_75_81 : xrow 75 81 = some (.getfield 9, 3, 17, 0, 2, 731) := by decide +kernel
theorem r_75_84 : xrow 75 84 = some (.iconst 1, 1, 0, 0, 0, 0) := by decide +kernel
theorem r_75_85 : xrow 75 85 = some (.invokevirtual 41, 3, 99, 0, 0, 738) := by decide +kernel
theorem r_75_88 : xrow 75 88 = some (.pop, 1, 0, 0, 0, 0) := by decide +kernel
theorem r_75_89 : xrow 75 89 = some (.iconst (-1), 1, 0, 0, 0, 0) := by decide +kernel
theorem r_75_90 : xrow 75 90 = some (.ireturn, 1, 0, 0, 0, 0) := by decide +kernel
theorem r_75_91 : xrow 75 91 = some (.aload_n 0, 1, 0, 0, 0, 0) := by decide +kernel
theorem r_75_92 : xrow 75 92 = some (.getfield 19, 3, 17, 2, 2, 733) := by decide +kernel
theorem r_75_95 : xrow 75 95 = some (.aload_n 0, 1, 0, 0, 0, 0) := by decide +kernel
theorem r_75_96 : xrow 75 96 = some (.getfield 9, 3, 17, 0, 2, 731) := by decide +kernel
theorem r_75_99 : xrow 75 99 = some (.getfield 101, 3, 19, 6, 1, 754) := by decide +kernel
theorem r_75_102 : xrow 75 102 = some (.invokevirtual 105, 3, 4, 0, 0, 755) := by decide +kernel
theorem r_75_105 : xrow 75 105 = some (.istore_n 2, 1, 0, 0, 0, 0) := by decide +kernel
theorem r_75_106 : xrow 75 106 = some (.iload_n 2, 1, 0, 0, 0, 0) := by decide +kernel
theorem r_75_107 : xrow 75 107 = some (.iconst (-1), 1, 0, 0, 0, 0) := by decide +kernel
theorem r_75_108 : xrow 75 108 = some (.if_icmp .ne 14, 3, 122, 0, 0, 0) := by decide +kernel
theorem r_75_111 : xrow 75 111 = some (.aload_n 0, 1, 0, 0, 0, 0) := by decide +kernel
theorem r_75_112 : xrow 75 112 = some (.getfield 9, 3, 17, 0, 2, 731) := by decide +kernel
theorem r_75_115 : xrow 75 115 = some (.iconst 2, 1, 0, 0, 0, 0) := by decide +kernel
theorem r_75_116 : xrow 75 116 = some (.invokevirtual 41, 3, 99, 0, 0, 738) := by decide +kernel
theorem r_75_119 : xrow 75 119 = some (.pop, 1, 0, 0, 0, 0) := by decide +kernel
theorem r_75_120 : xrow 75 120 = some (.iconst (-1), 1, 0, 0, 0, 0) := by decide +kernel
theorem r_75_121 : xrow 75 121 = some (.ireturn, 1, 0, 0, 0, 0) := by decide +kernel
theorem r_75_122 : xrow 75 122 = some (.aload_n 0, 1, 0, 0, 0, 0) := by decide +kernel
theorem r_75_123 : xrow 75 123 = some (.getfield 9, 3, 17, 0, 2, 731) := by decide +kernel
theorem r_75_126 : xrow 75 126 = some (.invokevirtual 47, 3, 89, 0, 0, 740) := by decide +kernel
theorem r_75_129 : xrow 75 129 = some (.aload_n 0, 1, 0, 0, 0, 0) := by decide +kernel
theorem r_75_130 : xrow 75 130 = some (.getfield 15, 3, 17, 1, 2, 732) := by decide +kernel
theorem r_75_133 : xrow 75 133 = some (.iconst 4, 1, 0, 0, 0, 0) := by decide +kernel
theorem r_75_134 : xrow 75 134 = some (.iload_n 1, 1, 0, 0, 0, 0) := by decide +kernel
theorem r_75_135 : xrow 75 135 = some (.iload_n 2, 1, 0, 0, 0, 0) := by decide +kernel
theorem r_75_136 : xrow 75 136 = some (.invokevirtual 73, 3, 67, 0, 0, 747) := by decide +kernel
theorem r_75_139 : xrow 75 139 = some (.ireturn, 1, 0, 0, 0, 0) := by decide +kernel
theorem r_76_0 : xrow 76 0 = some (.aload_n 0, 1, 0, 0, 0, 0) := by decide +kernel
theorem r_76_1 : xrow 76 1 = some (.getfield 9, 3, 17, 0, 2, 731) := by decide +kernel
theorem r_76_4 : xrow 76 4 = some (.getfield 36, 3, 19, 4, 0, 737) := by decide +kernel
theorem r_76_7 : xrow 76 7 = some (.bipush 40, 2, 0, 0, 0, 0) := by decide +kernel
theorem r_76_9 : xrow 76 9 = some (.if_icmp .eq 12, 3, 21, 0, 0, 0) := by decide +kernel
theorem r_76_12 : xrow 76 12 = some (.aload_n 0, 1, 0, 0, 0, 0) := by decide +kernel
theorem r_76_13 : xrow 76 13 = some (.getfield 9, 3, 17, 0, 2, 731) := by decide +kernel
theorem r_76_16 : xrow 76 16 = some (.iconst 1, 1, 0, 0, 0, 0) := by decide +kernel
theorem r_76_17 : xrow 76 17 = some (.invokevirtual 41, 3, 99, 0, 0, 738) := by decide +kernel
theorem r_76_20 : xrow 76 20 = some (.ireturn, 1, 1, 0, 0, 0) := by decide +kernel
theorem r_76_21 : xrow 76 21 = some (.iload_n 1, 1, 0, 0, 0, 0) := by decide +kernel
theorem r_76_22 : xrow 76 22 = some (.bipush 6, 2, 0, 0, 0, 0) := by decide +kernel
theorem r_76_24 : xrow 76 24 = some (.if_icmp .lt 12, 3, 36, 0, 0, 0) := by decide +kernel
theorem r_76_27 : xrow 76 27 = some (.aload_n 0, 1, 0, 0, 0, 0) := by decide +kernel
theorem r_76_28 : xrow 76 28 = some (.getfield 9, 3, 17, 0, 2, 731) := by decide +kernel
theorem r_76_31 : xrow 76 31 = some (.iconst 5, 1, 0, 0, 0, 0) := by decide +kernel
theorem r_76_32 : xrow 76 32 = some (.invokevirtual 41, 3, 99, 0, 0, 738) := by decide +kernel
theorem r_76_35 : xrow 76 35 = some (.ireturn, 1, 1, 0, 0, 0) := by decide +kernel
theorem r_76_36 : xrow 76 36 = some (.aload_n 0, 1, 0, 0, 0, 0) := by decide +kernel
theorem r_76_37 : xrow 76 37 = some (.getfield 9, 3, 17, 0, 2, 731) := by decide +kernel
theorem r_76_40 : xrow 76 40 = some (.invokevirtual 47, 3, 89, 0, 0, 740) := by decide +kernel
theorem r_76_43 : xrow 76 43 = some (.aload_n 0, 1, 0, 0, 0, 0) := by decide +kernel
theorem r_76_44 : xrow 76 44 = some (.iload_n 1, 1, 0, 0, 0, 0) := by decide +kernel
theorem r_76_45 : xrow 76 45 = some (.iconst 1, 1, 0, 0, 0, 0) := by decide +kernel
theorem r_76_46 : xrow 76 46 = some (.iadd, 1, 0, 0, 0, 0) := by decide +kernel
theorem r_76_47 : xrow 76 47 = some (.invokevirtual 32, 3, 71, 0, 0, 736) := by decide +kernel
theorem r_76_50 : xrow 76 50 = some (.ifCond .eq 19, 3, 69, 0, 0, 0) := by decide +kernel
theorem r_76_53 : xrow 76 53 = some (.aload_n 0, 1, 0, 0, 0, 0) := by decide +kernel
theorem r_76_54 : xrow 76 54 = some (.getfield 9, 3, 17, 0, 2, 731) := by decide +kernel
theorem r_76_57 : xrow 76 57 = some (.bipush 41, 2, 0, 0, 0, 0) := by decide +kernel
theorem r_76_59 : xrow 76 59 = some (.invokevirtual 111, 3, 96, 0, 0, 756) := by decide +kernel
theorem r_76_62 : xrow 76 62 = some (.ifCond .eq 7, 3, 69, 0, 0, 0) := by decide +kernel
theorem r_76_65 : xrow 76 65 = some (.iconst 1, 1, 0, 0, 0, 0) := by decide +kernel
theorem r_76_66 : xrow 76 66 = some (.goto 4, 3, 70, 0, 0, 0) := by decide +kernel
theorem r_76_69 : xrow 76 69 = some (.iconst 0, 1, 0, 0, 0, 0) := by decide +kernel
theorem r_76_70 : xrow 76 70 = some (.ireturn, 1, 1, 0, 0, 0) := by decide +kernel
theorem r_77_0 : xrow 77 0 = some (.aload_n 0, 1, 0, 0, 0, 0) := by decide +kernel
theorem r_77_1 : xrow 77 1 = some (.invokespecial 3, 3, 0, 1, 0, 757) := by decide +kernel
theorem r_77_4 : xrow 77 4 = some (.aload_n 0, 1, 0, 0, 0, 0) := by decide +kernel
theorem r_77_5 : xrow 77 5 = some (.bipush 8, 2, 0, 0, 0, 0) := by decide +kernel
theorem r_77_7 : xrow 77 7 = some (.newarray .int, 2, 0, 0, 0, 0) := by decide +kernel
theorem r_77_9 : xrow 77 9 = some (.putfield 9, 3, 18, 4, 2, 758) := by decide +kernel
theorem r_77_12 : xrow 77 12 = some (.aload_n 0, 1, 0, 0, 0, 0) := by decide +kernel
theorem r_77_13 : xrow 77 13 = some (.sipush 1208, 3, 0, 0, 0, 0) := by decide +kernel
theorem r_77_16 : xrow 77 16 = some (.newarray .int, 2, 0, 0, 0, 0) := by decide +kernel
theorem r_77_18 : xrow 77 18 = some (.putfield 15, 3, 18, 5, 2, 759) := by decide +kernel
theorem r_77_21 : xrow 77 21 = some (.aload_n 0, 1, 0, 0, 0, 0) := by decide +kernel
theorem r_77_22 : xrow 77 22 = some (.sipush 400, 3, 0, 0, 0, 0) := by decide +kernel
theorem r_77_25 : xrow 77 25 = some (.newarray .int, 2, 0, 0, 0, 0) := by decide +kernel
theorem r_77_27 : xrow 77 27 = some (.putfield 18, 3, 18, 10, 2, 760) := by decide +kernel
theorem r_77_30 : xrow 77 30 = some (.aload_n 0, 1, 0, 0, 0, 0) := by decide +kernel
theorem r_77_31 : xrow 77 31 = some (.bipush 60, 2, 0, 0, 0, 0) := by decide +kernel
theorem r_77_33 : xrow 77 33 = some (.newarray .int, 2, 0, 0, 0, 0) := by decide +kernel
theorem r_77_35 : xrow 77 35 = some (.putfield 21, 3, 18, 11, 2, 761) := by decide +kernel
theorem r_77_38 : xrow 77 38 = some (.aload_n 0, 1, 0, 0, 0, 0) := by decide +kernel
theorem r_77_39 : xrow 77 39 = some (.aload_n 1, 1, 0, 0, 0, 0) := by decide +kernel
theorem r_77_40 : xrow 77 40 = some (.putfield 24, 3, 18, 0, 2, 762) := by decide +kernel
theorem r_77_43 : xrow 77 43 = some (.aload_n 0, 1, 0, 0, 0, 0) := by decide +kernel
theorem r_77_44 : xrow 77 44 = some (.aload_n 2, 1, 0, 0, 0, 0) := by decide +kernel
theorem r_77_45 : xrow 77 45 = some (.putfield 28, 3, 18, 1, 2, 763) := by decide +kernel
theorem r_77_48 : xrow 77 48 = some (.aload_n 0, 1, 0, 0, 0, 0) := by decide +kernel
theorem r_77_49 : xrow 77 49 = some (.iconst (-1), 1, 0, 0, 0, 0) := by decide +kernel
theorem r_77_50 : xrow 77 50 = some (.putfield 32, 3, 18, 12, 0, 764) := by decide +kernel
theorem r_77_53 : xrow 77 53 = some (.return_, 1, 0, 0, 0, 0) := by decide +kernel
theorem r_78_0 : xrow 78 0 = some (.aload_n 0, 1, 0, 0, 0, 0) := by decide +kernel
theorem r_78_1 : xrow 78 1 = some (.aload_n 1, 1, 0, 0, 0, 0) := by decide +kernel
theorem r_78_2 : xrow 78 2 = some (.putfield 28, 3, 18, 1, 2, 763) := by decide +kernel
theorem r_78_5 : xrow 78 5 = some (.aload_n 0, 1, 0, 0, 0, 0) := by decide +kernel
theorem r_78_6 : xrow 78 6 = some (.iconst 0, 1, 0, 0, 0, 0) := by decide +kernel
theorem r_78_7 : xrow 78 7 = some (.putfield 36, 3, 18, 2, 0, 765) := by decide +kernel
theorem r_78_10 : xrow 78 10 = some (.aload_n 0, 1, 0, 0, 0, 0) := by decide +kernel
theorem r_78_11 : xrow 78 11 = some (.aload_n 1, 1, 0, 0, 0, 0) := by decide +kernel
theorem r_78_12 : xrow 78 12 = some (.getfield 39, 3, 10, 10, 0, 766) := by decide +kernel
theorem r_78_15 : xrow 78 15 = some (.ifCond .le 15, 3, 30, 0, 0, 0) := by decide +kernel
theorem r_78_18 : xrow 78 18 = some (.aload_n 1, 1, 0, 0, 0, 0) := by decide +kernel
theorem r_78_19 : xrow 78 19 = some (.getfield 44, 3, 10, 11, 0, 767) := by decide +kernel
theorem r_78_22 : xrow 78 22 = some (.aload_n 1, 1, 0, 0, 0, 0) := by decide +kernel
theorem r_78_23 : xrow 78 23 = some (.getfield 39, 3, 10, 10, 0, 766) := by decide +kernel
theorem r_78_26 : xrow 78 26 = some (.idiv, 1, 0, 0, 0, 0) := by decide +kernel
theorem r_78_27 : xrow 78 27 = some (.goto 4, 3, 31, 0, 0, 0) := by decide +kernel
theorem r_78_30 : xrow 78 30 = some (.iconst 0, 1, 0, 0, 0, 0) := by decide +kernel
theorem r_78_31 : xrow 78 31 = some (.putfield 47, 3, 18, 3, 0, 768) := by decide +kernel
theorem r_78_34 : xrow 78 34 = some (.iconst 0, 1, 0, 0, 0, 0) := by decide +kernel
theorem r_78_35 : xrow 78 35 = some (.istore_n 2, 1, 0, 0, 0, 0) := by decide +kernel
theorem r_78_36 : xrow 78 36 = some (.iload_n 2, 1, 0, 0, 0, 0) := by decide +kernel
theorem r_78_37 : xrow 78 37 = some (.aload_n 1, 1, 0, 0, 0, 0) := by decide +kernel
theorem r_78_38 : xrow 78 38 = some (.getfield 50, 3, 10, 0, 0, 769) := by decide +kernel
theorem r_78_41 : xrow 78 41 = some (.if_icmp .ge 32, 3, 73, 0, 0, 0) := by decide +kernel
theorem r_78_44 : xrow 78 44 = some (.aload_n 0, 1, 0, 0, 0, 0) := by decide +kernel
theorem r_78_45 : xrow 78 45 = some (.getfield 9, 3, 18, 4, 2, 758) := by decide +kernel
theorem r_78_48 : xrow 78 48 = some (.iload_n 2, 1, 0, 0, 0, 0) := by decide +kernel
theorem r_78_49 : xrow 78 49 = some (.aload_n 1, 1, 0, 0, 0, 0) := by decide +kernel
theorem r_78_50 : xrow 78 50 = some (.getfield 53, 3, 10, 2, 2, 770) := by decide +kernel
theorem r_78_53 : xrow 78 53 = some (.iload_n 2, 1, 0, 0, 0, 0) := by decide +kernel
theorem r_78_54 : xrow 78 54 = some (.aload_n 0, 1, 0, 0, 0, 0) := by decide +kernel
theorem r_78_55 : xrow 78 55 = some (.getfield 47, 3, 18, 3, 0, 768) := by decide +kernel
theorem r_78_58 : xrow 78 58 = some (.invokevirtual 57, 3, 17, 0, 0, 771) := by decide +kernel
theorem r_78_61 : xrow 78 61 = some (.iastore, 1, 0, 0, 0, 0) := by decide +kernel
theorem r_78_62 : xrow 78 62 = some (.aload_n 0, 1, 0, 0, 0, 0) := by decide +kernel
theorem r_78_63 : xrow 78 63 = some (.iload_n 2, 1, 0, 0, 0, 0) := by decide +kernel
theorem r_78_64 : xrow 78 64 = some (.invokevirtual 63, 3, 79, 0, 0, 772) := by decide +kernel
theorem r_78_67 : xrow 78 67 = some (.iinc 2 1, 3, 0, 0, 0, 0) := by decide +kernel
theorem r_78_70 : xrow 78 70 = some (.goto (-34), 3, 36, 0, 0, 0) := by decide +kernel
theorem r_78_73 : xrow 78 73 = some (.return_, 1, 0, 0, 0, 0) := by decide +kernel
theorem r_79_0 : xrow 79 0 = some (.iload_n 1, 1, 0, 0, 0, 0) := by decide +kernel
theorem r_79_1 : xrow 79 1 = some (.sipush 151, 3, 0, 0, 0, 0) := by decide +kernel
theorem r_79_4 : xrow 79 4 = some (.imul, 1, 0, 0, 0, 0) := by decide +kernel
theorem r_79_5 : xrow 79 5 = some (.istore_n 2, 1, 0, 0, 0, 0) := by decide +kernel
theorem r_79_6 : xrow 79 6 = some (.iconst 0, 1, 0, 0, 0, 0) := by decide +kernel
theorem r_79_7 : xrow 79 7 = some (.istore_n 3, 1, 0, 0, 0, 0) := by decide +kernel
theorem r_79_8 : xrow 79 8 = some (.iconst 0, 1, 0, 0, 0, 0) := by decide +kernel
theorem r_79_9 : xrow 79 9 = some (.istore 4, 2, 0, 0, 0, 0) := by decide +kernel
theorem r_79_11 : xrow 79 11 = some (.iload 4, 2, 0, 0, 0, 0) := by decide +kernel
theorem r_79_13 : xrow 79 13 = some (.bipush 90, 2, 0, 0, 0, 0) := by decide +kernel
theorem r_79_15 : xrow 79 15 = some (.if_icmp .gt 52, 3, 67, 0, 0, 0) := by decide +kernel
theorem r_79_18 : xrow 79 18 = some (.aload_n 0, 1, 0, 0, 0, 0) := by decide +kernel
theorem r_79_19 : xrow 79 19 = some (.getfield 28, 3, 18, 1, 2, 763) := by decide +kernel
theorem r_79_22 : xrow 79 22 = some (.getfield 67, 3, 10, 3, 2, 773) := by decide +kernel
theorem r_79_25 : xrow 79 25 = some (.iload_n 1, 1, 0, 0, 0, 0) := by decide +kernel
theorem r_79_26 : xrow 79 26 = some (.iload 4, 2, 0, 0, 0, 0) := by decide +kernel
theorem r_79_28 : xrow 79 28 = some (.invokevirtual 57, 3, 17, 0, 0, 771) := by decide +kernel
theorem r_79_31 : xrow 79 31 = some (.sipush 150, 3, 0, 0, 0, 0) := by decide +kernel
theorem r_79_34 : xrow 79 34 = some (.invokestatic 70, 3, 270, 0, 0, 774) := by decide +kernel
theorem r_79_37 : xrow 79 37 = some (.istore 5, 2, 0, 0, 0, 0) := by decide +kernel
theorem r_79_39 : xrow 79 39 = some (.iload_n 3, 1, 0, 0, 0, 0) := by decide +kernel
theorem r_79_40 : xrow 79 40 = some (.iload 5, 2, 0, 0, 0, 0) := by decide +kernel
theorem r_79_42 : xrow 79 42 = some (.if_icmp .gt 19, 3, 61, 0, 0, 0) := by decide +kernel
theorem r_79_45 : xrow 79 45 = some (.aload_n 0, 1, 0, 0, 0, 0) := by decide +kernel
theorem r_79_46 : xrow 79 46 = some (.getfield 15, 3, 18, 5, 2, 759) := by decide +kernel
theorem r_79_49 : xrow 79 49 = some (.iload_n 2, 1, 0, 0, 0, 0) := by decide +kernel
theorem r_79_50 : xrow 79 50 = some (.iload_n 3, 1, 0, 0, 0, 0) := by decide +kernel
theorem r_79_51 : xrow 79 51 = some (.iadd, 1, 0, 0, 0, 0) := by decide +kernel
theorem r_79_52 : xrow 79 52 = some (.iload 4, 2, 0, 0, 0, 0) := by decide +kernel
theorem r_79_54 : xrow 79 54 = some (.iastore, 1, 0, 0, 0, 0) := by decide +kernel
theorem r_79_55 : xrow 79 55 = some (.iinc 3 1, 3, 0, 0, 0, 0) := by decide +kernel
theorem r_79_58 : xrow 79 58 = some (.goto (-19), 3, 39, 0, 0, 0) := by decide +kernel
theorem r_79_61 : xrow 79 61 = some (.iinc 4 1, 3, 0, 0, 0, 0) := by decide +kernel
theorem r_79_64 : xrow 79 64 = some (.goto (-53), 3, 11, 0, 0, 0) := by decide +kernel
theorem r_79_67 : xrow 79 67 = some (.iload_n 3, 1, 0, 0, 0, 0) := by decide +kernel
theorem r_79_68 : xrow 79 68 = some (.sipush 151, 3, 0, 0, 0, 0) := by decide +kernel
theorem r_79_71 : xrow 79 71 = some (.if_icmp .ge 18, 3, 89, 0, 0, 0) := by decide +kernel
theorem r_79_74 : xrow 79 74 = some (.aload_n 0, 1, 0, 0, 0, 0) := by decide +kernel
theorem r_79_75 : xrow 79 75 = some (.getfield 15, 3, 18, 5, 2, 759) := by decide +kernel
theorem r_79_78 : xrow 79 78 = some (.iload_n 2, 1, 0, 0, 0, 0) := by decide +kernel
theorem r_79_79 : xrow 79 79 = some (.iload_n 3, 1, 0, 0, 0, 0) := by decide +kernel
theorem r_79_80 : xrow 79 80 = some (.iadd, 1, 0, 0, 0, 0) := by decide +kernel
theorem r_79_81 : xrow 79 81 = some (.iconst (-1), 1, 0, 0, 0, 0) := by decide +kernel
theorem r_79_82 : xrow 79 82 = some (.iastore, 1, 0, 0, 0, 0) := by decide +kernel
theorem r_79_83 : xrow 79 83 = some (.iinc 3 1, 3, 0, 0, 0, 0) := by decide +kernel
theorem r_79_86 : xrow 79 86 = some (.goto (-19), 3, 67, 0, 0, 0) := by decide +kernel
theorem r_79_89 : xrow 79 89 = some (.return_, 1, 0, 0, 0, 0) := by decide +kernel
theorem r_80_0 : xrow 80 0 = some (.aload_n 0, 1, 0, 0, 0, 0) := by decide +kernel
theorem r_80_1 : xrow 80 1 = some (.getfield 24, 3, 18, 0, 2, 762) := by decide +kernel
theorem r_80_4 : xrow 80 4 = some (.getfield 75, 3, 15, 9, 2, 775) := by decide +kernel
theorem r_80_7 : xrow 80 7 = some (.iload_n 1, 1, 0, 0, 0, 0) := by decide +kernel
theorem r_80_8 : xrow 80 8 = some (.iconst 4, 1, 0, 0, 0, 0) := by decide +kernel
theorem r_80_9 : xrow 80 9 = some (.imul, 1, 0, 0, 0, 0) := by decide +kernel
theorem r_80_10 : xrow 80 10 = some (.iload_n 2, 1, 0, 0, 0, 0) := by decide +kernel
theorem r_80_11 : xrow 80 11 = some (.iadd, 1, 0, 0, 0, 0) := by decide +kernel
theorem r_80_12 : xrow 80 12 = some (.iaload, 1, 0, 0, 0, 0) := by decide +kernel
theorem r_80_13 : xrow 80 13 = some (.istore 4, 2, 0, 0, 0, 0) := by decide +kernel
theorem r_80_15 : xrow 80 15 = some (.iload 4, 2, 0, 0, 0, 0) := by decide +kernel
theorem r_80_17 : xrow 80 17 = some (.ifCond .ge 9, 3, 26, 0, 0, 0) := by decide +kernel
theorem r_80_20 : xrow 80 20 = some (.aload_n 0, 1, 0, 0, 0, 0) := by decide +kernel
theorem r_80_21 : xrow 80 21 = some (.iconst 1, 1, 0, 0, 0, 0) := by decide +kernel
theorem r_80_22 : xrow 80 22 = some (.invokevirtual 80, 3, 81, 0, 0, 776) := by decide +kernel
theorem r_80_25 : xrow 80 25 = some (.return_, 1, 0, 0, 0, 0) := by decide +kernel
theorem r_80_26 : xrow 80 26 = some (.aload_n 0, 1, 0, 0, 0, 0) := by decide +kernel
theorem r_80_27 : xrow 80 27 = some (.getfield 24, 3, 18, 0, 2, 762) := by decide +kernel
theorem r_80_30 : xrow 80 30 = some (.getfield 83, 3, 15, 5, 2, 777) := by decide +kernel
theorem r_80_33 : xrow 80 33 = some (.iload 4, 2, 0, 0, 0, 0) := by decide +kernel
theorem r_80_35 : xrow 80 35 = some (.iaload, 1, 0, 0, 0, 0) := by decide +kernel
theorem r_80_36 : xrow 80 36 = some (.aload_n 0, 1, 0, 0, 0, 0) := by decide +kernel
theorem r_80_37 : xrow 80 37 = some (.getfield 24, 3, 18, 0, 2, 762) := by decide +kernel
theorem r_80_40 : xrow 80 40 = some (.getfield 83, 3, 15, 5, 2, 777) := by decide +kernel
theorem r_80_43 : xrow 80 43 = some (.iload_n 1, 1, 0, 0, 0, 0) := by decide +kernel
theorem r_80_44 : xrow 80 44 = some (.iaload, 1, 0, 0, 0, 0) := by decide +kernel
theorem r_80_45 : xrow 80 45 = some (.isub, 1, 0, 0, 0, 0) := by decide +kernel
theorem r_80_46 : xrow 80 46 = some (.istore 5, 2, 0, 0, 0, 0) := by decide +kernel
theorem r_80_48 : xrow 80 48 = some (.iload 5, 2, 0, 0, 0, 0) := by decide +kernel
theorem r_80_50 : xrow 80 50 = some (.invokestatic 86, 3, 267, 0, 0, 778) := by decide +kernel
theorem r_80_53 : xrow 80 53 = some (.aload_n 0, 1, 0, 0, 0, 0) := by decide +kernel
theorem r_80_54 : xrow 80 54 = some (.getfield 28, 3, 18, 1, 2, 763) := by decide +kernel
theorem r_80_57 : xrow 80 57 = some (.getfield 90, 3, 10, 13, 0, 779) := by decide +kernel
theorem r_80_60 : xrow 80 60 = some (.if_icmp .le 9, 3, 69, 0, 0, 0) := by decide +kernel
theorem r_80_63 : xrow 80 63 = some (.aload_n 0, 1, 0, 0, 0, 0) := by decide +kernel
theorem r_80_64 : xrow 80 64 = some (.iconst 2, 1, 0, 0, 0, 0) := by decide +kernel
theorem r_80_65 : xrow 80 65 = some (.invokevirtual 80, 3, 81, 0, 0, 776) := by decide +kernel
theorem r_80_68 : xrow 80 68 = some (.return_, 1, 0, 0, 0, 0) := by decide +kernel
theorem r_80_69 : xrow 80 69 = some (.aload_n 0, 1, 0, 0, 0, 0) := by decide +kernel
theorem r_80_70 : xrow 80 70 = some (.getfield 9, 3, 18, 4, 2, 758) := by decide +kernel
theorem r_80_73 : xrow 80 73 = some (.iload_n 3, 1, 0, 0, 0, 0) := by decide +kernel
theorem r_80_74 : xrow 80 74 = some (.iaload, 1, 0, 0, 0, 0) := by decide +kernel
theorem r_80_75 : xrow 80 75 = some (.aload_n 0, 1, 0, 0, 0, 0) := by decide +kernel
theorem r_80_76 : xrow 80 76 = some (.getfield 28, 3, 18, 1, 2, 763) := by decide +kernel
theorem r_80_79 : xrow 80 79 = some (.getfield 93, 3, 10, 12, 0, 780) := by decide +kernel
theorem r_80_82 : xrow 80 82 = some (.if_icmp .le 9, 3, 91, 0, 0, 0) := by decide +kernel
theorem r_80_85 : xrow 80 85 = some (.aload_n 0, 1, 0, 0, 0, 0) := by decide +kernel
theorem r_80_86 : xrow 80 86 = some (.iconst 3, 1, 0, 0, 0, 0) := by decide +kernel
theorem r_80_87 : xrow 80 87 = some (.invokevirtual 80, 3, 81, 0, 0, 776) := by decide +kernel
theorem r_80_90 : xrow 80 90 = some (.return_, 1, 0, 0, 0, 0) := by decide +kernel
theorem r_80_91 : xrow 80 91 = some (.aload_n 0, 1, 0, 0, 0, 0) := by decide +kernel
theorem r_80_92 : xrow 80 92 = some (.getfield 28, 3, 18, 1, 2, 763) := by decide +kernel
theorem r_80_95 : xrow 80 95 = some (.getfield 44, 3, 10, 11, 0, 767) := by decide +kernel
theorem r_80_98 : xrow 80 98 = some (.iload 5, 2, 0, 0, 0, 0) := by decide +kernel
theorem r_80_100 : xrow 80 100 = some (.aload_n 0, 1, 0, 0, 0, 0) := by decide +kernel
theorem r_80_101 : xrow 80 101 = some (.getfield 9, 3, 18, 4, 2, 758) := by decide +kernel
theorem r_80_104 : xrow 80 104 = some (.iload_n 3, 1, 0, 0, 0, 0) := by decide +kernel
theorem r_80_105 : xrow 80 105 = some (.iaload, 1, 0, 0, 0, 0) := by decide +kernel
theorem r_80_106 : xrow 80 106 = some (.iadd, 1, 0, 0, 0, 0) := by decide +kernel
theorem r_80_107 : xrow 80 107 = some (.imul, 1, 0, 0, 0, 0) := by decide +kernel
theorem r_80_108 : xrow 80 108 = some (.bipush 10, 2, 0, 0, 0, 0) := by decide +kernel
theorem r_80_110 : xrow 80 110 = some (.invokestatic 96, 3, 266, 0, 0, 781) := by decide +kernel
theorem r_80_113 : xrow 80 113 = some (.istore 6, 2, 0, 0, 0, 0) := by decide +kernel
theorem r_80_115 : xrow 80 115 = some (.aload_n 0, 1, 0, 0, 0, 0) := by decide +kernel
theorem r_80_116 : xrow 80 116 = some (.iconst 0, 1, 0, 0, 0, 0) := by decide +kernel
theorem r_80_117 : xrow 80 117 = some (.iload 6, 2, 0, 0, 0, 0) := by decide +kernel
theorem r_80_119 : xrow 80 119 = some (.aload_n 0, 1, 0, 0, 0, 0) := by decide +kernel
theorem r_80_120 : xrow 80 120 = some (.getfield 36, 3, 18, 2, 0, 765) := by decide +kernel
theorem r_80_123 : xrow 80 123 = some (.aload_n 0, 1, 0, 0, 0, 0) := by decide +kernel
theorem r_80_124 : xrow 80 124 = some (.getfield 47, 3, 18, 3, 0, 768) := by decide +kernel
theorem r_80_127 : xrow 80 127 = some (.imul, 1, 0, 0, 0, 0) := by decide +kernel
theorem r_80_128 : xrow 80 128 = some (.aload_n 0, 1, 0, 0, 0, 0) := by decide +kernel
theorem r_80_129 : xrow 80 129 = some (.getfield 28, 3, 18, 1, 2, 763) := by decide +kernel
theorem r_80_132 : xrow 80 132 = some (.getfield 99, 3, 10, 14, 0, 782) := by decide +kernel
theorem r_80_135 : xrow 80 135 = some (.imul, 1, 0, 0, 0, 0) := by decide +kernel
theorem r_80_136 : xrow 80 136 = some (.iadd, 1, 0, 0, 0, 0) := by decide +kernel
theorem r_80_137 : xrow 80 137 = some (.invokestatic 102, 3, 268, 0, 0, 783) := by decide +kernel
theorem r_80_140 : xrow 80 140 = some (.putfield 105, 3, 18, 7, 0, 784) := by decide +kernel
theorem r_80_143 : xrow 80 143 = some (.aload_n 0, 1, 0, 0, 0, 0) := by decide +kernel
theorem r_80_144 : xrow 80 144 = some (.aload_n 0, 1, 0, 0, 0, 0) := by decide +kernel
theorem r_80_145 : xrow 80 145 = some (.iload_n 3, 1, 0, 0, 0, 0) := by decide +kernel
theorem r_80_146 : xrow 80 146 = some (.invokevirtual 108, 3, 82, 0, 0, 785) := by decide +kernel
theorem r_80_149 : xrow 80 149 = some (.putfield 111, 3, 18, 8, 0, 786) := by decide +kernel
theorem r_80_152 : xrow 80 152 = some (.aload_n 0, 1, 0, 0, 0, 0) := by decide +kernel
theorem r_80_153 : xrow 80 153 = some (.getfield 111, 3, 18, 8, 0, 786) := by decide +kernel
theorem r_80_156 : xrow 80 156 = some (.ifCond .lt 12, 3, 168, 0, 0, 0) := by decide +kernel
theorem r_80_159 : xrow 80 159 = some (.aload_n 0, 1, 0, 0, 0, 0) := by decide +kernel
theorem r_80_160 : xrow 80 160 = some (.getfield 111, 3, 18, 8, 0, 786) := by decide +kernel
theorem r_80_163 : xrow 80 163 = some (.bipush 90, 2, 0, 0, 0, 0) := by decide +kernel
theorem r_80_165 : xrow 80 165 = some (.if_icmp .le 9, 3, 174, 0, 0, 0) := by decide +kernel
theorem r_80_168 : xrow 80 168 = some (.aload_n 0, 1, 0, 0, 0, 0) := by decide +kernel
theorem r_80_169 : xrow 80 169 = some (.iconst 4, 1, 0, 0, 0, 0) := by decide +kernel
theorem r_80_170 : xrow 80 170 = some (.invokevirtual 80, 3, 81, 0, 0, 776) := by decide +kernel
theorem r_80_173 : xrow 80 173 = some (.return_, 1, 0, 0, 0, 0) := by decide +kernel
theorem r_80_174 : xrow 80 174 = some (.aload_n 0, 1, 0, 0, 0, 0) := by decide +kernel
theorem r_80_175 : xrow 80 175 = some (.iconst 0, 1, 0, 0, 0, 0) := by decide +kernel
theorem r_80_176 : xrow 80 176 = some (.putfield 114, 3, 18, 6, 0, 787) := by decide +kernel
theorem r_80_179 : xrow 80 179 = some (.aload_n 0, 1, 0, 0, 0, 0) := by decide +kernel
theorem r_80_180 : xrow 80 180 = some (.sipush 1000, 3, 0, 0, 0, 0) := by decide +kernel
theorem r_80_183 : xrow 80 183 = some (.aload_n 0, 1, 0, 0, 0, 0) := by decide +kernel
theorem r_80_184 : xrow 80 184 = some (.getfield 105, 3, 18, 7, 0, 784) := by decide +kernel
theorem r_80_187 : xrow 80 187 = some (.iadd, 1, 0, 0, 0, 0) := by decide +kernel
theorem r_80_188 : xrow 80 188 = some (.bipush 100, 2, 0, 0, 0, 0) := by decide +kernel
theorem r_80_190 : xrow 80 190 = some (.aload_n 0, 1, 0, 0, 0, 0) := by decide +kernel
theorem r_80_191 : xrow 80 191 = some (.getfield 111, 3, 18, 8, 0, 786) := by decide +kernel
theorem r_80_194 : xrow 80 194 = some (.isub, 1, 0, 0, 0, 0) := by decide +kernel
theorem r_80_195 : xrow 80 195 = some (.idiv, 1, 0, 0, 0, 0) := by decide +kernel
theorem r_80_196 : xrow 80 196 = some (.iconst 1, 1, 0, 0, 0, 0) := by decide +kernel
theorem r_80_197 : xrow 80 197 = some (.iadd, 1, 0, 0, 0, 0) := by decide +kernel
theorem r_80_198 : xrow 80 198 = some (.putfield 117, 3, 18, 9, 0, 788) := by decide +kernel
theorem r_80_201 : xrow 80 201 = some (.return_, 1, 0, 0, 0, 0) := by decide +kernel
theorem r_81_0 : xrow 81 0 = some (.aload_n 0, 1, 0, 0, 0, 0) := by decide +kernel
theorem r_81_1 : xrow 81 1 = some (.iload_n 1, 1, 0, 0, 0, 0) := by decide +kernel
theorem r_81_2 : xrow 81 2 = some (.putfield 114, 3, 18, 6, 0, 787) := by decide +kernel
theorem r_81_5 : xrow 81 5 = some (.aload_n 0, 1, 0, 0, 0, 0) := by decide +kernel
theorem r_81_6 : xrow 81 6 = some (.bipush (-2), 2, 0, 0, 0, 0) := by decide +kernel
theorem r_81_8 : xrow 81 8 = some (.putfield 105, 3, 18, 7, 0, 784) := by decide +kernel
theorem r_81_11 : xrow 81 11 = some (.aload_n 0, 1, 0, 0, 0, 0) := by decide +kernel
theorem r_81_12 : xrow 81 12 = some (.bipush (-2), 2, 0, 0, 0, 0) := by decide +kernel
theorem r_81_14 : xrow 81 14 = some (.putfield 111, 3, 18, 8, 0, 786) := by decide +kernel
theorem r_81_17 : xrow 81 17 = some (.aload_n 0, 1, 0, 0, 0, 0) := by decide +kernel
theorem r_81_18 : xrow 81 18 = some (.bipush (-2), 2, 0, 0, 0, 0) := by decide +kernel
theorem r_81_20 : xrow 81 20 = some (.putfield 117, 3, 18, 9, 0, 788) := by decide +kernel
theorem r_81_23 : xrow 81 23 = some (.return_, 1, 0, 0, 0, 0) := by decide +kernel
theorem r_82_0 : xrow 82 0 = some (.aload_n 0, 1, 0, 0, 0, 0) := by decide +kernel
theorem r_82_1 : xrow 82 1 = some (.getfield 105, 3, 18, 7, 0, 784) := by decide +kernel
theorem r_82_4 : xrow 82 4 = some (.ifCond .ne 5, 3, 9, 0, 0, 0) := by decide +kernel
theorem r_82_7 : xrow 82 7 = some (.iconst 0, 1, 0, 0, 0, 0) := by decide +kernel
theorem r_82_8 : xrow 82 8 = some (.ireturn, 1, 0, 0, 0, 0) := by decide +kernel
theorem r_82_9 : xrow 82 9 = some (.aload_n 0, 1, 0, 0, 0, 0) := by decide +kernel
theorem r_82_10 : xrow 82 10 = some (.getfield 47, 3, 18, 3, 0, 768) := by decide +kernel
theorem r_82_13 : xrow 82 13 = some (.aload_n 0, 1, 0, 0, 0, 0) := by decide +kernel
theorem r_82_14 : xrow 82 14 = some (.getfield 28, 3, 18, 1, 2, 763) := by decide +kernel
theorem r_82_17 : xrow 82 17 = some (.getfield 39, 3, 10, 10, 0, 766) := by decide +kernel
theorem r_82_20 : xrow 82 20 = some (.aload_n 0, 1, 0, 0, 0, 0) := by decide +kernel
theorem r_82_21 : xrow 82 21 = some (.getfield 36, 3, 18, 2, 0, 765) := by decide +kernel
theorem r_82_24 : xrow 82 24 = some (.isub, 1, 0, 0, 0, 0) := by decide +kernel
theorem r_82_25 : xrow 82 25 = some (.imul, 1, 0, 0, 0, 0) := by decide +kernel
theorem r_82_26 : xrow 82 26 = some (.istore_n 2, 1, 0, 0, 0, 0) := by decide +kernel
theorem r_82_27 : xrow 82 27 = some (.iload_n 2, 1, 0, 0, 0, 0) := by decide +kernel
theorem r_82_28 : xrow 82 28 = some (.ifCond .gt 5, 3, 33, 0, 0, 0) := by decide +kernel
theorem r_82_31 : xrow 82 31 = some (.iconst (-1), 1, 0, 0, 0, 0) := by decide +kernel
theorem r_82_32 : xrow 82 32 = some (.ireturn, 1, 0, 0, 0, 0) := by decide +kernel
theorem r_82_33 : xrow 82 33 = some (.aload_n 0, 1, 0, 0, 0, 0) := by decide +kernel
theorem r_82_34 : xrow 82 34 = some (.getfield 105, 3, 18, 7, 0, 784) := by decide +kernel
theorem r_82_37 : xrow 82 37 = some (.iload_n 2, 1, 0, 0, 0, 0) := by decide +kernel
theorem r_82_38 : xrow 82 38 = some (.iadd, 1, 0, 0, 0, 0) := by decide +kernel
theorem r_82_39 : xrow 82 39 = some (.iconst 1, 1, 0, 0, 0, 0) := by decide +kernel
theorem r_82_40 : xrow 82 40 = some (.isub, 1, 0, 0, 0, 0) := by decide +kernel
theorem r_82_41 : xrow 82 41 = some (.iload_n 2, 1, 0, 0, 0, 0) := by decide +kernel
theorem r_82_42 : xrow 82 42 = some (.idiv, 1, 0, 0, 0, 0) := by decide +kernel
theorem r_82_43 : xrow 82 43 = some (.istore_n 3, 1, 0, 0, 0, 0) := by decide +kernel
theorem r_82_44 : xrow 82 44 = some (.iload_n 3, 1, 0, 0, 0, 0) := by decide +kernel
theorem r_82_45 : xrow 82 45 = some (.sipush 150, 3, 0, 0, 0, 0) := by decide +kernel
theorem r_82_48 : xrow 82 48 = some (.if_icmp .le 7, 3, 55, 0, 0, 0) := by decide +kernel
theorem r_82_51 : xrow 82 51 = some (.iconst (-1), 1, 0, 0, 0, 0) := by decide +kernel
theorem r_82_52 : xrow 82 52 = some (.goto 15, 3, 67, 0, 0, 0) := by decide +kernel
theorem r_82_55 : xrow 82 55 = some (.aload_n 0, 1, 0, 0, 0, 0) := by decide +kernel
theorem r_82_56 : xrow 82 56 = some (.getfield 15, 3, 18, 5, 2, 759) := by decide +kernel
theorem r_82_59 : xrow 82 59 = some (.iload_n 1, 1, 0, 0, 0, 0) := by decide +kernel
theorem r_82_60 : xrow 82 60 = some (.sipush 151, 3, 0, 0, 0, 0) := by decide +kernel
theorem r_82_63 : xrow 82 63 = some (.imul, 1, 0, 0, 0, 0) := by decide +kernel
theorem r_82_64 : xrow 82 64 = some (.iload_n 3, 1, 0, 0, 0, 0) := by decide +kernel
theorem r_82_65 : xrow 82 65 = some (.iadd, 1, 0, 0, 0, 0) := by decide +kernel
theorem r_82_66 : xrow 82 66 = some (.iaload, 1, 0, 0, 0, 0) := by decide +kernel
theorem r_82_67 : xrow 82 67 = some (.ireturn, 1, 0, 0, 0, 0) := by decide +kernel
theorem r_83_0 : xrow 83 0 = some (.aload_n 0, 1, 0, 0, 0, 0) := by decide +kernel
theorem r_83_1 : xrow 83 1 = some (.getfield 32, 3, 18, 12, 0, 764) := by decide +kernel
theorem r_83_4 : xrow 83 4 = some (.aload_n 0, 1, 0, 0, 0, 0) := by decide +kernel
theorem r_83_5 : xrow 83 5 = some (.getfield 24, 3, 18, 0, 2, 762) := by decide +kernel
theorem r_83_8 : xrow 83 8 = some (.getfield 120, 3, 15, 4, 0, 789) := by decide +kernel
theorem r_83_11 : xrow 83 11 = some (.if_icmp .ne 4, 3, 15, 0, 0, 0) := by decide +kernel
theorem r_83_14 : xrow 83 14 = some (.return_, 1, 0, 0, 0, 0) := by decide +kernel
theorem r_83_15 : xrow 83 15 = some (.aload_n 0, 1, 0, 0, 0, 0) := by decide +kernel
theorem r_83_16 : xrow 83 16 = some (.aload_n 0, 1, 0, 0, 0, 0) := by decide +kernel
theorem r_83_17 : xrow 83 17 = some (.getfield 24, 3, 18, 0, 2, 762) := by decide +kernel
theorem r_83_20 : xrow 83 20 = some (.getfield 120, 3, 15, 4, 0, 789) := by decide +kernel
theorem r_83_23 : xrow 83 23 = some (.putfield 32, 3, 18, 12, 0, 764) := by decide +kernel
theorem r_83_26 : xrow 83 26 = some (.iconst 0, 1, 0, 0, 0, 0) := by decide +kernel
theorem r_83_27 : xrow 83 27 = some (.istore_n 1, 1, 0, 0, 0, 0) := by decide +kernel
theorem r_83_28 : xrow 83 28 = some (.iload_n 1, 1, 0, 0, 0, 0) := by decide +kernel
theorem r_83_29 : xrow 83 29 = some (.aload_n 0, 1, 0, 0, 0, 0) := by decide +kernel
theorem r_83_30 : xrow 83 30 = some (.getfield 24, 3, 18, 0, 2, 762) := by decide +kernel
theorem r_83_33 : xrow 83 33 = some (.getfield 121, 3, 15, 2, 0, 790) := by decide +kernel
theorem r_83_36 : xrow 83 36 = some (.if_icmp .ge 28, 3, 64, 0, 0, 0) := by decide +kernel
theorem r_83_39 : xrow 83 39 = some (.iconst 0, 1, 0, 0, 0, 0) := by decide +kernel
theorem r_83_40 : xrow 83 40 = some (.istore_n 2, 1, 0, 0, 0, 0) := by decide +kernel
theorem r_83_41 : xrow 83 41 = some (.iload_n 2, 1, 0, 0, 0, 0) := by decide +kernel
theorem r_83_42 : xrow 83 42 = some (.iconst 4, 1, 0, 0, 0, 0) := by decide +kernel
theorem r_83_43 : xrow 83 43 = some (.if_icmp .ge 15, 3, 58, 0, 0, 0) := by decide +kernel
theorem r_83_46 : xrow 83 46 = some (.aload_n 0, 1, 0, 0, 0, 0) := by decide +kernel
theorem r_83_47 : xrow 83 47 = some (.iload_n 1, 1, 0, 0, 0, 0) := by decide +kernel
theorem r_83_48 : xrow 83 48 = some (.iload_n 2, 1, 0, 0, 0, 0) := by decide +kernel
theorem r_83_49 : xrow 83 49 = some (.invokevirtual 124, 3, 84, 0, 0, 791) := by decide +kernel
theorem r_83_52 : xrow 83 52 = some (.iinc 2 1, 3, 0, 0, 0, 0) := by decide +kernel
theorem r_83_55 : xrow 83 55 = some (.goto (-14), 3, 41, 0, 0, 0) := by decide +kernel
theorem r_83_58 : xrow 83 58 = some (.iinc 1 1, 3, 0, 0, 0, 0) := by decide +kernel
theorem r_83_61 : xrow 83 61 = some (.goto (-33), 3, 28, 0, 0, 0) := by decide +kernel
theorem r_83_64 : xrow 83 64 = some (.return_, 1, 0, 0, 0, 0) := by decide +kernel
theorem r_84_0 : xrow 84 0 = some (.aload_n 0, 1, 0, 0, 0, 0) := by decide +kernel
theorem r_84_1 : xrow 84 1 = some (.getfield 24, 3, 18, 0, 2, 762) := by decide +kernel
theorem r_84_4 : xrow 84 4 = some (.getfield 75, 3, 15, 9, 2, 775) := by decide +kernel
theorem r_84_7 : xrow 84 7 = some (.iload_n 1, 1, 0, 0, 0, 0) := by decide +kernel
theorem r_84_8 : xrow 84 8 = some (.iconst 4, 1, 0, 0, 0, 0) := by decide +kernel
theorem r_84_9 : xrow 84 9 = some (.imul, 1, 0, 0, 0, 0) := by decide +kernel
theorem r_84_10 : xrow 84 10 = some (.iload_n 2, 1, 0, 0, 0, 0) := by decide +kernel
theorem r_84_11 : xrow 84 11 = some (.iadd, 1, 0, 0, 0, 0) := by decide +kernel
theorem r_84_12 : xrow 84 12 = some (.iaload, 1, 0, 0, 0, 0) := by decide +kernel
theorem r_84_13 : xrow 84 13 = some (.istore_n 3, 1, 0, 0, 0, 0) := by decide +kernel
theorem r_84_14 : xrow 84 14 = some (.iload_n 3, 1, 0, 0, 0, 0) := by decide +kernel
theorem r_84_15 : xrow 84 15 = some (.ifCond .ge 15, 3, 30, 0, 0, 0) := by decide +kernel
theorem r_84_18 : xrow 84 18 = some (.aload_n 0, 1, 0, 0, 0, 0) := by decide +kernel
theorem r_84_19 : xrow 84 19 = some (.getfield 18, 3, 18, 10, 2, 760) := by decide +kernel
theorem r_84_22 : xrow 84 22 = some (.iload_n 1, 1, 0, 0, 0, 0) := by decide +kernel
theorem r_84_23 : xrow 84 23 = some (.iconst 4, 1, 0, 0, 0, 0) := by decide +kernel
theorem r_84_24 : xrow 84 24 = some (.imul, 1, 0, 0, 0, 0) := by decide +kernel
theorem r_84_25 : xrow 84 25 = some (.iload_n 2, 1, 0, 0, 0, 0) := by decide +kernel
theorem r_84_26 : xrow 84 26 = some (.iadd, 1, 0, 0, 0, 0) := by decide +kernel
theorem r_84_27 : xrow 84 27 = some (.iconst (-1), 1, 0, 0, 0, 0) := by decide +kernel
theorem r_84_28 : xrow 84 28 = some (.iastore, 1, 0, 0, 0, 0) := by decide +kernel
theorem r_84_29 : xrow 84 29 = some (.return_, 1, 0, 0, 0, 0) := by decide +kernel
theorem r_84_30 : xrow 84 30 = some (.aload_n 0, 1, 0, 0, 0, 0) := by decide +kernel
theorem r_84_31 : xrow 84 31 = some (.getfield 24, 3, 18, 0, 2, 762) := by decide +kernel
theorem r_84_34 : xrow 84 34 = some (.getfield 128, 3, 15, 7, 2, 792) := by decide +kernel
theorem r_84_37 : xrow 84 37 = some (.iload_n 3, 1, 0, 0, 0, 0) := by decide +kernel
theorem r_84_38 : xrow 84 38 = some (.iaload, 1, 0, 0, 0, 0) := by decide +kernel
theorem r_84_39 : xrow 84 39 = some (.istore 4, 2, 0, 0, 0, 0) := by decide +kernel
theorem r_84_41 : xrow 84 41 = some (.iload 4, 2, 0, 0, 0, 0) := by decide +kernel
theorem r_84_43 : xrow 84 43 = some (.iconst (-1), 1, 0, 0, 0, 0) := by decide +kernel
theorem r_84_44 : xrow 84 44 = some (.if_icmp .ne 29, 3, 73, 0, 0, 0) := by decide +kernel
theorem r_84_47 : xrow 84 47 = some (.aload_n 0, 1, 0, 0, 0, 0) := by decide +kernel
theorem r_84_48 : xrow 84 48 = some (.getfield 18, 3, 18, 10, 2, 760) := by decide +kernel
theorem r_84_51 : xrow 84 51 = some (.iload_n 1, 1, 0, 0, 0, 0) := by decide +kernel
theorem r_84_52 : xrow 84 52 = some (.iconst 4, 1, 0, 0, 0, 0) := by decide +kernel
theorem r_84_53 : xrow 84 53 = some (.imul, 1, 0, 0, 0, 0) := by decide +kernel
theorem r_84_54 : xrow 84 54 = some (.iload_n 2, 1, 0, 0, 0, 0) := by decide +kernel
theorem r_84_55 : xrow 84 55 = some (.iadd, 1, 0, 0, 0, 0) := by decide +kernel
theorem r_84_56 : xrow 84 56 = some (.aload_n 0, 1, 0, 0, 0, 0) := by decide +kernel
theorem r_84_57 : xrow 84 57 = some (.iload_n 1, 1, 0, 0, 0, 0) := by decide +kernel
theorem r_84_58 : xrow 84 58 = some (.iload_n 2, 1, 0, 0, 0, 0) := by decide +kernel
theorem r_84_59 : xrow 84 59 = some (.aload_n 0, 1, 0, 0, 0, 0) := by decide +kernel
theorem r_84_60 : xrow 84 60 = some (.getfield 24, 3, 18, 0, 2, 762) := by decide +kernel
theorem r_84_63 : xrow 84 63 = some (.getfield 131, 3, 15, 6, 2, 793) := by decide +kernel
theorem r_84_66 : xrow 84 66 = some (.iload_n 3, 1, 0, 0, 0, 0) := by decide +kernel
theorem r_84_67 : xrow 84 67 = some (.iaload, 1, 0, 0, 0, 0) := by decide +kernel
theorem r_84_68 : xrow 84 68 = some (.invokevirtual 133, 3, 85, 0, 0, 794) := by decide +kernel
theorem r_84_71 : xrow 84 71 = some (.iastore, 1, 0, 0, 0, 0) := by decide +kernel
theorem r_84_72 : xrow 84 72 = some (.return_, 1, 0, 0, 0, 0) := by decide +kernel
theorem r_84_73 : xrow 84 73 = some (.iconst 0, 1, 0, 0, 0, 0) := by decide +kernel
theorem r_84_74 : xrow 84 74 = some (.istore 5, 2, 0, 0, 0, 0) := by decide +kernel
theorem r_84_76 : xrow 84 76 = some (.iload 5, 2, 0, 0, 0, 0) := by decide +kernel
theorem r_84_78 : xrow 84 78 = some (.aload_n 0, 1, 0, 0, 0, 0) := by decide +kernel
theorem r_84_79 : xrow 84 79 = some (.getfield 24, 3, 18, 0, 2, 762) := by decide +kernel
theorem r_84_82 : xrow 84 82 = some (.getfield 137, 3, 15, 13, 2, 795) := by decide +kernel
theorem r_84_85 : xrow 84 85 = some (.iload 4, 2, 0, 0, 0, 0) := by decide +kernel
theorem r_84_87 : xrow 84 87 = some (.iaload, 1, 0, 0, 0, 0) := by decide +kernel
theorem r_84_88 : xrow 84 88 = some (.if_icmp .ge 50, 3, 138, 0, 0, 0) := by decide +kernel
theorem r_84_91 : xrow 84 91 = some (.aload_n 0, 1, 0, 0, 0, 0) := by decide +kernel
theorem r_84_92 : xrow 84 92 = some (.getfield 24, 3, 18, 0, 2, 762) := by decide +kernel
theorem r_84_95 : xrow 84 95 = some (.getfield 140, 3, 15, 12, 2, 796) := by decide +kernel
theorem r_84_98 : xrow 84 98 = some (.iload 4, 2, 0, 0, 0, 0) := by decide +kernel
theorem r_84_100 : xrow 84 100 = some (.iconst 3, 1, 0, 0, 0, 0) := by decide +kernel
theorem r_84_101 : xrow 84 101 = some (.imul, 1, 0, 0, 0, 0) := by decide +kernel
theorem r_84_102 : xrow 84 102 = some (.iload 5, 2, 0, 0, 0, 0) := by decide +kernel
theorem r_84_104 : xrow 84 104 = some (.iadd, 1, 0, 0, 0, 0) := by decide +kernel
theorem r_84_105 : xrow 84 105 = some (.iaload, 1, 0, 0, 0, 0) := by decide +kernel
theorem r_84_106 : xrow 84 106 = some (.istore 6, 2, 0, 0, 0, 0) := by decide +kernel
theorem r_84_108 : xrow 84 108 = some (.aload_n 0, 1, 0, 0, 0, 0) := by decide +kernel
theorem r_84_109 : xrow 84 109 = some (.getfield 21, 3, 18, 11, 2, 761) := by decide +kernel
theorem r_84_112 : xrow 84 112 = some (.iload 4, 2, 0, 0, 0, 0) := by decide +kernel
theorem r_84_114 : xrow 84 114 = some (.iconst 3, 1, 0, 0, 0, 0) := by decide +kernel
theorem r_84_115 : xrow 84 115 = some (.imul, 1, 0, 0, 0, 0) := by decide +kernel
theorem r_84_116 : xrow 84 116 = some (.iload 5, 2, 0, 0, 0, 0) := by decide +kernel
theorem r_84_118 : xrow 84 118 = some (.iadd, 1, 0, 0, 0, 0) := by decide +kernel
theorem r_84_119 : xrow 84 119 = some (.iconst 4, 1, 0, 0, 0, 0) := by decide +kernel
theorem r_84_120 : xrow 84 120 = some (.imul, 1, 0, 0, 0, 0) := by decide +kernel
theorem r_84_121 : xrow 84 121 = some (.iload_n 2, 1, 0, 0, 0, 0) := by decide +kernel
theorem r_84_122 : xrow 84 122 = some (.iadd, 1, 0, 0, 0, 0) := by decide +kernel
theorem r_84_123 : xrow 84 123 = some (.aload_n 0, 1, 0, 0, 0, 0) := by decide +kernel
theorem r_84_124 : xrow 84 124 = some (.iload_n 1, 1, 0, 0, 0, 0) := by decide +kernel
theorem r_84_125 : xrow 84 125 = some (.iload_n 2, 1, 0, 0, 0, 0) := by decide +kernel
theorem r_84_126 : xrow 84 126 = some (.iload 6, 2, 0, 0, 0, 0) := by decide +kernel
theorem r_84_128 : xrow 84 128 = some (.invokevirtual 133, 3, 85, 0, 0, 794) := by decide +kernel
theorem r_84_131 : xrow 84 131 = some (.iastore, 1, 0, 0, 0, 0) := by decide +kernel
theorem r_84_132 : xrow 84 132 = some (.iinc 5 1, 3, 0, 0, 0, 0) := by decide +kernel
theorem r_84_135 : xrow 84 135 = some (.goto (-59), 3, 76, 0, 0, 0) := by decide +kernel
theorem r_84_138 : xrow 84 138 = some (.return_, 1, 0, 0, 0, 0) := by decide +kernel
theorem r_85_0 : xrow 85 0 = some (.aload_n 0, 1, 0, 0, 0, 0) := by decide +kernel
theorem r_85_1 : xrow 85 1 = some (.iload_n 1, 1, 0, 0, 0, 0) := by decide +kernel
theorem r_85_2 : xrow 85 2 = some (.iload_n 2, 1, 0, 0, 0, 0) := by decide +kernel
theorem r_85_3 : xrow 85 3 = some (.iload_n 3, 1, 0, 0, 0, 0) := by decide +kernel
theorem r_85_4 : xrow 85 4 = some (.invokevirtual 143, 3, 80, 0, 0, 797) := by decide +kernel
theorem r_85_7 : xrow 85 7 = some (.aload_n 0, 1, 0, 0, 0, 0) := by decide +kernel
theorem r_85_8 : xrow 85 8 = some (.getfield 114, 3, 18, 6, 0, 787) := by decide +kernel
theorem r_85_11 : xrow 85 11 = some (.ifCond .ne 10, 3, 21, 0, 0, 0) := by decide +kernel
theorem r_85_14 : xrow 85 14 = some (.aload_n 0, 1, 0, 0, 0, 0) := by decide +kernel
theorem r_85_15 : xrow 85 15 = some (.getfield 117, 3, 18, 9, 0, 788) := by decide +kernel
theorem r_85_18 : xrow 85 18 = some (.goto 8, 3, 26, 0, 0, 0) := by decide +kernel
theorem r_85_21 : xrow 85 21 = some (.aload_n 0, 1, 0, 0, 0, 0) := by decide +kernel
theorem r_85_22 : xrow 85 22 = some (.getfield 114, 3, 18, 6, 0, 787) := by decide +kernel
theorem r_85_25 : xrow 85 25 = some (.ineg, 1, 0, 0, 0, 0) := by decide +kernel
theorem r_85_26 : xrow 85 26 = some (.ireturn, 1, 0, 0, 0, 0) := by decide +kernel
theorem r_86_0 : xrow 86 0 = some (.aload_n 0, 1, 0, 0, 0, 0) := by decide +kernel
theorem r_86_1 : xrow 86 1 = some (.getfield 24, 3, 18, 0, 2, 762) := by decide +kernel
theorem r_86_4 : xrow 86 4 = some (.getfield 75, 3, 15, 9, 2, 775) := by decide +kernel
theorem r_86_7 : xrow 86 7 = some (.iload_n 1, 1, 0, 0, 0, 0) := by decide +kernel
theorem r_86_8 : xrow 86 8 = some (.iconst 4, 1, 0, 0, 0, 0) := by decide +kernel
theorem r_86_9 : xrow 86 9 = some (.imul, 1, 0, 0, 0, 0) := by decide +kernel
theorem r_86_10 : xrow 86 10 = some (.iload_n 2, 1, 0, 0, 0, 0) := by decide +kernel
theorem r_86_11 : xrow 86 11 = some (.iadd, 1, 0, 0, 0, 0) := by decide +kernel
theorem r_86_12 : xrow 86 12 = some (.iaload, 1, 0, 0, 0, 0) := by decide +kernel
theorem r_86_13 : xrow 86 13 = some (.istore 4, 2, 0, 0, 0, 0) := by decide +kernel
theorem r_86_15 : xrow 86 15 = some (.iload 4, 2, 0, 0, 0, 0) := by decide +kernel
theorem r_86_17 : xrow 86 17 = some (.ifCond .ge 7, 3, 24, 0, 0, 0) := by decide +kernel
theorem r_86_20 : xrow 86 20 = some (.iconst (-1), 1, 0, 0, 0, 0) := by decide +kernel
theorem r_86_21 : xrow 86 21 = some (.goto 13, 3, 34, 0, 0, 0) := by decide +kernel
theorem r_86_24 : xrow 86 24 = some (.aload_n 0, 1, 0, 0, 0, 0) := by decide +kernel
theorem r_86_25 : xrow 86 25 = some (.getfield 24, 3, 18, 0, 2, 762) := by decide +kernel
theorem r_86_28 : xrow 86 28 = some (.getfield 128, 3, 15, 7, 2, 792) := by decide +kernel
theorem r_86_31 : xrow 86 31 = some (.iload 4, 2, 0, 0, 0, 0) := by decide +kernel
theorem r_86_33 : xrow 86 33 = some (.iaload, 1, 0, 0, 0, 0) := by decide +kernel
theorem r_86_34 : xrow 86 34 = some (.istore 5, 2, 0, 0, 0, 0) := by decide +kernel
theorem r_86_36 : xrow 86 36 = some (.iload 5, 2, 0, 0, 0, 0) := by decide +kernel
theorem r_86_38 : xrow 86 38 = some (.iconst (-1), 1, 0, 0, 0, 0) := by decide +kernel
theorem r_86_39 : xrow 86 39 = some (.if_icmp .ne 14, 3, 53, 0, 0, 0) := by decide +kernel
theorem r_86_42 : xrow 86 42 = some (.aload_n 0, 1, 0, 0, 0, 0) := by decide +kernel
theorem r_86_43 : xrow 86 43 = some (.getfield 18, 3, 18, 10, 2, 760) := by decide +kernel
theorem r_86_46 : xrow 86 46 = some (.iload_n 1, 1, 0, 0, 0, 0) := by decide +kernel
theorem r_86_47 : xrow 86 47 = some (.iconst 4, 1, 0, 0, 0, 0) := by decide +kernel
theorem r_86_48 : xrow 86 48 = some (.imul, 1, 0, 0, 0, 0) := by decide +kernel
theorem r_86_49 : xrow 86 49 = some (.iload_n 2, 1, 0, 0, 0, 0) := by decide +kernel
theorem r_86_50 : xrow 86 50 = some (.iadd, 1, 0, 0, 0, 0) := by decide +kernel
theorem r_86_51 : xrow 86 51 = some (.iaload, 1, 0, 0, 0, 0) := by decide +kernel
theorem r_86_52 : xrow 86 52 = some (.ireturn, 1, 0, 0, 0, 0) := by decide +kernel
theorem r_86_53 : xrow 86 53 = some (.aload_n 0, 1, 0, 0, 0, 0) := by decide +kernel
theorem r_86_54 : xrow 86 54 = some (.getfield 24, 3, 18, 0, 2, 762) := by decide +kernel
theorem r_86_57 : xrow 86 57 = some (.iload_n 3, 1, 0, 0, 0, 0) := by decide +kernel
theorem r_86_58 : xrow 86 58 = some (.iload 5, 2, 0, 0, 0, 0) := by decide +kernel
theorem r_86_60 : xrow 86 60 = some (.invokevirtual 147, 3, 60, 0, 0, 798) := by decide +kernel
theorem r_86_63 : xrow 86 63 = some (.istore 6, 2, 0, 0, 0, 0) := by decide +kernel
theorem r_86_65 : xrow 86 65 = some (.iload 6, 2, 0, 0, 0, 0) := by decide +kernel
theorem r_86_67 : xrow 86 67 = some (.ifCond .ge 7, 3, 74, 0, 0, 0) := by decide +kernel
theorem r_86_70 : xrow 86 70 = some (.iconst 0, 1, 0, 0, 0, 0) := by decide +kernel
theorem r_86_71 : xrow 86 71 = some (.goto 19, 3, 90, 0, 0, 0) := by decide +kernel
theorem r_86_74 : xrow 86 74 = some (.aload_n 0, 1, 0, 0, 0, 0) := by decide +kernel
theorem r_86_75 : xrow 86 75 = some (.getfield 21, 3, 18, 11, 2, 761) := by decide +kernel
theorem r_86_78 : xrow 86 78 = some (.iload 5, 2, 0, 0, 0, 0) := by decide +kernel
theorem r_86_80 : xrow 86 80 = some (.iconst 3, 1, 0, 0, 0, 0) := by decide +kernel
theorem r_86_81 : xrow 86 81 = some (.imul, 1, 0, 0, 0, 0) := by decide +kernel
theorem r_86_82 : xrow 86 82 = some (.iload 6, 2, 0, 0, 0, 0) := by decide +kernel
theorem r_86_84 : xrow 86 84 = some (.iadd, 1, 0, 0, 0, 0) := by decide +kernel
theorem r_86_85 : xrow 86 85 = some (.iconst 4, 1, 0, 0, 0, 0) := by decide +kernel
theorem r_86_86 : xrow 86 86 = some (.imul, 1, 0, 0, 0, 0) := by decide +kernel
theorem r_86_87 : xrow 86 87 = some (.iload_n 2, 1, 0, 0, 0, 0) := by decide +kernel
theorem r_86_88 : xrow 86 88 = some (.iadd, 1, 0, 0, 0, 0) := by decide +kernel
theorem r_86_89 : xrow 86 89 = some (.iaload, 1, 0, 0, 0, 0) := by decide +kernel
theorem r_86_90 : xrow 86 90 = some (.ireturn, 1, 0, 0, 0, 0) := by decide +kernel
theorem r_87_0 : xrow 87 0 = some (.aload_n 0, 1, 0, 0, 0, 0) := by decide +kernel
theorem r_87_1 : xrow 87 1 = some (.invokespecial 3, 3, 0, 1, 0, 799) := by decide +kernel
theorem r_87_4 : xrow 87 4 = some (.aload_n 0, 1, 0, 0, 0, 0) := by decide +kernel
theorem r_87_5 : xrow 87 5 = some (.aload_n 1, 1, 0, 0, 0, 0) := by decide +kernel
theorem r_87_6 : xrow 87 6 = some (.putfield 9, 3, 19, 0, 2, 800) := by decide +kernel
theorem r_87_9 : xrow 87 9 = some (.aload_n 0, 1, 0, 0, 0, 0) := by decide +kernel
theorem r_87_10 : xrow 87 10 = some (.iconst (-1), 1, 0, 0, 0, 0) := by decide +kernel
theorem r_87_11 : xrow 87 11 = some (.putfield 15, 3, 19, 8, 0, 801) := by decide +kernel
theorem r_87_14 : xrow 87 14 = some (.return_, 1, 0, 0, 0, 0) := by decide +kernel
theorem r_88_0 : xrow 88 0 = some (.aload_n 0, 1, 0, 0, 0, 0) := by decide +kernel
theorem r_88_1 : xrow 88 1 = some (.iconst 0, 1, 0, 0, 0, 0) := by decide +kernel
theorem r_88_2 : xrow 88 2 = some (.iload_n 1, 1, 0, 0, 0, 0) := by decide +kernel
theorem r_88_3 : xrow 88 3 = some (.aload_n 0, 1, 0, 0, 0, 0) := by decide +kernel
theorem r_88_4 : xrow 88 4 = some (.getfield 9, 3, 19, 0, 2, 800) := by decide +kernel
theorem r_88_7 : xrow 88 7 = some (.arraylength, 1, 0, 0, 0, 0) := by decide +kernel
theorem r_88_8 : xrow 88 8 = some (.invokestatic 19, 3, 270, 0, 0, 802) := by decide +kernel
theorem r_88_11 : xrow 88 11 = some (.invokestatic 25, 3, 268, 0, 0, 803) := by decide +kernel
theorem r_88_14 : xrow 88 14 = some (.putfield 28, 3, 19, 1, 0, 804) := by decide +kernel
theorem r_88_17 : xrow 88 17 = some (.aload_n 0, 1, 0, 0, 0, 0) := by decide +kernel
theorem r_88_18 : xrow 88 18 = some (.iconst 0, 1, 0, 0, 0, 0) := by decide +kernel
theorem r_88_19 : xrow 88 19 = some (.putfield 31, 3, 19, 3, 0, 805) := by decide +kernel
theorem r_88_22 : xrow 88 22 = some (.aload_n 0, 1, 0, 0, 0, 0) := by decide +kernel
theorem r_88_23 : xrow 88 23 = some (.iconst 0, 1, 0, 0, 0, 0) := by decide +kernel
theorem r_88_24 : xrow 88 24 = some (.putfield 34, 3, 19, 7, 0, 806) := by decide +kernel
theorem r_88_27 : xrow 88 27 = some (.aload_n 0, 1, 0, 0, 0, 0) := by decide +kernel
theorem r_88_28 : xrow 88 28 = some (.iconst (-1), 1, 0, 0, 0, 0) := by decide +kernel
theorem r_88_29 : xrow 88 29 = some (.putfield 15, 3, 19, 8, 0, 801) := by decide +kernel
theorem r_88_32 : xrow 88 32 = some (.aload_n 0, 1, 0, 0, 0, 0) := by decide +kernel
theorem r_88_33 : xrow 88 33 = some (.invokevirtual 37, 3, 89, 0, 0, 807) := by decide +kernel
theorem r_88_36 : xrow 88 36 = some (.return_, 1, 0, 0, 0, 0) := by decide +kernel
theorem r_89_0 : xrow 89 0 = some (.aload_n 0, 1, 0, 0, 0, 0) := by decide +kernel
theorem r_89_1 : xrow 89 1 = some (.aload_n 0, 1, 0, 0, 0, 0) := by decide +kernel
theorem r_89_2 : xrow 89 2 = some (.getfield 31, 3, 19, 3, 0, 805) := by decide +kernel
theorem r_89_5 : xrow 89 5 = some (.putfield 40, 3, 19, 2, 0, 808) := by decide +kernel
theorem r_89_8 : xrow 89 8 = some (.aload_n 0, 1, 0, 0, 0, 0) := by decide +kernel
theorem r_89_9 : xrow 89 9 = some (.getfield 40, 3, 19, 2, 0, 808) := by decide +kernel
theorem r_89_12 : xrow 89 12 = some (.aload_n 0, 1, 0, 0, 0, 0) := by decide +kernel
theorem r_89_13 : xrow 89 13 = some (.getfield 28, 3, 19, 1, 0, 804) := by decide +kernel
theorem r_89_16 : xrow 89 16 = some (.if_icmp .ge 30, 3, 46, 0, 0, 0) := by decide +kernel
theorem r_89_19 : xrow 89 19 = some (.aload_n 0, 1, 0, 0, 0, 0) := by decide +kernel
theorem r_89_20 : xrow 89 20 = some (.getfield 9, 3, 19, 0, 2, 800) := by decide +kernel
theorem r_89_23 : xrow 89 23 = some (.aload_n 0, 1, 0, 0, 0, 0) := by decide +kernel
theorem r_89_24 : xrow 89 24 = some (.getfield 40, 3, 19, 2, 0, 808) := by decide +kernel
theorem r_89_27 : xrow 89 27 = some (.baload, 1, 0, 0, 0, 0) := by decide +kernel
theorem r_89_28 : xrow 89 28 = some (.bipush 32, 2, 0, 0, 0, 0) := by decide +kernel
theorem r_89_30 : xrow 89 30 = some (.if_icmp .ne 16, 3, 46, 0, 0, 0) := by decide +kernel
theorem r_89_33 : xrow 89 33 = some (.aload_n 0, 1, 0, 0, 0, 0) := by decide +kernel
theorem r_89_34 : xrow 89 34 = some (.dup, 1, 0, 0, 0, 0) := by decide +kernel
theorem r_89_35 : xrow 89 35 = some (.getfield 40, 3, 19, 2, 0, 808) := by decide +kernel
theorem r_89_38 : xrow 89 38 = some (.iconst 1, 1, 0, 0, 0, 0) := by decide +kernel
theorem r_89_39 : xrow 89 39 = some (.iadd, 1, 0, 0, 0, 0) := by decide +kernel
theorem r_89_40 : xrow 89 40 = some (.putfield 40, 3, 19, 2, 0, 808) := by decide +kernel
theorem r_89_43 : xrow 89 43 = some (.goto (-35), 3, 8, 0, 0, 0) := by decide +kernel
theorem r_89_46 : xrow 89 46 = some (.aload_n 0, 1, 0, 0, 0, 0) := by decide +kernel
theorem r_89_47 : xrow 89 47 = some (.aload_n 0, 1, 0, 0, 0, 0) := by decide +kernel
theorem r_89_48 : xrow 89 48 = some (.getfield 40, 3, 19, 2, 0, 808) := by decide +kernel
theorem r_89_51 : xrow 89 51 = some (.putfield 31, 3, 19, 3, 0, 805) := by decide +kernel
theorem r_89_54 : xrow 89 54 = some (.aload_n 0, 1, 0, 0, 0, 0) := by decide +kernel
theorem r_89_55 : xrow 89 55 = some (.getfield 40, 3, 19, 2, 0, 808) := by decide +kernel
theorem r_89_58 : xrow 89 58 = some (.aload_n 0, 1, 0, 0, 0, 0) := by decide +kernel
theorem r_89_59 : xrow 89 59 = some (.getfield 28, 3, 19, 1, 0, 804) := by decide +kernel
theorem r_89_62 : xrow 89 62 = some (.if_icmp .lt 9, 3, 71, 0, 0, 0) := by decide +kernel
theorem r_89_65 : xrow 89 65 = some (.aload_n 0, 1, 0, 0, 0, 0) := by decide +kernel
theorem r_89_66 : xrow 89 66 = some (.iconst 0, 1, 0, 0, 0, 0) := by decide +kernel
theorem r_89_67 : xrow 89 67 = some (.putfield 43, 3, 19, 4, 0, 809) := by decide +kernel
theorem r_89_70 : xrow 89 70 = some (.return_, 1, 0, 0, 0, 0) := by decide +kernel
theorem r_89_71 : xrow 89 71 = some (.aload_n 0, 1, 0, 0, 0, 0) := by decide +kernel
theorem r_89_72 : xrow 89 72 = some (.getfield 9, 3, 19, 0, 2, 800) := by decide +kernel
theorem r_89_75 : xrow 89 75 = some (.aload_n 0, 1, 0, 0, 0, 0) := by decide +kernel
theorem r_89_76 : xrow 89 76 = some (.getfield 40, 3, 19, 2, 0, 808) := by decide +kernel
theorem r_89_79 : xrow 89 79 = some (.baload, 1, 0, 0, 0, 0) := by decide +kernel
theorem r_89_80 : xrow 89 80 = some (.istore_n 1, 1, 0, 0, 0, 0) := by decide +kernel
theorem r_89_81 : xrow 89 81 = some (.iload_n 1, 1, 0, 0, 0, 0) := by decide +kernel
theorem r_89_82 : xrow 89 82 = some (.bipush 97, 2, 0, 0, 0, 0) := by decide +kernel
theorem r_89_84 : xrow 89 84 = some (.if_icmp .lt 16, 3, 100, 0, 0, 0) := by decide +kernel
theorem r_89_87 : xrow 89 87 = some (.iload_n 1, 1, 0, 0, 0, 0) := by decide +kernel
theorem r_89_88 : xrow 89 88 = some (.bipush 122, 2, 0, 0, 0, 0) := by decide +kernel
theorem r_89_90 : xrow 89 90 = some (.if_icmp .gt 10, 3, 100, 0, 0, 0) := by decide +kernel
theorem r_89_93 : xrow 89 93 = some (.aload_n 0, 1, 0, 0, 0, 0) := by decide +kernel
theorem r_89_94 : xrow 89 94 = some (.invokevirtual 46, 3, 91, 0, 0, 810) := by decide +kernel
theorem r_89_97 : xrow 89 97 = some (.goto 48, 3, 145, 0, 0, 0) := by decide +kernel
theorem r_89_100 : xrow 89 100 = some (.iload_n 1, 1, 0, 0, 0, 0) := by decide +kernel
theorem r_89_101 : xrow 89 101 = some (.bipush 48, 2, 0, 0, 0, 0) := by decide +kernel
theorem r_89_103 : xrow 89 103 = some (.if_icmp .lt 16, 3, 119, 0, 0, 0) := by decide +kernel
theorem r_89_106 : xrow 89 106 = some (.iload_n 1, 1, 0, 0, 0, 0) := by decide +kernel
theorem r_89_107 : xrow 89 107 = some (.bipush 57, 2, 0, 0, 0, 0) := by decide +kernel
theorem r_89_109 : xrow 89 109 = some (.if_icmp .gt 10, 3, 119, 0, 0, 0) := by decide +kernel
theorem r_89_112 : xrow 89 112 = some (.aload_n 0, 1, 0, 0, 0, 0) := by decide +kernel
theorem r_89_113 : xrow 89 113 = some (.invokevirtual 49, 3, 92, 0, 0, 811) := by decide +kernel
theorem r_89_116 : xrow 89 116 = some (.goto 29, 3, 145, 0, 0, 0) := by decide +kernel
theorem r_89_119 : xrow 89 119 = some (.aload_n 0, 1, 0, 0, 0, 0) := by decide +kernel
theorem r_89_120 : xrow 89 120 = some (.iload_n 1, 1, 0, 0, 0, 0) := by decide +kernel
theorem r_89_121 : xrow 89 121 = some (.invokestatic 52, 3, 90, 0, 0, 812) := by decide +kernel
theorem r_89_124 : xrow 89 124 = some (.ifCond .eq 7, 3, 131, 0, 0, 0) := by decide +kernel
theorem r_89_127 : xrow 89 127 = some (.iload_n 1, 1, 0, 0, 0, 0) := by decide +kernel
theorem r_89_128 : xrow 89 128 = some (.goto 4, 3, 132, 0, 0, 0) := by decide +kernel
theorem r_89_131 : xrow 89 131 = some (.iconst 3, 1, 0, 0, 0, 0) := by decide +kernel
theorem r_89_132 : xrow 89 132 = some (.putfield 43, 3, 19, 4, 0, 809) := by decide +kernel
theorem r_89_135 : xrow 89 135 = some (.aload_n 0, 1, 0, 0, 0, 0) := by decide +kernel
theorem r_89_136 : xrow 89 136 = some (.aload_n 0, 1, 0, 0, 0, 0) := by decide +kernel
theorem r_89_137 : xrow 89 137 = some (.getfield 40, 3, 19, 2, 0, 808) := by decide +kernel
theorem r_89_140 : xrow 89 140 = some (.iconst 1, 1, 0, 0, 0, 0) := by decide +kernel
theorem r_89_141 : xrow 89 141 = some (.iadd, 1, 0, 0, 0, 0) := by decide +kernel
theorem r_89_142 : xrow 89 142 = some (.putfield 31, 3, 19, 3, 0, 805) := by decide +kernel
theorem r_89_145 : xrow 89 145 = some (.return_, 1, 0, 0, 0, 0) := by decide +kernel
theorem r_90_0 : xrow 90 0 = some (.iload_n 0, 1, 0, 0, 0, 0) := by decide +kernel
theorem r_90_1 : xrow 90 1 = some (.bipush 40, 2, 0, 0, 0, 0) := by decide +kernel
theorem r_90_3 : xrow 90 3 = some (.if_icmp .eq 27, 3, 30, 0, 0, 0) := by decide +kernel
theorem r_90_6 : xrow 90 6 = some (.iload_n 0, 1, 0, 0, 0, 0) := by decide +kernel
theorem r_90_7 : xrow 90 7 = some (.bipush 41, 2, 0, 0, 0, 0) := by decide +kernel
theorem r_90_9 : xrow 90 9 = some (.if_icmp .eq 21, 3, 30, 0, 0, 0) := by decide +kernel
theorem r_90_12 : xrow 90 12 = some (.iload_n 0, 1, 0, 0, 0, 0) := by decide +kernel
theorem r_90_13 : xrow 90 13 = some (.bipush 44, 2, 0, 0, 0, 0) := by decide +kernel
theorem r_90_15 : xrow 90 15 = some (.if_icmp .eq 15, 3, 30, 0, 0, 0) := by decide +kernel
theorem r_90_18 : xrow 90 18 = some (.iload_n 0, 1, 0, 0, 0, 0) := by decide +kernel
theorem r_90_19 : xrow 90 19 = some (.bipush 45, 2, 0, 0, 0, 0) := by decide +kernel
theorem r_90_21 : xrow 90 21 = some (.if_icmp .eq 9, 3, 30, 0, 0, 0) := by decide +kernel
theorem r_90_24 : xrow 90 24 = some (.iload_n 0, 1, 0, 0, 0, 0) := by decide +kernel
theorem r_90_25 : xrow 90 25 = some (.bipush 59, 2, 0, 0, 0, 0) := by decide +kernel
theorem r_90_27 : xrow 90 27 = some (.if_icmp .ne 7, 3, 34, 0, 0, 0) := by decide +kernel
theorem r_90_30 : xrow 90 30 = some (.iconst 1, 1, 0, 0, 0, 0) := by decide +kernel
theorem r_90_31 : xrow 90 31 = some (.goto 4, 3, 35, 0, 0, 0) := by decide +kernel
theorem r_90_34 : xrow 90 34 = some (.iconst 0, 1, 0, 0, 0, 0) := by decide +kernel
theorem r_90_35 : xrow 90 35 = some (.ireturn, 1, 1, 0, 0, 0) := by decide +kernel
theorem r_91_0 : xrow 91 0 = some (.aload_n 0, 1, 0, 0, 0, 0) := by decide +kernel
theorem r_91_1 : xrow 91 1 = some (.lconst 0, 1, 0, 0, 0, 0) := by decide +kernel
theorem r_91_2 : xrow 91 2 = some (.putfield 56, 3, 19, 6, 1, 813) := by decide +kernel
theorem r_91_5 : xrow 91 5 = some (.aload_n 0, 1, 0, 0, 0, 0) := by decide +kernel
theorem r_91_6 : xrow 91 6 = some (.getfield 31, 3, 19, 3, 0, 805) := by decide +kernel
theorem r_91_9 : xrow 91 9 = some (.aload_n 0, 1, 0, 0, 0, 0) := by decide +kernel
theorem r_91_10 : xrow 91 10 = some (.getfield 28, 3, 19, 1, 0, 804) := by decide +kernel
theorem r_91_13 : xrow 91 13 = some (.if_icmp .ge 72, 3, 85, 0, 0, 0) := by decide +kernel
theorem r_91_16 : xrow 91 16 = some (.aload_n 0, 1, 0, 0, 0, 0) := by decide +kernel
theorem r_91_17 : xrow 91 17 = some (.getfield 9, 3, 19, 0, 2, 800) := by decide +kernel
theorem r_91_20 : xrow 91 20 = some (.aload_n 0, 1, 0, 0, 0, 0) := by decide +kernel
theorem r_91_21 : xrow 91 21 = some (.getfield 31, 3, 19, 3, 0, 805) := by decide +kernel
theorem r_91_24 : xrow 91 24 = some (.baload, 1, 0, 0, 0, 0) := by decide +kernel
theorem r_91_25 : xrow 91 25 = some (.bipush 97, 2, 0, 0, 0, 0) := by decide +kernel
theorem r_91_27 : xrow 91 27 = some (.if_icmp .lt 58, 3, 85, 0, 0, 0) := by decide +kernel
theorem r_91_30 : xrow 91 30 = some (.aload_n 0, 1, 0, 0, 0, 0) := by decide +kernel
theorem r_91_31 : xrow 91 31 = some (.getfield 9, 3, 19, 0, 2, 800) := by decide +kernel
theorem r_91_34 : xrow 91 34 = some (.aload_n 0, 1, 0, 0, 0, 0) := by decide +kernel
theorem r_91_35 : xrow 91 35 = some (.getfield 31, 3, 19, 3, 0, 805) := by decide +kernel
theorem r_91_38 : xrow 91 38 = some (.baload, 1, 0, 0, 0, 0) := by decide +kernel
theorem r_91_39 : xrow 91 39 = some (.bipush 122, 2, 0, 0, 0, 0) := by decide +kernel
theorem r_91_41 : xrow 91 41 = some (.if_icmp .gt 44, 3, 85, 0, 0, 0) := by decide +kernel
theorem r_91_44 : xrow 91 44 = some (.aload_n 0, 1, 0, 0, 0, 0) := by decide +kernel
theorem r_91_45 : xrow 91 45 = some (.aload_n 0, 1, 0, 0, 0, 0) := by decide +kernel
theorem r_91_46 : xrow 91 46 = some (.getfield 56, 3, 19, 6, 1, 813) := by decide +kernel
theorem r_91_49 : xrow 91 49 = some (.ldc2_w 60, 3, 0, 0, 0, 814) := by decide +kernel
theorem r_91_52 : xrow 91 52 = some (.lmul, 1, 0, 0, 0, 0) := by decide +kernel
theorem r_91_53 : xrow 91 53 = some (.aload_n 0, 1, 0, 0, 0, 0) := by decide +kernel
theorem r_91_54 : xrow 91 54 = some (.getfield 9, 3, 19, 0, 2, 800) := by decide +kernel
theorem r_91_57 : xrow 91 57 = some (.aload_n 0, 1, 0, 0, 0, 0) := by decide +kernel
theorem r_91_58 : xrow 91 58 = some (.getfield 31, 3, 19, 3, 0, 805) := by decide +kernel
theorem r_91_61 : xrow 91 61 = some (.baload, 1, 0, 0, 0, 0) := by decide +kernel
theorem r_91_62 : xrow 91 62 = some (.bipush 97, 2, 0, 0, 0, 0) := by decide +kernel
theorem r_91_64 : xrow 91 64 = some (.isub, 1, 0, 0, 0, 0) := by decide +kernel
theorem r_91_65 : xrow 91 65 = some (.iconst 1, 1, 0, 0, 0, 0) := by decide +kernel
theorem r_91_66 : xrow 91 66 = some (.iadd, 1, 0, 0, 0, 0) := by decide +kernel
theorem r_91_67 : xrow 91 67 = some (.i2l, 1, 0, 0, 0, 0) := by decide +kernel
theorem r_91_68 : xrow 91 68 = some (.ladd, 1, 0, 0, 0, 0) := by decide +kernel
theorem r_91_69 : xrow 91 69 = some (.putfield 56, 3, 19, 6, 1, 813) := by decide +kernel
theorem r_91_72 : xrow 91 72 = some (.aload_n 0, 1, 0, 0, 0, 0) := by decide +kernel
theorem r_91_73 : xrow 91 73 = some (.dup, 1, 0, 0, 0, 0) := by decide +kernel
theorem r_91_74 : xrow 91 74 = some (.getfield 31, 3, 19, 3, 0, 805) := by decide +kernel
theorem r_91_77 : xrow 91 77 = some (.iconst 1, 1, 0, 0, 0, 0) := by decide +kernel
theorem r_91_78 : xrow 91 78 = some (.iadd, 1, 0, 0, 0, 0) := by decide +kernel
theorem r_91_79 : xrow 91 79 = some (.putfield 31, 3, 19, 3, 0, 805) := by decide +kernel
theorem r_91_82 : xrow 91 82 = some (.goto (-77), 3, 5, 0, 0, 0) := by decide +kernel
theorem r_91_85 : xrow 91 85 = some (.aload_n 0, 1, 0, 0, 0, 0) := by decide +kernel
theorem r_91_86 : xrow 91 86 = some (.aload_n 0, 1, 0, 0, 0, 0) := by decide +kernel
theorem r_91_87 : xrow 91 87 = some (.getfield 31, 3, 19, 3, 0, 805) := by decide +kernel
theorem r_91_90 : xrow 91 90 = some (.aload_n 0, 1, 0, 0, 0, 0) := by decide +kernel
theorem r_91_91 : xrow 91 91 = some (.getfield 40, 3, 19, 2, 0, 808) := by decide +kernel
theorem r_91_94 : xrow 91 94 = some (.isub, 1, 0, 0, 0, 0) := by decide +kernel
theorem r_91_95 : xrow 91 95 = some (.bipush 8, 2, 0, 0, 0, 0) := by decide +kernel
theorem r_91_97 : xrow 91 97 = some (.if_icmp .gt 7, 3, 104, 0, 0, 0) := by decide +kernel
theorem r_91_100 : xrow 91 100 = some (.iconst 1, 1, 0, 0, 0, 0) := by decide +kernel
theorem r_91_101 : xrow 91 101 = some (.goto 4, 3, 105, 0, 0, 0) := by decide +kernel
theorem r_91_104 : xrow 91 104 = some (.iconst 3, 1, 0, 0, 0, 0) := by decide +kernel
theorem r_91_105 : xrow 91 105 = some (.putfield 43, 3, 19, 4, 0, 809) := by decide +kernel
theorem r_91_108 : xrow 91 108 = some (.return_, 1, 0, 0, 0, 0) := by decide +kernel
theorem r_92_0 : xrow 92 0 = some (.aload_n 0, 1, 0, 0, 0, 0) := by decide +kernel
theorem r_92_1 : xrow 92 1 = some (.iconst 0, 1, 0, 0, 0, 0) := by decide +kernel
theorem r_92_2 : xrow 92 2 = some (.putfield 62, 3, 19, 5, 0, 815) := by decide +kernel
theorem r_92_5 : xrow 92 5 = some (.aload_n 0, 1, 0, 0, 0, 0) := by decide +kernel
theorem r_92_6 : xrow 92 6 = some (.getfield 31, 3, 19, 3, 0, 805) := by decide +kernel
theorem r_92_9 : xrow 92 9 = some (.aload_n 0, 1, 0, 0, 0, 0) := by decide +kernel
theorem r_92_10 : xrow 92 10 = some (.getfield 28, 3, 19, 1, 0, 804) := by decide +kernel
theorem r_92_13 : xrow 92 13 = some (.if_icmp .ge 68, 3, 81, 0, 0, 0) := by decide +kernel
theorem r_92_16 : xrow 92 16 = some (.aload_n 0, 1, 0, 0, 0, 0) := by decide +kernel
theorem r_92_17 : xrow 92 17 = some (.getfield 9, 3, 19, 0, 2, 800) := by decide +kernel
theorem r_92_20 : xrow 92 20 = some (.aload_n 0, 1, 0, 0, 0, 0) := by decide +kernel
theorem r_92_21 : xrow 92 21 = some (.getfield 31, 3, 19, 3, 0, 805) := by decide +kernel
theorem r_92_24 : xrow 92 24 = some (.baload, 1, 0, 0, 0, 0) := by decide +kernel
theorem r_92_25 : xrow 92 25 = some (.bipush 48, 2, 0, 0, 0, 0) := by decide +kernel
theorem r_92_27 : xrow 92 27 = some (.if_icmp .lt 54, 3, 81, 0, 0, 0) := by decide +kernel
theorem r_92_30 : xrow 92 30 = some (.aload_n 0, 1, 0, 0, 0, 0) := by decide +kernel
theorem r_92_31 : xrow 92 31 = some (.getfield 9, 3, 19, 0, 2, 800) := by decide +kernel
theorem r_92_34 : xrow 92 34 = some (.aload_n 0, 1, 0, 0, 0, 0) := by decide +kernel
theorem r_92_35 : xrow 92 35 = some (.getfield 31, 3, 19, 3, 0, 805) := by decide +kernel
theorem r_92_38 : xrow 92 38 = some (.baload, 1, 0, 0, 0, 0) := by decide +kernel
theorem r_92_39 : xrow 92 39 = some (.bipush 57, 2, 0, 0, 0, 0) := by decide +kernel
theorem r_92_41 : xrow 92 41 = some (.if_icmp .gt 40, 3, 81, 0, 0, 0) := by decide +kernel
theorem r_92_44 : xrow 92 44 = some (.aload_n 0, 1, 0, 0, 0, 0) := by decide +kernel
theorem r_92_45 : xrow 92 45 = some (.aload_n 0, 1, 0, 0, 0, 0) := by decide +kernel
theorem r_92_46 : xrow 92 46 = some (.getfield 62, 3, 19, 5, 0, 815) := by decide +kernel
theorem r_92_49 : xrow 92 49 = some (.bipush 10, 2, 0, 0, 0, 0) := by decide +kernel
theorem r_92_51 : xrow 92 51 = some (.imul, 1, 0, 0, 0, 0) := by decide +kernel
theorem r_92_52 : xrow 92 52 = some (.aload_n 0, 1, 0, 0, 0, 0) := by decide +kernel
theorem r_92_53 : xrow 92 53 = some (.getfield 9, 3, 19, 0, 2, 800) := by decide +kernel
theorem r_92_56 : xrow 92 56 = some (.aload_n 0, 1, 0, 0, 0, 0) := by decide +kernel
theorem r_92_57 : xrow 92 57 = some (.getfield 31, 3, 19, 3, 0, 805) := by decide +kernel
theorem r_92_60 : xrow 92 60 = some (.baload, 1, 0, 0, 0, 0) := by decide +kernel
theorem r_92_61 : xrow 92 61 = some (.bipush 48, 2, 0, 0, 0, 0) := by decide +kernel
theorem r_92_63 : xrow 92 63 = some (.isub, 1, 0, 0, 0, 0) := by decide +kernel
theorem r_92_64 : xrow 92 64 = some (.iadd, 1, 0, 0, 0, 0) := by decide +kernel
theorem r_92_65 : xrow 92 65 = some (.putfield 62, 3, 19, 5, 0, 815) := by decide +kernel
theorem r_92_68 : xrow 92 68 = some (.aload_n 0, 1, 0, 0, 0, 0) := by decide +kernel
theorem r_92_69 : xrow 92 69 = some (.dup, 1, 0, 0, 0, 0) := by decide +kernel
theorem r_92_70 : xrow 92 70 = some (.getfield 31, 3, 19, 3, 0, 805) := by decide +kernel
theorem r_92_73 : xrow 92 73 = some (.iconst 1, 1, 0, 0, 0, 0) := by decide +kernel
theorem r_92_74 : xrow 92 74 = some (.iadd, 1, 0, 0, 0, 0) := by decide +kernel
theorem r_92_75 : xrow 92 75 = some (.putfield 31, 3, 19, 3, 0, 805) := by decide +kernel
theorem r_92_78 : xrow 92 78 = some (.goto (-73), 3, 5, 0, 0, 0) := by decide +kernel
theorem r_92_81 : xrow 92 81 = some (.aload_n 0, 1, 0, 0, 0, 0) := by decide +kernel
theorem r_92_82 : xrow 92 82 = some (.aload_n 0, 1, 0, 0, 0, 0) := by decide +kernel
theorem r_92_83 : xrow 92 83 = some (.getfield 31, 3, 19, 3, 0, 805) := by decide +kernel
theorem r_92_86 : xrow 92 86 = some (.aload_n 0, 1, 0, 0, 0, 0) := by decide +kernel
theorem r_92_87 : xrow 92 87 = some (.getfield 40, 3, 19, 2, 0, 808) := by decide +kernel
theorem r_92_90 : xrow 92 90 = some (.isub, 1, 0, 0, 0, 0) := by decide +kernel
theorem r_92_91 : xrow 92 91 = some (.iconst 4, 1, 0, 0, 0, 0) := by decide +kernel
theorem r_92_92 : xrow 92 92 = some (.if_icmp .gt 7, 3, 99, 0, 0, 0) := by decide +kernel
theorem r_92_95 : xrow 92 95 = some (.iconst 2, 1, 0, 0, 0, 0) := by decide +kernel
theorem r_92_96 : xrow 92 96 = some (.goto 4, 3, 100, 0, 0, 0) := by decide +kernel
theorem r_92_99 : xrow 92 99 = some (.iconst 3, 1, 0, 0, 0, 0) := by decide +kernel
theorem r_92_100 : xrow 92 100 = some (.putfield 43, 3, 19, 4, 0, 809) := by decide +kernel
theorem r_92_103 : xrow 92 103 = some (.return_, 1, 0, 0, 0, 0) := by decide +kernel
theorem r_93_0 : xrow 93 0 = some (.aload_n 0, 1, 0, 0, 0, 0) := by decide +kernel
theorem r_93_1 : xrow 93 1 = some (.getfield 43, 3, 19, 4, 0, 809) := by decide +kernel
theorem r_93_4 : xrow 93 4 = some (.iconst 1, 1, 0, 0, 0, 0) := by decide +kernel
theorem r_93_5 : xrow 93 5 = some (.if_icmp .ne 19, 3, 24, 0, 0, 0) := by decide +kernel
theorem r_93_8 : xrow 93 8 = some (.aload_n 0, 1, 0, 0, 0, 0) := by decide +kernel
theorem r_93_9 : xrow 93 9 = some (.getfield 31, 3, 19, 3, 0, 805) := by decide +kernel
theorem r_93_12 : xrow 93 12 = some (.aload_n 0, 1, 0, 0, 0, 0) := by decide +kernel
theorem r_93_13 : xrow 93 13 = some (.getfield 40, 3, 19, 2, 0, 808) := by decide +kernel
theorem r_93_16 : xrow 93 16 = some (.isub, 1, 0, 0, 0, 0) := by decide +kernel
theorem r_93_17 : xrow 93 17 = some (.aload_n 1, 1, 0, 0, 0, 0) := by decide +kernel
theorem r_93_18 : xrow 93 18 = some (.invokevirtual 65, 3, 271, 0, 0, 816) := by decide +kernel
theorem r_93_21 : xrow 93 21 = some (.if_icmp .eq 5, 3, 26, 0, 0, 0) := by decide +kernel
theorem r_93_24 : xrow 93 24 = some (.iconst 0, 1, 0, 0, 0, 0) := by decide +kernel
theorem r_93_25 : xrow 93 25 = some (.ireturn, 1, 1, 0, 0, 0) := by decide +kernel
theorem r_93_26 : xrow 93 26 = some (.iconst 0, 1, 0, 0, 0, 0) := by decide +kernel
theorem r_93_27 : xrow 93 27 = some (.istore_n 2, 1, 0, 0, 0, 0) := by decide +kernel
theorem r_93_28 : xrow 93 28 = some (.iload_n 2, 1, 0, 0, 0, 0) := by decide +kernel
theorem r_93_29 : xrow 93 29 = some (.aload_n 1, 1, 0, 0, 0, 0) := by decide +kernel
theorem r_93_30 : xrow 93 30 = some (.invokevirtual 65, 3, 271, 0, 0, 816) := by decide +kernel
theorem r_93_33 : xrow 93 33 = some (.if_icmp .ge 30, 3, 63, 0, 0, 0) := by decide +kernel
theorem r_93_36 : xrow 93 36 = some (.aload_n 0, 1, 0, 0, 0, 0) := by decide +kernel
theorem r_93_37 : xrow 93 37 = some (.getfield 9, 3, 19, 0, 2, 800) := by decide +kernel
theorem r_93_40 : xrow 93 40 = some (.aload_n 0, 1, 0, 0, 0, 0) := by decide +kernel
theorem r_93_41 : xrow 93 41 = some (.getfield 40, 3, 19, 2, 0, 808) := by decide +kernel
theorem r_93_44 : xrow 93 44 = some (.iload_n 2, 1, 0, 0, 0, 0) := by decide +kernel
theorem r_93_45 : xrow 93 45 = some (.iadd, 1, 0, 0, 0, 0) := by decide +kernel
theorem r_93_46 : xrow 93 46 = some (.baload, 1, 0, 0, 0, 0) := by decide +kernel
theorem r_93_47 : xrow 93 47 = some (.aload_n 1, 1, 0, 0, 0, 0) := by decide +kernel
theorem r_93_48 : xrow 93 48 = some (.iload_n 2, 1, 0, 0, 0, 0) := by decide +kernel
theorem r_93_49 : xrow 93 49 = some (.invokevirtual 71, 3, 272, 0, 0, 817) := by decide +kernel
theorem r_93_52 : xrow 93 52 = some (.if_icmp .eq 5, 3, 57, 0, 0, 0) := by decide +kernel
theorem r_93_55 : xrow 93 55 = some (.iconst 0, 1, 0, 0, 0, 0) := by decide +kernel
theorem r_93_56 : xrow 93 56 = some (.ireturn, 1, 1, 0, 0, 0) := by decide +kernel
theorem r_93_57 : xrow 93 57 = some (.iinc 2 1, 3, 0, 0, 0, 0) := by decide +kernel
theorem r_93_60 : xrow 93 60 = some (.goto (-32), 3, 28, 0, 0, 0) := by decide +kernel
theorem r_93_63 : xrow 93 63 = some (.iconst 1, 1, 0, 0, 0, 0) := by decide +kernel
theorem r_93_64 : xrow 93 64 = some (.ireturn, 1, 1, 0, 0, 0) := by decide +kernel
theorem r_94_0 : xrow 94 0 = some (.aload_n 0, 1, 0, 0, 0, 0) := by decide +kernel
theorem r_94_1 : xrow 94 1 = some (.getfield 43, 3, 19, 4, 0, 809) := by decide +kernel
theorem r_94_4 : xrow 94 4 = some (.iconst 1, 1, 0, 0, 0, 0) := by decide +kernel
theorem r_94_5 : xrow 94 5 = some (.if_icmp .ne 69, 3, 74, 0, 0, 0) := by decide +kernel
theorem r_94_8 : xrow 94 8 = some (.aload_n 0, 1, 0, 0, 0, 0) := by decide +kernel
theorem r_94_9 : xrow 94 9 = some (.ldc 75, 2, 1, 1, 0, 0) := by decide +kernel
theorem r_94_11 : xrow 94 11 = some (.invokevirtual 77, 3, 93, 0, 0, 818) := by decide +kernel
theorem r_94_14 : xrow 94 14 = some (.ifCond .ne 60, 3, 74, 0, 0, 0) := by decide +kernel
theorem r_94_17 : xrow 94 17 = some (.aload_n 0, 1, 0, 0, 0, 0) := by decide +kernel
theorem r_94_18 : xrow 94 18 = some (.ldc 81, 2, 2, 1, 0, 0) := by decide +kernel
theorem r_94_20 : xrow 94 20 = some (.invokevirtual 77, 3, 93, 0, 0, 818) := by decide +kernel
theorem r_94_23 : xrow 94 23 = some (.ifCond .ne 51, 3, 74, 0, 0, 0) := by decide +kernel
theorem r_94_26 : xrow 94 26 = some (.aload_n 0, 1, 0, 0, 0, 0) := by decide +kernel
theorem r_94_27 : xrow 94 27 = some (.ldc 83, 2, 3, 1, 0, 0) := by decide +kernel
theorem r_94_29 : xrow 94 29 = some (.invokevirtual 77, 3, 93, 0, 0, 818) := by decide +kernel
theorem r_94_32 : xrow 94 32 = some (.ifCond .ne 42, 3, 74, 0, 0, 0) := by decide +kernel
theorem r_94_35 : xrow 94 35 = some (.aload_n 0, 1, 0, 0, 0, 0) := by decide +kernel
theorem r_94_36 : xrow 94 36 = some (.ldc 85, 2, 4, 1, 0, 0) := by decide +kernel
theorem r_94_38 : xrow 94 38 = some (.invokevirtual 77, 3, 93, 0, 0, 818) := by decide +kernel
theorem r_94_41 : xrow 94 41 = some (.ifCond .ne 33, 3, 74, 0, 0, 0) := by decide +kernel
theorem r_94_44 : xrow 94 44 = some (.aload_n 0, 1, 0, 0, 0, 0) := by decide +kernel
theorem r_94_45 : xrow 94 45 = some (.ldc 87, 2, 5, 1, 0, 0) := by decide +kernel
theorem r_94_47 : xrow 94 47 = some (.invokevirtual 77, 3, 93, 0, 0, 818) := by decide +kernel
theorem r_94_50 : xrow 94 50 = some (.ifCond .ne 24, 3, 74, 0, 0, 0) := by decide +kernel
theorem r_94_53 : xrow 94 53 = some (.aload_n 0, 1, 0, 0, 0, 0) := by decide +kernel
theorem r_94_54 : xrow 94 54 = some (.ldc 89, 2, 6, 1, 0, 0) := by decide +kernel
theorem r_94_56 : xrow 94 56 = some (.invokevirtual 77, 3, 93, 0, 0, 818) := by decide +kernel
theorem r_94_59 : xrow 94 59 = some (.ifCond .ne 15, 3, 74, 0, 0, 0) := by decide +kernel
theorem r_94_62 : xrow 94 62 = some (.aload_n 0, 1, 0, 0, 0, 0) := by decide +kernel
theorem r_94_63 : xrow 94 63 = some (.invokevirtual 91, 3, 95, 0, 0, 819) := by decide +kernel
theorem r_94_66 : xrow 94 66 = some (.iconst (-1), 1, 0, 0, 0, 0) := by decide +kernel
theorem r_94_67 : xrow 94 67 = some (.if_icmp .ne 7, 3, 74, 0, 0, 0) := by decide +kernel
theorem r_94_70 : xrow 94 70 = some (.iconst 1, 1, 0, 0, 0, 0) := by decide +kernel
theorem r_94_71 : xrow 94 71 = some (.goto 4, 3, 75, 0, 0, 0) := by decide +kernel
theorem r_94_74 : xrow 94 74 = some (.iconst 0, 1, 0, 0, 0, 0) := by decide +kernel
theorem r_94_75 : xrow 94 75 = some (.ireturn, 1, 1, 0, 0, 0) := by decide +kernel
theorem r_95_0 : xrow 95 0 = some (.aload_n 0, 1, 0, 0, 0, 0) := by decide +kernel
theorem r_95_1 : xrow 95 1 = some (.ldc 94, 2, 7, 1, 0, 0) := by decide +kernel
theorem r_95_3 : xrow 95 3 = some (.invokevirtual 77, 3, 93, 0, 0, 818) := by decide +kernel
theorem r_95_6 : xrow 95 6 = some (.ifCond .eq 5, 3, 11, 0, 0, 0) := by decide +kernel
theorem r_95_9 : xrow 95 9 = some (.iconst 0, 1, 0, 0, 0, 0) := by decide +kernel
theorem r_95_10 : xrow 95 10 = some (.ireturn, 1, 0, 0, 0, 0) := by decide +kernel
theorem r_95_11 : xrow 95 11 = some (.aload_n 0, 1, 0, 0, 0, 0) := by decide +kernel
theorem r_95_12 : xrow 95 12 = some (.ldc 96, 2, 8, 1, 0, 0) := by decide +kernel
theorem r_95_14 : xrow 95 14 = some (.invokevirtual 77, 3, 93, 0, 0, 818) := by decide +kernel
theorem r_95_17 : xrow 95 17 = some (.ifCond .eq 5, 3, 22, 0, 0, 0) := by decide +kernel
theorem r_95_20 : xrow 95 20 = some (.iconst 1, 1, 0, 0, 0, 0) := by decide +kernel
theorem r_95_21 : xrow 95 21 = some (.ireturn, 1, 0, 0, 0, 0) := by decide +kernel
theorem r_95_22 : xrow 95 22 = some (.aload_n 0, 1, 0, 0, 0, 0) := by decide +kernel
theorem r_95_23 : xrow 95 23 = some (.ldc 98, 2, 9, 1, 0, 0) := by decide +kernel
theorem r_95_25 : xrow 95 25 = some (.invokevirtual 77, 3, 93, 0, 0, 818) := by decide +kernel
theorem r_95_28 : xrow 95 28 = some (.ifCond .eq 5, 3, 33, 0, 0, 0) := by decide +kernel
theorem r_95_31 : xrow 95 31 = some (.iconst 2, 1, 0, 0, 0, 0) := by decide +kernel
theorem r_95_32 : xrow 95 32 = some (.ireturn, 1, 0, 0, 0, 0) := by decide +kernel
theorem r_95_33 : xrow 95 33 = some (.aload_n 0, 1, 0, 0, 0, 0) := by decide +kernel
theorem r_95_34 : xrow 95 34 = some (.ldc 100, 2, 10, 1, 0, 0) := by decide +kernel
theorem r_95_36 : xrow 95 36 = some (.invokevirtual 77, 3, 93, 0, 0, 818) := by decide +kernel
theorem r_95_39 : xrow 95 39 = some (.ifCond .eq 7, 3, 46, 0, 0, 0) := by decide +kernel
theorem r_95_42 : xrow 95 42 = some (.iconst 3, 1, 0, 0, 0, 0) := by decide +kernel
theorem r_95_43 : xrow 95 43 = some (.goto 4, 3, 47, 0, 0, 0) := by decide +kernel
theorem r_95_46 : xrow 95 46 = some (.iconst (-1), 1, 0, 0, 0, 0) := by decide +kernel
theorem r_95_47 : xrow 95 47 = some (.ireturn, 1, 0, 0, 0, 0) := by decide +kernel
theorem r_96_0 : xrow 96 0 = some (.aload_n 0, 1, 0, 0, 0, 0) := by decide +kernel
theorem r_96_1 : xrow 96 1 = some (.getfield 43, 3, 19, 4, 0, 809) := by decide +kernel
theorem r_96_4 : xrow 96 4 = some (.iload_n 1, 1, 0, 0, 0, 0) := by decide +kernel
theorem r_96_5 : xrow 96 5 = some (.if_icmp .eq 9, 3, 14, 0, 0, 0) := by decide +kernel
theorem r_96_8 : xrow 96 8 = some (.aload_n 0, 1, 0, 0, 0, 0) := by decide +kernel
theorem r_96_9 : xrow 96 9 = some (.iconst 1, 1, 0, 0, 0, 0) := by decide +kernel
theorem r_96_10 : xrow 96 10 = some (.invokevirtual 102, 3, 99, 0, 0, 820) := by decide +kernel
theorem r_96_13 : xrow 96 13 = some (.ireturn, 1, 1, 0, 0, 0) := by decide +kernel
theorem r_96_14 : xrow 96 14 = some (.aload_n 0, 1, 0, 0, 0, 0) := by decide +kernel
theorem r_96_15 : xrow 96 15 = some (.invokevirtual 37, 3, 89, 0, 0, 807) := by decide +kernel
theorem r_96_18 : xrow 96 18 = some (.iconst 1, 1, 0, 0, 0, 0) := by decide +kernel
theorem r_96_19 : xrow 96 19 = some (.ireturn, 1, 1, 0, 0, 0) := by decide +kernel
theorem r_97_0 : xrow 97 0 = some (.aload_n 0, 1, 0, 0, 0, 0) := by decide +kernel
theorem r_97_1 : xrow 97 1 = some (.aload_n 1, 1, 0, 0, 0, 0) := by decide +kernel
theorem r_97_2 : xrow 97 2 = some (.invokevirtual 77, 3, 93, 0, 0, 818) := by decide +kernel
theorem r_97_5 : xrow 97 5 = some (.ifCond .ne 9, 3, 14, 0, 0, 0) := by decide +kernel
theorem r_97_8 : xrow 97 8 = some (.aload_n 0, 1, 0, 0, 0, 0) := by decide +kernel
theorem r_97_9 : xrow 97 9 = some (.iconst 1, 1, 0, 0, 0, 0) := by decide +kernel
theorem r_97_10 : xrow 97 10 = some (.invokevirtual 102, 3, 99, 0, 0, 820) := by decide +kernel
theorem r_97_13 : xrow 97 13 = some (.ireturn, 1, 1, 0, 0, 0) := by decide +kernel
theorem r_97_14 : xrow 97 14 = some (.aload_n 0, 1, 0, 0, 0, 0) := by decide +kernel
theorem r_97_15 : xrow 97 15 = some (.invokevirtual 37, 3, 89, 0, 0, 807) := by decide +kernel
theorem r_97_18 : xrow 97 18 = some (.iconst 1, 1, 0, 0, 0, 0) := by decide +kernel
theorem r_97_19 : xrow 97 19 = some (.ireturn, 1, 1, 0, 0, 0) := by decide +kernel
theorem r_98_0 : xrow 98 0 = some (.aload_n 0, 1, 0, 0, 0, 0) := by decide +kernel
theorem r_98_1 : xrow 98 1 = some (.getfield 43, 3, 19, 4, 0, 809) := by decide +kernel
theorem r_98_4 : xrow 98 4 = some (.iconst 2, 1, 0, 0, 0, 0) := by decide +kernel
theorem r_98_5 : xrow 98 5 = some (.if_icmp .eq 11, 3, 16, 0, 0, 0) := by decide +kernel
theorem r_98_8 : xrow 98 8 = some (.aload_n 0, 1, 0, 0, 0, 0) := by decide +kernel
theorem r_98_9 : xrow 98 9 = some (.iconst 1, 1, 0, 0, 0, 0) := by decide +kernel
theorem r_98_10 : xrow 98 10 = some (.invokevirtual 102, 3, 99, 0, 0, 820) := by decide +kernel
theorem r_98_13 : xrow 98 13 = some (.pop, 1, 0, 0, 0, 0) := by decide +kernel
theorem r_98_14 : xrow 98 14 = some (.iconst (-1), 1, 0, 0, 0, 0) := by decide +kernel
theorem r_98_15 : xrow 98 15 = some (.ireturn, 1, 0, 0, 0, 0) := by decide +kernel
theorem r_98_16 : xrow 98 16 = some (.aload_n 0, 1, 0, 0, 0, 0) := by decide +kernel
theorem r_98_17 : xrow 98 17 = some (.getfield 62, 3, 19, 5, 0, 815) := by decide +kernel
theorem r_98_20 : xrow 98 20 = some (.iload_n 1, 1, 0, 0, 0, 0) := by decide +kernel
theorem r_98_21 : xrow 98 21 = some (.if_icmp .lt 11, 3, 32, 0, 0, 0) := by decide +kernel
theorem r_98_24 : xrow 98 24 = some (.aload_n 0, 1, 0, 0, 0, 0) := by decide +kernel
theorem r_98_25 : xrow 98 25 = some (.getfield 62, 3, 19, 5, 0, 815) := by decide +kernel
theorem r_98_28 : xrow 98 28 = some (.iload_n 2, 1, 0, 0, 0, 0) := by decide +kernel
theorem r_98_29 : xrow 98 29 = some (.if_icmp .le 11, 3, 40, 0, 0, 0) := by decide +kernel
theorem r_98_32 : xrow 98 32 = some (.aload_n 0, 1, 0, 0, 0, 0) := by decide +kernel
theorem r_98_33 : xrow 98 33 = some (.iconst 4, 1, 0, 0, 0, 0) := by decide +kernel
theorem r_98_34 : xrow 98 34 = some (.invokevirtual 102, 3, 99, 0, 0, 820) := by decide +kernel
theorem r_98_37 : xrow 98 37 = some (.pop, 1, 0, 0, 0, 0) := by decide +kernel
theorem r_98_38 : xrow 98 38 = some (.iconst (-1), 1, 0, 0, 0, 0) := by decide +kernel
theorem r_98_39 : xrow 98 39 = some (.ireturn, 1, 0, 0, 0, 0) := by decide +kernel
theorem r_98_40 : xrow 98 40 = some (.aload_n 0, 1, 0, 0, 0, 0) := by decide +kernel
theorem r_98_41 : xrow 98 41 = some (.getfield 62, 3, 19, 5, 0, 815) := by decide +kernel
theorem r_98_44 : xrow 98 44 = some (.istore_n 3, 1, 0, 0, 0, 0) := by decide +kernel
theorem r_98_45 : xrow 98 45 = some (.aload_n 0, 1, 0, 0, 0, 0) := by decide +kernel
theorem r_98_46 : xrow 98 46 = some (.invokevirtual 37, 3, 89, 0, 0, 807) := by decide +kernel
theorem r_98_49 : xrow 98 49 = some (.iload_n 3, 1, 0, 0, 0, 0) := by decide +kernel
theorem r_98_50 : xrow 98 50 = some (.ireturn, 1, 0, 0, 0, 0) := by decide +kernel
theorem r_99_0 : xrow 99 0 = some (.aload_n 0, 1, 0, 0, 0, 0) := by decide +kernel
theorem r_99_1 : xrow 99 1 = some (.iload_n 1, 1, 0, 0, 0, 0) := by decide +kernel
theorem r_99_2 : xrow 99 2 = some (.aload_n 0, 1, 0, 0, 0, 0) := by decide +kernel
theorem r_99_3 : xrow 99 3 = some (.getfield 40, 3, 19, 2, 0, 808) := by decide +kernel
theorem r_99_6 : xrow 99 6 = some (.invokevirtual 105, 3, 100, 0, 0, 821) := by decide +kernel
theorem r_99_9 : xrow 99 9 = some (.ireturn, 1, 1, 0, 0, 0) := by decide +kernel
