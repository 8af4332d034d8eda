/-! the law's methods: their instructions, 0 -/
theorem dL_cell_0 : decode cL_cell 0 = .ok (.iload_n 1, 1) := by decide +kernel
theorem dL_cell_1 : decode cL_cell 1 = .ok (.aload_n 0, 1) := by decide +kernel
theorem dL_cell_2 : decode cL_cell 2 = .ok (.arraylength, 1) := by decide +kernel
theorem dL_cell_3 : decode cL_cell 3 = .ok (.if_icmp .ge 9, 3) := by decide +kernel
theorem dL_cell_6 : decode cL_cell 6 = .ok (.aload_n 0, 1) := by decide +kernel
theorem dL_cell_7 : decode cL_cell 7 = .ok (.iload_n 1, 1) := by decide +kernel
theorem dL_cell_8 : decode cL_cell 8 = .ok (.iaload, 1) := by decide +kernel
theorem dL_cell_9 : decode cL_cell 9 = .ok (.goto 14, 3) := by decide +kernel
theorem dL_cell_12 : decode cL_cell 12 = .ok (.ldc 7, 2) := by decide +kernel
theorem dL_cell_14 : decode cL_cell 14 = .ok (.iload_n 1, 1) := by decide +kernel
theorem dL_cell_15 : decode cL_cell 15 = .ok (.bipush 67, 2) := by decide +kernel
theorem dL_cell_17 : decode cL_cell 17 = .ok (.iadd, 1) := by decide +kernel
theorem dL_cell_18 : decode cL_cell 18 = .ok (.imul, 1) := by decide +kernel
theorem dL_cell_19 : decode cL_cell 19 = .ok (.sipush 14009, 3) := by decide +kernel
theorem dL_cell_22 : decode cL_cell 22 = .ok (.iadd, 1) := by decide +kernel
theorem dL_cell_23 : decode cL_cell 23 = .ok (.ldc 8, 2) := by decide +kernel
theorem dL_cell_25 : decode cL_cell 25 = .ok (.iand, 1) := by decide +kernel
theorem dL_cell_26 : decode cL_cell 26 = .ok (.ireturn, 1) := by decide +kernel
theorem dL_seen_0 : decode cL_seen 0 = .ok (.ldc2_w 9, 3) := by decide +kernel
theorem dL_seen_3 : decode cL_seen 3 = .ok (.aload_n 0, 1) := by decide +kernel
theorem dL_seen_4 : decode cL_seen 4 = .ok (.iconst 0, 1) := by decide +kernel
theorem dL_seen_5 : decode cL_seen 5 = .ok (.invokevirtual 11, 3) := by decide +kernel
theorem dL_seen_8 : decode cL_seen 8 = .ok (.i2l, 1) := by decide +kernel
theorem dL_seen_9 : decode cL_seen 9 = .ok (.ladd, 1) := by decide +kernel
theorem dL_seen_10 : decode cL_seen 10 = .ok (.lstore_n 1, 1) := by decide +kernel
theorem dL_seen_11 : decode cL_seen 11 = .ok (.iconst 0, 1) := by decide +kernel
theorem dL_seen_12 : decode cL_seen 12 = .ok (.istore_n 3, 1) := by decide +kernel
theorem dL_seen_13 : decode cL_seen 13 = .ok (.iload_n 3, 1) := by decide +kernel
theorem dL_seen_14 : decode cL_seen 14 = .ok (.bipush 49, 2) := by decide +kernel
theorem dL_seen_16 : decode cL_seen 16 = .ok (.if_icmp .ge 29, 3) := by decide +kernel
theorem dL_seen_19 : decode cL_seen 19 = .ok (.ldc2_w 17, 3) := by decide +kernel
theorem dL_seen_22 : decode cL_seen 22 = .ok (.lload_n 1, 1) := by decide +kernel
theorem dL_seen_23 : decode cL_seen 23 = .ok (.lmul, 1) := by decide +kernel
theorem dL_seen_24 : decode cL_seen 24 = .ok (.aload_n 0, 1) := by decide +kernel
theorem dL_seen_25 : decode cL_seen 25 = .ok (.iload_n 3, 1) := by decide +kernel
theorem dL_seen_26 : decode cL_seen 26 = .ok (.bipush 7, 2) := by decide +kernel
theorem dL_seen_28 : decode cL_seen 28 = .ok (.idiv, 1) := by decide +kernel
theorem dL_seen_29 : decode cL_seen 29 = .ok (.iload_n 3, 1) := by decide +kernel
theorem dL_seen_30 : decode cL_seen 30 = .ok (.bipush 7, 2) := by decide +kernel
theorem dL_seen_32 : decode cL_seen 32 = .ok (.irem, 1) := by decide +kernel
theorem dL_seen_33 : decode cL_seen 33 = .ok (.invokevirtual 19, 3) := by decide +kernel
theorem dL_seen_36 : decode cL_seen 36 = .ok (.i2l, 1) := by decide +kernel
theorem dL_seen_37 : decode cL_seen 37 = .ok (.ladd, 1) := by decide +kernel
theorem dL_seen_38 : decode cL_seen 38 = .ok (.lstore_n 1, 1) := by decide +kernel
theorem dL_seen_39 : decode cL_seen 39 = .ok (.iinc 3 1, 3) := by decide +kernel
theorem dL_seen_42 : decode cL_seen 42 = .ok (.goto (-29), 3) := by decide +kernel
theorem dL_seen_45 : decode cL_seen 45 = .ok (.lload_n 1, 1) := by decide +kernel
theorem dL_seen_46 : decode cL_seen 46 = .ok (.lreturn, 1) := by decide +kernel
theorem dL_size_0 : decode cL_size 0 = .ok (.iload_n 0, 1) := by decide +kernel
theorem dL_size_1 : decode cL_size 1 = .ok (.ifCond .ge 8, 3) := by decide +kernel
theorem dL_size_4 : decode cL_size 4 = .ok (.iload_n 0, 1) := by decide +kernel
theorem dL_size_5 : decode cL_size 5 = .ok (.ineg, 1) := by decide +kernel
theorem dL_size_6 : decode cL_size 6 = .ok (.goto 4, 3) := by decide +kernel
theorem dL_size_9 : decode cL_size 9 = .ok (.iload_n 0, 1) := by decide +kernel
theorem dL_size_10 : decode cL_size 10 = .ok (.ireturn, 1) := by decide +kernel
theorem dL_refusesAny_0 : decode cL_refusesAny 0 = .ok (.aload_n 0, 1) := by decide +kernel
theorem dL_refusesAny_1 : decode cL_refusesAny 1 = .ok (.iconst 0, 1) := by decide +kernel
theorem dL_refusesAny_2 : decode cL_refusesAny 2 = .ok (.invokevirtual 11, 3) := by decide +kernel
theorem dL_refusesAny_5 : decode cL_refusesAny 5 = .ok (.istore_n 2, 1) := by decide +kernel
theorem dL_refusesAny_6 : decode cL_refusesAny 6 = .ok (.iload_n 1, 1) := by decide +kernel
theorem dL_refusesAny_7 : decode cL_refusesAny 7 = .ok (.iconst 2, 1) := by decide +kernel
theorem dL_refusesAny_8 : decode cL_refusesAny 8 = .ok (.irem, 1) := by decide +kernel
theorem dL_refusesAny_9 : decode cL_refusesAny 9 = .ok (.ifCond .ne 12, 3) := by decide +kernel
theorem dL_refusesAny_12 : decode cL_refusesAny 12 = .ok (.iconst (-1), 1) := by decide +kernel
theorem dL_refusesAny_13 : decode cL_refusesAny 13 = .ok (.iload_n 1, 1) := by decide +kernel
theorem dL_refusesAny_14 : decode cL_refusesAny 14 = .ok (.bipush 99, 2) := by decide +kernel
theorem dL_refusesAny_16 : decode cL_refusesAny 16 = .ok (.irem, 1) := by decide +kernel
theorem dL_refusesAny_17 : decode cL_refusesAny 17 = .ok (.isub, 1) := by decide +kernel
theorem dL_refusesAny_18 : decode cL_refusesAny 18 = .ok (.goto 9, 3) := by decide +kernel
theorem dL_refusesAny_21 : decode cL_refusesAny 21 = .ok (.iload_n 2, 1) := by decide +kernel
theorem dL_refusesAny_22 : decode cL_refusesAny 22 = .ok (.iload_n 1, 1) := by decide +kernel
theorem dL_refusesAny_23 : decode cL_refusesAny 23 = .ok (.bipush 99, 2) := by decide +kernel
theorem dL_refusesAny_25 : decode cL_refusesAny 25 = .ok (.irem, 1) := by decide +kernel
theorem dL_refusesAny_26 : decode cL_refusesAny 26 = .ok (.iadd, 1) := by decide +kernel
theorem dL_refusesAny_27 : decode cL_refusesAny 27 = .ok (.istore_n 3, 1) := by decide +kernel
theorem dL_refusesAny_28 : decode cL_refusesAny 28 = .ok (.iload_n 1, 1) := by decide +kernel
theorem dL_refusesAny_29 : decode cL_refusesAny 29 = .ok (.iconst 2, 1) := by decide +kernel
theorem dL_refusesAny_30 : decode cL_refusesAny 30 = .ok (.irem, 1) := by decide +kernel
theorem dL_refusesAny_31 : decode cL_refusesAny 31 = .ok (.ifCond .ne 13, 3) := by decide +kernel
theorem dL_refusesAny_34 : decode cL_refusesAny 34 = .ok (.bipush (-21), 2) := by decide +kernel
theorem dL_refusesAny_36 : decode cL_refusesAny 36 = .ok (.iload_n 1, 1) := by decide +kernel
theorem dL_refusesAny_37 : decode cL_refusesAny 37 = .ok (.bipush 99, 2) := by decide +kernel
theorem dL_refusesAny_39 : decode cL_refusesAny 39 = .ok (.irem, 1) := by decide +kernel
theorem dL_refusesAny_40 : decode cL_refusesAny 40 = .ok (.isub, 1) := by decide +kernel
theorem dL_refusesAny_41 : decode cL_refusesAny 41 = .ok (.goto 10, 3) := by decide +kernel
theorem dL_refusesAny_44 : decode cL_refusesAny 44 = .ok (.bipush 21, 2) := by decide +kernel
theorem dL_refusesAny_46 : decode cL_refusesAny 46 = .ok (.iload_n 1, 1) := by decide +kernel
theorem dL_refusesAny_47 : decode cL_refusesAny 47 = .ok (.bipush 99, 2) := by decide +kernel
theorem dL_refusesAny_49 : decode cL_refusesAny 49 = .ok (.irem, 1) := by decide +kernel
theorem dL_refusesAny_50 : decode cL_refusesAny 50 = .ok (.iadd, 1) := by decide +kernel
theorem dL_refusesAny_51 : decode cL_refusesAny 51 = .ok (.istore 4, 2) := by decide +kernel
theorem dL_refusesAny_53 : decode cL_refusesAny 53 = .ok (.aload_n 0, 1) := by decide +kernel
theorem dL_refusesAny_54 : decode cL_refusesAny 54 = .ok (.iload_n 1, 1) := by decide +kernel
theorem dL_refusesAny_55 : decode cL_refusesAny 55 = .ok (.iconst 2, 1) := by decide +kernel
theorem dL_refusesAny_56 : decode cL_refusesAny 56 = .ok (.irem, 1) := by decide +kernel
theorem dL_refusesAny_57 : decode cL_refusesAny 57 = .ok (.ifCond .ne 7, 3) := by decide +kernel
theorem dL_refusesAny_60 : decode cL_refusesAny 60 = .ok (.iconst 0, 1) := by decide +kernel
theorem dL_refusesAny_61 : decode cL_refusesAny 61 = .ok (.goto 5, 3) := by decide +kernel
theorem dL_refusesAny_64 : decode cL_refusesAny 64 = .ok (.bipush 8, 2) := by decide +kernel
theorem dL_refusesAny_66 : decode cL_refusesAny 66 = .ok (.invokevirtual 23, 3) := by decide +kernel
theorem dL_refusesAny_69 : decode cL_refusesAny 69 = .ok (.ldc 28, 2) := by decide +kernel
theorem dL_refusesAny_71 : decode cL_refusesAny 71 = .ok (.if_icmp .ne 183, 3) := by decide +kernel
theorem dL_refusesAny_74 : decode cL_refusesAny 74 = .ok (.aload_n 0, 1) := by decide +kernel
theorem dL_refusesAny_75 : decode cL_refusesAny 75 = .ok (.iload_n 3, 1) := by decide +kernel
theorem dL_refusesAny_76 : decode cL_refusesAny 76 = .ok (.iconst 0, 1) := by decide +kernel
theorem dL_refusesAny_77 : decode cL_refusesAny 77 = .ok (.iload 4, 2) := by decide +kernel
theorem dL_refusesAny_79 : decode cL_refusesAny 79 = .ok (.invokevirtual 29, 3) := by decide +kernel
theorem dL_refusesAny_82 : decode cL_refusesAny 82 = .ok (.ldc 33, 2) := by decide +kernel
theorem dL_refusesAny_84 : decode cL_refusesAny 84 = .ok (.if_icmp .ne 170, 3) := by decide +kernel
theorem dL_refusesAny_87 : decode cL_refusesAny 87 = .ok (.aload_n 0, 1) := by decide +kernel
theorem dL_refusesAny_88 : decode cL_refusesAny 88 = .ok (.iconst 0, 1) := by decide +kernel
theorem dL_refusesAny_89 : decode cL_refusesAny 89 = .ok (.iload_n 3, 1) := by decide +kernel
theorem dL_refusesAny_90 : decode cL_refusesAny 90 = .ok (.iload 4, 2) := by decide +kernel
theorem dL_refusesAny_92 : decode cL_refusesAny 92 = .ok (.invokevirtual 29, 3) := by decide +kernel
theorem dL_refusesAny_95 : decode cL_refusesAny 95 = .ok (.ldc 33, 2) := by decide +kernel
theorem dL_refusesAny_97 : decode cL_refusesAny 97 = .ok (.if_icmp .ne 157, 3) := by decide +kernel
theorem dL_refusesAny_100 : decode cL_refusesAny 100 = .ok (.aload_n 0, 1) := by decide +kernel
theorem dL_refusesAny_101 : decode cL_refusesAny 101 = .ok (.iconst 0, 1) := by decide +kernel
theorem dL_refusesAny_102 : decode cL_refusesAny 102 = .ok (.iconst 0, 1) := by decide +kernel
theorem dL_refusesAny_103 : decode cL_refusesAny 103 = .ok (.iload 4, 2) := by decide +kernel
