/-! the law's methods: their instructions, 3 -/
theorem dL_refusesAny_538 : decode cL_refusesAny 538 = .ok (.iconst 0, 1) := by decide +kernel
theorem dL_refusesAny_539 : decode cL_refusesAny 539 = .ok (.invokevirtual 67, 3) := by decide +kernel
theorem dL_refusesAny_542 : decode cL_refusesAny 542 = .ok (.ldc2_w 70, 3) := by decide +kernel
theorem dL_refusesAny_545 : decode cL_refusesAny 545 = .ok (.lcmp, 1) := by decide +kernel
theorem dL_refusesAny_546 : decode cL_refusesAny 546 = .ok (.ifCond .ne 33, 3) := by decide +kernel
theorem dL_refusesAny_549 : decode cL_refusesAny 549 = .ok (.aload_n 0, 1) := by decide +kernel
theorem dL_refusesAny_550 : decode cL_refusesAny 550 = .ok (.iconst (-1), 1) := by decide +kernel
theorem dL_refusesAny_551 : decode cL_refusesAny 551 = .ok (.invokevirtual 72, 3) := by decide +kernel
theorem dL_refusesAny_554 : decode cL_refusesAny 554 = .ok (.ldc2_w 76, 3) := by decide +kernel
theorem dL_refusesAny_557 : decode cL_refusesAny 557 = .ok (.lcmp, 1) := by decide +kernel
theorem dL_refusesAny_558 : decode cL_refusesAny 558 = .ok (.ifCond .ne 21, 3) := by decide +kernel
theorem dL_refusesAny_561 : decode cL_refusesAny 561 = .ok (.aload_n 0, 1) := by decide +kernel
theorem dL_refusesAny_562 : decode cL_refusesAny 562 = .ok (.iload_n 2, 1) := by decide +kernel
theorem dL_refusesAny_563 : decode cL_refusesAny 563 = .ok (.iconst 1, 1) := by decide +kernel
theorem dL_refusesAny_564 : decode cL_refusesAny 564 = .ok (.iadd, 1) := by decide +kernel
theorem dL_refusesAny_565 : decode cL_refusesAny 565 = .ok (.invokevirtual 72, 3) := by decide +kernel
theorem dL_refusesAny_568 : decode cL_refusesAny 568 = .ok (.ldc2_w 76, 3) := by decide +kernel
theorem dL_refusesAny_571 : decode cL_refusesAny 571 = .ok (.lcmp, 1) := by decide +kernel
theorem dL_refusesAny_572 : decode cL_refusesAny 572 = .ok (.ifCond .ne 7, 3) := by decide +kernel
theorem dL_refusesAny_575 : decode cL_refusesAny 575 = .ok (.iconst 1, 1) := by decide +kernel
theorem dL_refusesAny_576 : decode cL_refusesAny 576 = .ok (.goto 4, 3) := by decide +kernel
theorem dL_refusesAny_579 : decode cL_refusesAny 579 = .ok (.iconst 0, 1) := by decide +kernel
theorem dL_refusesAny_580 : decode cL_refusesAny 580 = .ok (.istore 5, 2) := by decide +kernel
theorem dL_refusesAny_582 : decode cL_refusesAny 582 = .ok (.iload 5, 2) := by decide +kernel
theorem dL_refusesAny_584 : decode cL_refusesAny 584 = .ok (.ifCond .eq 23, 3) := by decide +kernel
theorem dL_refusesAny_587 : decode cL_refusesAny 587 = .ok (.aload_n 0, 1) := by decide +kernel
theorem dL_refusesAny_588 : decode cL_refusesAny 588 = .ok (.invokevirtual 78, 3) := by decide +kernel
theorem dL_refusesAny_591 : decode cL_refusesAny 591 = .ok (.ifCond .ne 16, 3) := by decide +kernel
theorem dL_refusesAny_594 : decode cL_refusesAny 594 = .ok (.aload_n 0, 1) := by decide +kernel
theorem dL_refusesAny_595 : decode cL_refusesAny 595 = .ok (.invokevirtual 82, 3) := by decide +kernel
theorem dL_refusesAny_598 : decode cL_refusesAny 598 = .ok (.bipush (-100), 2) := by decide +kernel
theorem dL_refusesAny_600 : decode cL_refusesAny 600 = .ok (.if_icmp .ne 7, 3) := by decide +kernel
theorem dL_refusesAny_603 : decode cL_refusesAny 603 = .ok (.iconst 1, 1) := by decide +kernel
theorem dL_refusesAny_604 : decode cL_refusesAny 604 = .ok (.goto 4, 3) := by decide +kernel
theorem dL_refusesAny_607 : decode cL_refusesAny 607 = .ok (.iconst 0, 1) := by decide +kernel
theorem dL_refusesAny_608 : decode cL_refusesAny 608 = .ok (.ireturn, 1) := by decide +kernel
theorem dL_refuses_0 : decode cL_refuses 0 = .ok (.aload_n 0, 1) := by decide +kernel
theorem dL_refuses_1 : decode cL_refuses 1 = .ok (.invokestatic 85, 3) := by decide +kernel
theorem dL_refuses_4 : decode cL_refuses 4 = .ok (.lstore_n 2, 1) := by decide +kernel
theorem dL_refuses_5 : decode cL_refuses 5 = .ok (.aload_n 0, 1) := by decide +kernel
theorem dL_refuses_6 : decode cL_refuses 6 = .ok (.bipush 7, 2) := by decide +kernel
theorem dL_refuses_8 : decode cL_refuses 8 = .ok (.invokevirtual 11, 3) := by decide +kernel
theorem dL_refuses_11 : decode cL_refuses 11 = .ok (.istore 4, 2) := by decide +kernel
theorem dL_refuses_13 : decode cL_refuses 13 = .ok (.aload_n 0, 1) := by decide +kernel
theorem dL_refuses_14 : decode cL_refuses 14 = .ok (.iload_n 1, 1) := by decide +kernel
theorem dL_refuses_15 : decode cL_refuses 15 = .ok (.invokestatic 89, 3) := by decide +kernel
theorem dL_refuses_18 : decode cL_refuses 18 = .ok (.ifCond .eq 27, 3) := by decide +kernel
theorem dL_refuses_21 : decode cL_refuses 21 = .ok (.aload_n 0, 1) := by decide +kernel
theorem dL_refuses_22 : decode cL_refuses 22 = .ok (.invokestatic 85, 3) := by decide +kernel
theorem dL_refuses_25 : decode cL_refuses 25 = .ok (.lload_n 2, 1) := by decide +kernel
theorem dL_refuses_26 : decode cL_refuses 26 = .ok (.lcmp, 1) := by decide +kernel
theorem dL_refuses_27 : decode cL_refuses 27 = .ok (.ifCond .ne 18, 3) := by decide +kernel
theorem dL_refuses_30 : decode cL_refuses 30 = .ok (.aload_n 0, 1) := by decide +kernel
theorem dL_refuses_31 : decode cL_refuses 31 = .ok (.bipush 7, 2) := by decide +kernel
theorem dL_refuses_33 : decode cL_refuses 33 = .ok (.invokevirtual 11, 3) := by decide +kernel
theorem dL_refuses_36 : decode cL_refuses 36 = .ok (.iload 4, 2) := by decide +kernel
theorem dL_refuses_38 : decode cL_refuses 38 = .ok (.if_icmp .ne 7, 3) := by decide +kernel
theorem dL_refuses_41 : decode cL_refuses 41 = .ok (.iconst 1, 1) := by decide +kernel
theorem dL_refuses_42 : decode cL_refuses 42 = .ok (.goto 4, 3) := by decide +kernel
theorem dL_refuses_45 : decode cL_refuses 45 = .ok (.iconst 0, 1) := by decide +kernel
theorem dL_refuses_46 : decode cL_refuses 46 = .ok (.ireturn, 1) := by decide +kernel
theorem dL_setEntry_0 : decode cL_setEntry 0 = .ok (.aload_n 0, 1) := by decide +kernel
theorem dL_setEntry_1 : decode cL_setEntry 1 = .ok (.iconst 0, 1) := by decide +kernel
theorem dL_setEntry_2 : decode cL_setEntry 2 = .ok (.invokevirtual 11, 3) := by decide +kernel
theorem dL_setEntry_5 : decode cL_setEntry 5 = .ok (.istore_n 2, 1) := by decide +kernel
theorem dL_setEntry_6 : decode cL_setEntry 6 = .ok (.iload_n 1, 1) := by decide +kernel
theorem dL_setEntry_7 : decode cL_setEntry 7 = .ok (.iload_n 2, 1) := by decide +kernel
theorem dL_setEntry_8 : decode cL_setEntry 8 = .ok (.irem, 1) := by decide +kernel
theorem dL_setEntry_9 : decode cL_setEntry 9 = .ok (.istore_n 3, 1) := by decide +kernel
theorem dL_setEntry_10 : decode cL_setEntry 10 = .ok (.iload_n 1, 1) := by decide +kernel
theorem dL_setEntry_11 : decode cL_setEntry 11 = .ok (.bipush 7, 2) := by decide +kernel
theorem dL_setEntry_13 : decode cL_setEntry 13 = .ok (.idiv, 1) := by decide +kernel
theorem dL_setEntry_14 : decode cL_setEntry 14 = .ok (.iload_n 2, 1) := by decide +kernel
theorem dL_setEntry_15 : decode cL_setEntry 15 = .ok (.irem, 1) := by decide +kernel
theorem dL_setEntry_16 : decode cL_setEntry 16 = .ok (.istore 4, 2) := by decide +kernel
theorem dL_setEntry_18 : decode cL_setEntry 18 = .ok (.iload_n 1, 1) := by decide +kernel
theorem dL_setEntry_19 : decode cL_setEntry 19 = .ok (.bipush 49, 2) := by decide +kernel
theorem dL_setEntry_21 : decode cL_setEntry 21 = .ok (.idiv, 1) := by decide +kernel
theorem dL_setEntry_22 : decode cL_setEntry 22 = .ok (.iconst 3, 1) := by decide +kernel
theorem dL_setEntry_23 : decode cL_setEntry 23 = .ok (.irem, 1) := by decide +kernel
theorem dL_setEntry_24 : decode cL_setEntry 24 = .ok (.ifCond .ne 17, 3) := by decide +kernel
theorem dL_setEntry_27 : decode cL_setEntry 27 = .ok (.iload_n 1, 1) := by decide +kernel
theorem dL_setEntry_28 : decode cL_setEntry 28 = .ok (.sipush 147, 3) := by decide +kernel
theorem dL_setEntry_31 : decode cL_setEntry 31 = .ok (.idiv, 1) := by decide +kernel
theorem dL_setEntry_32 : decode cL_setEntry 32 = .ok (.bipush 41, 2) := by decide +kernel
theorem dL_setEntry_34 : decode cL_setEntry 34 = .ok (.irem, 1) := by decide +kernel
theorem dL_setEntry_35 : decode cL_setEntry 35 = .ok (.bipush 20, 2) := by decide +kernel
theorem dL_setEntry_37 : decode cL_setEntry 37 = .ok (.isub, 1) := by decide +kernel
theorem dL_setEntry_38 : decode cL_setEntry 38 = .ok (.goto 12, 3) := by decide +kernel
theorem dL_setEntry_41 : decode cL_setEntry 41 = .ok (.iload_n 1, 1) := by decide +kernel
theorem dL_setEntry_42 : decode cL_setEntry 42 = .ok (.sipush 147, 3) := by decide +kernel
theorem dL_setEntry_45 : decode cL_setEntry 45 = .ok (.idiv, 1) := by decide +kernel
theorem dL_setEntry_46 : decode cL_setEntry 46 = .ok (.iconst 5, 1) := by decide +kernel
theorem dL_setEntry_47 : decode cL_setEntry 47 = .ok (.irem, 1) := by decide +kernel
theorem dL_setEntry_48 : decode cL_setEntry 48 = .ok (.iconst 1, 1) := by decide +kernel
theorem dL_setEntry_49 : decode cL_setEntry 49 = .ok (.isub, 1) := by decide +kernel
theorem dL_setEntry_50 : decode cL_setEntry 50 = .ok (.istore 5, 2) := by decide +kernel
theorem dL_setEntry_52 : decode cL_setEntry 52 = .ok (.aload_n 0, 1) := by decide +kernel
theorem dL_setEntry_53 : decode cL_setEntry 53 = .ok (.iload_n 3, 1) := by decide +kernel
theorem dL_setEntry_54 : decode cL_setEntry 54 = .ok (.iload 4, 2) := by decide +kernel
theorem dL_setEntry_56 : decode cL_setEntry 56 = .ok (.invokevirtual 19, 3) := by decide +kernel
theorem dL_setEntry_59 : decode cL_setEntry 59 = .ok (.istore 6, 2) := by decide +kernel
theorem dL_setEntry_61 : decode cL_setEntry 61 = .ok (.aload_n 0, 1) := by decide +kernel
theorem dL_setEntry_62 : decode cL_setEntry 62 = .ok (.invokevirtual 93, 3) := by decide +kernel
theorem dL_setEntry_65 : decode cL_setEntry 65 = .ok (.lstore 7, 2) := by decide +kernel
theorem dL_setEntry_67 : decode cL_setEntry 67 = .ok (.aload_n 0, 1) := by decide +kernel
theorem dL_setEntry_68 : decode cL_setEntry 68 = .ok (.iload_n 3, 1) := by decide +kernel
theorem dL_setEntry_69 : decode cL_setEntry 69 = .ok (.iload 4, 2) := by decide +kernel
theorem dL_setEntry_71 : decode cL_setEntry 71 = .ok (.invokevirtual 61, 3) := by decide +kernel
theorem dL_setEntry_74 : decode cL_setEntry 74 = .ok (.lstore 9, 2) := by decide +kernel
theorem dL_setEntry_76 : decode cL_setEntry 76 = .ok (.aload_n 0, 1) := by decide +kernel
theorem dL_setEntry_77 : decode cL_setEntry 77 = .ok (.iload_n 3, 1) := by decide +kernel
theorem dL_setEntry_78 : decode cL_setEntry 78 = .ok (.iload 4, 2) := by decide +kernel
theorem dL_setEntry_80 : decode cL_setEntry 80 = .ok (.iload 5, 2) := by decide +kernel
theorem dL_setEntry_82 : decode cL_setEntry 82 = .ok (.invokevirtual 29, 3) := by decide +kernel
theorem dL_setEntry_85 : decode cL_setEntry 85 = .ok (.istore 11, 2) := by decide +kernel
theorem dL_setEntry_87 : decode cL_setEntry 87 = .ok (.iload 11, 2) := by decide +kernel
theorem dL_setEntry_89 : decode cL_setEntry 89 = .ok (.iload 6, 2) := by decide +kernel
theorem dL_setEntry_91 : decode cL_setEntry 91 = .ok (.iload 5, 2) := by decide +kernel
theorem dL_setEntry_93 : decode cL_setEntry 93 = .ok (.if_icmp .ne 8, 3) := by decide +kernel
