theorem dX0_rootOf_0 : decode cX0_rootOf 0 = .ok (.lconst 0, 1) := by decide +kernel
theorem dX0_rootOf_1 : decode cX0_rootOf 1 = .ok (.lstore_n 2, 1) := by decide +kernel
theorem dX0_rootOf_2 : decode cX0_rootOf 2 = .ok (.bipush 30, 2) := by decide +kernel
theorem dX0_rootOf_4 : decode cX0_rootOf 4 = .ok (.istore 4, 2) := by decide +kernel
theorem dX0_rootOf_6 : decode cX0_rootOf 6 = .ok (.iload 4, 2) := by decide +kernel
theorem dX0_rootOf_8 : decode cX0_rootOf 8 = .ok (.ifCond .lt 30, 3) := by decide +kernel
theorem dX0_rootOf_11 : decode cX0_rootOf 11 = .ok (.lload_n 2, 1) := by decide +kernel
theorem dX0_rootOf_12 : decode cX0_rootOf 12 = .ok (.lconst 1, 1) := by decide +kernel
theorem dX0_rootOf_13 : decode cX0_rootOf 13 = .ok (.iload 4, 2) := by decide +kernel
theorem dX0_rootOf_15 : decode cX0_rootOf 15 = .ok (.lshl, 1) := by decide +kernel
theorem dX0_rootOf_16 : decode cX0_rootOf 16 = .ok (.ladd, 1) := by decide +kernel
theorem dX0_rootOf_17 : decode cX0_rootOf 17 = .ok (.lstore 5, 2) := by decide +kernel
theorem dX0_rootOf_19 : decode cX0_rootOf 19 = .ok (.lload 5, 2) := by decide +kernel
theorem dX0_rootOf_21 : decode cX0_rootOf 21 = .ok (.lload 5, 2) := by decide +kernel
theorem dX0_rootOf_23 : decode cX0_rootOf 23 = .ok (.lmul, 1) := by decide +kernel
theorem dX0_rootOf_24 : decode cX0_rootOf 24 = .ok (.lload_n 0, 1) := by decide +kernel
theorem dX0_rootOf_25 : decode cX0_rootOf 25 = .ok (.lcmp, 1) := by decide +kernel
theorem dX0_rootOf_26 : decode cX0_rootOf 26 = .ok (.ifCond .gt 6, 3) := by decide +kernel
theorem dX0_rootOf_29 : decode cX0_rootOf 29 = .ok (.lload 5, 2) := by decide +kernel
theorem dX0_rootOf_31 : decode cX0_rootOf 31 = .ok (.lstore_n 2, 1) := by decide +kernel
theorem dX0_rootOf_32 : decode cX0_rootOf 32 = .ok (.iinc 4 (-1), 3) := by decide +kernel
theorem dX0_rootOf_35 : decode cX0_rootOf 35 = .ok (.goto (-29), 3) := by decide +kernel
theorem dX0_rootOf_38 : decode cX0_rootOf 38 = .ok (.lload_n 2, 1) := by decide +kernel
theorem dX0_rootOf_39 : decode cX0_rootOf 39 = .ok (.lreturn, 1) := by decide +kernel
theorem dX0_isSquare_0 : decode cX0_isSquare 0 = .ok (.lload_n 0, 1) := by decide +kernel
theorem dX0_isSquare_1 : decode cX0_isSquare 1 = .ok (.lconst 0, 1) := by decide +kernel
theorem dX0_isSquare_2 : decode cX0_isSquare 2 = .ok (.lcmp, 1) := by decide +kernel
theorem dX0_isSquare_3 : decode cX0_isSquare 3 = .ok (.ifCond .lt 37, 3) := by decide +kernel
theorem dX0_isSquare_6 : decode cX0_isSquare 6 = .ok (.ldc2_w 11, 3) := by decide +kernel
theorem dX0_isSquare_9 : decode cX0_isSquare 9 = .ok (.lload_n 0, 1) := by decide +kernel
theorem dX0_isSquare_10 : decode cX0_isSquare 10 = .ok (.ldc2_w 13, 3) := by decide +kernel
theorem dX0_isSquare_13 : decode cX0_isSquare 13 = .ok (.land, 1) := by decide +kernel
theorem dX0_isSquare_14 : decode cX0_isSquare 14 = .ok (.l2i, 1) := by decide +kernel
theorem dX0_isSquare_15 : decode cX0_isSquare 15 = .ok (.lshr, 1) := by decide +kernel
theorem dX0_isSquare_16 : decode cX0_isSquare 16 = .ok (.lconst 1, 1) := by decide +kernel
theorem dX0_isSquare_17 : decode cX0_isSquare 17 = .ok (.land, 1) := by decide +kernel
theorem dX0_isSquare_18 : decode cX0_isSquare 18 = .ok (.lconst 0, 1) := by decide +kernel
theorem dX0_isSquare_19 : decode cX0_isSquare 19 = .ok (.lcmp, 1) := by decide +kernel
theorem dX0_isSquare_20 : decode cX0_isSquare 20 = .ok (.ifCond .eq 20, 3) := by decide +kernel
theorem dX0_isSquare_23 : decode cX0_isSquare 23 = .ok (.ldc2_w 15, 3) := by decide +kernel
theorem dX0_isSquare_26 : decode cX0_isSquare 26 = .ok (.lload_n 0, 1) := by decide +kernel
theorem dX0_isSquare_27 : decode cX0_isSquare 27 = .ok (.ldc2_w 13, 3) := by decide +kernel
theorem dX0_isSquare_30 : decode cX0_isSquare 30 = .ok (.lrem, 1) := by decide +kernel
theorem dX0_isSquare_31 : decode cX0_isSquare 31 = .ok (.l2i, 1) := by decide +kernel
theorem dX0_isSquare_32 : decode cX0_isSquare 32 = .ok (.lshr, 1) := by decide +kernel
theorem dX0_isSquare_33 : decode cX0_isSquare 33 = .ok (.lconst 1, 1) := by decide +kernel
theorem dX0_isSquare_34 : decode cX0_isSquare 34 = .ok (.land, 1) := by decide +kernel
theorem dX0_isSquare_35 : decode cX0_isSquare 35 = .ok (.lconst 0, 1) := by decide +kernel
theorem dX0_isSquare_36 : decode cX0_isSquare 36 = .ok (.lcmp, 1) := by decide +kernel
theorem dX0_isSquare_37 : decode cX0_isSquare 37 = .ok (.ifCond .ne 5, 3) := by decide +kernel
theorem dX0_isSquare_40 : decode cX0_isSquare 40 = .ok (.iconst 0, 1) := by decide +kernel
theorem dX0_isSquare_41 : decode cX0_isSquare 41 = .ok (.ireturn, 1) := by decide +kernel
theorem dX0_isSquare_42 : decode cX0_isSquare 42 = .ok (.lload_n 0, 1) := by decide +kernel
theorem dX0_isSquare_43 : decode cX0_isSquare 43 = .ok (.invokestatic 17, 3) := by decide +kernel
theorem dX0_isSquare_46 : decode cX0_isSquare 46 = .ok (.lstore_n 2, 1) := by decide +kernel
theorem dX0_isSquare_47 : decode cX0_isSquare 47 = .ok (.lload_n 2, 1) := by decide +kernel
theorem dX0_isSquare_48 : decode cX0_isSquare 48 = .ok (.lload_n 2, 1) := by decide +kernel
theorem dX0_isSquare_49 : decode cX0_isSquare 49 = .ok (.lmul, 1) := by decide +kernel
theorem dX0_isSquare_50 : decode cX0_isSquare 50 = .ok (.lload_n 0, 1) := by decide +kernel
theorem dX0_isSquare_51 : decode cX0_isSquare 51 = .ok (.lcmp, 1) := by decide +kernel
theorem dX0_isSquare_52 : decode cX0_isSquare 52 = .ok (.ifCond .ne 7, 3) := by decide +kernel
theorem dX0_isSquare_55 : decode cX0_isSquare 55 = .ok (.iconst 1, 1) := by decide +kernel
theorem dX0_isSquare_56 : decode cX0_isSquare 56 = .ok (.goto 4, 3) := by decide +kernel
theorem dX0_isSquare_59 : decode cX0_isSquare 59 = .ok (.iconst 0, 1) := by decide +kernel
theorem dX0_isSquare_60 : decode cX0_isSquare 60 = .ok (.ireturn, 1) := by decide +kernel
theorem dX0_close_0 : decode cX0_close 0 = .ok (.iload_n 0, 1) := by decide +kernel
theorem dX0_close_1 : decode cX0_close 1 = .ok (.iconst (-1), 1) := by decide +kernel
theorem dX0_close_2 : decode cX0_close 2 = .ok (.if_icmp .ne 7, 3) := by decide +kernel
theorem dX0_close_5 : decode cX0_close 5 = .ok (.iload_n 1, 1) := by decide +kernel
theorem dX0_close_6 : decode cX0_close 6 = .ok (.goto 5, 3) := by decide +kernel
theorem dX0_close_9 : decode cX0_close 9 = .ok (.bipush (-4), 2) := by decide +kernel
theorem dX0_close_11 : decode cX0_close 11 = .ok (.ireturn, 1) := by decide +kernel
theorem dX0_offs_0 : decode cX0_offs 0 = .ok (.iconst 0, 1) := by decide +kernel
theorem dX0_offs_1 : decode cX0_offs 1 = .ok (.istore_n 3, 1) := by decide +kernel
theorem dX0_offs_2 : decode cX0_offs 2 = .ok (.lconst 0, 1) := by decide +kernel
theorem dX0_offs_3 : decode cX0_offs 3 = .ok (.lstore 4, 2) := by decide +kernel
theorem dX0_offs_5 : decode cX0_offs 5 = .ok (.lload 4, 2) := by decide +kernel
theorem dX0_offs_7 : decode cX0_offs 7 = .ok (.ldc2_w 21, 3) := by decide +kernel
theorem dX0_offs_10 : decode cX0_offs 10 = .ok (.lcmp, 1) := by decide +kernel
theorem dX0_offs_11 : decode cX0_offs 11 = .ok (.ifCond .gt 41, 3) := by decide +kernel
theorem dX0_offs_14 : decode cX0_offs 14 = .ok (.iload_n 0, 1) := by decide +kernel
theorem dX0_offs_15 : decode cX0_offs 15 = .ok (.i2l, 1) := by decide +kernel
theorem dX0_offs_16 : decode cX0_offs 16 = .ok (.lload 4, 2) := by decide +kernel
theorem dX0_offs_18 : decode cX0_offs 18 = .ok (.lmul, 1) := by decide +kernel
theorem dX0_offs_19 : decode cX0_offs 19 = .ok (.lload 4, 2) := by decide +kernel
theorem dX0_offs_21 : decode cX0_offs 21 = .ok (.lmul, 1) := by decide +kernel
theorem dX0_offs_22 : decode cX0_offs 22 = .ok (.iload_n 1, 1) := by decide +kernel
theorem dX0_offs_23 : decode cX0_offs 23 = .ok (.i2l, 1) := by decide +kernel
theorem dX0_offs_24 : decode cX0_offs 24 = .ok (.ladd, 1) := by decide +kernel
theorem dX0_offs_25 : decode cX0_offs 25 = .ok (.invokestatic 23, 3) := by decide +kernel
theorem dX0_offs_28 : decode cX0_offs 28 = .ok (.ifCond .eq 15, 3) := by decide +kernel
theorem dX0_offs_31 : decode cX0_offs 31 = .ok (.iload_n 3, 1) := by decide +kernel
theorem dX0_offs_32 : decode cX0_offs 32 = .ok (.iload_n 2, 1) := by decide +kernel
theorem dX0_offs_33 : decode cX0_offs 33 = .ok (.if_icmp .ne 7, 3) := by decide +kernel
theorem dX0_offs_36 : decode cX0_offs 36 = .ok (.lload 4, 2) := by decide +kernel
theorem dX0_offs_38 : decode cX0_offs 38 = .ok (.l2i, 1) := by decide +kernel
theorem dX0_offs_39 : decode cX0_offs 39 = .ok (.ireturn, 1) := by decide +kernel
theorem dX0_offs_40 : decode cX0_offs 40 = .ok (.iinc 3 1, 3) := by decide +kernel
theorem dX0_offs_43 : decode cX0_offs 43 = .ok (.lload 4, 2) := by decide +kernel
theorem dX0_offs_45 : decode cX0_offs 45 = .ok (.lconst 1, 1) := by decide +kernel
theorem dX0_offs_46 : decode cX0_offs 46 = .ok (.ladd, 1) := by decide +kernel
theorem dX0_offs_47 : decode cX0_offs 47 = .ok (.lstore 4, 2) := by decide +kernel
theorem dX0_offs_49 : decode cX0_offs 49 = .ok (.goto (-44), 3) := by decide +kernel
theorem dX0_offs_52 : decode cX0_offs 52 = .ok (.iload_n 2, 1) := by decide +kernel
theorem dX0_offs_53 : decode cX0_offs 53 = .ok (.iload_n 3, 1) := by decide +kernel
theorem dX0_offs_54 : decode cX0_offs 54 = .ok (.invokestatic 27, 3) := by decide +kernel
theorem dX0_offs_57 : decode cX0_offs 57 = .ok (.ireturn, 1) := by decide +kernel
theorem dX0_bestPart_0 : decode cX0_bestPart 0 = .ok (.lconst 0, 1) := by decide +kernel
theorem dX0_bestPart_1 : decode cX0_bestPart 1 = .ok (.lstore 6, 2) := by decide +kernel
theorem dX0_bestPart_3 : decode cX0_bestPart 3 = .ok (.lconst 0, 1) := by decide +kernel
theorem dX0_bestPart_4 : decode cX0_bestPart 4 = .ok (.lstore 8, 2) := by decide +kernel
theorem dX0_bestPart_6 : decode cX0_bestPart 6 = .ok (.lconst 0, 1) := by decide +kernel
theorem dX0_bestPart_7 : decode cX0_bestPart 7 = .ok (.lstore 10, 2) := by decide +kernel
theorem dX0_bestPart_9 : decode cX0_bestPart 9 = .ok (.lconst 1, 1) := by decide +kernel
theorem dX0_bestPart_10 : decode cX0_bestPart 10 = .ok (.lstore 12, 2) := by decide +kernel
theorem dX0_bestPart_12 : decode cX0_bestPart 12 = .ok (.lload 12, 2) := by decide +kernel
theorem dX0_bestPart_14 : decode cX0_bestPart 14 = .ok (.iload 4, 2) := by decide +kernel
theorem dX0_bestPart_16 : decode cX0_bestPart 16 = .ok (.i2l, 1) := by decide +kernel
theorem dX0_bestPart_17 : decode cX0_bestPart 17 = .ok (.lcmp, 1) := by decide +kernel
theorem dX0_bestPart_18 : decode cX0_bestPart 18 = .ok (.ifCond .gt 96, 3) := by decide +kernel
theorem dX0_bestPart_21 : decode cX0_bestPart 21 = .ok (.lload_n 2, 1) := by decide +kernel
theorem dX0_bestPart_22 : decode cX0_bestPart 22 = .ok (.lconst 0, 1) := by decide +kernel
theorem dX0_bestPart_23 : decode cX0_bestPart 23 = .ok (.lcmp, 1) := by decide +kernel
theorem dX0_bestPart_24 : decode cX0_bestPart 24 = .ok (.ifCond .le 90, 3) := by decide +kernel
theorem dX0_bestPart_27 : decode cX0_bestPart 27 = .ok (.lload_n 0, 1) := by decide +kernel
theorem dX0_bestPart_28 : decode cX0_bestPart 28 = .ok (.lload 12, 2) := by decide +kernel
theorem dX0_bestPart_30 : decode cX0_bestPart 30 = .ok (.lmul, 1) := by decide +kernel
theorem dX0_bestPart_31 : decode cX0_bestPart 31 = .ok (.lload_n 2, 1) := by decide +kernel
theorem dX0_bestPart_32 : decode cX0_bestPart 32 = .ok (.ldiv, 1) := by decide +kernel
theorem dX0_bestPart_33 : decode cX0_bestPart 33 = .ok (.lstore 14, 2) := by decide +kernel
theorem dX0_bestPart_35 : decode cX0_bestPart 35 = .ok (.lload 14, 2) := by decide +kernel
theorem dX0_bestPart_37 : decode cX0_bestPart 37 = .ok (.lstore 16, 2) := by decide +kernel
theorem dX0_bestPart_39 : decode cX0_bestPart 39 = .ok (.lload 16, 2) := by decide +kernel
theorem dX0_bestPart_41 : decode cX0_bestPart 41 = .ok (.lload 14, 2) := by decide +kernel
theorem dX0_bestPart_43 : decode cX0_bestPart 43 = .ok (.lconst 1, 1) := by decide +kernel
theorem dX0_bestPart_44 : decode cX0_bestPart 44 = .ok (.ladd, 1) := by decide +kernel
theorem dX0_bestPart_45 : decode cX0_bestPart 45 = .ok (.lcmp, 1) := by decide +kernel
theorem dX0_bestPart_46 : decode cX0_bestPart 46 = .ok (.ifCond .gt 59, 3) := by decide +kernel
theorem dX0_bestPart_49 : decode cX0_bestPart 49 = .ok (.lload_n 0, 1) := by decide +kernel
theorem dX0_bestPart_50 : decode cX0_bestPart 50 = .ok (.lload 12, 2) := by decide +kernel
theorem dX0_bestPart_52 : decode cX0_bestPart 52 = .ok (.lmul, 1) := by decide +kernel
theorem dX0_bestPart_53 : decode cX0_bestPart 53 = .ok (.lload 16, 2) := by decide +kernel
theorem dX0_bestPart_55 : decode cX0_bestPart 55 = .ok (.lload_n 2, 1) := by decide +kernel
theorem dX0_bestPart_56 : decode cX0_bestPart 56 = .ok (.lmul, 1) := by decide +kernel
theorem dX0_bestPart_57 : decode cX0_bestPart 57 = .ok (.lsub, 1) := by decide +kernel
theorem dX0_bestPart_58 : decode cX0_bestPart 58 = .ok (.invokestatic 31, 3) := by decide +kernel
theorem dX0_bestPart_61 : decode cX0_bestPart 61 = .ok (.lstore 18, 2) := by decide +kernel
theorem dX0_bestPart_63 : decode cX0_bestPart 63 = .ok (.lload 8, 2) := by decide +kernel
theorem dX0_bestPart_65 : decode cX0_bestPart 65 = .ok (.lconst 0, 1) := by decide +kernel
theorem dX0_bestPart_66 : decode cX0_bestPart 66 = .ok (.lcmp, 1) := by decide +kernel
theorem dX0_bestPart_67 : decode cX0_bestPart 67 = .ok (.ifCond .eq 17, 3) := by decide +kernel
theorem dX0_bestPart_70 : decode cX0_bestPart 70 = .ok (.lload 18, 2) := by decide +kernel
theorem dX0_bestPart_72 : decode cX0_bestPart 72 = .ok (.lload 8, 2) := by decide +kernel
theorem dX0_bestPart_74 : decode cX0_bestPart 74 = .ok (.lmul, 1) := by decide +kernel
theorem dX0_bestPart_75 : decode cX0_bestPart 75 = .ok (.lload 10, 2) := by decide +kernel
theorem dX0_bestPart_77 : decode cX0_bestPart 77 = .ok (.lload 12, 2) := by decide +kernel
theorem dX0_bestPart_79 : decode cX0_bestPart 79 = .ok (.lmul, 1) := by decide +kernel
theorem dX0_bestPart_80 : decode cX0_bestPart 80 = .ok (.lcmp, 1) := by decide +kernel
theorem dX0_bestPart_81 : decode cX0_bestPart 81 = .ok (.ifCond .ge 15, 3) := by decide +kernel
theorem dX0_bestPart_84 : decode cX0_bestPart 84 = .ok (.lload 16, 2) := by decide +kernel
theorem dX0_bestPart_86 : decode cX0_bestPart 86 = .ok (.lstore 6, 2) := by decide +kernel
theorem dX0_bestPart_88 : decode cX0_bestPart 88 = .ok (.lload 12, 2) := by decide +kernel
theorem dX0_bestPart_90 : decode cX0_bestPart 90 = .ok (.lstore 8, 2) := by decide +kernel
theorem dX0_bestPart_92 : decode cX0_bestPart 92 = .ok (.lload 18, 2) := by decide +kernel
theorem dX0_bestPart_94 : decode cX0_bestPart 94 = .ok (.lstore 10, 2) := by decide +kernel
theorem dX0_bestPart_96 : decode cX0_bestPart 96 = .ok (.lload 16, 2) := by decide +kernel
theorem dX0_bestPart_98 : decode cX0_bestPart 98 = .ok (.lconst 1, 1) := by decide +kernel
theorem dX0_bestPart_99 : decode cX0_bestPart 99 = .ok (.ladd, 1) := by decide +kernel
theorem dX0_bestPart_100 : decode cX0_bestPart 100 = .ok (.lstore 16, 2) := by decide +kernel
theorem dX0_bestPart_102 : decode cX0_bestPart 102 = .ok (.goto (-63), 3) := by decide +kernel
theorem dX0_bestPart_105 : decode cX0_bestPart 105 = .ok (.lload 12, 2) := by decide +kernel
theorem dX0_bestPart_107 : decode cX0_bestPart 107 = .ok (.lconst 1, 1) := by decide +kernel
theorem dX0_bestPart_108 : decode cX0_bestPart 108 = .ok (.ladd, 1) := by decide +kernel
theorem dX0_bestPart_109 : decode cX0_bestPart 109 = .ok (.lstore 12, 2) := by decide +kernel
theorem dX0_bestPart_111 : decode cX0_bestPart 111 = .ok (.goto (-99), 3) := by decide +kernel
theorem dX0_bestPart_114 : decode cX0_bestPart 114 = .ok (.iload 5, 2) := by decide +kernel
theorem dX0_bestPart_116 : decode cX0_bestPart 116 = .ok (.ifCond .ne 8, 3) := by decide +kernel
theorem dX0_bestPart_119 : decode cX0_bestPart 119 = .ok (.lload 6, 2) := by decide +kernel
theorem dX0_bestPart_121 : decode cX0_bestPart 121 = .ok (.goto 5, 3) := by decide +kernel
theorem dX0_bestPart_124 : decode cX0_bestPart 124 = .ok (.lload 8, 2) := by decide +kernel
theorem dX0_bestPart_126 : decode cX0_bestPart 126 = .ok (.l2i, 1) := by decide +kernel
theorem dX0_bestPart_127 : decode cX0_bestPart 127 = .ok (.ireturn, 1) := by decide +kernel
theorem dX0_squarePairs_0 : decode cX0_squarePairs 0 = .ok (.lload_n 0, 1) := by decide +kernel
theorem dX0_squarePairs_1 : decode cX0_squarePairs 1 = .ok (.invokestatic 17, 3) := by decide +kernel
theorem dX0_squarePairs_4 : decode cX0_squarePairs 4 = .ok (.lstore_n 3, 1) := by decide +kernel
theorem dX0_squarePairs_5 : decode cX0_squarePairs 5 = .ok (.iconst 0, 1) := by decide +kernel
theorem dX0_squarePairs_6 : decode cX0_squarePairs 6 = .ok (.istore 5, 2) := by decide +kernel
theorem dX0_squarePairs_8 : decode cX0_squarePairs 8 = .ok (.lconst 0, 1) := by decide +kernel
theorem dX0_squarePairs_9 : decode cX0_squarePairs 9 = .ok (.lstore 6, 2) := by decide +kernel
theorem dX0_squarePairs_11 : decode cX0_squarePairs 11 = .ok (.iconst 0, 1) := by decide +kernel
theorem dX0_squarePairs_12 : decode cX0_squarePairs 12 = .ok (.istore 8, 2) := by decide +kernel
theorem dX0_squarePairs_14 : decode cX0_squarePairs 14 = .ok (.iload 8, 2) := by decide +kernel
theorem dX0_squarePairs_16 : decode cX0_squarePairs 16 = .ok (.ldc 36, 2) := by decide +kernel
theorem dX0_squarePairs_18 : decode cX0_squarePairs 18 = .ok (.if_icmp .ge 67, 3) := by decide +kernel
theorem dX0_squarePairs_21 : decode cX0_squarePairs 21 = .ok (.lload 6, 2) := by decide +kernel
theorem dX0_squarePairs_23 : decode cX0_squarePairs 23 = .ok (.lload_n 3, 1) := by decide +kernel
theorem dX0_squarePairs_24 : decode cX0_squarePairs 24 = .ok (.lcmp, 1) := by decide +kernel
theorem dX0_squarePairs_25 : decode cX0_squarePairs 25 = .ok (.ifCond .gt 60, 3) := by decide +kernel
theorem dX0_squarePairs_28 : decode cX0_squarePairs 28 = .ok (.lload 6, 2) := by decide +kernel
theorem dX0_squarePairs_30 : decode cX0_squarePairs 30 = .ok (.lload 6, 2) := by decide +kernel
theorem dX0_squarePairs_32 : decode cX0_squarePairs 32 = .ok (.lmul, 1) := by decide +kernel
theorem dX0_squarePairs_33 : decode cX0_squarePairs 33 = .ok (.lload_n 3, 1) := by decide +kernel
theorem dX0_squarePairs_34 : decode cX0_squarePairs 34 = .ok (.lload_n 3, 1) := by decide +kernel
theorem dX0_squarePairs_35 : decode cX0_squarePairs 35 = .ok (.lmul, 1) := by decide +kernel
theorem dX0_squarePairs_36 : decode cX0_squarePairs 36 = .ok (.ladd, 1) := by decide +kernel
theorem dX0_squarePairs_37 : decode cX0_squarePairs 37 = .ok (.lstore 9, 2) := by decide +kernel
theorem dX0_squarePairs_39 : decode cX0_squarePairs 39 = .ok (.lload 9, 2) := by decide +kernel
theorem dX0_squarePairs_41 : decode cX0_squarePairs 41 = .ok (.lload_n 0, 1) := by decide +kernel
theorem dX0_squarePairs_42 : decode cX0_squarePairs 42 = .ok (.lcmp, 1) := by decide +kernel
theorem dX0_squarePairs_43 : decode cX0_squarePairs 43 = .ok (.ifCond .le 10, 3) := by decide +kernel
theorem dX0_squarePairs_46 : decode cX0_squarePairs 46 = .ok (.lload_n 3, 1) := by decide +kernel
theorem dX0_squarePairs_47 : decode cX0_squarePairs 47 = .ok (.lconst 1, 1) := by decide +kernel
theorem dX0_squarePairs_48 : decode cX0_squarePairs 48 = .ok (.lsub, 1) := by decide +kernel
theorem dX0_squarePairs_49 : decode cX0_squarePairs 49 = .ok (.lstore_n 3, 1) := by decide +kernel
theorem dX0_squarePairs_50 : decode cX0_squarePairs 50 = .ok (.goto 29, 3) := by decide +kernel
theorem dX0_squarePairs_53 : decode cX0_squarePairs 53 = .ok (.lload 9, 2) := by decide +kernel
theorem dX0_squarePairs_55 : decode cX0_squarePairs 55 = .ok (.lload_n 0, 1) := by decide +kernel
theorem dX0_squarePairs_56 : decode cX0_squarePairs 56 = .ok (.lcmp, 1) := by decide +kernel
theorem dX0_squarePairs_57 : decode cX0_squarePairs 57 = .ok (.ifCond .ne 16, 3) := by decide +kernel
theorem dX0_squarePairs_60 : decode cX0_squarePairs 60 = .ok (.iload 5, 2) := by decide +kernel
theorem dX0_squarePairs_62 : decode cX0_squarePairs 62 = .ok (.iload_n 2, 1) := by decide +kernel
theorem dX0_squarePairs_63 : decode cX0_squarePairs 63 = .ok (.if_icmp .ne 7, 3) := by decide +kernel
theorem dX0_squarePairs_66 : decode cX0_squarePairs 66 = .ok (.lload 6, 2) := by decide +kernel
theorem dX0_squarePairs_68 : decode cX0_squarePairs 68 = .ok (.l2i, 1) := by decide +kernel
theorem dX0_squarePairs_69 : decode cX0_squarePairs 69 = .ok (.ireturn, 1) := by decide +kernel
theorem dX0_squarePairs_70 : decode cX0_squarePairs 70 = .ok (.iinc 5 1, 3) := by decide +kernel
theorem dX0_squarePairs_73 : decode cX0_squarePairs 73 = .ok (.lload 6, 2) := by decide +kernel
theorem dX0_squarePairs_75 : decode cX0_squarePairs 75 = .ok (.lconst 1, 1) := by decide +kernel
theorem dX0_squarePairs_76 : decode cX0_squarePairs 76 = .ok (.ladd, 1) := by decide +kernel
theorem dX0_squarePairs_77 : decode cX0_squarePairs 77 = .ok (.lstore 6, 2) := by decide +kernel
theorem dX0_squarePairs_79 : decode cX0_squarePairs 79 = .ok (.iinc 8 1, 3) := by decide +kernel
theorem dX0_squarePairs_82 : decode cX0_squarePairs 82 = .ok (.goto (-68), 3) := by decide +kernel
theorem dX0_squarePairs_85 : decode cX0_squarePairs 85 = .ok (.iload_n 2, 1) := by decide +kernel
theorem dX0_squarePairs_86 : decode cX0_squarePairs 86 = .ok (.iload 5, 2) := by decide +kernel
theorem dX0_squarePairs_88 : decode cX0_squarePairs 88 = .ok (.invokestatic 27, 3) := by decide +kernel
theorem dX0_squarePairs_91 : decode cX0_squarePairs 91 = .ok (.ireturn, 1) := by decide +kernel
theorem dX0_triangle_0 : decode cX0_triangle 0 = .ok (.lload_n 0, 1) := by decide +kernel
theorem dX0_triangle_1 : decode cX0_triangle 1 = .ok (.lload_n 0, 1) := by decide +kernel
theorem dX0_triangle_2 : decode cX0_triangle 2 = .ok (.lconst 1, 1) := by decide +kernel
theorem dX0_triangle_3 : decode cX0_triangle 3 = .ok (.ladd, 1) := by decide +kernel
theorem dX0_triangle_4 : decode cX0_triangle 4 = .ok (.lmul, 1) := by decide +kernel
theorem dX0_triangle_5 : decode cX0_triangle 5 = .ok (.ldc2_w 37, 3) := by decide +kernel
theorem dX0_triangle_8 : decode cX0_triangle 8 = .ok (.ldiv, 1) := by decide +kernel
theorem dX0_triangle_9 : decode cX0_triangle 9 = .ok (.lreturn, 1) := by decide +kernel
theorem dX0_threeTriangles_0 : decode cX0_threeTriangles 0 = .ok (.lconst 0, 1) := by decide +kernel
theorem dX0_threeTriangles_1 : decode cX0_threeTriangles 1 = .ok (.lstore_n 3, 1) := by decide +kernel
theorem dX0_threeTriangles_2 : decode cX0_threeTriangles 2 = .ok (.lload_n 3, 1) := by decide +kernel
theorem dX0_threeTriangles_3 : decode cX0_threeTriangles 3 = .ok (.ldc2_w 39, 3) := by decide +kernel
theorem dX0_threeTriangles_6 : decode cX0_threeTriangles 6 = .ok (.lcmp, 1) := by decide +kernel
theorem dX0_threeTriangles_7 : decode cX0_threeTriangles 7 = .ok (.ifCond .ge 135, 3) := by decide +kernel
theorem dX0_threeTriangles_10 : decode cX0_threeTriangles 10 = .ok (.ldc2_w 41, 3) := by decide +kernel
theorem dX0_threeTriangles_13 : decode cX0_threeTriangles 13 = .ok (.lload_n 3, 1) := by decide +kernel
theorem dX0_threeTriangles_14 : decode cX0_threeTriangles 14 = .ok (.invokestatic 43, 3) := by decide +kernel
theorem dX0_threeTriangles_17 : decode cX0_threeTriangles 17 = .ok (.lmul, 1) := by decide +kernel
theorem dX0_threeTriangles_18 : decode cX0_threeTriangles 18 = .ok (.lload_n 0, 1) := by decide +kernel
theorem dX0_threeTriangles_19 : decode cX0_threeTriangles 19 = .ok (.lcmp, 1) := by decide +kernel
theorem dX0_threeTriangles_20 : decode cX0_threeTriangles 20 = .ok (.ifCond .gt 122, 3) := by decide +kernel
theorem dX0_threeTriangles_23 : decode cX0_threeTriangles 23 = .ok (.lload_n 0, 1) := by decide +kernel
theorem dX0_threeTriangles_24 : decode cX0_threeTriangles 24 = .ok (.lload_n 3, 1) := by decide +kernel
theorem dX0_threeTriangles_25 : decode cX0_threeTriangles 25 = .ok (.invokestatic 43, 3) := by decide +kernel
theorem dX0_threeTriangles_28 : decode cX0_threeTriangles 28 = .ok (.lsub, 1) := by decide +kernel
theorem dX0_threeTriangles_29 : decode cX0_threeTriangles 29 = .ok (.lstore 5, 2) := by decide +kernel
theorem dX0_threeTriangles_31 : decode cX0_threeTriangles 31 = .ok (.lload_n 3, 1) := by decide +kernel
theorem dX0_threeTriangles_32 : decode cX0_threeTriangles 32 = .ok (.lstore 7, 2) := by decide +kernel
theorem dX0_threeTriangles_34 : decode cX0_threeTriangles 34 = .ok (.ldc2_w 37, 3) := by decide +kernel
theorem dX0_threeTriangles_37 : decode cX0_threeTriangles 37 = .ok (.lload 5, 2) := by decide +kernel
theorem dX0_threeTriangles_39 : decode cX0_threeTriangles 39 = .ok (.lmul, 1) := by decide +kernel
theorem dX0_threeTriangles_40 : decode cX0_threeTriangles 40 = .ok (.invokestatic 17, 3) := by decide +kernel
theorem dX0_threeTriangles_43 : decode cX0_threeTriangles 43 = .ok (.lstore 9, 2) := by decide +kernel
theorem dX0_threeTriangles_45 : decode cX0_threeTriangles 45 = .ok (.iconst 0, 1) := by decide +kernel
theorem dX0_threeTriangles_46 : decode cX0_threeTriangles 46 = .ok (.istore 11, 2) := by decide +kernel
theorem dX0_threeTriangles_48 : decode cX0_threeTriangles 48 = .ok (.iload 11, 2) := by decide +kernel
theorem dX0_threeTriangles_50 : decode cX0_threeTriangles 50 = .ok (.ldc 36, 2) := by decide +kernel
theorem dX0_threeTriangles_52 : decode cX0_threeTriangles 52 = .ok (.if_icmp .ge 83, 3) := by decide +kernel
theorem dX0_threeTriangles_55 : decode cX0_threeTriangles 55 = .ok (.lload 7, 2) := by decide +kernel
theorem dX0_threeTriangles_57 : decode cX0_threeTriangles 57 = .ok (.lload 9, 2) := by decide +kernel
theorem dX0_threeTriangles_59 : decode cX0_threeTriangles 59 = .ok (.lcmp, 1) := by decide +kernel
theorem dX0_threeTriangles_60 : decode cX0_threeTriangles 60 = .ok (.ifCond .gt 75, 3) := by decide +kernel
theorem dX0_threeTriangles_63 : decode cX0_threeTriangles 63 = .ok (.lload 7, 2) := by decide +kernel
theorem dX0_threeTriangles_65 : decode cX0_threeTriangles 65 = .ok (.invokestatic 43, 3) := by decide +kernel
theorem dX0_threeTriangles_68 : decode cX0_threeTriangles 68 = .ok (.lload 9, 2) := by decide +kernel
theorem dX0_threeTriangles_70 : decode cX0_threeTriangles 70 = .ok (.invokestatic 43, 3) := by decide +kernel
theorem dX0_threeTriangles_73 : decode cX0_threeTriangles 73 = .ok (.ladd, 1) := by decide +kernel
theorem dX0_threeTriangles_74 : decode cX0_threeTriangles 74 = .ok (.lstore 12, 2) := by decide +kernel
theorem dX0_threeTriangles_76 : decode cX0_threeTriangles 76 = .ok (.lload 12, 2) := by decide +kernel
theorem dX0_threeTriangles_78 : decode cX0_threeTriangles 78 = .ok (.lload 5, 2) := by decide +kernel
theorem dX0_threeTriangles_80 : decode cX0_threeTriangles 80 = .ok (.lcmp, 1) := by decide +kernel
theorem dX0_threeTriangles_81 : decode cX0_threeTriangles 81 = .ok (.ifCond .ne 25, 3) := by decide +kernel
theorem dX0_threeTriangles_84 : decode cX0_threeTriangles 84 = .ok (.iload_n 2, 1) := by decide +kernel
theorem dX0_threeTriangles_85 : decode cX0_threeTriangles 85 = .ok (.ifCond .ne 7, 3) := by decide +kernel
theorem dX0_threeTriangles_88 : decode cX0_threeTriangles 88 = .ok (.lload_n 3, 1) := by decide +kernel
theorem dX0_threeTriangles_89 : decode cX0_threeTriangles 89 = .ok (.goto 15, 3) := by decide +kernel
theorem dX0_threeTriangles_92 : decode cX0_threeTriangles 92 = .ok (.iload_n 2, 1) := by decide +kernel
theorem dX0_threeTriangles_93 : decode cX0_threeTriangles 93 = .ok (.iconst 1, 1) := by decide +kernel
theorem dX0_threeTriangles_94 : decode cX0_threeTriangles 94 = .ok (.if_icmp .ne 8, 3) := by decide +kernel
theorem dX0_threeTriangles_97 : decode cX0_threeTriangles 97 = .ok (.lload 7, 2) := by decide +kernel
theorem dX0_threeTriangles_99 : decode cX0_threeTriangles 99 = .ok (.goto 5, 3) := by decide +kernel
theorem dX0_threeTriangles_102 : decode cX0_threeTriangles 102 = .ok (.lload 9, 2) := by decide +kernel
theorem dX0_threeTriangles_104 : decode cX0_threeTriangles 104 = .ok (.l2i, 1) := by decide +kernel
theorem dX0_threeTriangles_105 : decode cX0_threeTriangles 105 = .ok (.ireturn, 1) := by decide +kernel
theorem dX0_threeTriangles_106 : decode cX0_threeTriangles 106 = .ok (.lload 12, 2) := by decide +kernel
theorem dX0_threeTriangles_108 : decode cX0_threeTriangles 108 = .ok (.lload 5, 2) := by decide +kernel
theorem dX0_threeTriangles_110 : decode cX0_threeTriangles 110 = .ok (.lcmp, 1) := by decide +kernel
theorem dX0_threeTriangles_111 : decode cX0_threeTriangles 111 = .ok (.ifCond .le 12, 3) := by decide +kernel
theorem dX0_threeTriangles_114 : decode cX0_threeTriangles 114 = .ok (.lload 9, 2) := by decide +kernel
theorem dX0_threeTriangles_116 : decode cX0_threeTriangles 116 = .ok (.lconst 1, 1) := by decide +kernel
theorem dX0_threeTriangles_117 : decode cX0_threeTriangles 117 = .ok (.lsub, 1) := by decide +kernel
theorem dX0_threeTriangles_118 : decode cX0_threeTriangles 118 = .ok (.lstore 9, 2) := by decide +kernel
theorem dX0_threeTriangles_120 : decode cX0_threeTriangles 120 = .ok (.goto 9, 3) := by decide +kernel
theorem dX0_threeTriangles_123 : decode cX0_threeTriangles 123 = .ok (.lload 7, 2) := by decide +kernel
theorem dX0_threeTriangles_125 : decode cX0_threeTriangles 125 = .ok (.lconst 1, 1) := by decide +kernel
theorem dX0_threeTriangles_126 : decode cX0_threeTriangles 126 = .ok (.ladd, 1) := by decide +kernel
theorem dX0_threeTriangles_127 : decode cX0_threeTriangles 127 = .ok (.lstore 7, 2) := by decide +kernel
theorem dX0_threeTriangles_129 : decode cX0_threeTriangles 129 = .ok (.iinc 11 1, 3) := by decide +kernel
theorem dX0_threeTriangles_132 : decode cX0_threeTriangles 132 = .ok (.goto (-84), 3) := by decide +kernel
theorem dX0_threeTriangles_135 : decode cX0_threeTriangles 135 = .ok (.lload_n 3, 1) := by decide +kernel
theorem dX0_threeTriangles_136 : decode cX0_threeTriangles 136 = .ok (.lconst 1, 1) := by decide +kernel
theorem dX0_threeTriangles_137 : decode cX0_threeTriangles 137 = .ok (.ladd, 1) := by decide +kernel
theorem dX0_threeTriangles_138 : decode cX0_threeTriangles 138 = .ok (.lstore_n 3, 1) := by decide +kernel
theorem dX0_threeTriangles_139 : decode cX0_threeTriangles 139 = .ok (.goto (-137), 3) := by decide +kernel
theorem dX0_threeTriangles_142 : decode cX0_threeTriangles 142 = .ok (.bipush (-4), 2) := by decide +kernel
theorem dX0_threeTriangles_144 : decode cX0_threeTriangles 144 = .ok (.ireturn, 1) := by decide +kernel
theorem dX0_needsFour_0 : decode cX0_needsFour 0 = .ok (.lload_n 0, 1) := by decide +kernel
theorem dX0_needsFour_1 : decode cX0_needsFour 1 = .ok (.lstore_n 2, 1) := by decide +kernel
theorem dX0_needsFour_2 : decode cX0_needsFour 2 = .ok (.iconst 0, 1) := by decide +kernel
theorem dX0_needsFour_3 : decode cX0_needsFour 3 = .ok (.istore 4, 2) := by decide +kernel
theorem dX0_needsFour_5 : decode cX0_needsFour 5 = .ok (.iload 4, 2) := by decide +kernel
theorem dX0_needsFour_7 : decode cX0_needsFour 7 = .ok (.bipush 32, 2) := by decide +kernel
theorem dX0_needsFour_9 : decode cX0_needsFour 9 = .ok (.if_icmp .ge 31, 3) := by decide +kernel
theorem dX0_needsFour_12 : decode cX0_needsFour 12 = .ok (.lload_n 2, 1) := by decide +kernel
theorem dX0_needsFour_13 : decode cX0_needsFour 13 = .ok (.lconst 0, 1) := by decide +kernel
theorem dX0_needsFour_14 : decode cX0_needsFour 14 = .ok (.lcmp, 1) := by decide +kernel
theorem dX0_needsFour_15 : decode cX0_needsFour 15 = .ok (.ifCond .le 25, 3) := by decide +kernel
theorem dX0_needsFour_18 : decode cX0_needsFour 18 = .ok (.lload_n 2, 1) := by decide +kernel
theorem dX0_needsFour_19 : decode cX0_needsFour 19 = .ok (.ldc2_w 46, 3) := by decide +kernel
theorem dX0_needsFour_22 : decode cX0_needsFour 22 = .ok (.lrem, 1) := by decide +kernel
theorem dX0_needsFour_23 : decode cX0_needsFour 23 = .ok (.lconst 0, 1) := by decide +kernel
theorem dX0_needsFour_24 : decode cX0_needsFour 24 = .ok (.lcmp, 1) := by decide +kernel
theorem dX0_needsFour_25 : decode cX0_needsFour 25 = .ok (.ifCond .ne 15, 3) := by decide +kernel
theorem dX0_needsFour_28 : decode cX0_needsFour 28 = .ok (.lload_n 2, 1) := by decide +kernel
theorem dX0_needsFour_29 : decode cX0_needsFour 29 = .ok (.ldc2_w 46, 3) := by decide +kernel
theorem dX0_needsFour_32 : decode cX0_needsFour 32 = .ok (.ldiv, 1) := by decide +kernel
theorem dX0_needsFour_33 : decode cX0_needsFour 33 = .ok (.lstore_n 2, 1) := by decide +kernel
theorem dX0_needsFour_34 : decode cX0_needsFour 34 = .ok (.iinc 4 1, 3) := by decide +kernel
theorem dX0_needsFour_37 : decode cX0_needsFour 37 = .ok (.goto (-32), 3) := by decide +kernel
theorem dX0_needsFour_40 : decode cX0_needsFour 40 = .ok (.lload_n 2, 1) := by decide +kernel
theorem dX0_needsFour_41 : decode cX0_needsFour 41 = .ok (.ldc2_w 48, 3) := by decide +kernel
theorem dX0_needsFour_44 : decode cX0_needsFour 44 = .ok (.lrem, 1) := by decide +kernel
theorem dX0_needsFour_45 : decode cX0_needsFour 45 = .ok (.ldc2_w 50, 3) := by decide +kernel
theorem dX0_needsFour_48 : decode cX0_needsFour 48 = .ok (.lcmp, 1) := by decide +kernel
theorem dX0_needsFour_49 : decode cX0_needsFour 49 = .ok (.ifCond .ne 7, 3) := by decide +kernel
theorem dX0_needsFour_52 : decode cX0_needsFour 52 = .ok (.iconst 1, 1) := by decide +kernel
theorem dX0_needsFour_53 : decode cX0_needsFour 53 = .ok (.goto 4, 3) := by decide +kernel
theorem dX0_needsFour_56 : decode cX0_needsFour 56 = .ok (.iconst 0, 1) := by decide +kernel
theorem dX0_needsFour_57 : decode cX0_needsFour 57 = .ok (.ireturn, 1) := by decide +kernel
theorem dX0_fourSquares_0 : decode cX0_fourSquares 0 = .ok (.lconst 0, 1) := by decide +kernel
theorem dX0_fourSquares_1 : decode cX0_fourSquares 1 = .ok (.lstore_n 3, 1) := by decide +kernel
theorem dX0_fourSquares_2 : decode cX0_fourSquares 2 = .ok (.lload_n 3, 1) := by decide +kernel
theorem dX0_fourSquares_3 : decode cX0_fourSquares 3 = .ok (.ldc2_w 39, 3) := by decide +kernel
theorem dX0_fourSquares_6 : decode cX0_fourSquares 6 = .ok (.lcmp, 1) := by decide +kernel
theorem dX0_fourSquares_7 : decode cX0_fourSquares 7 = .ok (.ifCond .ge 143, 3) := by decide +kernel
theorem dX0_fourSquares_10 : decode cX0_fourSquares 10 = .ok (.ldc2_w 46, 3) := by decide +kernel
theorem dX0_fourSquares_13 : decode cX0_fourSquares 13 = .ok (.lload_n 3, 1) := by decide +kernel
theorem dX0_fourSquares_14 : decode cX0_fourSquares 14 = .ok (.lmul, 1) := by decide +kernel
theorem dX0_fourSquares_15 : decode cX0_fourSquares 15 = .ok (.lload_n 3, 1) := by decide +kernel
theorem dX0_fourSquares_16 : decode cX0_fourSquares 16 = .ok (.lmul, 1) := by decide +kernel
theorem dX0_fourSquares_17 : decode cX0_fourSquares 17 = .ok (.lload_n 0, 1) := by decide +kernel
theorem dX0_fourSquares_18 : decode cX0_fourSquares 18 = .ok (.lcmp, 1) := by decide +kernel
theorem dX0_fourSquares_19 : decode cX0_fourSquares 19 = .ok (.ifCond .gt 131, 3) := by decide +kernel
theorem dX0_fourSquares_22 : decode cX0_fourSquares 22 = .ok (.lload_n 0, 1) := by decide +kernel
theorem dX0_fourSquares_23 : decode cX0_fourSquares 23 = .ok (.lload_n 3, 1) := by decide +kernel
theorem dX0_fourSquares_24 : decode cX0_fourSquares 24 = .ok (.lload_n 3, 1) := by decide +kernel
theorem dX0_fourSquares_25 : decode cX0_fourSquares 25 = .ok (.lmul, 1) := by decide +kernel
theorem dX0_fourSquares_26 : decode cX0_fourSquares 26 = .ok (.lsub, 1) := by decide +kernel
theorem dX0_fourSquares_27 : decode cX0_fourSquares 27 = .ok (.lstore 5, 2) := by decide +kernel
theorem dX0_fourSquares_29 : decode cX0_fourSquares 29 = .ok (.lload 5, 2) := by decide +kernel
theorem dX0_fourSquares_31 : decode cX0_fourSquares 31 = .ok (.invokestatic 52, 3) := by decide +kernel
theorem dX0_fourSquares_34 : decode cX0_fourSquares 34 = .ok (.ifCond .eq 6, 3) := by decide +kernel
theorem dX0_fourSquares_37 : decode cX0_fourSquares 37 = .ok (.goto 106, 3) := by decide +kernel
theorem dX0_fourSquares_40 : decode cX0_fourSquares 40 = .ok (.lload_n 3, 1) := by decide +kernel
theorem dX0_fourSquares_41 : decode cX0_fourSquares 41 = .ok (.lstore 7, 2) := by decide +kernel
theorem dX0_fourSquares_43 : decode cX0_fourSquares 43 = .ok (.lload 7, 2) := by decide +kernel
theorem dX0_fourSquares_45 : decode cX0_fourSquares 45 = .ok (.ldc2_w 39, 3) := by decide +kernel
theorem dX0_fourSquares_48 : decode cX0_fourSquares 48 = .ok (.lcmp, 1) := by decide +kernel
theorem dX0_fourSquares_49 : decode cX0_fourSquares 49 = .ok (.ifCond .ge 94, 3) := by decide +kernel
theorem dX0_fourSquares_52 : decode cX0_fourSquares 52 = .ok (.ldc2_w 41, 3) := by decide +kernel
theorem dX0_fourSquares_55 : decode cX0_fourSquares 55 = .ok (.lload 7, 2) := by decide +kernel
theorem dX0_fourSquares_57 : decode cX0_fourSquares 57 = .ok (.lmul, 1) := by decide +kernel
theorem dX0_fourSquares_58 : decode cX0_fourSquares 58 = .ok (.lload 7, 2) := by decide +kernel
theorem dX0_fourSquares_60 : decode cX0_fourSquares 60 = .ok (.lmul, 1) := by decide +kernel
theorem dX0_fourSquares_61 : decode cX0_fourSquares 61 = .ok (.lload 5, 2) := by decide +kernel
theorem dX0_fourSquares_63 : decode cX0_fourSquares 63 = .ok (.lcmp, 1) := by decide +kernel
theorem dX0_fourSquares_64 : decode cX0_fourSquares 64 = .ok (.ifCond .gt 79, 3) := by decide +kernel
theorem dX0_fourSquares_67 : decode cX0_fourSquares 67 = .ok (.lload 5, 2) := by decide +kernel
theorem dX0_fourSquares_69 : decode cX0_fourSquares 69 = .ok (.lload 7, 2) := by decide +kernel
theorem dX0_fourSquares_71 : decode cX0_fourSquares 71 = .ok (.lload 7, 2) := by decide +kernel
theorem dX0_fourSquares_73 : decode cX0_fourSquares 73 = .ok (.lmul, 1) := by decide +kernel
theorem dX0_fourSquares_74 : decode cX0_fourSquares 74 = .ok (.lsub, 1) := by decide +kernel
theorem dX0_fourSquares_75 : decode cX0_fourSquares 75 = .ok (.lstore 9, 2) := by decide +kernel
theorem dX0_fourSquares_77 : decode cX0_fourSquares 77 = .ok (.lload 9, 2) := by decide +kernel
theorem dX0_fourSquares_79 : decode cX0_fourSquares 79 = .ok (.lload 7, 2) := by decide +kernel
theorem dX0_fourSquares_81 : decode cX0_fourSquares 81 = .ok (.invokestatic 55, 3) := by decide +kernel
theorem dX0_fourSquares_84 : decode cX0_fourSquares 84 = .ok (.lstore 11, 2) := by decide +kernel
theorem dX0_fourSquares_86 : decode cX0_fourSquares 86 = .ok (.lload 11, 2) := by decide +kernel
theorem dX0_fourSquares_88 : decode cX0_fourSquares 88 = .ok (.lconst 0, 1) := by decide +kernel
theorem dX0_fourSquares_89 : decode cX0_fourSquares 89 = .ok (.lcmp, 1) := by decide +kernel
theorem dX0_fourSquares_90 : decode cX0_fourSquares 90 = .ok (.ifCond .lt 44, 3) := by decide +kernel
theorem dX0_fourSquares_93 : decode cX0_fourSquares 93 = .ok (.iload_n 2, 1) := by decide +kernel
theorem dX0_fourSquares_94 : decode cX0_fourSquares 94 = .ok (.ifCond .ne 7, 3) := by decide +kernel
theorem dX0_fourSquares_97 : decode cX0_fourSquares 97 = .ok (.lload_n 3, 1) := by decide +kernel
theorem dX0_fourSquares_98 : decode cX0_fourSquares 98 = .ok (.goto 34, 3) := by decide +kernel
theorem dX0_fourSquares_101 : decode cX0_fourSquares 101 = .ok (.iload_n 2, 1) := by decide +kernel
theorem dX0_fourSquares_102 : decode cX0_fourSquares 102 = .ok (.iconst 1, 1) := by decide +kernel
theorem dX0_fourSquares_103 : decode cX0_fourSquares 103 = .ok (.if_icmp .ne 8, 3) := by decide +kernel
theorem dX0_fourSquares_106 : decode cX0_fourSquares 106 = .ok (.lload 7, 2) := by decide +kernel
theorem dX0_fourSquares_108 : decode cX0_fourSquares 108 = .ok (.goto 24, 3) := by decide +kernel
theorem dX0_fourSquares_111 : decode cX0_fourSquares 111 = .ok (.iload_n 2, 1) := by decide +kernel
theorem dX0_fourSquares_112 : decode cX0_fourSquares 112 = .ok (.iconst 2, 1) := by decide +kernel
theorem dX0_fourSquares_113 : decode cX0_fourSquares 113 = .ok (.if_icmp .ne 8, 3) := by decide +kernel
theorem dX0_fourSquares_116 : decode cX0_fourSquares 116 = .ok (.lload 11, 2) := by decide +kernel
theorem dX0_fourSquares_118 : decode cX0_fourSquares 118 = .ok (.goto 14, 3) := by decide +kernel
theorem dX0_fourSquares_121 : decode cX0_fourSquares 121 = .ok (.lload 9, 2) := by decide +kernel
theorem dX0_fourSquares_123 : decode cX0_fourSquares 123 = .ok (.lload 11, 2) := by decide +kernel
theorem dX0_fourSquares_125 : decode cX0_fourSquares 125 = .ok (.lload 11, 2) := by decide +kernel
theorem dX0_fourSquares_127 : decode cX0_fourSquares 127 = .ok (.lmul, 1) := by decide +kernel
theorem dX0_fourSquares_128 : decode cX0_fourSquares 128 = .ok (.lsub, 1) := by decide +kernel
theorem dX0_fourSquares_129 : decode cX0_fourSquares 129 = .ok (.invokestatic 17, 3) := by decide +kernel
theorem dX0_fourSquares_132 : decode cX0_fourSquares 132 = .ok (.l2i, 1) := by decide +kernel
theorem dX0_fourSquares_133 : decode cX0_fourSquares 133 = .ok (.ireturn, 1) := by decide +kernel
theorem dX0_fourSquares_134 : decode cX0_fourSquares 134 = .ok (.lload 7, 2) := by decide +kernel
theorem dX0_fourSquares_136 : decode cX0_fourSquares 136 = .ok (.lconst 1, 1) := by decide +kernel
theorem dX0_fourSquares_137 : decode cX0_fourSquares 137 = .ok (.ladd, 1) := by decide +kernel
theorem dX0_fourSquares_138 : decode cX0_fourSquares 138 = .ok (.lstore 7, 2) := by decide +kernel
theorem dX0_fourSquares_140 : decode cX0_fourSquares 140 = .ok (.goto (-97), 3) := by decide +kernel
theorem dX0_fourSquares_143 : decode cX0_fourSquares 143 = .ok (.lload_n 3, 1) := by decide +kernel
theorem dX0_fourSquares_144 : decode cX0_fourSquares 144 = .ok (.lconst 1, 1) := by decide +kernel
theorem dX0_fourSquares_145 : decode cX0_fourSquares 145 = .ok (.ladd, 1) := by decide +kernel
theorem dX0_fourSquares_146 : decode cX0_fourSquares 146 = .ok (.lstore_n 3, 1) := by decide +kernel
theorem dX0_fourSquares_147 : decode cX0_fourSquares 147 = .ok (.goto (-145), 3) := by decide +kernel
theorem dX0_fourSquares_150 : decode cX0_fourSquares 150 = .ok (.bipush (-4), 2) := by decide +kernel
theorem dX0_fourSquares_152 : decode cX0_fourSquares 152 = .ok (.ireturn, 1) := by decide +kernel
theorem dX0_lesserOfPair_0 : decode cX0_lesserOfPair 0 = .ok (.lload_n 0, 1) := by decide +kernel
theorem dX0_lesserOfPair_1 : decode cX0_lesserOfPair 1 = .ok (.ldc2_w 46, 3) := by decide +kernel
theorem dX0_lesserOfPair_4 : decode cX0_lesserOfPair 4 = .ok (.lrem, 1) := by decide +kernel
theorem dX0_lesserOfPair_5 : decode cX0_lesserOfPair 5 = .ok (.ldc2_w 41, 3) := by decide +kernel
theorem dX0_lesserOfPair_8 : decode cX0_lesserOfPair 8 = .ok (.lcmp, 1) := by decide +kernel
theorem dX0_lesserOfPair_9 : decode cX0_lesserOfPair 9 = .ok (.ifCond .ne 7, 3) := by decide +kernel
theorem dX0_lesserOfPair_12 : decode cX0_lesserOfPair 12 = .ok (.ldc2_w 59, 3) := by decide +kernel
theorem dX0_lesserOfPair_15 : decode cX0_lesserOfPair 15 = .ok (.lreturn, 1) := by decide +kernel
theorem dX0_lesserOfPair_16 : decode cX0_lesserOfPair 16 = .ok (.lload_n 2, 1) := by decide +kernel
theorem dX0_lesserOfPair_17 : decode cX0_lesserOfPair 17 = .ok (.lstore 4, 2) := by decide +kernel
theorem dX0_lesserOfPair_19 : decode cX0_lesserOfPair 19 = .ok (.lload_n 0, 1) := by decide +kernel
theorem dX0_lesserOfPair_20 : decode cX0_lesserOfPair 20 = .ok (.invokestatic 17, 3) := by decide +kernel
theorem dX0_lesserOfPair_23 : decode cX0_lesserOfPair 23 = .ok (.lstore 6, 2) := by decide +kernel
theorem dX0_lesserOfPair_25 : decode cX0_lesserOfPair 25 = .ok (.iconst 0, 1) := by decide +kernel
theorem dX0_lesserOfPair_26 : decode cX0_lesserOfPair 26 = .ok (.istore 8, 2) := by decide +kernel
theorem dX0_lesserOfPair_28 : decode cX0_lesserOfPair 28 = .ok (.iload 8, 2) := by decide +kernel
theorem dX0_lesserOfPair_30 : decode cX0_lesserOfPair 30 = .ok (.ldc 36, 2) := by decide +kernel
theorem dX0_lesserOfPair_32 : decode cX0_lesserOfPair 32 = .ok (.if_icmp .ge 62, 3) := by decide +kernel
theorem dX0_lesserOfPair_35 : decode cX0_lesserOfPair 35 = .ok (.lload 4, 2) := by decide +kernel
theorem dX0_lesserOfPair_37 : decode cX0_lesserOfPair 37 = .ok (.lload 6, 2) := by decide +kernel
theorem dX0_lesserOfPair_39 : decode cX0_lesserOfPair 39 = .ok (.lcmp, 1) := by decide +kernel
theorem dX0_lesserOfPair_40 : decode cX0_lesserOfPair 40 = .ok (.ifCond .gt 54, 3) := by decide +kernel
theorem dX0_lesserOfPair_43 : decode cX0_lesserOfPair 43 = .ok (.lload 4, 2) := by decide +kernel
theorem dX0_lesserOfPair_45 : decode cX0_lesserOfPair 45 = .ok (.lload 4, 2) := by decide +kernel
theorem dX0_lesserOfPair_47 : decode cX0_lesserOfPair 47 = .ok (.lmul, 1) := by decide +kernel
theorem dX0_lesserOfPair_48 : decode cX0_lesserOfPair 48 = .ok (.lload 6, 2) := by decide +kernel
theorem dX0_lesserOfPair_50 : decode cX0_lesserOfPair 50 = .ok (.lload 6, 2) := by decide +kernel
theorem dX0_lesserOfPair_52 : decode cX0_lesserOfPair 52 = .ok (.lmul, 1) := by decide +kernel
theorem dX0_lesserOfPair_53 : decode cX0_lesserOfPair 53 = .ok (.ladd, 1) := by decide +kernel
theorem dX0_lesserOfPair_54 : decode cX0_lesserOfPair 54 = .ok (.lstore 9, 2) := by decide +kernel
theorem dX0_lesserOfPair_56 : decode cX0_lesserOfPair 56 = .ok (.lload 9, 2) := by decide +kernel
theorem dX0_lesserOfPair_58 : decode cX0_lesserOfPair 58 = .ok (.lload_n 0, 1) := by decide +kernel
theorem dX0_lesserOfPair_59 : decode cX0_lesserOfPair 59 = .ok (.lcmp, 1) := by decide +kernel
theorem dX0_lesserOfPair_60 : decode cX0_lesserOfPair 60 = .ok (.ifCond .ne 6, 3) := by decide +kernel
theorem dX0_lesserOfPair_63 : decode cX0_lesserOfPair 63 = .ok (.lload 4, 2) := by decide +kernel
theorem dX0_lesserOfPair_65 : decode cX0_lesserOfPair 65 = .ok (.lreturn, 1) := by decide +kernel
theorem dX0_lesserOfPair_66 : decode cX0_lesserOfPair 66 = .ok (.lload 9, 2) := by decide +kernel
theorem dX0_lesserOfPair_68 : decode cX0_lesserOfPair 68 = .ok (.lload_n 0, 1) := by decide +kernel
theorem dX0_lesserOfPair_69 : decode cX0_lesserOfPair 69 = .ok (.lcmp, 1) := by decide +kernel
theorem dX0_lesserOfPair_70 : decode cX0_lesserOfPair 70 = .ok (.ifCond .le 12, 3) := by decide +kernel
theorem dX0_lesserOfPair_73 : decode cX0_lesserOfPair 73 = .ok (.lload 6, 2) := by decide +kernel
theorem dX0_lesserOfPair_75 : decode cX0_lesserOfPair 75 = .ok (.lconst 1, 1) := by decide +kernel
theorem dX0_lesserOfPair_76 : decode cX0_lesserOfPair 76 = .ok (.lsub, 1) := by decide +kernel
theorem dX0_lesserOfPair_77 : decode cX0_lesserOfPair 77 = .ok (.lstore 6, 2) := by decide +kernel
theorem dX0_lesserOfPair_79 : decode cX0_lesserOfPair 79 = .ok (.goto 9, 3) := by decide +kernel
theorem dX0_lesserOfPair_82 : decode cX0_lesserOfPair 82 = .ok (.lload 4, 2) := by decide +kernel
theorem dX0_lesserOfPair_84 : decode cX0_lesserOfPair 84 = .ok (.lconst 1, 1) := by decide +kernel
theorem dX0_lesserOfPair_85 : decode cX0_lesserOfPair 85 = .ok (.ladd, 1) := by decide +kernel
theorem dX0_lesserOfPair_86 : decode cX0_lesserOfPair 86 = .ok (.lstore 4, 2) := by decide +kernel
theorem dX0_lesserOfPair_88 : decode cX0_lesserOfPair 88 = .ok (.iinc 8 1, 3) := by decide +kernel
theorem dX0_lesserOfPair_91 : decode cX0_lesserOfPair 91 = .ok (.goto (-63), 3) := by decide +kernel
theorem dX0_lesserOfPair_94 : decode cX0_lesserOfPair 94 = .ok (.ldc2_w 59, 3) := by decide +kernel
theorem dX0_lesserOfPair_97 : decode cX0_lesserOfPair 97 = .ok (.lreturn, 1) := by decide +kernel
theorem dX0_fewestSquares_0 : decode cX0_fewestSquares 0 = .ok (.lload_n 0, 1) := by decide +kernel
theorem dX0_fewestSquares_1 : decode cX0_fewestSquares 1 = .ok (.lconst 0, 1) := by decide +kernel
theorem dX0_fewestSquares_2 : decode cX0_fewestSquares 2 = .ok (.lcmp, 1) := by decide +kernel
theorem dX0_fewestSquares_3 : decode cX0_fewestSquares 3 = .ok (.ifCond .ne 5, 3) := by decide +kernel
theorem dX0_fewestSquares_6 : decode cX0_fewestSquares 6 = .ok (.iconst 0, 1) := by decide +kernel
theorem dX0_fewestSquares_7 : decode cX0_fewestSquares 7 = .ok (.ireturn, 1) := by decide +kernel
theorem dX0_fewestSquares_8 : decode cX0_fewestSquares 8 = .ok (.lload_n 0, 1) := by decide +kernel
theorem dX0_fewestSquares_9 : decode cX0_fewestSquares 9 = .ok (.invokestatic 23, 3) := by decide +kernel
theorem dX0_fewestSquares_12 : decode cX0_fewestSquares 12 = .ok (.ifCond .eq 5, 3) := by decide +kernel
theorem dX0_fewestSquares_15 : decode cX0_fewestSquares 15 = .ok (.iconst 1, 1) := by decide +kernel
theorem dX0_fewestSquares_16 : decode cX0_fewestSquares 16 = .ok (.ireturn, 1) := by decide +kernel
theorem dX0_fewestSquares_17 : decode cX0_fewestSquares 17 = .ok (.lload_n 0, 1) := by decide +kernel
theorem dX0_fewestSquares_18 : decode cX0_fewestSquares 18 = .ok (.lconst 1, 1) := by decide +kernel
theorem dX0_fewestSquares_19 : decode cX0_fewestSquares 19 = .ok (.invokestatic 55, 3) := by decide +kernel
theorem dX0_fewestSquares_22 : decode cX0_fewestSquares 22 = .ok (.lconst 0, 1) := by decide +kernel
theorem dX0_fewestSquares_23 : decode cX0_fewestSquares 23 = .ok (.lcmp, 1) := by decide +kernel
theorem dX0_fewestSquares_24 : decode cX0_fewestSquares 24 = .ok (.ifCond .le 5, 3) := by decide +kernel
theorem dX0_fewestSquares_27 : decode cX0_fewestSquares 27 = .ok (.iconst 2, 1) := by decide +kernel
theorem dX0_fewestSquares_28 : decode cX0_fewestSquares 28 = .ok (.ireturn, 1) := by decide +kernel
theorem dX0_fewestSquares_29 : decode cX0_fewestSquares 29 = .ok (.lload_n 0, 1) := by decide +kernel
theorem dX0_fewestSquares_30 : decode cX0_fewestSquares 30 = .ok (.invokestatic 52, 3) := by decide +kernel
theorem dX0_fewestSquares_33 : decode cX0_fewestSquares 33 = .ok (.ifCond .eq 7, 3) := by decide +kernel
theorem dX0_fewestSquares_36 : decode cX0_fewestSquares 36 = .ok (.iconst 4, 1) := by decide +kernel
theorem dX0_fewestSquares_37 : decode cX0_fewestSquares 37 = .ok (.goto 4, 3) := by decide +kernel
theorem dX0_fewestSquares_40 : decode cX0_fewestSquares 40 = .ok (.iconst 3, 1) := by decide +kernel
theorem dX0_fewestSquares_41 : decode cX0_fewestSquares 41 = .ok (.ireturn, 1) := by decide +kernel
theorem dX0_walls_0 : decode cX0_walls 0 = .ok (.ldc2_w 48, 3) := by decide +kernel
theorem dX0_walls_3 : decode cX0_walls 3 = .ok (.lload_n 0, 1) := by decide +kernel
theorem dX0_walls_4 : decode cX0_walls 4 = .ok (.lmul, 1) := by decide +kernel
theorem dX0_walls_5 : decode cX0_walls 5 = .ok (.lload_n 0, 1) := by decide +kernel
theorem dX0_walls_6 : decode cX0_walls 6 = .ok (.lmul, 1) := by decide +kernel
theorem dX0_walls_7 : decode cX0_walls 7 = .ok (.lstore_n 3, 1) := by decide +kernel
theorem dX0_walls_8 : decode cX0_walls 8 = .ok (.iconst 0, 1) := by decide +kernel
theorem dX0_walls_9 : decode cX0_walls 9 = .ok (.istore 5, 2) := by decide +kernel
theorem dX0_walls_11 : decode cX0_walls 11 = .ok (.lconst 1, 1) := by decide +kernel
theorem dX0_walls_12 : decode cX0_walls 12 = .ok (.lstore 6, 2) := by decide +kernel
theorem dX0_walls_14 : decode cX0_walls 14 = .ok (.lload 6, 2) := by decide +kernel
theorem dX0_walls_16 : decode cX0_walls 16 = .ok (.ldc2_w 39, 3) := by decide +kernel
theorem dX0_walls_19 : decode cX0_walls 19 = .ok (.lcmp, 1) := by decide +kernel
theorem dX0_walls_20 : decode cX0_walls 20 = .ok (.ifCond .ge 50, 3) := by decide +kernel
theorem dX0_walls_23 : decode cX0_walls 23 = .ok (.lload 6, 2) := by decide +kernel
theorem dX0_walls_25 : decode cX0_walls 25 = .ok (.lload 6, 2) := by decide +kernel
theorem dX0_walls_27 : decode cX0_walls 27 = .ok (.lmul, 1) := by decide +kernel
theorem dX0_walls_28 : decode cX0_walls 28 = .ok (.lload_n 3, 1) := by decide +kernel
theorem dX0_walls_29 : decode cX0_walls 29 = .ok (.lcmp, 1) := by decide +kernel
theorem dX0_walls_30 : decode cX0_walls 30 = .ok (.ifCond .gt 40, 3) := by decide +kernel
theorem dX0_walls_33 : decode cX0_walls 33 = .ok (.lload_n 3, 1) := by decide +kernel
theorem dX0_walls_34 : decode cX0_walls 34 = .ok (.lload 6, 2) := by decide +kernel
theorem dX0_walls_36 : decode cX0_walls 36 = .ok (.lrem, 1) := by decide +kernel
theorem dX0_walls_37 : decode cX0_walls 37 = .ok (.lconst 0, 1) := by decide +kernel
theorem dX0_walls_38 : decode cX0_walls 38 = .ok (.lcmp, 1) := by decide +kernel
theorem dX0_walls_39 : decode cX0_walls 39 = .ok (.ifCond .ne 22, 3) := by decide +kernel
theorem dX0_walls_42 : decode cX0_walls 42 = .ok (.iload 5, 2) := by decide +kernel
theorem dX0_walls_44 : decode cX0_walls 44 = .ok (.iload_n 2, 1) := by decide +kernel
theorem dX0_walls_45 : decode cX0_walls 45 = .ok (.if_icmp .ne 13, 3) := by decide +kernel
theorem dX0_walls_48 : decode cX0_walls 48 = .ok (.lload 6, 2) := by decide +kernel
theorem dX0_walls_50 : decode cX0_walls 50 = .ok (.ldc2_w 46, 3) := by decide +kernel
theorem dX0_walls_53 : decode cX0_walls 53 = .ok (.lload_n 0, 1) := by decide +kernel
theorem dX0_walls_54 : decode cX0_walls 54 = .ok (.lmul, 1) := by decide +kernel
theorem dX0_walls_55 : decode cX0_walls 55 = .ok (.ladd, 1) := by decide +kernel
theorem dX0_walls_56 : decode cX0_walls 56 = .ok (.l2i, 1) := by decide +kernel
theorem dX0_walls_57 : decode cX0_walls 57 = .ok (.ireturn, 1) := by decide +kernel
theorem dX0_walls_58 : decode cX0_walls 58 = .ok (.iinc 5 1, 3) := by decide +kernel
theorem dX0_walls_61 : decode cX0_walls 61 = .ok (.lload 6, 2) := by decide +kernel
theorem dX0_walls_63 : decode cX0_walls 63 = .ok (.lconst 1, 1) := by decide +kernel
theorem dX0_walls_64 : decode cX0_walls 64 = .ok (.ladd, 1) := by decide +kernel
theorem dX0_walls_65 : decode cX0_walls 65 = .ok (.lstore 6, 2) := by decide +kernel
theorem dX0_walls_67 : decode cX0_walls 67 = .ok (.goto (-53), 3) := by decide +kernel
theorem dX0_walls_70 : decode cX0_walls 70 = .ok (.iload_n 2, 1) := by decide +kernel
theorem dX0_walls_71 : decode cX0_walls 71 = .ok (.iload 5, 2) := by decide +kernel
theorem dX0_walls_73 : decode cX0_walls 73 = .ok (.invokestatic 27, 3) := by decide +kernel
theorem dX0_walls_76 : decode cX0_walls 76 = .ok (.ireturn, 1) := by decide +kernel
theorem dX0_flatHeaps_0 : decode cX0_flatHeaps 0 = .ok (.iconst 0, 1) := by decide +kernel
theorem dX0_flatHeaps_1 : decode cX0_flatHeaps 1 = .ok (.istore_n 3, 1) := by decide +kernel
theorem dX0_flatHeaps_2 : decode cX0_flatHeaps 2 = .ok (.lconst 1, 1) := by decide +kernel
theorem dX0_flatHeaps_3 : decode cX0_flatHeaps 3 = .ok (.lstore 4, 2) := by decide +kernel
theorem dX0_flatHeaps_5 : decode cX0_flatHeaps 5 = .ok (.lload 4, 2) := by decide +kernel
theorem dX0_flatHeaps_7 : decode cX0_flatHeaps 7 = .ok (.ldc2_w 61, 3) := by decide +kernel
theorem dX0_flatHeaps_10 : decode cX0_flatHeaps 10 = .ok (.lcmp, 1) := by decide +kernel
theorem dX0_flatHeaps_11 : decode cX0_flatHeaps 11 = .ok (.ifCond .gt 56, 3) := by decide +kernel
theorem dX0_flatHeaps_14 : decode cX0_flatHeaps 14 = .ok (.lload 4, 2) := by decide +kernel
theorem dX0_flatHeaps_16 : decode cX0_flatHeaps 16 = .ok (.lload 4, 2) := by decide +kernel
theorem dX0_flatHeaps_18 : decode cX0_flatHeaps 18 = .ok (.lconst 1, 1) := by decide +kernel
theorem dX0_flatHeaps_19 : decode cX0_flatHeaps 19 = .ok (.ladd, 1) := by decide +kernel
theorem dX0_flatHeaps_20 : decode cX0_flatHeaps 20 = .ok (.lmul, 1) := by decide +kernel
theorem dX0_flatHeaps_21 : decode cX0_flatHeaps 21 = .ok (.lload_n 0, 1) := by decide +kernel
theorem dX0_flatHeaps_22 : decode cX0_flatHeaps 22 = .ok (.ldc2_w 37, 3) := by decide +kernel
theorem dX0_flatHeaps_25 : decode cX0_flatHeaps 25 = .ok (.lsub, 1) := by decide +kernel
theorem dX0_flatHeaps_26 : decode cX0_flatHeaps 26 = .ok (.lload 4, 2) := by decide +kernel
theorem dX0_flatHeaps_28 : decode cX0_flatHeaps 28 = .ok (.lmul, 1) := by decide +kernel
theorem dX0_flatHeaps_29 : decode cX0_flatHeaps 29 = .ok (.lload_n 0, 1) := by decide +kernel
theorem dX0_flatHeaps_30 : decode cX0_flatHeaps 30 = .ok (.ldc2_w 63, 3) := by decide +kernel
theorem dX0_flatHeaps_33 : decode cX0_flatHeaps 33 = .ok (.lsub, 1) := by decide +kernel
theorem dX0_flatHeaps_34 : decode cX0_flatHeaps 34 = .ok (.lsub, 1) := by decide +kernel
theorem dX0_flatHeaps_35 : decode cX0_flatHeaps 35 = .ok (.lmul, 1) := by decide +kernel
theorem dX0_flatHeaps_36 : decode cX0_flatHeaps 36 = .ok (.ldc2_w 65, 3) := by decide +kernel
theorem dX0_flatHeaps_39 : decode cX0_flatHeaps 39 = .ok (.ldiv, 1) := by decide +kernel
theorem dX0_flatHeaps_40 : decode cX0_flatHeaps 40 = .ok (.invokestatic 23, 3) := by decide +kernel
theorem dX0_flatHeaps_43 : decode cX0_flatHeaps 43 = .ok (.ifCond .eq 15, 3) := by decide +kernel
theorem dX0_flatHeaps_46 : decode cX0_flatHeaps 46 = .ok (.iload_n 3, 1) := by decide +kernel
theorem dX0_flatHeaps_47 : decode cX0_flatHeaps 47 = .ok (.iload_n 2, 1) := by decide +kernel
theorem dX0_flatHeaps_48 : decode cX0_flatHeaps 48 = .ok (.if_icmp .ne 7, 3) := by decide +kernel
theorem dX0_flatHeaps_51 : decode cX0_flatHeaps 51 = .ok (.lload 4, 2) := by decide +kernel
theorem dX0_flatHeaps_53 : decode cX0_flatHeaps 53 = .ok (.l2i, 1) := by decide +kernel
theorem dX0_flatHeaps_54 : decode cX0_flatHeaps 54 = .ok (.ireturn, 1) := by decide +kernel
theorem dX0_flatHeaps_55 : decode cX0_flatHeaps 55 = .ok (.iinc 3 1, 3) := by decide +kernel
theorem dX0_flatHeaps_58 : decode cX0_flatHeaps 58 = .ok (.lload 4, 2) := by decide +kernel
theorem dX0_flatHeaps_60 : decode cX0_flatHeaps 60 = .ok (.lconst 1, 1) := by decide +kernel
theorem dX0_flatHeaps_61 : decode cX0_flatHeaps 61 = .ok (.ladd, 1) := by decide +kernel
theorem dX0_flatHeaps_62 : decode cX0_flatHeaps 62 = .ok (.lstore 4, 2) := by decide +kernel
theorem dX0_flatHeaps_64 : decode cX0_flatHeaps 64 = .ok (.goto (-59), 3) := by decide +kernel
theorem dX0_flatHeaps_67 : decode cX0_flatHeaps 67 = .ok (.iload_n 2, 1) := by decide +kernel
theorem dX0_flatHeaps_68 : decode cX0_flatHeaps 68 = .ok (.iload_n 3, 1) := by decide +kernel
theorem dX0_flatHeaps_69 : decode cX0_flatHeaps 69 = .ok (.invokestatic 27, 3) := by decide +kernel
theorem dX0_flatHeaps_72 : decode cX0_flatHeaps 72 = .ok (.ireturn, 1) := by decide +kernel
theorem dX0_rightCorners_0 : decode cX0_rightCorners 0 = .ok (.iconst 0, 1) := by decide +kernel
theorem dX0_rightCorners_1 : decode cX0_rightCorners 1 = .ok (.istore_n 2, 1) := by decide +kernel
theorem dX0_rightCorners_2 : decode cX0_rightCorners 2 = .ok (.iconst 1, 1) := by decide +kernel
theorem dX0_rightCorners_3 : decode cX0_rightCorners 3 = .ok (.istore_n 3, 1) := by decide +kernel
theorem dX0_rightCorners_4 : decode cX0_rightCorners 4 = .ok (.iload_n 3, 1) := by decide +kernel
theorem dX0_rightCorners_5 : decode cX0_rightCorners 5 = .ok (.iload_n 0, 1) := by decide +kernel
theorem dX0_rightCorners_6 : decode cX0_rightCorners 6 = .ok (.if_icmp .gt 101, 3) := by decide +kernel
theorem dX0_rightCorners_9 : decode cX0_rightCorners 9 = .ok (.iload_n 3, 1) := by decide +kernel
theorem dX0_rightCorners_10 : decode cX0_rightCorners 10 = .ok (.iconst 1, 1) := by decide +kernel
theorem dX0_rightCorners_11 : decode cX0_rightCorners 11 = .ok (.isub, 1) := by decide +kernel
theorem dX0_rightCorners_12 : decode cX0_rightCorners 12 = .ok (.istore 4, 2) := by decide +kernel
theorem dX0_rightCorners_14 : decode cX0_rightCorners 14 = .ok (.iconst 1, 1) := by decide +kernel
theorem dX0_rightCorners_15 : decode cX0_rightCorners 15 = .ok (.istore 5, 2) := by decide +kernel
theorem dX0_rightCorners_17 : decode cX0_rightCorners 17 = .ok (.iload 5, 2) := by decide +kernel
theorem dX0_rightCorners_19 : decode cX0_rightCorners 19 = .ok (.iload 4, 2) := by decide +kernel
theorem dX0_rightCorners_21 : decode cX0_rightCorners 21 = .ok (.if_icmp .ge 80, 3) := by decide +kernel
theorem dX0_rightCorners_24 : decode cX0_rightCorners 24 = .ok (.iload 4, 2) := by decide +kernel
theorem dX0_rightCorners_26 : decode cX0_rightCorners 26 = .ok (.iload 5, 2) := by decide +kernel
theorem dX0_rightCorners_28 : decode cX0_rightCorners 28 = .ok (.if_icmp .le 26, 3) := by decide +kernel
theorem dX0_rightCorners_31 : decode cX0_rightCorners 31 = .ok (.iload 5, 2) := by decide +kernel
theorem dX0_rightCorners_33 : decode cX0_rightCorners 33 = .ok (.iload 5, 2) := by decide +kernel
theorem dX0_rightCorners_35 : decode cX0_rightCorners 35 = .ok (.imul, 1) := by decide +kernel
theorem dX0_rightCorners_36 : decode cX0_rightCorners 36 = .ok (.iload 4, 2) := by decide +kernel
theorem dX0_rightCorners_38 : decode cX0_rightCorners 38 = .ok (.iload 4, 2) := by decide +kernel
theorem dX0_rightCorners_40 : decode cX0_rightCorners 40 = .ok (.imul, 1) := by decide +kernel
theorem dX0_rightCorners_41 : decode cX0_rightCorners 41 = .ok (.iadd, 1) := by decide +kernel
theorem dX0_rightCorners_42 : decode cX0_rightCorners 42 = .ok (.iload_n 3, 1) := by decide +kernel
theorem dX0_rightCorners_43 : decode cX0_rightCorners 43 = .ok (.iload_n 3, 1) := by decide +kernel
theorem dX0_rightCorners_44 : decode cX0_rightCorners 44 = .ok (.imul, 1) := by decide +kernel
theorem dX0_rightCorners_45 : decode cX0_rightCorners 45 = .ok (.if_icmp .le 9, 3) := by decide +kernel
theorem dX0_rightCorners_48 : decode cX0_rightCorners 48 = .ok (.iinc 4 (-1), 3) := by decide +kernel
theorem dX0_rightCorners_51 : decode cX0_rightCorners 51 = .ok (.goto (-27), 3) := by decide +kernel
theorem dX0_rightCorners_54 : decode cX0_rightCorners 54 = .ok (.iload 5, 2) := by decide +kernel
theorem dX0_rightCorners_56 : decode cX0_rightCorners 56 = .ok (.iload 4, 2) := by decide +kernel
theorem dX0_rightCorners_58 : decode cX0_rightCorners 58 = .ok (.if_icmp .ge 37, 3) := by decide +kernel
theorem dX0_rightCorners_61 : decode cX0_rightCorners 61 = .ok (.iload 5, 2) := by decide +kernel
theorem dX0_rightCorners_63 : decode cX0_rightCorners 63 = .ok (.iload 5, 2) := by decide +kernel
theorem dX0_rightCorners_65 : decode cX0_rightCorners 65 = .ok (.imul, 1) := by decide +kernel
theorem dX0_rightCorners_66 : decode cX0_rightCorners 66 = .ok (.iload 4, 2) := by decide +kernel
theorem dX0_rightCorners_68 : decode cX0_rightCorners 68 = .ok (.iload 4, 2) := by decide +kernel
theorem dX0_rightCorners_70 : decode cX0_rightCorners 70 = .ok (.imul, 1) := by decide +kernel
theorem dX0_rightCorners_71 : decode cX0_rightCorners 71 = .ok (.iadd, 1) := by decide +kernel
theorem dX0_rightCorners_72 : decode cX0_rightCorners 72 = .ok (.iload_n 3, 1) := by decide +kernel
theorem dX0_rightCorners_73 : decode cX0_rightCorners 73 = .ok (.iload_n 3, 1) := by decide +kernel
theorem dX0_rightCorners_74 : decode cX0_rightCorners 74 = .ok (.imul, 1) := by decide +kernel
theorem dX0_rightCorners_75 : decode cX0_rightCorners 75 = .ok (.if_icmp .ne 20, 3) := by decide +kernel
theorem dX0_rightCorners_78 : decode cX0_rightCorners 78 = .ok (.iload_n 2, 1) := by decide +kernel
theorem dX0_rightCorners_79 : decode cX0_rightCorners 79 = .ok (.iload_n 1, 1) := by decide +kernel
theorem dX0_rightCorners_80 : decode cX0_rightCorners 80 = .ok (.if_icmp .ne 12, 3) := by decide +kernel
theorem dX0_rightCorners_83 : decode cX0_rightCorners 83 = .ok (.sipush 1000, 3) := by decide +kernel
theorem dX0_rightCorners_86 : decode cX0_rightCorners 86 = .ok (.iload 5, 2) := by decide +kernel
theorem dX0_rightCorners_88 : decode cX0_rightCorners 88 = .ok (.imul, 1) := by decide +kernel
theorem dX0_rightCorners_89 : decode cX0_rightCorners 89 = .ok (.iload_n 3, 1) := by decide +kernel
theorem dX0_rightCorners_90 : decode cX0_rightCorners 90 = .ok (.iadd, 1) := by decide +kernel
theorem dX0_rightCorners_91 : decode cX0_rightCorners 91 = .ok (.ireturn, 1) := by decide +kernel
theorem dX0_rightCorners_92 : decode cX0_rightCorners 92 = .ok (.iinc 2 1, 3) := by decide +kernel
theorem dX0_rightCorners_95 : decode cX0_rightCorners 95 = .ok (.iinc 5 1, 3) := by decide +kernel
theorem dX0_rightCorners_98 : decode cX0_rightCorners 98 = .ok (.goto (-81), 3) := by decide +kernel
theorem dX0_rightCorners_101 : decode cX0_rightCorners 101 = .ok (.iinc 3 1, 3) := by decide +kernel
theorem dX0_rightCorners_104 : decode cX0_rightCorners 104 = .ok (.goto (-100), 3) := by decide +kernel
theorem dX0_rightCorners_107 : decode cX0_rightCorners 107 = .ok (.iload_n 1, 1) := by decide +kernel
theorem dX0_rightCorners_108 : decode cX0_rightCorners 108 = .ok (.iload_n 2, 1) := by decide +kernel
theorem dX0_rightCorners_109 : decode cX0_rightCorners 109 = .ok (.invokestatic 27, 3) := by decide +kernel
theorem dX0_rightCorners_112 : decode cX0_rightCorners 112 = .ok (.ireturn, 1) := by decide +kernel
theorem dX0_strings_0 : decode cX0_strings 0 = .ok (.iconst 0, 1) := by decide +kernel
theorem dX0_strings_1 : decode cX0_strings 1 = .ok (.istore_n 2, 1) := by decide +kernel
theorem dX0_strings_2 : decode cX0_strings 2 = .ok (.lconst 1, 1) := by decide +kernel
theorem dX0_strings_3 : decode cX0_strings 3 = .ok (.lstore_n 3, 1) := by decide +kernel
theorem dX0_strings_4 : decode cX0_strings 4 = .ok (.ldc2_w 41, 3) := by decide +kernel
theorem dX0_strings_7 : decode cX0_strings 7 = .ok (.lload_n 3, 1) := by decide +kernel
theorem dX0_strings_8 : decode cX0_strings 8 = .ok (.lmul, 1) := by decide +kernel
theorem dX0_strings_9 : decode cX0_strings 9 = .ok (.lload_n 0, 1) := by decide +kernel
theorem dX0_strings_10 : decode cX0_strings 10 = .ok (.lcmp, 1) := by decide +kernel
theorem dX0_strings_11 : decode cX0_strings 11 = .ok (.ifCond .ge 53, 3) := by decide +kernel
theorem dX0_strings_14 : decode cX0_strings 14 = .ok (.lload_n 0, 1) := by decide +kernel
theorem dX0_strings_15 : decode cX0_strings 15 = .ok (.lload_n 0, 1) := by decide +kernel
theorem dX0_strings_16 : decode cX0_strings 16 = .ok (.ldc2_w 37, 3) := by decide +kernel
theorem dX0_strings_19 : decode cX0_strings 19 = .ok (.lload_n 3, 1) := by decide +kernel
theorem dX0_strings_20 : decode cX0_strings 20 = .ok (.lmul, 1) := by decide +kernel
theorem dX0_strings_21 : decode cX0_strings 21 = .ok (.lsub, 1) := by decide +kernel
theorem dX0_strings_22 : decode cX0_strings 22 = .ok (.lmul, 1) := by decide +kernel
theorem dX0_strings_23 : decode cX0_strings 23 = .ok (.lstore 5, 2) := by decide +kernel
theorem dX0_strings_25 : decode cX0_strings 25 = .ok (.ldc2_w 37, 3) := by decide +kernel
theorem dX0_strings_28 : decode cX0_strings 28 = .ok (.lload_n 0, 1) := by decide +kernel
theorem dX0_strings_29 : decode cX0_strings 29 = .ok (.lload_n 3, 1) := by decide +kernel
theorem dX0_strings_30 : decode cX0_strings 30 = .ok (.lsub, 1) := by decide +kernel
theorem dX0_strings_31 : decode cX0_strings 31 = .ok (.lmul, 1) := by decide +kernel
theorem dX0_strings_32 : decode cX0_strings 32 = .ok (.lstore 7, 2) := by decide +kernel
theorem dX0_strings_34 : decode cX0_strings 34 = .ok (.lload 5, 2) := by decide +kernel
theorem dX0_strings_36 : decode cX0_strings 36 = .ok (.lload 7, 2) := by decide +kernel
theorem dX0_strings_38 : decode cX0_strings 38 = .ok (.lrem, 1) := by decide +kernel
theorem dX0_strings_39 : decode cX0_strings 39 = .ok (.lconst 0, 1) := by decide +kernel
theorem dX0_strings_40 : decode cX0_strings 40 = .ok (.lcmp, 1) := by decide +kernel
theorem dX0_strings_41 : decode cX0_strings 41 = .ok (.ifCond .ne 16, 3) := by decide +kernel
theorem dX0_strings_44 : decode cX0_strings 44 = .ok (.lload 5, 2) := by decide +kernel
theorem dX0_strings_46 : decode cX0_strings 46 = .ok (.lload 7, 2) := by decide +kernel
theorem dX0_strings_48 : decode cX0_strings 48 = .ok (.ldiv, 1) := by decide +kernel
theorem dX0_strings_49 : decode cX0_strings 49 = .ok (.lload_n 3, 1) := by decide +kernel
theorem dX0_strings_50 : decode cX0_strings 50 = .ok (.lcmp, 1) := by decide +kernel
theorem dX0_strings_51 : decode cX0_strings 51 = .ok (.ifCond .le 6, 3) := by decide +kernel
theorem dX0_strings_54 : decode cX0_strings 54 = .ok (.iinc 2 1, 3) := by decide +kernel
theorem dX0_strings_57 : decode cX0_strings 57 = .ok (.lload_n 3, 1) := by decide +kernel
theorem dX0_strings_58 : decode cX0_strings 58 = .ok (.lconst 1, 1) := by decide +kernel
theorem dX0_strings_59 : decode cX0_strings 59 = .ok (.ladd, 1) := by decide +kernel
theorem dX0_strings_60 : decode cX0_strings 60 = .ok (.lstore_n 3, 1) := by decide +kernel
theorem dX0_strings_61 : decode cX0_strings 61 = .ok (.goto (-57), 3) := by decide +kernel
theorem dX0_strings_64 : decode cX0_strings 64 = .ok (.iload_n 2, 1) := by decide +kernel
theorem dX0_strings_65 : decode cX0_strings 65 = .ok (.ireturn, 1) := by decide +kernel
theorem dX1_init_0 : decode cX1_init 0 = .ok (.aload_n 0, 1) := by decide +kernel
theorem dX1_init_1 : decode cX1_init 1 = .ok (.invokespecial 1, 3) := by decide +kernel
theorem dX1_init_4 : decode cX1_init 4 = .ok (.aload_n 0, 1) := by decide +kernel
theorem dX1_init_5 : decode cX1_init 5 = .ok (.new 7, 3) := by decide +kernel
theorem dX1_init_8 : decode cX1_init 8 = .ok (.dup, 1) := by decide +kernel
theorem dX1_init_9 : decode cX1_init 9 = .ok (.invokespecial 9, 3) := by decide +kernel
theorem dX1_init_12 : decode cX1_init 12 = .ok (.putfield 10, 3) := by decide +kernel
theorem dX1_init_15 : decode cX1_init 15 = .ok (.aload_n 0, 1) := by decide +kernel
theorem dX1_init_16 : decode cX1_init 16 = .ok (.new 7, 3) := by decide +kernel
theorem dX1_init_19 : decode cX1_init 19 = .ok (.dup, 1) := by decide +kernel
theorem dX1_init_20 : decode cX1_init 20 = .ok (.invokespecial 9, 3) := by decide +kernel
theorem dX1_init_23 : decode cX1_init 23 = .ok (.putfield 16, 3) := by decide +kernel
theorem dX1_init_26 : decode cX1_init 26 = .ok (.aload_n 0, 1) := by decide +kernel
theorem dX1_init_27 : decode cX1_init 27 = .ok (.new 7, 3) := by decide +kernel
theorem dX1_init_30 : decode cX1_init 30 = .ok (.dup, 1) := by decide +kernel
theorem dX1_init_31 : decode cX1_init 31 = .ok (.invokespecial 9, 3) := by decide +kernel
theorem dX1_init_34 : decode cX1_init 34 = .ok (.putfield 19, 3) := by decide +kernel
theorem dX1_init_37 : decode cX1_init 37 = .ok (.aload_n 0, 1) := by decide +kernel
theorem dX1_init_38 : decode cX1_init 38 = .ok (.new 7, 3) := by decide +kernel
theorem dX1_init_41 : decode cX1_init 41 = .ok (.dup, 1) := by decide +kernel
theorem dX1_init_42 : decode cX1_init 42 = .ok (.invokespecial 9, 3) := by decide +kernel
theorem dX1_init_45 : decode cX1_init 45 = .ok (.putfield 22, 3) := by decide +kernel
theorem dX1_init_48 : decode cX1_init 48 = .ok (.aload_n 0, 1) := by decide +kernel
theorem dX1_init_49 : decode cX1_init 49 = .ok (.new 7, 3) := by decide +kernel
theorem dX1_init_52 : decode cX1_init 52 = .ok (.dup, 1) := by decide +kernel
theorem dX1_init_53 : decode cX1_init 53 = .ok (.invokespecial 9, 3) := by decide +kernel
theorem dX1_init_56 : decode cX1_init 56 = .ok (.putfield 25, 3) := by decide +kernel
theorem dX1_init_59 : decode cX1_init 59 = .ok (.aload_n 0, 1) := by decide +kernel
theorem dX1_init_60 : decode cX1_init 60 = .ok (.new 7, 3) := by decide +kernel
theorem dX1_init_63 : decode cX1_init 63 = .ok (.dup, 1) := by decide +kernel
theorem dX1_init_64 : decode cX1_init 64 = .ok (.invokespecial 9, 3) := by decide +kernel
theorem dX1_init_67 : decode cX1_init 67 = .ok (.putfield 28, 3) := by decide +kernel
theorem dX1_init_70 : decode cX1_init 70 = .ok (.aload_n 0, 1) := by decide +kernel
theorem dX1_init_71 : decode cX1_init 71 = .ok (.new 7, 3) := by decide +kernel
theorem dX1_init_74 : decode cX1_init 74 = .ok (.dup, 1) := by decide +kernel
theorem dX1_init_75 : decode cX1_init 75 = .ok (.invokespecial 9, 3) := by decide +kernel
theorem dX1_init_78 : decode cX1_init 78 = .ok (.putfield 31, 3) := by decide +kernel
theorem dX1_init_81 : decode cX1_init 81 = .ok (.aload_n 0, 1) := by decide +kernel
theorem dX1_init_82 : decode cX1_init 82 = .ok (.aload_n 1, 1) := by decide +kernel
theorem dX1_init_83 : decode cX1_init 83 = .ok (.putfield 34, 3) := by decide +kernel
theorem dX1_init_86 : decode cX1_init 86 = .ok (.return_, 1) := by decide +kernel
theorem dX1_walk_0 : decode cX1_walk 0 = .ok (.aload_n 0, 1) := by decide +kernel
theorem dX1_walk_1 : decode cX1_walk 1 = .ok (.getfield 34, 3) := by decide +kernel
theorem dX1_walk_4 : decode cX1_walk 4 = .ok (.iload_n 1, 1) := by decide +kernel
theorem dX1_walk_5 : decode cX1_walk 5 = .ok (.invokevirtual 38, 3) := by decide +kernel
theorem dX1_walk_8 : decode cX1_walk 8 = .ok (.aload_n 0, 1) := by decide +kernel
theorem dX1_walk_9 : decode cX1_walk 9 = .ok (.getfield 19, 3) := by decide +kernel
theorem dX1_walk_12 : decode cX1_walk 12 = .ok (.lconst 1, 1) := by decide +kernel
theorem dX1_walk_13 : decode cX1_walk 13 = .ok (.invokevirtual 44, 3) := by decide +kernel
theorem dX1_walk_16 : decode cX1_walk 16 = .ok (.aload_n 0, 1) := by decide +kernel
theorem dX1_walk_17 : decode cX1_walk 17 = .ok (.getfield 22, 3) := by decide +kernel
theorem dX1_walk_20 : decode cX1_walk 20 = .ok (.lconst 0, 1) := by decide +kernel
theorem dX1_walk_21 : decode cX1_walk 21 = .ok (.invokevirtual 44, 3) := by decide +kernel
theorem dX1_walk_24 : decode cX1_walk 24 = .ok (.aload_n 0, 1) := by decide +kernel
theorem dX1_walk_25 : decode cX1_walk 25 = .ok (.getfield 10, 3) := by decide +kernel
theorem dX1_walk_28 : decode cX1_walk 28 = .ok (.aload_n 0, 1) := by decide +kernel
theorem dX1_walk_29 : decode cX1_walk 29 = .ok (.getfield 34, 3) := by decide +kernel
theorem dX1_walk_32 : decode cX1_walk 32 = .ok (.getfield 48, 3) := by decide +kernel
theorem dX1_walk_35 : decode cX1_walk 35 = .ok (.i2l, 1) := by decide +kernel
theorem dX1_walk_36 : decode cX1_walk 36 = .ok (.invokevirtual 44, 3) := by decide +kernel
theorem dX1_walk_39 : decode cX1_walk 39 = .ok (.aload_n 0, 1) := by decide +kernel
theorem dX1_walk_40 : decode cX1_walk 40 = .ok (.getfield 16, 3) := by decide +kernel
theorem dX1_walk_43 : decode cX1_walk 43 = .ok (.lconst 1, 1) := by decide +kernel
theorem dX1_walk_44 : decode cX1_walk 44 = .ok (.invokevirtual 44, 3) := by decide +kernel
theorem dX1_walk_47 : decode cX1_walk 47 = .ok (.iconst 0, 1) := by decide +kernel
theorem dX1_walk_48 : decode cX1_walk 48 = .ok (.istore_n 3, 1) := by decide +kernel
theorem dX1_walk_49 : decode cX1_walk 49 = .ok (.iload_n 3, 1) := by decide +kernel
theorem dX1_walk_50 : decode cX1_walk 50 = .ok (.iload_n 2, 1) := by decide +kernel
theorem dX1_walk_51 : decode cX1_walk 51 = .ok (.if_icmp .ge 68, 3) := by decide +kernel
theorem dX1_walk_54 : decode cX1_walk 54 = .ok (.aload_n 0, 1) := by decide +kernel
theorem dX1_walk_55 : decode cX1_walk 55 = .ok (.getfield 34, 3) := by decide +kernel
theorem dX1_walk_58 : decode cX1_walk 58 = .ok (.invokevirtual 52, 3) := by decide +kernel
theorem dX1_walk_61 : decode cX1_walk 61 = .ok (.aload_n 0, 1) := by decide +kernel
theorem dX1_walk_62 : decode cX1_walk 62 = .ok (.aload_n 0, 1) := by decide +kernel
theorem dX1_walk_63 : decode cX1_walk 63 = .ok (.getfield 10, 3) := by decide +kernel
theorem dX1_walk_66 : decode cX1_walk 66 = .ok (.aload_n 0, 1) := by decide +kernel
theorem dX1_walk_67 : decode cX1_walk 67 = .ok (.getfield 19, 3) := by decide +kernel
theorem dX1_walk_70 : decode cX1_walk 70 = .ok (.aload_n 0, 1) := by decide +kernel
theorem dX1_walk_71 : decode cX1_walk 71 = .ok (.getfield 34, 3) := by decide +kernel
theorem dX1_walk_74 : decode cX1_walk 74 = .ok (.getfield 48, 3) := by decide +kernel
theorem dX1_walk_77 : decode cX1_walk 77 = .ok (.invokevirtual 55, 3) := by decide +kernel
theorem dX1_walk_80 : decode cX1_walk 80 = .ok (.aload_n 0, 1) := by decide +kernel
theorem dX1_walk_81 : decode cX1_walk 81 = .ok (.aload_n 0, 1) := by decide +kernel
theorem dX1_walk_82 : decode cX1_walk 82 = .ok (.getfield 16, 3) := by decide +kernel
theorem dX1_walk_85 : decode cX1_walk 85 = .ok (.aload_n 0, 1) := by decide +kernel
theorem dX1_walk_86 : decode cX1_walk 86 = .ok (.getfield 22, 3) := by decide +kernel
theorem dX1_walk_89 : decode cX1_walk 89 = .ok (.aload_n 0, 1) := by decide +kernel
theorem dX1_walk_90 : decode cX1_walk 90 = .ok (.getfield 34, 3) := by decide +kernel
theorem dX1_walk_93 : decode cX1_walk 93 = .ok (.getfield 48, 3) := by decide +kernel
theorem dX1_walk_96 : decode cX1_walk 96 = .ok (.invokevirtual 55, 3) := by decide +kernel
theorem dX1_walk_99 : decode cX1_walk 99 = .ok (.aload_n 0, 1) := by decide +kernel
theorem dX1_walk_100 : decode cX1_walk 100 = .ok (.getfield 10, 3) := by decide +kernel
theorem dX1_walk_103 : decode cX1_walk 103 = .ok (.getfield 59, 3) := by decide +kernel
theorem dX1_walk_106 : decode cX1_walk 106 = .ok (.bipush 24, 2) := by decide +kernel
theorem dX1_walk_108 : decode cX1_walk 108 = .ok (.if_icmp .le 5, 3) := by decide +kernel
theorem dX1_walk_111 : decode cX1_walk 111 = .ok (.iconst 0, 1) := by decide +kernel
theorem dX1_walk_112 : decode cX1_walk 112 = .ok (.ireturn, 1) := by decide +kernel
theorem dX1_walk_113 : decode cX1_walk 113 = .ok (.iinc 3 1, 3) := by decide +kernel
theorem dX1_walk_116 : decode cX1_walk 116 = .ok (.goto (-67), 3) := by decide +kernel
theorem dX1_walk_119 : decode cX1_walk 119 = .ok (.iconst 1, 1) := by decide +kernel
theorem dX1_walk_120 : decode cX1_walk 120 = .ok (.ireturn, 1) := by decide +kernel
theorem dX1_advance_0 : decode cX1_advance 0 = .ok (.aload_n 0, 1) := by decide +kernel
theorem dX1_advance_1 : decode cX1_advance 1 = .ok (.getfield 31, 3) := by decide +kernel
theorem dX1_advance_4 : decode cX1_advance 4 = .ok (.aload_n 1, 1) := by decide +kernel
theorem dX1_advance_5 : decode cX1_advance 5 = .ok (.invokevirtual 64, 3) := by decide +kernel
theorem dX1_advance_8 : decode cX1_advance 8 = .ok (.aload_n 0, 1) := by decide +kernel
theorem dX1_advance_9 : decode cX1_advance 9 = .ok (.getfield 31, 3) := by decide +kernel
theorem dX1_advance_12 : decode cX1_advance 12 = .ok (.iload_n 3, 1) := by decide +kernel
theorem dX1_advance_13 : decode cX1_advance 13 = .ok (.i2l, 1) := by decide +kernel
theorem dX1_advance_14 : decode cX1_advance 14 = .ok (.lconst 0, 1) := by decide +kernel
theorem dX1_advance_15 : decode cX1_advance 15 = .ok (.invokevirtual 68, 3) := by decide +kernel
theorem dX1_advance_18 : decode cX1_advance 18 = .ok (.aload_n 0, 1) := by decide +kernel
theorem dX1_advance_19 : decode cX1_advance 19 = .ok (.getfield 31, 3) := by decide +kernel
theorem dX1_advance_22 : decode cX1_advance 22 = .ok (.aload_n 2, 1) := by decide +kernel
theorem dX1_advance_23 : decode cX1_advance 23 = .ok (.invokevirtual 72, 3) := by decide +kernel
theorem dX1_advance_26 : decode cX1_advance 26 = .ok (.aload_n 2, 1) := by decide +kernel
theorem dX1_advance_27 : decode cX1_advance 27 = .ok (.aload_n 1, 1) := by decide +kernel
theorem dX1_advance_28 : decode cX1_advance 28 = .ok (.invokevirtual 64, 3) := by decide +kernel
theorem dX1_advance_31 : decode cX1_advance 31 = .ok (.aload_n 1, 1) := by decide +kernel
theorem dX1_advance_32 : decode cX1_advance 32 = .ok (.aload_n 0, 1) := by decide +kernel
theorem dX1_advance_33 : decode cX1_advance 33 = .ok (.getfield 31, 3) := by decide +kernel
theorem dX1_advance_36 : decode cX1_advance 36 = .ok (.invokevirtual 64, 3) := by decide +kernel
theorem dX1_advance_39 : decode cX1_advance 39 = .ok (.return_, 1) := by decide +kernel
theorem dX1_findOne_0 : decode cX1_findOne 0 = .ok (.aload_n 0, 1) := by decide +kernel
theorem dX1_findOne_1 : decode cX1_findOne 1 = .ok (.getfield 34, 3) := by decide +kernel
theorem dX1_findOne_4 : decode cX1_findOne 4 = .ok (.iload_n 1, 1) := by decide +kernel
theorem dX1_findOne_5 : decode cX1_findOne 5 = .ok (.invokevirtual 75, 3) := by decide +kernel
theorem dX1_findOne_8 : decode cX1_findOne 8 = .ok (.istore_n 3, 1) := by decide +kernel
theorem dX1_findOne_9 : decode cX1_findOne 9 = .ok (.aload_n 0, 1) := by decide +kernel
theorem dX1_findOne_10 : decode cX1_findOne 10 = .ok (.iload_n 1, 1) := by decide +kernel
theorem dX1_findOne_11 : decode cX1_findOne 11 = .ok (.iload_n 3, 1) := by decide +kernel
theorem dX1_findOne_12 : decode cX1_findOne 12 = .ok (.iconst 2, 1) := by decide +kernel
theorem dX1_findOne_13 : decode cX1_findOne 13 = .ok (.irem, 1) := by decide +kernel
theorem dX1_findOne_14 : decode cX1_findOne 14 = .ok (.ifCond .ne 7, 3) := by decide +kernel
theorem dX1_findOne_17 : decode cX1_findOne 17 = .ok (.iload_n 3, 1) := by decide +kernel
theorem dX1_findOne_18 : decode cX1_findOne 18 = .ok (.goto 6, 3) := by decide +kernel
theorem dX1_findOne_21 : decode cX1_findOne 21 = .ok (.iconst 2, 1) := by decide +kernel
theorem dX1_findOne_22 : decode cX1_findOne 22 = .ok (.iload_n 3, 1) := by decide +kernel
theorem dX1_findOne_23 : decode cX1_findOne 23 = .ok (.imul, 1) := by decide +kernel
theorem dX1_findOne_24 : decode cX1_findOne 24 = .ok (.iconst 1, 1) := by decide +kernel
theorem dX1_findOne_25 : decode cX1_findOne 25 = .ok (.isub, 1) := by decide +kernel
theorem dX1_findOne_26 : decode cX1_findOne 26 = .ok (.invokevirtual 79, 3) := by decide +kernel
theorem dX1_findOne_29 : decode cX1_findOne 29 = .ok (.ifCond .ne 5, 3) := by decide +kernel
theorem dX1_findOne_32 : decode cX1_findOne 32 = .ok (.iconst 0, 1) := by decide +kernel
theorem dX1_findOne_33 : decode cX1_findOne 33 = .ok (.ireturn, 1) := by decide +kernel
theorem dX1_findOne_34 : decode cX1_findOne 34 = .ok (.aload_n 0, 1) := by decide +kernel
theorem dX1_findOne_35 : decode cX1_findOne 35 = .ok (.getfield 25, 3) := by decide +kernel
theorem dX1_findOne_38 : decode cX1_findOne 38 = .ok (.aload_n 0, 1) := by decide +kernel
theorem dX1_findOne_39 : decode cX1_findOne 39 = .ok (.getfield 10, 3) := by decide +kernel
theorem dX1_findOne_42 : decode cX1_findOne 42 = .ok (.invokevirtual 64, 3) := by decide +kernel
theorem dX1_findOne_45 : decode cX1_findOne 45 = .ok (.aload_n 0, 1) := by decide +kernel
theorem dX1_findOne_46 : decode cX1_findOne 46 = .ok (.getfield 28, 3) := by decide +kernel
theorem dX1_findOne_49 : decode cX1_findOne 49 = .ok (.aload_n 0, 1) := by decide +kernel
theorem dX1_findOne_50 : decode cX1_findOne 50 = .ok (.getfield 16, 3) := by decide +kernel
theorem dX1_findOne_53 : decode cX1_findOne 53 = .ok (.invokevirtual 64, 3) := by decide +kernel
theorem dX1_findOne_56 : decode cX1_findOne 56 = .ok (.iconst 1, 1) := by decide +kernel
theorem dX1_findOne_57 : decode cX1_findOne 57 = .ok (.istore 4, 2) := by decide +kernel
theorem dX1_findOne_59 : decode cX1_findOne 59 = .ok (.iload 4, 2) := by decide +kernel
theorem dX1_findOne_61 : decode cX1_findOne 61 = .ok (.iload_n 2, 1) := by decide +kernel
theorem dX1_findOne_62 : decode cX1_findOne 62 = .ok (.if_icmp .ge 28, 3) := by decide +kernel
theorem dX1_findOne_65 : decode cX1_findOne 65 = .ok (.aload_n 0, 1) := by decide +kernel
theorem dX1_findOne_66 : decode cX1_findOne 66 = .ok (.iload_n 1, 1) := by decide +kernel
theorem dX1_findOne_67 : decode cX1_findOne 67 = .ok (.invokevirtual 83, 3) := by decide +kernel
theorem dX1_findOne_70 : decode cX1_findOne 70 = .ok (.aload_n 0, 1) := by decide +kernel
theorem dX1_findOne_71 : decode cX1_findOne 71 = .ok (.getfield 10, 3) := by decide +kernel
theorem dX1_findOne_74 : decode cX1_findOne 74 = .ok (.getfield 59, 3) := by decide +kernel
theorem dX1_findOne_77 : decode cX1_findOne 77 = .ok (.bipush 24, 2) := by decide +kernel
theorem dX1_findOne_79 : decode cX1_findOne 79 = .ok (.if_icmp .le 5, 3) := by decide +kernel
theorem dX1_findOne_82 : decode cX1_findOne 82 = .ok (.iconst 0, 1) := by decide +kernel
theorem dX1_findOne_83 : decode cX1_findOne 83 = .ok (.ireturn, 1) := by decide +kernel
theorem dX1_findOne_84 : decode cX1_findOne 84 = .ok (.iinc 4 1, 3) := by decide +kernel
theorem dX1_findOne_87 : decode cX1_findOne 87 = .ok (.goto (-28), 3) := by decide +kernel
theorem dX1_findOne_90 : decode cX1_findOne 90 = .ok (.iconst 1, 1) := by decide +kernel
theorem dX1_findOne_91 : decode cX1_findOne 91 = .ok (.ireturn, 1) := by decide +kernel
theorem dX1_combineWithLeast_0 : decode cX1_combineWithLeast 0 = .ok (.aload_n 0, 1) := by decide +kernel
theorem dX1_combineWithLeast_1 : decode cX1_combineWithLeast 1 = .ok (.getfield 19, 3) := by decide +kernel
theorem dX1_combineWithLeast_4 : decode cX1_combineWithLeast 4 = .ok (.aload_n 0, 1) := by decide +kernel
theorem dX1_combineWithLeast_5 : decode cX1_combineWithLeast 5 = .ok (.getfield 16, 3) := by decide +kernel
theorem dX1_combineWithLeast_8 : decode cX1_combineWithLeast 8 = .ok (.aload_n 0, 1) := by decide +kernel
theorem dX1_combineWithLeast_9 : decode cX1_combineWithLeast 9 = .ok (.getfield 28, 3) := by decide +kernel
theorem dX1_combineWithLeast_12 : decode cX1_combineWithLeast 12 = .ok (.invokevirtual 86, 3) := by decide +kernel
theorem dX1_combineWithLeast_15 : decode cX1_combineWithLeast 15 = .ok (.aload_n 0, 1) := by decide +kernel
theorem dX1_combineWithLeast_16 : decode cX1_combineWithLeast 16 = .ok (.getfield 19, 3) := by decide +kernel
theorem dX1_combineWithLeast_19 : decode cX1_combineWithLeast 19 = .ok (.iload_n 1, 1) := by decide +kernel
theorem dX1_combineWithLeast_20 : decode cX1_combineWithLeast 20 = .ok (.i2l, 1) := by decide +kernel
theorem dX1_combineWithLeast_21 : decode cX1_combineWithLeast 21 = .ok (.lconst 0, 1) := by decide +kernel
theorem dX1_combineWithLeast_22 : decode cX1_combineWithLeast 22 = .ok (.invokevirtual 68, 3) := by decide +kernel
theorem dX1_combineWithLeast_25 : decode cX1_combineWithLeast 25 = .ok (.aload_n 0, 1) := by decide +kernel
theorem dX1_combineWithLeast_26 : decode cX1_combineWithLeast 26 = .ok (.getfield 31, 3) := by decide +kernel
theorem dX1_combineWithLeast_29 : decode cX1_combineWithLeast 29 = .ok (.aload_n 0, 1) := by decide +kernel
theorem dX1_combineWithLeast_30 : decode cX1_combineWithLeast 30 = .ok (.getfield 10, 3) := by decide +kernel
theorem dX1_combineWithLeast_33 : decode cX1_combineWithLeast 33 = .ok (.aload_n 0, 1) := by decide +kernel
theorem dX1_combineWithLeast_34 : decode cX1_combineWithLeast 34 = .ok (.getfield 25, 3) := by decide +kernel
theorem dX1_combineWithLeast_37 : decode cX1_combineWithLeast 37 = .ok (.invokevirtual 86, 3) := by decide +kernel
theorem dX1_combineWithLeast_40 : decode cX1_combineWithLeast 40 = .ok (.aload_n 0, 1) := by decide +kernel
theorem dX1_combineWithLeast_41 : decode cX1_combineWithLeast 41 = .ok (.getfield 19, 3) := by decide +kernel
theorem dX1_combineWithLeast_44 : decode cX1_combineWithLeast 44 = .ok (.aload_n 0, 1) := by decide +kernel
theorem dX1_combineWithLeast_45 : decode cX1_combineWithLeast 45 = .ok (.getfield 31, 3) := by decide +kernel
theorem dX1_combineWithLeast_48 : decode cX1_combineWithLeast 48 = .ok (.invokevirtual 72, 3) := by decide +kernel
theorem dX1_combineWithLeast_51 : decode cX1_combineWithLeast 51 = .ok (.aload_n 0, 1) := by decide +kernel
theorem dX1_combineWithLeast_52 : decode cX1_combineWithLeast 52 = .ok (.getfield 22, 3) := by decide +kernel
theorem dX1_combineWithLeast_55 : decode cX1_combineWithLeast 55 = .ok (.aload_n 0, 1) := by decide +kernel
theorem dX1_combineWithLeast_56 : decode cX1_combineWithLeast 56 = .ok (.getfield 16, 3) := by decide +kernel
theorem dX1_combineWithLeast_59 : decode cX1_combineWithLeast 59 = .ok (.aload_n 0, 1) := by decide +kernel
theorem dX1_combineWithLeast_60 : decode cX1_combineWithLeast 60 = .ok (.getfield 25, 3) := by decide +kernel
theorem dX1_combineWithLeast_63 : decode cX1_combineWithLeast 63 = .ok (.invokevirtual 86, 3) := by decide +kernel
theorem dX1_combineWithLeast_66 : decode cX1_combineWithLeast 66 = .ok (.aload_n 0, 1) := by decide +kernel
theorem dX1_combineWithLeast_67 : decode cX1_combineWithLeast 67 = .ok (.getfield 31, 3) := by decide +kernel
theorem dX1_combineWithLeast_70 : decode cX1_combineWithLeast 70 = .ok (.aload_n 0, 1) := by decide +kernel
theorem dX1_combineWithLeast_71 : decode cX1_combineWithLeast 71 = .ok (.getfield 10, 3) := by decide +kernel
theorem dX1_combineWithLeast_74 : decode cX1_combineWithLeast 74 = .ok (.aload_n 0, 1) := by decide +kernel
theorem dX1_combineWithLeast_75 : decode cX1_combineWithLeast 75 = .ok (.getfield 28, 3) := by decide +kernel
theorem dX1_combineWithLeast_78 : decode cX1_combineWithLeast 78 = .ok (.invokevirtual 86, 3) := by decide +kernel
theorem dX1_combineWithLeast_81 : decode cX1_combineWithLeast 81 = .ok (.aload_n 0, 1) := by decide +kernel
theorem dX1_combineWithLeast_82 : decode cX1_combineWithLeast 82 = .ok (.getfield 22, 3) := by decide +kernel
theorem dX1_combineWithLeast_85 : decode cX1_combineWithLeast 85 = .ok (.aload_n 0, 1) := by decide +kernel
theorem dX1_combineWithLeast_86 : decode cX1_combineWithLeast 86 = .ok (.getfield 31, 3) := by decide +kernel
theorem dX1_combineWithLeast_89 : decode cX1_combineWithLeast 89 = .ok (.invokevirtual 72, 3) := by decide +kernel
theorem dX1_combineWithLeast_92 : decode cX1_combineWithLeast 92 = .ok (.aload_n 0, 1) := by decide +kernel
theorem dX1_combineWithLeast_93 : decode cX1_combineWithLeast 93 = .ok (.getfield 10, 3) := by decide +kernel
theorem dX1_combineWithLeast_96 : decode cX1_combineWithLeast 96 = .ok (.aload_n 0, 1) := by decide +kernel
theorem dX1_combineWithLeast_97 : decode cX1_combineWithLeast 97 = .ok (.getfield 19, 3) := by decide +kernel
theorem dX1_combineWithLeast_100 : decode cX1_combineWithLeast 100 = .ok (.invokevirtual 64, 3) := by decide +kernel
theorem dX1_combineWithLeast_103 : decode cX1_combineWithLeast 103 = .ok (.aload_n 0, 1) := by decide +kernel
theorem dX1_combineWithLeast_104 : decode cX1_combineWithLeast 104 = .ok (.getfield 16, 3) := by decide +kernel
theorem dX1_combineWithLeast_107 : decode cX1_combineWithLeast 107 = .ok (.aload_n 0, 1) := by decide +kernel
theorem dX1_combineWithLeast_108 : decode cX1_combineWithLeast 108 = .ok (.getfield 22, 3) := by decide +kernel
theorem dX1_combineWithLeast_111 : decode cX1_combineWithLeast 111 = .ok (.invokevirtual 64, 3) := by decide +kernel
theorem dX1_combineWithLeast_114 : decode cX1_combineWithLeast 114 = .ok (.return_, 1) := by decide +kernel
theorem dX1_climb_0 : decode cX1_climb 0 = .ok (.aload_n 0, 1) := by decide +kernel
theorem dX1_climb_1 : decode cX1_climb 1 = .ok (.getfield 10, 3) := by decide +kernel
theorem dX1_climb_4 : decode cX1_climb 4 = .ok (.lconst 0, 1) := by decide +kernel
theorem dX1_climb_5 : decode cX1_climb 5 = .ok (.invokevirtual 44, 3) := by decide +kernel
theorem dX1_climb_8 : decode cX1_climb 8 = .ok (.aload_n 0, 1) := by decide +kernel
theorem dX1_climb_9 : decode cX1_climb 9 = .ok (.getfield 16, 3) := by decide +kernel
theorem dX1_climb_12 : decode cX1_climb 12 = .ok (.lconst 1, 1) := by decide +kernel
theorem dX1_climb_13 : decode cX1_climb 13 = .ok (.invokevirtual 44, 3) := by decide +kernel
theorem dX1_climb_16 : decode cX1_climb 16 = .ok (.iconst 0, 1) := by decide +kernel
theorem dX1_climb_17 : decode cX1_climb 17 = .ok (.istore 4, 2) := by decide +kernel
theorem dX1_climb_19 : decode cX1_climb 19 = .ok (.iload 4, 2) := by decide +kernel
theorem dX1_climb_21 : decode cX1_climb 21 = .ok (.iload_n 1, 1) := by decide +kernel
theorem dX1_climb_22 : decode cX1_climb 22 = .ok (.if_icmp .ge 65, 3) := by decide +kernel
theorem dX1_climb_25 : decode cX1_climb 25 = .ok (.aload_n 0, 1) := by decide +kernel
theorem dX1_climb_26 : decode cX1_climb 26 = .ok (.getfield 31, 3) := by decide +kernel
theorem dX1_climb_29 : decode cX1_climb 29 = .ok (.aload_n 0, 1) := by decide +kernel
theorem dX1_climb_30 : decode cX1_climb 30 = .ok (.getfield 16, 3) := by decide +kernel
theorem dX1_climb_33 : decode cX1_climb 33 = .ok (.invokevirtual 64, 3) := by decide +kernel
theorem dX1_climb_36 : decode cX1_climb 36 = .ok (.aload_n 0, 1) := by decide +kernel
theorem dX1_climb_37 : decode cX1_climb 37 = .ok (.getfield 31, 3) := by decide +kernel
theorem dX1_climb_40 : decode cX1_climb 40 = .ok (.ldc2_w 90, 3) := by decide +kernel
theorem dX1_climb_43 : decode cX1_climb 43 = .ok (.iload_n 2, 1) := by decide +kernel
theorem dX1_climb_44 : decode cX1_climb 44 = .ok (.i2l, 1) := by decide +kernel
theorem dX1_climb_45 : decode cX1_climb 45 = .ok (.invokevirtual 68, 3) := by decide +kernel
theorem dX1_climb_48 : decode cX1_climb 48 = .ok (.aload_n 0, 1) := by decide +kernel
theorem dX1_climb_49 : decode cX1_climb 49 = .ok (.getfield 31, 3) := by decide +kernel
theorem dX1_climb_52 : decode cX1_climb 52 = .ok (.aload_n 0, 1) := by decide +kernel
theorem dX1_climb_53 : decode cX1_climb 53 = .ok (.getfield 10, 3) := by decide +kernel
theorem dX1_climb_56 : decode cX1_climb 56 = .ok (.invokevirtual 92, 3) := by decide +kernel
theorem dX1_climb_59 : decode cX1_climb 59 = .ok (.aload_n 0, 1) := by decide +kernel
theorem dX1_climb_60 : decode cX1_climb 60 = .ok (.getfield 10, 3) := by decide +kernel
theorem dX1_climb_63 : decode cX1_climb 63 = .ok (.aload_n 0, 1) := by decide +kernel
theorem dX1_climb_64 : decode cX1_climb 64 = .ok (.getfield 16, 3) := by decide +kernel
theorem dX1_climb_67 : decode cX1_climb 67 = .ok (.invokevirtual 64, 3) := by decide +kernel
theorem dX1_climb_70 : decode cX1_climb 70 = .ok (.aload_n 0, 1) := by decide +kernel
theorem dX1_climb_71 : decode cX1_climb 71 = .ok (.getfield 16, 3) := by decide +kernel
theorem dX1_climb_74 : decode cX1_climb 74 = .ok (.aload_n 0, 1) := by decide +kernel
theorem dX1_climb_75 : decode cX1_climb 75 = .ok (.getfield 31, 3) := by decide +kernel
theorem dX1_climb_78 : decode cX1_climb 78 = .ok (.invokevirtual 64, 3) := by decide +kernel
theorem dX1_climb_81 : decode cX1_climb 81 = .ok (.iinc 4 1, 3) := by decide +kernel
theorem dX1_climb_84 : decode cX1_climb 84 = .ok (.goto (-65), 3) := by decide +kernel
theorem dX1_climb_87 : decode cX1_climb 87 = .ok (.aload_n 3, 1) := by decide +kernel
theorem dX1_climb_88 : decode cX1_climb 88 = .ok (.aload_n 0, 1) := by decide +kernel
theorem dX1_climb_89 : decode cX1_climb 89 = .ok (.getfield 10, 3) := by decide +kernel
theorem dX1_climb_92 : decode cX1_climb 92 = .ok (.invokevirtual 64, 3) := by decide +kernel
theorem dX1_climb_95 : decode cX1_climb 95 = .ok (.return_, 1) := by decide +kernel
theorem dX2_init_0 : decode cX2_init 0 = .ok (.aload_n 0, 1) := by decide +kernel
theorem dX2_init_1 : decode cX2_init 1 = .ok (.invokespecial 1, 3) := by decide +kernel
theorem dX2_init_4 : decode cX2_init 4 = .ok (.return_, 1) := by decide +kernel
theorem dX2_begin_0 : decode cX2_begin 0 = .ok (.aload_n 0, 1) := by decide +kernel
theorem dX2_begin_1 : decode cX2_begin 1 = .ok (.iload_n 1, 1) := by decide +kernel
theorem dX2_begin_2 : decode cX2_begin 2 = .ok (.putfield 7, 3) := by decide +kernel
theorem dX2_begin_5 : decode cX2_begin 5 = .ok (.aload_n 0, 1) := by decide +kernel
theorem dX2_begin_6 : decode cX2_begin 6 = .ok (.iload_n 1, 1) := by decide +kernel
theorem dX2_begin_7 : decode cX2_begin 7 = .ok (.i2l, 1) := by decide +kernel
theorem dX2_begin_8 : decode cX2_begin 8 = .ok (.invokestatic 13, 3) := by decide +kernel
theorem dX2_begin_11 : decode cX2_begin 11 = .ok (.l2i, 1) := by decide +kernel
theorem dX2_begin_12 : decode cX2_begin 12 = .ok (.putfield 19, 3) := by decide +kernel
theorem dX2_begin_15 : decode cX2_begin 15 = .ok (.aload_n 0, 1) := by decide +kernel
theorem dX2_begin_16 : decode cX2_begin 16 = .ok (.aload_n 0, 1) := by decide +kernel
theorem dX2_begin_17 : decode cX2_begin 17 = .ok (.getfield 19, 3) := by decide +kernel
theorem dX2_begin_20 : decode cX2_begin 20 = .ok (.putfield 22, 3) := by decide +kernel
theorem dX2_begin_23 : decode cX2_begin 23 = .ok (.aload_n 0, 1) := by decide +kernel
theorem dX2_begin_24 : decode cX2_begin 24 = .ok (.iconst 0, 1) := by decide +kernel
theorem dX2_begin_25 : decode cX2_begin 25 = .ok (.putfield 25, 3) := by decide +kernel
theorem dX2_begin_28 : decode cX2_begin 28 = .ok (.aload_n 0, 1) := by decide +kernel
theorem dX2_begin_29 : decode cX2_begin 29 = .ok (.iconst 1, 1) := by decide +kernel
theorem dX2_begin_30 : decode cX2_begin 30 = .ok (.putfield 28, 3) := by decide +kernel
theorem dX2_begin_33 : decode cX2_begin 33 = .ok (.return_, 1) := by decide +kernel
theorem dX2_step_0 : decode cX2_step 0 = .ok (.aload_n 0, 1) := by decide +kernel
theorem dX2_step_1 : decode cX2_step 1 = .ok (.aload_n 0, 1) := by decide +kernel
theorem dX2_step_2 : decode cX2_step 2 = .ok (.getfield 28, 3) := by decide +kernel
theorem dX2_step_5 : decode cX2_step 5 = .ok (.aload_n 0, 1) := by decide +kernel
theorem dX2_step_6 : decode cX2_step 6 = .ok (.getfield 22, 3) := by decide +kernel
theorem dX2_step_9 : decode cX2_step 9 = .ok (.imul, 1) := by decide +kernel
theorem dX2_step_10 : decode cX2_step 10 = .ok (.aload_n 0, 1) := by decide +kernel
theorem dX2_step_11 : decode cX2_step 11 = .ok (.getfield 25, 3) := by decide +kernel
theorem dX2_step_14 : decode cX2_step 14 = .ok (.isub, 1) := by decide +kernel
theorem dX2_step_15 : decode cX2_step 15 = .ok (.putfield 25, 3) := by decide +kernel
theorem dX2_step_18 : decode cX2_step 18 = .ok (.aload_n 0, 1) := by decide +kernel
theorem dX2_step_19 : decode cX2_step 19 = .ok (.aload_n 0, 1) := by decide +kernel
theorem dX2_step_20 : decode cX2_step 20 = .ok (.getfield 28, 3) := by decide +kernel
theorem dX2_step_23 : decode cX2_step 23 = .ok (.ifCond .ne 7, 3) := by decide +kernel
theorem dX2_step_26 : decode cX2_step 26 = .ok (.iconst 1, 1) := by decide +kernel
theorem dX2_step_27 : decode cX2_step 27 = .ok (.goto 22, 3) := by decide +kernel
theorem dX2_step_30 : decode cX2_step 30 = .ok (.aload_n 0, 1) := by decide +kernel
theorem dX2_step_31 : decode cX2_step 31 = .ok (.getfield 7, 3) := by decide +kernel
theorem dX2_step_34 : decode cX2_step 34 = .ok (.aload_n 0, 1) := by decide +kernel
theorem dX2_step_35 : decode cX2_step 35 = .ok (.getfield 25, 3) := by decide +kernel
theorem dX2_step_38 : decode cX2_step 38 = .ok (.aload_n 0, 1) := by decide +kernel
theorem dX2_step_39 : decode cX2_step 39 = .ok (.getfield 25, 3) := by decide +kernel
theorem dX2_step_42 : decode cX2_step 42 = .ok (.imul, 1) := by decide +kernel
theorem dX2_step_43 : decode cX2_step 43 = .ok (.isub, 1) := by decide +kernel
theorem dX2_step_44 : decode cX2_step 44 = .ok (.aload_n 0, 1) := by decide +kernel
theorem dX2_step_45 : decode cX2_step 45 = .ok (.getfield 28, 3) := by decide +kernel
theorem dX2_step_48 : decode cX2_step 48 = .ok (.idiv, 1) := by decide +kernel
theorem dX2_step_49 : decode cX2_step 49 = .ok (.putfield 28, 3) := by decide +kernel
theorem dX2_step_52 : decode cX2_step 52 = .ok (.aload_n 0, 1) := by decide +kernel
theorem dX2_step_53 : decode cX2_step 53 = .ok (.aload_n 0, 1) := by decide +kernel
theorem dX2_step_54 : decode cX2_step 54 = .ok (.getfield 28, 3) := by decide +kernel
theorem dX2_step_57 : decode cX2_step 57 = .ok (.ifCond .ne 7, 3) := by decide +kernel
theorem dX2_step_60 : decode cX2_step 60 = .ok (.iconst 0, 1) := by decide +kernel
theorem dX2_step_61 : decode cX2_step 61 = .ok (.goto 17, 3) := by decide +kernel
theorem dX2_step_64 : decode cX2_step 64 = .ok (.aload_n 0, 1) := by decide +kernel
theorem dX2_step_65 : decode cX2_step 65 = .ok (.getfield 19, 3) := by decide +kernel
theorem dX2_step_68 : decode cX2_step 68 = .ok (.aload_n 0, 1) := by decide +kernel
theorem dX2_step_69 : decode cX2_step 69 = .ok (.getfield 25, 3) := by decide +kernel
theorem dX2_step_72 : decode cX2_step 72 = .ok (.iadd, 1) := by decide +kernel
theorem dX2_step_73 : decode cX2_step 73 = .ok (.aload_n 0, 1) := by decide +kernel
theorem dX2_step_74 : decode cX2_step 74 = .ok (.getfield 28, 3) := by decide +kernel
theorem dX2_step_77 : decode cX2_step 77 = .ok (.idiv, 1) := by decide +kernel
theorem dX2_step_78 : decode cX2_step 78 = .ok (.putfield 22, 3) := by decide +kernel
theorem dX2_step_81 : decode cX2_step 81 = .ok (.return_, 1) := by decide +kernel
theorem dX2_countRound_0 : decode cX2_countRound 0 = .ok (.aload_n 0, 1) := by decide +kernel
theorem dX2_countRound_1 : decode cX2_countRound 1 = .ok (.iload_n 1, 1) := by decide +kernel
theorem dX2_countRound_2 : decode cX2_countRound 2 = .ok (.invokevirtual 31, 3) := by decide +kernel
theorem dX2_countRound_5 : decode cX2_countRound 5 = .ok (.iconst 1, 1) := by decide +kernel
theorem dX2_countRound_6 : decode cX2_countRound 6 = .ok (.istore_n 2, 1) := by decide +kernel
theorem dX2_countRound_7 : decode cX2_countRound 7 = .ok (.iload_n 2, 1) := by decide +kernel
theorem dX2_countRound_8 : decode cX2_countRound 8 = .ok (.ldc 35, 2) := by decide +kernel
theorem dX2_countRound_10 : decode cX2_countRound 10 = .ok (.if_icmp .ge 28, 3) := by decide +kernel
theorem dX2_countRound_13 : decode cX2_countRound 13 = .ok (.aload_n 0, 1) := by decide +kernel
theorem dX2_countRound_14 : decode cX2_countRound 14 = .ok (.invokevirtual 36, 3) := by decide +kernel
theorem dX2_countRound_17 : decode cX2_countRound 17 = .ok (.aload_n 0, 1) := by decide +kernel
theorem dX2_countRound_18 : decode cX2_countRound 18 = .ok (.getfield 22, 3) := by decide +kernel
theorem dX2_countRound_21 : decode cX2_countRound 21 = .ok (.iconst 2, 1) := by decide +kernel
theorem dX2_countRound_22 : decode cX2_countRound 22 = .ok (.aload_n 0, 1) := by decide +kernel
theorem dX2_countRound_23 : decode cX2_countRound 23 = .ok (.getfield 19, 3) := by decide +kernel
theorem dX2_countRound_26 : decode cX2_countRound 26 = .ok (.imul, 1) := by decide +kernel
theorem dX2_countRound_27 : decode cX2_countRound 27 = .ok (.if_icmp .ne 5, 3) := by decide +kernel
theorem dX2_countRound_30 : decode cX2_countRound 30 = .ok (.iload_n 2, 1) := by decide +kernel
theorem dX2_countRound_31 : decode cX2_countRound 31 = .ok (.ireturn, 1) := by decide +kernel
theorem dX2_countRound_32 : decode cX2_countRound 32 = .ok (.iinc 2 1, 3) := by decide +kernel
theorem dX2_countRound_35 : decode cX2_countRound 35 = .ok (.goto (-28), 3) := by decide +kernel
theorem dX2_countRound_38 : decode cX2_countRound 38 = .ok (.iconst 0, 1) := by decide +kernel
theorem dX2_countRound_39 : decode cX2_countRound 39 = .ok (.ireturn, 1) := by decide +kernel
theorem dX2_find_0 : decode cX2_find 0 = .ok (.aload_n 0, 1) := by decide +kernel
theorem dX2_find_1 : decode cX2_find 1 = .ok (.iload_n 1, 1) := by decide +kernel
theorem dX2_find_2 : decode cX2_find 2 = .ok (.invokevirtual 31, 3) := by decide +kernel
theorem dX2_find_5 : decode cX2_find 5 = .ok (.iconst 0, 1) := by decide +kernel
theorem dX2_find_6 : decode cX2_find 6 = .ok (.istore_n 3, 1) := by decide +kernel
theorem dX2_find_7 : decode cX2_find 7 = .ok (.iload_n 3, 1) := by decide +kernel
theorem dX2_find_8 : decode cX2_find 8 = .ok (.iload_n 2, 1) := by decide +kernel
theorem dX2_find_9 : decode cX2_find 9 = .ok (.if_icmp .ge 13, 3) := by decide +kernel
theorem dX2_find_12 : decode cX2_find 12 = .ok (.aload_n 0, 1) := by decide +kernel
theorem dX2_find_13 : decode cX2_find 13 = .ok (.invokevirtual 36, 3) := by decide +kernel
theorem dX2_find_16 : decode cX2_find 16 = .ok (.iinc 3 1, 3) := by decide +kernel
theorem dX2_find_19 : decode cX2_find 19 = .ok (.goto (-12), 3) := by decide +kernel
theorem dX2_find_22 : decode cX2_find 22 = .ok (.aload_n 0, 1) := by decide +kernel
theorem dX2_find_23 : decode cX2_find 23 = .ok (.getfield 22, 3) := by decide +kernel
theorem dX2_find_26 : decode cX2_find 26 = .ok (.ireturn, 1) := by decide +kernel
theorem dX3_init_0 : decode cX3_init 0 = .ok (.aload_n 0, 1) := by decide +kernel
theorem dX3_init_1 : decode cX3_init 1 = .ok (.invokespecial 1, 3) := by decide +kernel
theorem dX3_init_4 : decode cX3_init 4 = .ok (.aload_n 0, 1) := by decide +kernel
theorem dX3_init_5 : decode cX3_init 5 = .ok (.new 7, 3) := by decide +kernel
theorem dX3_init_8 : decode cX3_init 8 = .ok (.dup, 1) := by decide +kernel
theorem dX3_init_9 : decode cX3_init 9 = .ok (.invokespecial 9, 3) := by decide +kernel
theorem dX3_init_12 : decode cX3_init 12 = .ok (.putfield 10, 3) := by decide +kernel
theorem dX3_init_15 : decode cX3_init 15 = .ok (.return_, 1) := by decide +kernel
theorem dX3_kind_0 : decode cX3_kind 0 = .ok (.aload_n 0, 1) := by decide +kernel
theorem dX3_kind_1 : decode cX3_kind 1 = .ok (.getfield 16, 3) := by decide +kernel
theorem dX3_kind_4 : decode cX3_kind 4 = .ok (.iconst 2, 1) := by decide +kernel
theorem dX3_kind_5 : decode cX3_kind 5 = .ok (.isub, 1) := by decide +kernel
theorem dX3_kind_6 : decode cX3_kind 6 = .ok (.ireturn, 1) := by decide +kernel
theorem dX3_holdNothing_0 : decode cX3_holdNothing 0 = .ok (.aload_n 0, 1) := by decide +kernel
theorem dX3_holdNothing_1 : decode cX3_holdNothing 1 = .ok (.iconst 0, 1) := by decide +kernel
theorem dX3_holdNothing_2 : decode cX3_holdNothing 2 = .ok (.putfield 16, 3) := by decide +kernel
theorem dX3_holdNothing_5 : decode cX3_holdNothing 5 = .ok (.return_, 1) := by decide +kernel
theorem dX3_holdNumber_0 : decode cX3_holdNumber 0 = .ok (.aload_n 0, 1) := by decide +kernel
theorem dX3_holdNumber_1 : decode cX3_holdNumber 1 = .ok (.iconst 1, 1) := by decide +kernel
theorem dX3_holdNumber_2 : decode cX3_holdNumber 2 = .ok (.putfield 16, 3) := by decide +kernel
theorem dX3_holdNumber_5 : decode cX3_holdNumber 5 = .ok (.aload_n 0, 1) := by decide +kernel
theorem dX3_holdNumber_6 : decode cX3_holdNumber 6 = .ok (.getfield 10, 3) := by decide +kernel
theorem dX3_holdNumber_9 : decode cX3_holdNumber 9 = .ok (.aload_n 1, 1) := by decide +kernel
theorem dX3_holdNumber_10 : decode cX3_holdNumber 10 = .ok (.invokevirtual 20, 3) := by decide +kernel
theorem dX3_holdNumber_13 : decode cX3_holdNumber 13 = .ok (.return_, 1) := by decide +kernel
theorem dX3_holdShape_0 : decode cX3_holdShape 0 = .ok (.aload_n 0, 1) := by decide +kernel
theorem dX3_holdShape_1 : decode cX3_holdShape 1 = .ok (.iconst 2, 1) := by decide +kernel
theorem dX3_holdShape_2 : decode cX3_holdShape 2 = .ok (.iload_n 1, 1) := by decide +kernel
theorem dX3_holdShape_3 : decode cX3_holdShape 3 = .ok (.iadd, 1) := by decide +kernel
theorem dX3_holdShape_4 : decode cX3_holdShape 4 = .ok (.putfield 16, 3) := by decide +kernel
theorem dX3_holdShape_7 : decode cX3_holdShape 7 = .ok (.aload_n 0, 1) := by decide +kernel
theorem dX3_holdShape_8 : decode cX3_holdShape 8 = .ok (.iload_n 2, 1) := by decide +kernel
theorem dX3_holdShape_9 : decode cX3_holdShape 9 = .ok (.putfield 24, 3) := by decide +kernel
theorem dX3_holdShape_12 : decode cX3_holdShape 12 = .ok (.return_, 1) := by decide +kernel
theorem dX3_copy_0 : decode cX3_copy 0 = .ok (.aload_n 0, 1) := by decide +kernel
theorem dX3_copy_1 : decode cX3_copy 1 = .ok (.aload_n 1, 1) := by decide +kernel
theorem dX3_copy_2 : decode cX3_copy 2 = .ok (.getfield 16, 3) := by decide +kernel
theorem dX3_copy_5 : decode cX3_copy 5 = .ok (.putfield 16, 3) := by decide +kernel
theorem dX3_copy_8 : decode cX3_copy 8 = .ok (.aload_n 0, 1) := by decide +kernel
theorem dX3_copy_9 : decode cX3_copy 9 = .ok (.aload_n 1, 1) := by decide +kernel
theorem dX3_copy_10 : decode cX3_copy 10 = .ok (.getfield 24, 3) := by decide +kernel
theorem dX3_copy_13 : decode cX3_copy 13 = .ok (.putfield 24, 3) := by decide +kernel
theorem dX3_copy_16 : decode cX3_copy 16 = .ok (.aload_n 0, 1) := by decide +kernel
theorem dX3_copy_17 : decode cX3_copy 17 = .ok (.getfield 10, 3) := by decide +kernel
theorem dX3_copy_20 : decode cX3_copy 20 = .ok (.aload_n 1, 1) := by decide +kernel
theorem dX3_copy_21 : decode cX3_copy 21 = .ok (.getfield 10, 3) := by decide +kernel
theorem dX3_copy_24 : decode cX3_copy 24 = .ok (.invokevirtual 20, 3) := by decide +kernel
theorem dX3_copy_27 : decode cX3_copy 27 = .ok (.return_, 1) := by decide +kernel
theorem dX4_init_0 : decode cX4_init 0 = .ok (.aload_n 0, 1) := by decide +kernel
theorem dX4_init_1 : decode cX4_init 1 = .ok (.invokespecial 1, 3) := by decide +kernel
theorem dX4_init_4 : decode cX4_init 4 = .ok (.aload_n 0, 1) := by decide +kernel
theorem dX4_init_5 : decode cX4_init 5 = .ok (.new 7, 3) := by decide +kernel
theorem dX4_init_8 : decode cX4_init 8 = .ok (.dup, 1) := by decide +kernel
theorem dX4_init_9 : decode cX4_init 9 = .ok (.invokespecial 9, 3) := by decide +kernel
theorem dX4_init_12 : decode cX4_init 12 = .ok (.putfield 10, 3) := by decide +kernel
theorem dX4_init_15 : decode cX4_init 15 = .ok (.aload_n 0, 1) := by decide +kernel
theorem dX4_init_16 : decode cX4_init 16 = .ok (.new 7, 3) := by decide +kernel
theorem dX4_init_19 : decode cX4_init 19 = .ok (.dup, 1) := by decide +kernel
theorem dX4_init_20 : decode cX4_init 20 = .ok (.invokespecial 9, 3) := by decide +kernel
theorem dX4_init_23 : decode cX4_init 23 = .ok (.putfield 16, 3) := by decide +kernel
theorem dX4_init_26 : decode cX4_init 26 = .ok (.aload_n 0, 1) := by decide +kernel
theorem dX4_init_27 : decode cX4_init 27 = .ok (.new 7, 3) := by decide +kernel
theorem dX4_init_30 : decode cX4_init 30 = .ok (.dup, 1) := by decide +kernel
theorem dX4_init_31 : decode cX4_init 31 = .ok (.invokespecial 9, 3) := by decide +kernel
theorem dX4_init_34 : decode cX4_init 34 = .ok (.putfield 19, 3) := by decide +kernel
theorem dX4_init_37 : decode cX4_init 37 = .ok (.aload_n 0, 1) := by decide +kernel
theorem dX4_init_38 : decode cX4_init 38 = .ok (.new 7, 3) := by decide +kernel
theorem dX4_init_41 : decode cX4_init 41 = .ok (.dup, 1) := by decide +kernel
theorem dX4_init_42 : decode cX4_init 42 = .ok (.invokespecial 9, 3) := by decide +kernel
theorem dX4_init_45 : decode cX4_init 45 = .ok (.putfield 22, 3) := by decide +kernel
theorem dX4_init_48 : decode cX4_init 48 = .ok (.aload_n 0, 1) := by decide +kernel
theorem dX4_init_49 : decode cX4_init 49 = .ok (.new 7, 3) := by decide +kernel
theorem dX4_init_52 : decode cX4_init 52 = .ok (.dup, 1) := by decide +kernel
theorem dX4_init_53 : decode cX4_init 53 = .ok (.invokespecial 9, 3) := by decide +kernel
theorem dX4_init_56 : decode cX4_init 56 = .ok (.putfield 25, 3) := by decide +kernel
theorem dX4_init_59 : decode cX4_init 59 = .ok (.return_, 1) := by decide +kernel
theorem dX4_divide_0 : decode cX4_divide 0 = .ok (.aload_n 0, 1) := by decide +kernel
theorem dX4_divide_1 : decode cX4_divide 1 = .ok (.getfield 16, 3) := by decide +kernel
theorem dX4_divide_4 : decode cX4_divide 4 = .ok (.aload_n 1, 1) := by decide +kernel
theorem dX4_divide_5 : decode cX4_divide 5 = .ok (.invokevirtual 28, 3) := by decide +kernel
theorem dX4_divide_8 : decode cX4_divide 8 = .ok (.aload_n 0, 1) := by decide +kernel
theorem dX4_divide_9 : decode cX4_divide 9 = .ok (.getfield 10, 3) := by decide +kernel
theorem dX4_divide_12 : decode cX4_divide 12 = .ok (.lconst 0, 1) := by decide +kernel
theorem dX4_divide_13 : decode cX4_divide 13 = .ok (.invokevirtual 32, 3) := by decide +kernel
theorem dX4_divide_16 : decode cX4_divide 16 = .ok (.aload_n 2, 1) := by decide +kernel
theorem dX4_divide_17 : decode cX4_divide 17 = .ok (.getfield 36, 3) := by decide +kernel
theorem dX4_divide_20 : decode cX4_divide 20 = .ok (.ifCond .eq 11, 3) := by decide +kernel
theorem dX4_divide_23 : decode cX4_divide 23 = .ok (.aload_n 1, 1) := by decide +kernel
theorem dX4_divide_24 : decode cX4_divide 24 = .ok (.aload_n 2, 1) := by decide +kernel
theorem dX4_divide_25 : decode cX4_divide 25 = .ok (.invokevirtual 40, 3) := by decide +kernel
theorem dX4_divide_28 : decode cX4_divide 28 = .ok (.ifCond .ge 4, 3) := by decide +kernel
theorem dX4_divide_31 : decode cX4_divide 31 = .ok (.return_, 1) := by decide +kernel
theorem dX4_divide_32 : decode cX4_divide 32 = .ok (.aload_n 2, 1) := by decide +kernel
theorem dX4_divide_33 : decode cX4_divide 33 = .ok (.getfield 36, 3) := by decide +kernel
theorem dX4_divide_36 : decode cX4_divide 36 = .ok (.iconst 1, 1) := by decide +kernel
theorem dX4_divide_37 : decode cX4_divide 37 = .ok (.if_icmp .ne 31, 3) := by decide +kernel
theorem dX4_divide_40 : decode cX4_divide 40 = .ok (.aload_n 0, 1) := by decide +kernel
theorem dX4_divide_41 : decode cX4_divide 41 = .ok (.getfield 10, 3) := by decide +kernel
theorem dX4_divide_44 : decode cX4_divide 44 = .ok (.aload_n 1, 1) := by decide +kernel
theorem dX4_divide_45 : decode cX4_divide 45 = .ok (.invokevirtual 28, 3) := by decide +kernel
theorem dX4_divide_48 : decode cX4_divide 48 = .ok (.aload_n 0, 1) := by decide +kernel
theorem dX4_divide_49 : decode cX4_divide 49 = .ok (.getfield 16, 3) := by decide +kernel
theorem dX4_divide_52 : decode cX4_divide 52 = .ok (.aload_n 0, 1) := by decide +kernel
theorem dX4_divide_53 : decode cX4_divide 53 = .ok (.getfield 10, 3) := by decide +kernel
theorem dX4_divide_56 : decode cX4_divide 56 = .ok (.aload_n 2, 1) := by decide +kernel
theorem dX4_divide_57 : decode cX4_divide 57 = .ok (.iconst 0, 1) := by decide +kernel
theorem dX4_divide_58 : decode cX4_divide 58 = .ok (.invokevirtual 44, 3) := by decide +kernel
theorem dX4_divide_61 : decode cX4_divide 61 = .ok (.invokevirtual 48, 3) := by decide +kernel
theorem dX4_divide_64 : decode cX4_divide 64 = .ok (.invokevirtual 32, 3) := by decide +kernel
theorem dX4_divide_67 : decode cX4_divide 67 = .ok (.return_, 1) := by decide +kernel
theorem dX4_divide_68 : decode cX4_divide 68 = .ok (.aload_n 0, 1) := by decide +kernel
theorem dX4_divide_69 : decode cX4_divide 69 = .ok (.aload_n 2, 1) := by decide +kernel
theorem dX4_divide_70 : decode cX4_divide 70 = .ok (.invokevirtual 52, 3) := by decide +kernel
theorem dX4_divide_73 : decode cX4_divide 73 = .ok (.return_, 1) := by decide +kernel
theorem dX4_divideLong_0 : decode cX4_divideLong 0 = .ok (.ldc2_w 55, 3) := by decide +kernel
theorem dX4_divideLong_3 : decode cX4_divideLong 3 = .ok (.aload_n 1, 1) := by decide +kernel
theorem dX4_divideLong_4 : decode cX4_divideLong 4 = .ok (.aload_n 1, 1) := by decide +kernel
theorem dX4_divideLong_5 : decode cX4_divideLong 5 = .ok (.getfield 36, 3) := by decide +kernel
theorem dX4_divideLong_8 : decode cX4_divideLong 8 = .ok (.iconst 1, 1) := by decide +kernel
theorem dX4_divideLong_9 : decode cX4_divideLong 9 = .ok (.isub, 1) := by decide +kernel
theorem dX4_divideLong_10 : decode cX4_divideLong 10 = .ok (.invokevirtual 44, 3) := by decide +kernel
theorem dX4_divideLong_13 : decode cX4_divideLong 13 = .ok (.lconst 1, 1) := by decide +kernel
theorem dX4_divideLong_14 : decode cX4_divideLong 14 = .ok (.ladd, 1) := by decide +kernel
theorem dX4_divideLong_15 : decode cX4_divideLong 15 = .ok (.ldiv, 1) := by decide +kernel
theorem dX4_divideLong_16 : decode cX4_divideLong 16 = .ok (.lstore_n 2, 1) := by decide +kernel
theorem dX4_divideLong_17 : decode cX4_divideLong 17 = .ok (.aload_n 0, 1) := by decide +kernel
theorem dX4_divideLong_18 : decode cX4_divideLong 18 = .ok (.getfield 19, 3) := by decide +kernel
theorem dX4_divideLong_21 : decode cX4_divideLong 21 = .ok (.aload_n 1, 1) := by decide +kernel
theorem dX4_divideLong_22 : decode cX4_divideLong 22 = .ok (.invokevirtual 28, 3) := by decide +kernel
theorem dX4_divideLong_25 : decode cX4_divideLong 25 = .ok (.aload_n 0, 1) := by decide +kernel
theorem dX4_divideLong_26 : decode cX4_divideLong 26 = .ok (.getfield 19, 3) := by decide +kernel
theorem dX4_divideLong_29 : decode cX4_divideLong 29 = .ok (.lload_n 2, 1) := by decide +kernel
theorem dX4_divideLong_30 : decode cX4_divideLong 30 = .ok (.lconst 0, 1) := by decide +kernel
theorem dX4_divideLong_31 : decode cX4_divideLong 31 = .ok (.invokevirtual 57, 3) := by decide +kernel
theorem dX4_divideLong_34 : decode cX4_divideLong 34 = .ok (.aload_n 0, 1) := by decide +kernel
theorem dX4_divideLong_35 : decode cX4_divideLong 35 = .ok (.getfield 16, 3) := by decide +kernel
theorem dX4_divideLong_38 : decode cX4_divideLong 38 = .ok (.lload_n 2, 1) := by decide +kernel
theorem dX4_divideLong_39 : decode cX4_divideLong 39 = .ok (.lconst 0, 1) := by decide +kernel
theorem dX4_divideLong_40 : decode cX4_divideLong 40 = .ok (.invokevirtual 57, 3) := by decide +kernel
theorem dX4_divideLong_43 : decode cX4_divideLong 43 = .ok (.aload_n 0, 1) := by decide +kernel
theorem dX4_divideLong_44 : decode cX4_divideLong 44 = .ok (.getfield 19, 3) := by decide +kernel
theorem dX4_divideLong_47 : decode cX4_divideLong 47 = .ok (.getfield 36, 3) := by decide +kernel
theorem dX4_divideLong_50 : decode cX4_divideLong 50 = .ok (.istore 4, 2) := by decide +kernel
theorem dX4_divideLong_52 : decode cX4_divideLong 52 = .ok (.aload_n 0, 1) := by decide +kernel
theorem dX4_divideLong_53 : decode cX4_divideLong 53 = .ok (.getfield 16, 3) := by decide +kernel
theorem dX4_divideLong_56 : decode cX4_divideLong 56 = .ok (.getfield 36, 3) := by decide +kernel
theorem dX4_divideLong_59 : decode cX4_divideLong 59 = .ok (.iload 4, 2) := by decide +kernel
theorem dX4_divideLong_61 : decode cX4_divideLong 61 = .ok (.isub, 1) := by decide +kernel
theorem dX4_divideLong_62 : decode cX4_divideLong 62 = .ok (.istore 5, 2) := by decide +kernel
theorem dX4_divideLong_64 : decode cX4_divideLong 64 = .ok (.aload_n 0, 1) := by decide +kernel
theorem dX4_divideLong_65 : decode cX4_divideLong 65 = .ok (.getfield 16, 3) := by decide +kernel
theorem dX4_divideLong_68 : decode cX4_divideLong 68 = .ok (.invokevirtual 61, 3) := by decide +kernel
theorem dX4_divideLong_71 : decode cX4_divideLong 71 = .ok (.iload 5, 2) := by decide +kernel
theorem dX4_divideLong_73 : decode cX4_divideLong 73 = .ok (.istore 6, 2) := by decide +kernel
theorem dX4_divideLong_75 : decode cX4_divideLong 75 = .ok (.iload 6, 2) := by decide +kernel
theorem dX4_divideLong_77 : decode cX4_divideLong 77 = .ok (.ifCond .lt 29, 3) := by decide +kernel
theorem dX4_divideLong_80 : decode cX4_divideLong 80 = .ok (.aload_n 0, 1) := by decide +kernel
theorem dX4_divideLong_81 : decode cX4_divideLong 81 = .ok (.iload 6, 2) := by decide +kernel
theorem dX4_divideLong_83 : decode cX4_divideLong 83 = .ok (.iload 4, 2) := by decide +kernel
theorem dX4_divideLong_85 : decode cX4_divideLong 85 = .ok (.invokevirtual 64, 3) := by decide +kernel
theorem dX4_divideLong_88 : decode cX4_divideLong 88 = .ok (.lstore 7, 2) := by decide +kernel
theorem dX4_divideLong_90 : decode cX4_divideLong 90 = .ok (.aload_n 0, 1) := by decide +kernel
theorem dX4_divideLong_91 : decode cX4_divideLong 91 = .ok (.lload 7, 2) := by decide +kernel
theorem dX4_divideLong_93 : decode cX4_divideLong 93 = .ok (.iload 6, 2) := by decide +kernel
theorem dX4_divideLong_95 : decode cX4_divideLong 95 = .ok (.iload 4, 2) := by decide +kernel
theorem dX4_divideLong_97 : decode cX4_divideLong 97 = .ok (.invokevirtual 68, 3) := by decide +kernel
theorem dX4_divideLong_100 : decode cX4_divideLong 100 = .ok (.iinc 6 (-1), 3) := by decide +kernel
theorem dX4_divideLong_103 : decode cX4_divideLong 103 = .ok (.goto (-28), 3) := by decide +kernel
theorem dX4_divideLong_106 : decode cX4_divideLong 106 = .ok (.aload_n 0, 1) := by decide +kernel
theorem dX4_divideLong_107 : decode cX4_divideLong 107 = .ok (.getfield 10, 3) := by decide +kernel
theorem dX4_divideLong_110 : decode cX4_divideLong 110 = .ok (.iload 5, 2) := by decide +kernel
theorem dX4_divideLong_112 : decode cX4_divideLong 112 = .ok (.iconst 1, 1) := by decide +kernel
theorem dX4_divideLong_113 : decode cX4_divideLong 113 = .ok (.iadd, 1) := by decide +kernel
theorem dX4_divideLong_114 : decode cX4_divideLong 114 = .ok (.invokevirtual 72, 3) := by decide +kernel
theorem dX4_divideLong_117 : decode cX4_divideLong 117 = .ok (.aload_n 0, 1) := by decide +kernel
theorem dX4_divideLong_118 : decode cX4_divideLong 118 = .ok (.getfield 16, 3) := by decide +kernel
theorem dX4_divideLong_121 : decode cX4_divideLong 121 = .ok (.iload 4, 2) := by decide +kernel
theorem dX4_divideLong_123 : decode cX4_divideLong 123 = .ok (.invokevirtual 72, 3) := by decide +kernel
theorem dX4_divideLong_126 : decode cX4_divideLong 126 = .ok (.aload_n 0, 1) := by decide +kernel
theorem dX4_divideLong_127 : decode cX4_divideLong 127 = .ok (.getfield 16, 3) := by decide +kernel
theorem dX4_divideLong_130 : decode cX4_divideLong 130 = .ok (.lload_n 2, 1) := by decide +kernel
theorem dX4_divideLong_131 : decode cX4_divideLong 131 = .ok (.invokevirtual 48, 3) := by decide +kernel
theorem dX4_divideLong_134 : decode cX4_divideLong 134 = .ok (.pop2, 1) := by decide +kernel
theorem dX4_divideLong_135 : decode cX4_divideLong 135 = .ok (.return_, 1) := by decide +kernel
theorem dX4_guessAt_0 : decode cX4_guessAt 0 = .ok (.aload_n 0, 1) := by decide +kernel
theorem dX4_guessAt_1 : decode cX4_guessAt 1 = .ok (.getfield 16, 3) := by decide +kernel
theorem dX4_guessAt_4 : decode cX4_guessAt 4 = .ok (.iload_n 1, 1) := by decide +kernel
theorem dX4_guessAt_5 : decode cX4_guessAt 5 = .ok (.iload_n 2, 1) := by decide +kernel
theorem dX4_guessAt_6 : decode cX4_guessAt 6 = .ok (.iadd, 1) := by decide +kernel
theorem dX4_guessAt_7 : decode cX4_guessAt 7 = .ok (.invokevirtual 44, 3) := by decide +kernel
theorem dX4_guessAt_10 : decode cX4_guessAt 10 = .ok (.ldc2_w 55, 3) := by decide +kernel
theorem dX4_guessAt_13 : decode cX4_guessAt 13 = .ok (.lmul, 1) := by decide +kernel
theorem dX4_guessAt_14 : decode cX4_guessAt 14 = .ok (.aload_n 0, 1) := by decide +kernel
theorem dX4_guessAt_15 : decode cX4_guessAt 15 = .ok (.getfield 16, 3) := by decide +kernel
theorem dX4_guessAt_18 : decode cX4_guessAt 18 = .ok (.iload_n 1, 1) := by decide +kernel
theorem dX4_guessAt_19 : decode cX4_guessAt 19 = .ok (.iload_n 2, 1) := by decide +kernel
theorem dX4_guessAt_20 : decode cX4_guessAt 20 = .ok (.iadd, 1) := by decide +kernel
theorem dX4_guessAt_21 : decode cX4_guessAt 21 = .ok (.iconst 1, 1) := by decide +kernel
theorem dX4_guessAt_22 : decode cX4_guessAt 22 = .ok (.isub, 1) := by decide +kernel
theorem dX4_guessAt_23 : decode cX4_guessAt 23 = .ok (.invokevirtual 44, 3) := by decide +kernel
theorem dX4_guessAt_26 : decode cX4_guessAt 26 = .ok (.ladd, 1) := by decide +kernel
theorem dX4_guessAt_27 : decode cX4_guessAt 27 = .ok (.lstore_n 3, 1) := by decide +kernel
theorem dX4_guessAt_28 : decode cX4_guessAt 28 = .ok (.aload_n 0, 1) := by decide +kernel
theorem dX4_guessAt_29 : decode cX4_guessAt 29 = .ok (.getfield 19, 3) := by decide +kernel
theorem dX4_guessAt_32 : decode cX4_guessAt 32 = .ok (.iload_n 2, 1) := by decide +kernel
theorem dX4_guessAt_33 : decode cX4_guessAt 33 = .ok (.iconst 1, 1) := by decide +kernel
theorem dX4_guessAt_34 : decode cX4_guessAt 34 = .ok (.isub, 1) := by decide +kernel
theorem dX4_guessAt_35 : decode cX4_guessAt 35 = .ok (.invokevirtual 44, 3) := by decide +kernel
theorem dX4_guessAt_38 : decode cX4_guessAt 38 = .ok (.lstore 5, 2) := by decide +kernel
theorem dX4_guessAt_40 : decode cX4_guessAt 40 = .ok (.lload 5, 2) := by decide +kernel
theorem dX4_guessAt_42 : decode cX4_guessAt 42 = .ok (.lconst 0, 1) := by decide +kernel
theorem dX4_guessAt_43 : decode cX4_guessAt 43 = .ok (.lcmp, 1) := by decide +kernel
theorem dX4_guessAt_44 : decode cX4_guessAt 44 = .ok (.ifCond .ne 7, 3) := by decide +kernel
theorem dX4_guessAt_47 : decode cX4_guessAt 47 = .ok (.lconst 0, 1) := by decide +kernel
theorem dX4_guessAt_48 : decode cX4_guessAt 48 = .ok (.goto 13, 3) := by decide +kernel
theorem dX4_guessAt_51 : decode cX4_guessAt 51 = .ok (.lload_n 3, 1) := by decide +kernel
theorem dX4_guessAt_52 : decode cX4_guessAt 52 = .ok (.lload 5, 2) := by decide +kernel
theorem dX4_guessAt_54 : decode cX4_guessAt 54 = .ok (.ldiv, 1) := by decide +kernel
theorem dX4_guessAt_55 : decode cX4_guessAt 55 = .ok (.ldc2_w 76, 3) := by decide +kernel
theorem dX4_guessAt_58 : decode cX4_guessAt 58 = .ok (.invokestatic 78, 3) := by decide +kernel
theorem dX4_guessAt_61 : decode cX4_guessAt 61 = .ok (.lreturn, 1) := by decide +kernel
theorem dX4_takeAway_0 : decode cX4_takeAway 0 = .ok (.lconst 0, 1) := by decide +kernel
theorem dX4_takeAway_1 : decode cX4_takeAway 1 = .ok (.lstore 5, 2) := by decide +kernel
theorem dX4_takeAway_3 : decode cX4_takeAway 3 = .ok (.iconst 0, 1) := by decide +kernel
theorem dX4_takeAway_4 : decode cX4_takeAway 4 = .ok (.istore 7, 2) := by decide +kernel
theorem dX4_takeAway_6 : decode cX4_takeAway 6 = .ok (.iload 7, 2) := by decide +kernel
theorem dX4_takeAway_8 : decode cX4_takeAway 8 = .ok (.iload 4, 2) := by decide +kernel
theorem dX4_takeAway_10 : decode cX4_takeAway 10 = .ok (.if_icmp .gt 66, 3) := by decide +kernel
theorem dX4_takeAway_13 : decode cX4_takeAway 13 = .ok (.aload_n 0, 1) := by decide +kernel
theorem dX4_takeAway_14 : decode cX4_takeAway 14 = .ok (.getfield 16, 3) := by decide +kernel
theorem dX4_takeAway_17 : decode cX4_takeAway 17 = .ok (.iload 7, 2) := by decide +kernel
theorem dX4_takeAway_19 : decode cX4_takeAway 19 = .ok (.iload_n 3, 1) := by decide +kernel
theorem dX4_takeAway_20 : decode cX4_takeAway 20 = .ok (.iadd, 1) := by decide +kernel
theorem dX4_takeAway_21 : decode cX4_takeAway 21 = .ok (.invokevirtual 44, 3) := by decide +kernel
theorem dX4_takeAway_24 : decode cX4_takeAway 24 = .ok (.lload_n 1, 1) := by decide +kernel
theorem dX4_takeAway_25 : decode cX4_takeAway 25 = .ok (.aload_n 0, 1) := by decide +kernel
theorem dX4_takeAway_26 : decode cX4_takeAway 26 = .ok (.getfield 19, 3) := by decide +kernel
theorem dX4_takeAway_29 : decode cX4_takeAway 29 = .ok (.iload 7, 2) := by decide +kernel
theorem dX4_takeAway_31 : decode cX4_takeAway 31 = .ok (.invokevirtual 44, 3) := by decide +kernel
theorem dX4_takeAway_34 : decode cX4_takeAway 34 = .ok (.lmul, 1) := by decide +kernel
theorem dX4_takeAway_35 : decode cX4_takeAway 35 = .ok (.lsub, 1) := by decide +kernel
theorem dX4_takeAway_36 : decode cX4_takeAway 36 = .ok (.lload 5, 2) := by decide +kernel
theorem dX4_takeAway_38 : decode cX4_takeAway 38 = .ok (.ladd, 1) := by decide +kernel
theorem dX4_takeAway_39 : decode cX4_takeAway 39 = .ok (.lstore 8, 2) := by decide +kernel
theorem dX4_takeAway_41 : decode cX4_takeAway 41 = .ok (.lload 8, 2) := by decide +kernel
theorem dX4_takeAway_43 : decode cX4_takeAway 43 = .ok (.ldc2_w 55, 3) := by decide +kernel
theorem dX4_takeAway_46 : decode cX4_takeAway 46 = .ok (.invokestatic 84, 3) := by decide +kernel
theorem dX4_takeAway_49 : decode cX4_takeAway 49 = .ok (.lstore 5, 2) := by decide +kernel
theorem dX4_takeAway_51 : decode cX4_takeAway 51 = .ok (.aload_n 0, 1) := by decide +kernel
theorem dX4_takeAway_52 : decode cX4_takeAway 52 = .ok (.getfield 16, 3) := by decide +kernel
theorem dX4_takeAway_55 : decode cX4_takeAway 55 = .ok (.iload 7, 2) := by decide +kernel
theorem dX4_takeAway_57 : decode cX4_takeAway 57 = .ok (.iload_n 3, 1) := by decide +kernel
theorem dX4_takeAway_58 : decode cX4_takeAway 58 = .ok (.iadd, 1) := by decide +kernel
theorem dX4_takeAway_59 : decode cX4_takeAway 59 = .ok (.lload 8, 2) := by decide +kernel
theorem dX4_takeAway_61 : decode cX4_takeAway 61 = .ok (.ldc2_w 55, 3) := by decide +kernel
theorem dX4_takeAway_64 : decode cX4_takeAway 64 = .ok (.invokestatic 87, 3) := by decide +kernel
theorem dX4_takeAway_67 : decode cX4_takeAway 67 = .ok (.invokevirtual 90, 3) := by decide +kernel
theorem dX4_takeAway_70 : decode cX4_takeAway 70 = .ok (.iinc 7 1, 3) := by decide +kernel
theorem dX4_takeAway_73 : decode cX4_takeAway 73 = .ok (.goto (-67), 3) := by decide +kernel
theorem dX4_takeAway_76 : decode cX4_takeAway 76 = .ok (.lload_n 1, 1) := by decide +kernel
theorem dX4_takeAway_77 : decode cX4_takeAway 77 = .ok (.lstore 7, 2) := by decide +kernel
theorem dX4_takeAway_79 : decode cX4_takeAway 79 = .ok (.iconst 0, 1) := by decide +kernel
theorem dX4_takeAway_80 : decode cX4_takeAway 80 = .ok (.istore 9, 2) := by decide +kernel
theorem dX4_takeAway_82 : decode cX4_takeAway 82 = .ok (.iload 9, 2) := by decide +kernel
theorem dX4_takeAway_84 : decode cX4_takeAway 84 = .ok (.iconst 4, 1) := by decide +kernel
theorem dX4_takeAway_85 : decode cX4_takeAway 85 = .ok (.if_icmp .ge 34, 3) := by decide +kernel
theorem dX4_takeAway_88 : decode cX4_takeAway 88 = .ok (.lload 5, 2) := by decide +kernel
theorem dX4_takeAway_90 : decode cX4_takeAway 90 = .ok (.lconst 0, 1) := by decide +kernel
theorem dX4_takeAway_91 : decode cX4_takeAway 91 = .ok (.lcmp, 1) := by decide +kernel
theorem dX4_takeAway_92 : decode cX4_takeAway 92 = .ok (.ifCond .ge 27, 3) := by decide +kernel
theorem dX4_takeAway_95 : decode cX4_takeAway 95 = .ok (.lload 5, 2) := by decide +kernel
theorem dX4_takeAway_97 : decode cX4_takeAway 97 = .ok (.aload_n 0, 1) := by decide +kernel
theorem dX4_takeAway_98 : decode cX4_takeAway 98 = .ok (.iload_n 3, 1) := by decide +kernel
theorem dX4_takeAway_99 : decode cX4_takeAway 99 = .ok (.iload 4, 2) := by decide +kernel
theorem dX4_takeAway_101 : decode cX4_takeAway 101 = .ok (.invokevirtual 94, 3) := by decide +kernel
theorem dX4_takeAway_104 : decode cX4_takeAway 104 = .ok (.ladd, 1) := by decide +kernel
theorem dX4_takeAway_105 : decode cX4_takeAway 105 = .ok (.lstore 5, 2) := by decide +kernel
theorem dX4_takeAway_107 : decode cX4_takeAway 107 = .ok (.lload 7, 2) := by decide +kernel
theorem dX4_takeAway_109 : decode cX4_takeAway 109 = .ok (.lconst 1, 1) := by decide +kernel
theorem dX4_takeAway_110 : decode cX4_takeAway 110 = .ok (.lsub, 1) := by decide +kernel
theorem dX4_takeAway_111 : decode cX4_takeAway 111 = .ok (.lstore 7, 2) := by decide +kernel
theorem dX4_takeAway_113 : decode cX4_takeAway 113 = .ok (.iinc 9 1, 3) := by decide +kernel
theorem dX4_takeAway_116 : decode cX4_takeAway 116 = .ok (.goto (-34), 3) := by decide +kernel
theorem dX4_takeAway_119 : decode cX4_takeAway 119 = .ok (.aload_n 0, 1) := by decide +kernel
theorem dX4_takeAway_120 : decode cX4_takeAway 120 = .ok (.getfield 10, 3) := by decide +kernel
theorem dX4_takeAway_123 : decode cX4_takeAway 123 = .ok (.iload_n 3, 1) := by decide +kernel
theorem dX4_takeAway_124 : decode cX4_takeAway 124 = .ok (.lload 7, 2) := by decide +kernel
theorem dX4_takeAway_126 : decode cX4_takeAway 126 = .ok (.invokevirtual 90, 3) := by decide +kernel
theorem dX4_takeAway_129 : decode cX4_takeAway 129 = .ok (.return_, 1) := by decide +kernel
theorem dX4_giveBack_0 : decode cX4_giveBack 0 = .ok (.lconst 0, 1) := by decide +kernel
theorem dX4_giveBack_1 : decode cX4_giveBack 1 = .ok (.lstore_n 3, 1) := by decide +kernel
theorem dX4_giveBack_2 : decode cX4_giveBack 2 = .ok (.iconst 0, 1) := by decide +kernel
theorem dX4_giveBack_3 : decode cX4_giveBack 3 = .ok (.istore 5, 2) := by decide +kernel
theorem dX4_giveBack_5 : decode cX4_giveBack 5 = .ok (.iload 5, 2) := by decide +kernel
theorem dX4_giveBack_7 : decode cX4_giveBack 7 = .ok (.iload_n 2, 1) := by decide +kernel
theorem dX4_giveBack_8 : decode cX4_giveBack 8 = .ok (.if_icmp .gt 68, 3) := by decide +kernel
theorem dX4_giveBack_11 : decode cX4_giveBack 11 = .ok (.aload_n 0, 1) := by decide +kernel
theorem dX4_giveBack_12 : decode cX4_giveBack 12 = .ok (.getfield 16, 3) := by decide +kernel
theorem dX4_giveBack_15 : decode cX4_giveBack 15 = .ok (.iload 5, 2) := by decide +kernel
theorem dX4_giveBack_17 : decode cX4_giveBack 17 = .ok (.iload_n 1, 1) := by decide +kernel
theorem dX4_giveBack_18 : decode cX4_giveBack 18 = .ok (.iadd, 1) := by decide +kernel
theorem dX4_giveBack_19 : decode cX4_giveBack 19 = .ok (.invokevirtual 44, 3) := by decide +kernel
theorem dX4_giveBack_22 : decode cX4_giveBack 22 = .ok (.aload_n 0, 1) := by decide +kernel
theorem dX4_giveBack_23 : decode cX4_giveBack 23 = .ok (.getfield 19, 3) := by decide +kernel
theorem dX4_giveBack_26 : decode cX4_giveBack 26 = .ok (.iload 5, 2) := by decide +kernel
theorem dX4_giveBack_28 : decode cX4_giveBack 28 = .ok (.invokevirtual 44, 3) := by decide +kernel
theorem dX4_giveBack_31 : decode cX4_giveBack 31 = .ok (.ladd, 1) := by decide +kernel
theorem dX4_giveBack_32 : decode cX4_giveBack 32 = .ok (.lload_n 3, 1) := by decide +kernel
theorem dX4_giveBack_33 : decode cX4_giveBack 33 = .ok (.ladd, 1) := by decide +kernel
theorem dX4_giveBack_34 : decode cX4_giveBack 34 = .ok (.lstore 6, 2) := by decide +kernel
theorem dX4_giveBack_36 : decode cX4_giveBack 36 = .ok (.lload 6, 2) := by decide +kernel
theorem dX4_giveBack_38 : decode cX4_giveBack 38 = .ok (.ldc2_w 55, 3) := by decide +kernel
theorem dX4_giveBack_41 : decode cX4_giveBack 41 = .ok (.lcmp, 1) := by decide +kernel
theorem dX4_giveBack_42 : decode cX4_giveBack 42 = .ok (.ifCond .lt 7, 3) := by decide +kernel
theorem dX4_giveBack_45 : decode cX4_giveBack 45 = .ok (.lconst 1, 1) := by decide +kernel
theorem dX4_giveBack_46 : decode cX4_giveBack 46 = .ok (.goto 4, 3) := by decide +kernel
theorem dX4_giveBack_49 : decode cX4_giveBack 49 = .ok (.lconst 0, 1) := by decide +kernel
theorem dX4_giveBack_50 : decode cX4_giveBack 50 = .ok (.lstore_n 3, 1) := by decide +kernel
theorem dX4_giveBack_51 : decode cX4_giveBack 51 = .ok (.aload_n 0, 1) := by decide +kernel
theorem dX4_giveBack_52 : decode cX4_giveBack 52 = .ok (.getfield 16, 3) := by decide +kernel
theorem dX4_giveBack_55 : decode cX4_giveBack 55 = .ok (.iload 5, 2) := by decide +kernel
theorem dX4_giveBack_57 : decode cX4_giveBack 57 = .ok (.iload_n 1, 1) := by decide +kernel
theorem dX4_giveBack_58 : decode cX4_giveBack 58 = .ok (.iadd, 1) := by decide +kernel
theorem dX4_giveBack_59 : decode cX4_giveBack 59 = .ok (.lload 6, 2) := by decide +kernel
theorem dX4_giveBack_61 : decode cX4_giveBack 61 = .ok (.lload_n 3, 1) := by decide +kernel
theorem dX4_giveBack_62 : decode cX4_giveBack 62 = .ok (.ldc2_w 55, 3) := by decide +kernel
theorem dX4_giveBack_65 : decode cX4_giveBack 65 = .ok (.lmul, 1) := by decide +kernel
theorem dX4_giveBack_66 : decode cX4_giveBack 66 = .ok (.lsub, 1) := by decide +kernel
theorem dX4_giveBack_67 : decode cX4_giveBack 67 = .ok (.invokevirtual 90, 3) := by decide +kernel
theorem dX4_giveBack_70 : decode cX4_giveBack 70 = .ok (.iinc 5 1, 3) := by decide +kernel
theorem dX4_giveBack_73 : decode cX4_giveBack 73 = .ok (.goto (-68), 3) := by decide +kernel
theorem dX4_giveBack_76 : decode cX4_giveBack 76 = .ok (.lload_n 3, 1) := by decide +kernel
theorem dX4_giveBack_77 : decode cX4_giveBack 77 = .ok (.lreturn, 1) := by decide +kernel
theorem dX4_extract_0 : decode cX4_extract 0 = .ok (.aload_n 1, 1) := by decide +kernel
theorem dX4_extract_1 : decode cX4_extract 1 = .ok (.getfield 36, 3) := by decide +kernel
theorem dX4_extract_4 : decode cX4_extract 4 = .ok (.ifCond .eq 13, 3) := by decide +kernel
theorem dX4_extract_7 : decode cX4_extract 7 = .ok (.iload_n 2, 1) := by decide +kernel
theorem dX4_extract_8 : decode cX4_extract 8 = .ok (.iconst 2, 1) := by decide +kernel
theorem dX4_extract_9 : decode cX4_extract 9 = .ok (.if_icmp .lt 8, 3) := by decide +kernel
theorem dX4_extract_12 : decode cX4_extract 12 = .ok (.iload_n 2, 1) := by decide +kernel
theorem dX4_extract_13 : decode cX4_extract 13 = .ok (.iconst 3, 1) := by decide +kernel
theorem dX4_extract_14 : decode cX4_extract 14 = .ok (.if_icmp .le 9, 3) := by decide +kernel
theorem dX4_extract_17 : decode cX4_extract 17 = .ok (.aload_n 3, 1) := by decide +kernel
theorem dX4_extract_18 : decode cX4_extract 18 = .ok (.lconst 0, 1) := by decide +kernel
theorem dX4_extract_19 : decode cX4_extract 19 = .ok (.invokevirtual 32, 3) := by decide +kernel
theorem dX4_extract_22 : decode cX4_extract 22 = .ok (.return_, 1) := by decide +kernel
theorem dX4_extract_23 : decode cX4_extract 23 = .ok (.aload_n 3, 1) := by decide +kernel
theorem dX4_extract_24 : decode cX4_extract 24 = .ok (.aload_n 1, 1) := by decide +kernel
theorem dX4_extract_25 : decode cX4_extract 25 = .ok (.invokevirtual 97, 3) := by decide +kernel
theorem dX4_extract_28 : decode cX4_extract 28 = .ok (.iload_n 2, 1) := by decide +kernel
theorem dX4_extract_29 : decode cX4_extract 29 = .ok (.iadd, 1) := by decide +kernel
theorem dX4_extract_30 : decode cX4_extract 30 = .ok (.iconst 1, 1) := by decide +kernel
theorem dX4_extract_31 : decode cX4_extract 31 = .ok (.isub, 1) := by decide +kernel
theorem dX4_extract_32 : decode cX4_extract 32 = .ok (.iload_n 2, 1) := by decide +kernel
theorem dX4_extract_33 : decode cX4_extract 33 = .ok (.idiv, 1) := by decide +kernel
theorem dX4_extract_34 : decode cX4_extract 34 = .ok (.invokevirtual 101, 3) := by decide +kernel
theorem dX4_extract_37 : decode cX4_extract 37 = .ok (.iconst 0, 1) := by decide +kernel
theorem dX4_extract_38 : decode cX4_extract 38 = .ok (.istore 4, 2) := by decide +kernel
theorem dX4_extract_40 : decode cX4_extract 40 = .ok (.iload 4, 2) := by decide +kernel
theorem dX4_extract_42 : decode cX4_extract 42 = .ok (.ldc 104, 2) := by decide +kernel
theorem dX4_extract_44 : decode cX4_extract 44 = .ok (.if_icmp .ge 101, 3) := by decide +kernel
theorem dX4_extract_47 : decode cX4_extract 47 = .ok (.aload_n 0, 1) := by decide +kernel
theorem dX4_extract_48 : decode cX4_extract 48 = .ok (.getfield 25, 3) := by decide +kernel
theorem dX4_extract_51 : decode cX4_extract 51 = .ok (.aload_n 3, 1) := by decide +kernel
theorem dX4_extract_52 : decode cX4_extract 52 = .ok (.invokevirtual 28, 3) := by decide +kernel
theorem dX4_extract_55 : decode cX4_extract 55 = .ok (.iload_n 2, 1) := by decide +kernel
theorem dX4_extract_56 : decode cX4_extract 56 = .ok (.iconst 3, 1) := by decide +kernel
theorem dX4_extract_57 : decode cX4_extract 57 = .ok (.if_icmp .ne 12, 3) := by decide +kernel
theorem dX4_extract_60 : decode cX4_extract 60 = .ok (.aload_n 0, 1) := by decide +kernel
theorem dX4_extract_61 : decode cX4_extract 61 = .ok (.getfield 25, 3) := by decide +kernel
theorem dX4_extract_64 : decode cX4_extract 64 = .ok (.aload_n 3, 1) := by decide +kernel
theorem dX4_extract_65 : decode cX4_extract 65 = .ok (.aload_n 3, 1) := by decide +kernel
theorem dX4_extract_66 : decode cX4_extract 66 = .ok (.invokevirtual 105, 3) := by decide +kernel
theorem dX4_extract_69 : decode cX4_extract 69 = .ok (.aload_n 0, 1) := by decide +kernel
theorem dX4_extract_70 : decode cX4_extract 70 = .ok (.aload_n 1, 1) := by decide +kernel
theorem dX4_extract_71 : decode cX4_extract 71 = .ok (.aload_n 0, 1) := by decide +kernel
theorem dX4_extract_72 : decode cX4_extract 72 = .ok (.getfield 25, 3) := by decide +kernel
theorem dX4_extract_75 : decode cX4_extract 75 = .ok (.invokevirtual 109, 3) := by decide +kernel
theorem dX4_extract_78 : decode cX4_extract 78 = .ok (.aload_n 0, 1) := by decide +kernel
theorem dX4_extract_79 : decode cX4_extract 79 = .ok (.getfield 22, 3) := by decide +kernel
theorem dX4_extract_82 : decode cX4_extract 82 = .ok (.aload_n 3, 1) := by decide +kernel
theorem dX4_extract_83 : decode cX4_extract 83 = .ok (.invokevirtual 28, 3) := by decide +kernel
theorem dX4_extract_86 : decode cX4_extract 86 = .ok (.aload_n 0, 1) := by decide +kernel
theorem dX4_extract_87 : decode cX4_extract 87 = .ok (.getfield 22, 3) := by decide +kernel
theorem dX4_extract_90 : decode cX4_extract 90 = .ok (.iload_n 2, 1) := by decide +kernel
theorem dX4_extract_91 : decode cX4_extract 91 = .ok (.iconst 1, 1) := by decide +kernel
theorem dX4_extract_92 : decode cX4_extract 92 = .ok (.isub, 1) := by decide +kernel
theorem dX4_extract_93 : decode cX4_extract 93 = .ok (.i2l, 1) := by decide +kernel
theorem dX4_extract_94 : decode cX4_extract 94 = .ok (.lconst 0, 1) := by decide +kernel
theorem dX4_extract_95 : decode cX4_extract 95 = .ok (.invokevirtual 57, 3) := by decide +kernel
theorem dX4_extract_98 : decode cX4_extract 98 = .ok (.aload_n 0, 1) := by decide +kernel
theorem dX4_extract_99 : decode cX4_extract 99 = .ok (.getfield 22, 3) := by decide +kernel
theorem dX4_extract_102 : decode cX4_extract 102 = .ok (.aload_n 0, 1) := by decide +kernel
theorem dX4_extract_103 : decode cX4_extract 103 = .ok (.getfield 10, 3) := by decide +kernel
theorem dX4_extract_106 : decode cX4_extract 106 = .ok (.invokevirtual 112, 3) := by decide +kernel
theorem dX4_extract_109 : decode cX4_extract 109 = .ok (.aload_n 0, 1) := by decide +kernel
theorem dX4_extract_110 : decode cX4_extract 110 = .ok (.getfield 22, 3) := by decide +kernel
theorem dX4_extract_113 : decode cX4_extract 113 = .ok (.iload_n 2, 1) := by decide +kernel
theorem dX4_extract_114 : decode cX4_extract 114 = .ok (.i2l, 1) := by decide +kernel
theorem dX4_extract_115 : decode cX4_extract 115 = .ok (.invokevirtual 48, 3) := by decide +kernel
theorem dX4_extract_118 : decode cX4_extract 118 = .ok (.pop2, 1) := by decide +kernel
theorem dX4_extract_119 : decode cX4_extract 119 = .ok (.aload_n 0, 1) := by decide +kernel
theorem dX4_extract_120 : decode cX4_extract 120 = .ok (.getfield 22, 3) := by decide +kernel
theorem dX4_extract_123 : decode cX4_extract 123 = .ok (.aload_n 3, 1) := by decide +kernel
theorem dX4_extract_124 : decode cX4_extract 124 = .ok (.invokevirtual 40, 3) := by decide +kernel
theorem dX4_extract_127 : decode cX4_extract 127 = .ok (.ifCond .lt 4, 3) := by decide +kernel
theorem dX4_extract_130 : decode cX4_extract 130 = .ok (.return_, 1) := by decide +kernel
theorem dX4_extract_131 : decode cX4_extract 131 = .ok (.aload_n 3, 1) := by decide +kernel
theorem dX4_extract_132 : decode cX4_extract 132 = .ok (.aload_n 0, 1) := by decide +kernel
theorem dX4_extract_133 : decode cX4_extract 133 = .ok (.getfield 22, 3) := by decide +kernel
theorem dX4_extract_136 : decode cX4_extract 136 = .ok (.invokevirtual 28, 3) := by decide +kernel
theorem dX4_extract_139 : decode cX4_extract 139 = .ok (.iinc 4 1, 3) := by decide +kernel
theorem dX4_extract_142 : decode cX4_extract 142 = .ok (.goto (-102), 3) := by decide +kernel
theorem dX4_extract_145 : decode cX4_extract 145 = .ok (.return_, 1) := by decide +kernel
theorem dX5_init_0 : decode cX5_init 0 = .ok (.aload_n 0, 1) := by decide +kernel
theorem dX5_init_1 : decode cX5_init 1 = .ok (.invokespecial 1, 3) := by decide +kernel
theorem dX5_init_4 : decode cX5_init 4 = .ok (.aload_n 0, 1) := by decide +kernel
theorem dX5_init_5 : decode cX5_init 5 = .ok (.new 7, 3) := by decide +kernel
theorem dX5_init_8 : decode cX5_init 8 = .ok (.dup, 1) := by decide +kernel
theorem dX5_init_9 : decode cX5_init 9 = .ok (.invokespecial 9, 3) := by decide +kernel
theorem dX5_init_12 : decode cX5_init 12 = .ok (.putfield 10, 3) := by decide +kernel
theorem dX5_init_15 : decode cX5_init 15 = .ok (.aload_n 0, 1) := by decide +kernel
theorem dX5_init_16 : decode cX5_init 16 = .ok (.new 7, 3) := by decide +kernel
theorem dX5_init_19 : decode cX5_init 19 = .ok (.dup, 1) := by decide +kernel
theorem dX5_init_20 : decode cX5_init 20 = .ok (.invokespecial 9, 3) := by decide +kernel
theorem dX5_init_23 : decode cX5_init 23 = .ok (.putfield 16, 3) := by decide +kernel
theorem dX5_init_26 : decode cX5_init 26 = .ok (.aload_n 0, 1) := by decide +kernel
theorem dX5_init_27 : decode cX5_init 27 = .ok (.new 7, 3) := by decide +kernel
theorem dX5_init_30 : decode cX5_init 30 = .ok (.dup, 1) := by decide +kernel
theorem dX5_init_31 : decode cX5_init 31 = .ok (.invokespecial 9, 3) := by decide +kernel
theorem dX5_init_34 : decode cX5_init 34 = .ok (.putfield 19, 3) := by decide +kernel
theorem dX5_init_37 : decode cX5_init 37 = .ok (.aload_n 0, 1) := by decide +kernel
theorem dX5_init_38 : decode cX5_init 38 = .ok (.new 7, 3) := by decide +kernel
theorem dX5_init_41 : decode cX5_init 41 = .ok (.dup, 1) := by decide +kernel
theorem dX5_init_42 : decode cX5_init 42 = .ok (.invokespecial 9, 3) := by decide +kernel
theorem dX5_init_45 : decode cX5_init 45 = .ok (.putfield 22, 3) := by decide +kernel
theorem dX5_init_48 : decode cX5_init 48 = .ok (.aload_n 0, 1) := by decide +kernel
theorem dX5_init_49 : decode cX5_init 49 = .ok (.new 7, 3) := by decide +kernel
theorem dX5_init_52 : decode cX5_init 52 = .ok (.dup, 1) := by decide +kernel
theorem dX5_init_53 : decode cX5_init 53 = .ok (.invokespecial 9, 3) := by decide +kernel
theorem dX5_init_56 : decode cX5_init 56 = .ok (.putfield 25, 3) := by decide +kernel
theorem dX5_init_59 : decode cX5_init 59 = .ok (.aload_n 0, 1) := by decide +kernel
theorem dX5_init_60 : decode cX5_init 60 = .ok (.new 7, 3) := by decide +kernel
theorem dX5_init_63 : decode cX5_init 63 = .ok (.dup, 1) := by decide +kernel
theorem dX5_init_64 : decode cX5_init 64 = .ok (.invokespecial 9, 3) := by decide +kernel
theorem dX5_init_67 : decode cX5_init 67 = .ok (.putfield 28, 3) := by decide +kernel
theorem dX5_init_70 : decode cX5_init 70 = .ok (.aload_n 0, 1) := by decide +kernel
theorem dX5_init_71 : decode cX5_init 71 = .ok (.aload_n 1, 1) := by decide +kernel
theorem dX5_init_72 : decode cX5_init 72 = .ok (.putfield 31, 3) := by decide +kernel
theorem dX5_init_75 : decode cX5_init 75 = .ok (.return_, 1) := by decide +kernel
theorem dX5_term_0 : decode cX5_term 0 = .ok (.aload_n 3, 1) := by decide +kernel
theorem dX5_term_1 : decode cX5_term 1 = .ok (.getfield 35, 3) := by decide +kernel
theorem dX5_term_4 : decode cX5_term 4 = .ok (.bipush 13, 2) := by decide +kernel
theorem dX5_term_6 : decode cX5_term 6 = .ok (.if_icmp .le 5, 3) := by decide +kernel
theorem dX5_term_9 : decode cX5_term 9 = .ok (.iconst 0, 1) := by decide +kernel
theorem dX5_term_10 : decode cX5_term 10 = .ok (.ireturn, 1) := by decide +kernel
theorem dX5_term_11 : decode cX5_term 11 = .ok (.aload_n 3, 1) := by decide +kernel
theorem dX5_term_12 : decode cX5_term 12 = .ok (.getfield 35, 3) := by decide +kernel
theorem dX5_term_15 : decode cX5_term 15 = .ok (.ifCond .ne 11, 3) := by decide +kernel
theorem dX5_term_18 : decode cX5_term 18 = .ok (.aload 4, 2) := by decide +kernel
theorem dX5_term_20 : decode cX5_term 20 = .ok (.lconst 0, 1) := by decide +kernel
theorem dX5_term_21 : decode cX5_term 21 = .ok (.invokevirtual 39, 3) := by decide +kernel
theorem dX5_term_24 : decode cX5_term 24 = .ok (.iconst 1, 1) := by decide +kernel
theorem dX5_term_25 : decode cX5_term 25 = .ok (.ireturn, 1) := by decide +kernel
theorem dX5_term_26 : decode cX5_term 26 = .ok (.iload_n 1, 1) := by decide +kernel
theorem dX5_term_27 : decode cX5_term 27 = .ok (.ifCond .ne 13, 3) := by decide +kernel
theorem dX5_term_30 : decode cX5_term 30 = .ok (.aload 4, 2) := by decide +kernel
theorem dX5_term_32 : decode cX5_term 32 = .ok (.aload_n 3, 1) := by decide +kernel
theorem dX5_term_33 : decode cX5_term 33 = .ok (.aload_n 3, 1) := by decide +kernel
theorem dX5_term_34 : decode cX5_term 34 = .ok (.invokevirtual 43, 3) := by decide +kernel
theorem dX5_term_37 : decode cX5_term 37 = .ok (.goto 72, 3) := by decide +kernel
theorem dX5_term_40 : decode cX5_term 40 = .ok (.iload_n 1, 1) := by decide +kernel
theorem dX5_term_41 : decode cX5_term 41 = .ok (.iconst 3, 1) := by decide +kernel
theorem dX5_term_42 : decode cX5_term 42 = .ok (.if_icmp .ne 36, 3) := by decide +kernel
theorem dX5_term_45 : decode cX5_term 45 = .ok (.aload_n 0, 1) := by decide +kernel
theorem dX5_term_46 : decode cX5_term 46 = .ok (.aload_n 3, 1) := by decide +kernel
theorem dX5_term_47 : decode cX5_term 47 = .ok (.iload_n 2, 1) := by decide +kernel
theorem dX5_term_48 : decode cX5_term 48 = .ok (.iconst 2, 1) := by decide +kernel
theorem dX5_term_49 : decode cX5_term 49 = .ok (.isub, 1) := by decide +kernel
theorem dX5_term_50 : decode cX5_term 50 = .ok (.iload_n 2, 1) := by decide +kernel
theorem dX5_term_51 : decode cX5_term 51 = .ok (.iconst 4, 1) := by decide +kernel
theorem dX5_term_52 : decode cX5_term 52 = .ok (.isub, 1) := by decide +kernel
theorem dX5_term_53 : decode cX5_term 53 = .ok (.invokevirtual 47, 3) := by decide +kernel
theorem dX5_term_56 : decode cX5_term 56 = .ok (.aload 4, 2) := by decide +kernel
theorem dX5_term_58 : decode cX5_term 58 = .ok (.aload_n 3, 1) := by decide +kernel
theorem dX5_term_59 : decode cX5_term 59 = .ok (.aload_n 0, 1) := by decide +kernel
theorem dX5_term_60 : decode cX5_term 60 = .ok (.getfield 10, 3) := by decide +kernel
theorem dX5_term_63 : decode cX5_term 63 = .ok (.invokevirtual 43, 3) := by decide +kernel
theorem dX5_term_66 : decode cX5_term 66 = .ok (.aload 4, 2) := by decide +kernel
theorem dX5_term_68 : decode cX5_term 68 = .ok (.ldc2_w 51, 3) := by decide +kernel
theorem dX5_term_71 : decode cX5_term 71 = .ok (.invokevirtual 53, 3) := by decide +kernel
theorem dX5_term_74 : decode cX5_term 74 = .ok (.pop2, 1) := by decide +kernel
theorem dX5_term_75 : decode cX5_term 75 = .ok (.goto 34, 3) := by decide +kernel
theorem dX5_term_78 : decode cX5_term 78 = .ok (.aload_n 0, 1) := by decide +kernel
theorem dX5_term_79 : decode cX5_term 79 = .ok (.aload_n 3, 1) := by decide +kernel
theorem dX5_term_80 : decode cX5_term 80 = .ok (.iconst 1, 1) := by decide +kernel
theorem dX5_term_81 : decode cX5_term 81 = .ok (.iconst (-1), 1) := by decide +kernel
theorem dX5_term_82 : decode cX5_term 82 = .ok (.invokevirtual 47, 3) := by decide +kernel
theorem dX5_term_85 : decode cX5_term 85 = .ok (.aload 4, 2) := by decide +kernel
theorem dX5_term_87 : decode cX5_term 87 = .ok (.aload_n 3, 1) := by decide +kernel
theorem dX5_term_88 : decode cX5_term 88 = .ok (.aload_n 0, 1) := by decide +kernel
theorem dX5_term_89 : decode cX5_term 89 = .ok (.getfield 10, 3) := by decide +kernel
theorem dX5_term_92 : decode cX5_term 92 = .ok (.invokevirtual 43, 3) := by decide +kernel
theorem dX5_term_95 : decode cX5_term 95 = .ok (.iload_n 1, 1) := by decide +kernel
theorem dX5_term_96 : decode cX5_term 96 = .ok (.iconst 1, 1) := by decide +kernel
theorem dX5_term_97 : decode cX5_term 97 = .ok (.if_icmp .ne 12, 3) := by decide +kernel
theorem dX5_term_100 : decode cX5_term 100 = .ok (.aload 4, 2) := by decide +kernel
theorem dX5_term_102 : decode cX5_term 102 = .ok (.ldc2_w 51, 3) := by decide +kernel
theorem dX5_term_105 : decode cX5_term 105 = .ok (.invokevirtual 53, 3) := by decide +kernel
theorem dX5_term_108 : decode cX5_term 108 = .ok (.pop2, 1) := by decide +kernel
theorem dX5_term_109 : decode cX5_term 109 = .ok (.iload_n 1, 1) := by decide +kernel
theorem dX5_term_110 : decode cX5_term 110 = .ok (.iconst 4, 1) := by decide +kernel
theorem dX5_term_111 : decode cX5_term 111 = .ok (.if_icmp .ne 45, 3) := by decide +kernel
theorem dX5_term_114 : decode cX5_term 114 = .ok (.aload_n 0, 1) := by decide +kernel
theorem dX5_term_115 : decode cX5_term 115 = .ok (.getfield 19, 3) := by decide +kernel
theorem dX5_term_118 : decode cX5_term 118 = .ok (.aload 4, 2) := by decide +kernel
theorem dX5_term_120 : decode cX5_term 120 = .ok (.invokevirtual 57, 3) := by decide +kernel
theorem dX5_term_123 : decode cX5_term 123 = .ok (.aload_n 0, 1) := by decide +kernel
theorem dX5_term_124 : decode cX5_term 124 = .ok (.aload_n 3, 1) := by decide +kernel
theorem dX5_term_125 : decode cX5_term 125 = .ok (.iload_n 2, 1) := by decide +kernel
theorem dX5_term_126 : decode cX5_term 126 = .ok (.iconst 2, 1) := by decide +kernel
theorem dX5_term_127 : decode cX5_term 127 = .ok (.isub, 1) := by decide +kernel
theorem dX5_term_128 : decode cX5_term 128 = .ok (.iload_n 2, 1) := by decide +kernel
theorem dX5_term_129 : decode cX5_term 129 = .ok (.iconst 5, 1) := by decide +kernel
theorem dX5_term_130 : decode cX5_term 130 = .ok (.isub, 1) := by decide +kernel
theorem dX5_term_131 : decode cX5_term 131 = .ok (.invokevirtual 47, 3) := by decide +kernel
theorem dX5_term_134 : decode cX5_term 134 = .ok (.aload 4, 2) := by decide +kernel
theorem dX5_term_136 : decode cX5_term 136 = .ok (.aload_n 0, 1) := by decide +kernel
theorem dX5_term_137 : decode cX5_term 137 = .ok (.getfield 19, 3) := by decide +kernel
theorem dX5_term_140 : decode cX5_term 140 = .ok (.aload_n 0, 1) := by decide +kernel
theorem dX5_term_141 : decode cX5_term 141 = .ok (.getfield 10, 3) := by decide +kernel
theorem dX5_term_144 : decode cX5_term 144 = .ok (.invokevirtual 43, 3) := by decide +kernel
theorem dX5_term_147 : decode cX5_term 147 = .ok (.aload 4, 2) := by decide +kernel
theorem dX5_term_149 : decode cX5_term 149 = .ok (.ldc2_w 61, 3) := by decide +kernel
theorem dX5_term_152 : decode cX5_term 152 = .ok (.invokevirtual 53, 3) := by decide +kernel
theorem dX5_term_155 : decode cX5_term 155 = .ok (.pop2, 1) := by decide +kernel
theorem dX5_term_156 : decode cX5_term 156 = .ok (.aload 4, 2) := by decide +kernel
theorem dX5_term_158 : decode cX5_term 158 = .ok (.getfield 35, 3) := by decide +kernel
theorem dX5_term_161 : decode cX5_term 161 = .ok (.bipush 24, 2) := by decide +kernel
theorem dX5_term_163 : decode cX5_term 163 = .ok (.if_icmp .gt 7, 3) := by decide +kernel
theorem dX5_term_166 : decode cX5_term 166 = .ok (.iconst 1, 1) := by decide +kernel
theorem dX5_term_167 : decode cX5_term 167 = .ok (.goto 4, 3) := by decide +kernel
theorem dX5_term_170 : decode cX5_term 170 = .ok (.iconst 0, 1) := by decide +kernel
theorem dX5_term_171 : decode cX5_term 171 = .ok (.ireturn, 1) := by decide +kernel
theorem dX5_setFactor_0 : decode cX5_setFactor 0 = .ok (.aload_n 0, 1) := by decide +kernel
theorem dX5_setFactor_1 : decode cX5_setFactor 1 = .ok (.getfield 10, 3) := by decide +kernel
theorem dX5_setFactor_4 : decode cX5_setFactor 4 = .ok (.aload_n 1, 1) := by decide +kernel
theorem dX5_setFactor_5 : decode cX5_setFactor 5 = .ok (.invokevirtual 57, 3) := by decide +kernel
theorem dX5_setFactor_8 : decode cX5_setFactor 8 = .ok (.aload_n 0, 1) := by decide +kernel
theorem dX5_setFactor_9 : decode cX5_setFactor 9 = .ok (.getfield 10, 3) := by decide +kernel
theorem dX5_setFactor_12 : decode cX5_setFactor 12 = .ok (.iload_n 2, 1) := by decide +kernel
theorem dX5_setFactor_13 : decode cX5_setFactor 13 = .ok (.i2l, 1) := by decide +kernel
theorem dX5_setFactor_14 : decode cX5_setFactor 14 = .ok (.lconst 0, 1) := by decide +kernel
theorem dX5_setFactor_15 : decode cX5_setFactor 15 = .ok (.invokevirtual 65, 3) := by decide +kernel
theorem dX5_setFactor_18 : decode cX5_setFactor 18 = .ok (.aload_n 0, 1) := by decide +kernel
theorem dX5_setFactor_19 : decode cX5_setFactor 19 = .ok (.getfield 16, 3) := by decide +kernel
theorem dX5_setFactor_22 : decode cX5_setFactor 22 = .ok (.iload_n 3, 1) := by decide +kernel
theorem dX5_setFactor_23 : decode cX5_setFactor 23 = .ok (.invokestatic 69, 3) := by decide +kernel
theorem dX5_setFactor_26 : decode cX5_setFactor 26 = .ok (.i2l, 1) := by decide +kernel
theorem dX5_setFactor_27 : decode cX5_setFactor 27 = .ok (.invokevirtual 39, 3) := by decide +kernel
theorem dX5_setFactor_30 : decode cX5_setFactor 30 = .ok (.iload_n 3, 1) := by decide +kernel
theorem dX5_setFactor_31 : decode cX5_setFactor 31 = .ok (.ifCond .ge 17, 3) := by decide +kernel
theorem dX5_setFactor_34 : decode cX5_setFactor 34 = .ok (.aload_n 0, 1) := by decide +kernel
theorem dX5_setFactor_35 : decode cX5_setFactor 35 = .ok (.getfield 10, 3) := by decide +kernel
theorem dX5_setFactor_38 : decode cX5_setFactor 38 = .ok (.aload_n 0, 1) := by decide +kernel
theorem dX5_setFactor_39 : decode cX5_setFactor 39 = .ok (.getfield 16, 3) := by decide +kernel
theorem dX5_setFactor_42 : decode cX5_setFactor 42 = .ok (.invokevirtual 75, 3) := by decide +kernel
theorem dX5_setFactor_45 : decode cX5_setFactor 45 = .ok (.goto 14, 3) := by decide +kernel
theorem dX5_setFactor_48 : decode cX5_setFactor 48 = .ok (.aload_n 0, 1) := by decide +kernel
theorem dX5_setFactor_49 : decode cX5_setFactor 49 = .ok (.getfield 10, 3) := by decide +kernel
theorem dX5_setFactor_52 : decode cX5_setFactor 52 = .ok (.aload_n 0, 1) := by decide +kernel
theorem dX5_setFactor_53 : decode cX5_setFactor 53 = .ok (.getfield 16, 3) := by decide +kernel
theorem dX5_setFactor_56 : decode cX5_setFactor 56 = .ok (.invokevirtual 78, 3) := by decide +kernel
theorem dX5_setFactor_59 : decode cX5_setFactor 59 = .ok (.return_, 1) := by decide +kernel
theorem dX5_find_0 : decode cX5_find 0 = .ok (.aload_n 0, 1) := by decide +kernel
theorem dX5_find_1 : decode cX5_find 1 = .ok (.getfield 22, 3) := by decide +kernel
theorem dX5_find_4 : decode cX5_find 4 = .ok (.aload_n 3, 1) := by decide +kernel
theorem dX5_find_5 : decode cX5_find 5 = .ok (.invokevirtual 57, 3) := by decide +kernel
theorem dX5_find_8 : decode cX5_find 8 = .ok (.iload_n 1, 1) := by decide +kernel
theorem dX5_find_9 : decode cX5_find 9 = .ok (.iconst 1, 1) := by decide +kernel
theorem dX5_find_10 : decode cX5_find 10 = .ok (.if_icmp .ne 17, 3) := by decide +kernel
theorem dX5_find_13 : decode cX5_find 13 = .ok (.aload_n 0, 1) := by decide +kernel
theorem dX5_find_14 : decode cX5_find 14 = .ok (.getfield 22, 3) := by decide +kernel
theorem dX5_find_17 : decode cX5_find 17 = .ok (.ldc2_w 51, 3) := by decide +kernel
theorem dX5_find_20 : decode cX5_find 20 = .ok (.lconst 0, 1) := by decide +kernel
theorem dX5_find_21 : decode cX5_find 21 = .ok (.invokevirtual 65, 3) := by decide +kernel
theorem dX5_find_24 : decode cX5_find 24 = .ok (.goto 62, 3) := by decide +kernel
theorem dX5_find_27 : decode cX5_find 27 = .ok (.iload_n 1, 1) := by decide +kernel
theorem dX5_find_28 : decode cX5_find 28 = .ok (.iconst 3, 1) := by decide +kernel
theorem dX5_find_29 : decode cX5_find 29 = .ok (.if_icmp .ne 29, 3) := by decide +kernel
theorem dX5_find_32 : decode cX5_find 32 = .ok (.aload_n 0, 1) := by decide +kernel
theorem dX5_find_33 : decode cX5_find 33 = .ok (.getfield 22, 3) := by decide +kernel
theorem dX5_find_36 : decode cX5_find 36 = .ok (.ldc2_w 51, 3) := by decide +kernel
theorem dX5_find_39 : decode cX5_find 39 = .ok (.lconst 0, 1) := by decide +kernel
theorem dX5_find_40 : decode cX5_find 40 = .ok (.invokevirtual 65, 3) := by decide +kernel
theorem dX5_find_43 : decode cX5_find 43 = .ok (.aload_n 0, 1) := by decide +kernel
theorem dX5_find_44 : decode cX5_find 44 = .ok (.getfield 22, 3) := by decide +kernel
theorem dX5_find_47 : decode cX5_find 47 = .ok (.iload_n 2, 1) := by decide +kernel
theorem dX5_find_48 : decode cX5_find 48 = .ok (.iconst 2, 1) := by decide +kernel
theorem dX5_find_49 : decode cX5_find 49 = .ok (.isub, 1) := by decide +kernel
theorem dX5_find_50 : decode cX5_find 50 = .ok (.i2l, 1) := by decide +kernel
theorem dX5_find_51 : decode cX5_find 51 = .ok (.invokevirtual 53, 3) := by decide +kernel
theorem dX5_find_54 : decode cX5_find 54 = .ok (.pop2, 1) := by decide +kernel
theorem dX5_find_55 : decode cX5_find 55 = .ok (.goto 31, 3) := by decide +kernel
theorem dX5_find_58 : decode cX5_find 58 = .ok (.iload_n 1, 1) := by decide +kernel
theorem dX5_find_59 : decode cX5_find 59 = .ok (.iconst 4, 1) := by decide +kernel
theorem dX5_find_60 : decode cX5_find 60 = .ok (.if_icmp .ne 26, 3) := by decide +kernel
theorem dX5_find_63 : decode cX5_find 63 = .ok (.aload_n 0, 1) := by decide +kernel
theorem dX5_find_64 : decode cX5_find 64 = .ok (.getfield 22, 3) := by decide +kernel
theorem dX5_find_67 : decode cX5_find 67 = .ok (.ldc2_w 61, 3) := by decide +kernel
theorem dX5_find_70 : decode cX5_find 70 = .ok (.lconst 0, 1) := by decide +kernel
theorem dX5_find_71 : decode cX5_find 71 = .ok (.invokevirtual 65, 3) := by decide +kernel
theorem dX5_find_74 : decode cX5_find 74 = .ok (.aload_n 0, 1) := by decide +kernel
theorem dX5_find_75 : decode cX5_find 75 = .ok (.getfield 22, 3) := by decide +kernel
theorem dX5_find_78 : decode cX5_find 78 = .ok (.iload_n 2, 1) := by decide +kernel
theorem dX5_find_79 : decode cX5_find 79 = .ok (.iconst 2, 1) := by decide +kernel
theorem dX5_find_80 : decode cX5_find 80 = .ok (.isub, 1) := by decide +kernel
theorem dX5_find_81 : decode cX5_find 81 = .ok (.i2l, 1) := by decide +kernel
theorem dX5_find_82 : decode cX5_find 82 = .ok (.invokevirtual 53, 3) := by decide +kernel
theorem dX5_find_85 : decode cX5_find 85 = .ok (.pop2, 1) := by decide +kernel
theorem dX5_find_86 : decode cX5_find 86 = .ok (.aload_n 0, 1) := by decide +kernel
theorem dX5_find_87 : decode cX5_find 87 = .ok (.getfield 31, 3) := by decide +kernel
theorem dX5_find_90 : decode cX5_find 90 = .ok (.aload_n 0, 1) := by decide +kernel
theorem dX5_find_91 : decode cX5_find 91 = .ok (.getfield 22, 3) := by decide +kernel
theorem dX5_find_94 : decode cX5_find 94 = .ok (.iload_n 1, 1) := by decide +kernel
theorem dX5_find_95 : decode cX5_find 95 = .ok (.iconst 4, 1) := by decide +kernel
theorem dX5_find_96 : decode cX5_find 96 = .ok (.if_icmp .ne 7, 3) := by decide +kernel
theorem dX5_find_99 : decode cX5_find 99 = .ok (.iconst 3, 1) := by decide +kernel
theorem dX5_find_100 : decode cX5_find 100 = .ok (.goto 4, 3) := by decide +kernel
theorem dX5_find_103 : decode cX5_find 103 = .ok (.iconst 2, 1) := by decide +kernel
theorem dX5_find_104 : decode cX5_find 104 = .ok (.aload_n 0, 1) := by decide +kernel
theorem dX5_find_105 : decode cX5_find 105 = .ok (.getfield 25, 3) := by decide +kernel
theorem dX5_find_108 : decode cX5_find 108 = .ok (.invokevirtual 81, 3) := by decide +kernel
theorem dX5_find_111 : decode cX5_find 111 = .ok (.iconst 0, 1) := by decide +kernel
theorem dX5_find_112 : decode cX5_find 112 = .ok (.istore 5, 2) := by decide +kernel
theorem dX5_find_114 : decode cX5_find 114 = .ok (.iload 5, 2) := by decide +kernel
theorem dX5_find_116 : decode cX5_find 116 = .ok (.iconst 2, 1) := by decide +kernel
theorem dX5_find_117 : decode cX5_find 117 = .ok (.if_icmp .ge 67, 3) := by decide +kernel
theorem dX5_find_120 : decode cX5_find 120 = .ok (.aload_n 0, 1) := by decide +kernel
theorem dX5_find_121 : decode cX5_find 121 = .ok (.iload_n 1, 1) := by decide +kernel
theorem dX5_find_122 : decode cX5_find 122 = .ok (.iload_n 2, 1) := by decide +kernel
theorem dX5_find_123 : decode cX5_find 123 = .ok (.aload_n 0, 1) := by decide +kernel
theorem dX5_find_124 : decode cX5_find 124 = .ok (.getfield 25, 3) := by decide +kernel
theorem dX5_find_127 : decode cX5_find 127 = .ok (.aload_n 0, 1) := by decide +kernel
theorem dX5_find_128 : decode cX5_find 128 = .ok (.getfield 28, 3) := by decide +kernel
theorem dX5_find_131 : decode cX5_find 131 = .ok (.invokevirtual 87, 3) := by decide +kernel
theorem dX5_find_134 : decode cX5_find 134 = .ok (.ifCond .eq 25, 3) := by decide +kernel
theorem dX5_find_137 : decode cX5_find 137 = .ok (.aload_n 0, 1) := by decide +kernel
theorem dX5_find_138 : decode cX5_find 138 = .ok (.getfield 28, 3) := by decide +kernel
theorem dX5_find_141 : decode cX5_find 141 = .ok (.aload_n 3, 1) := by decide +kernel
theorem dX5_find_142 : decode cX5_find 142 = .ok (.invokevirtual 91, 3) := by decide +kernel
theorem dX5_find_145 : decode cX5_find 145 = .ok (.ifCond .ne 14, 3) := by decide +kernel
theorem dX5_find_148 : decode cX5_find 148 = .ok (.aload 4, 2) := by decide +kernel
theorem dX5_find_150 : decode cX5_find 150 = .ok (.aload_n 0, 1) := by decide +kernel
theorem dX5_find_151 : decode cX5_find 151 = .ok (.getfield 25, 3) := by decide +kernel
theorem dX5_find_154 : decode cX5_find 154 = .ok (.invokevirtual 57, 3) := by decide +kernel
theorem dX5_find_157 : decode cX5_find 157 = .ok (.iconst 1, 1) := by decide +kernel
theorem dX5_find_158 : decode cX5_find 158 = .ok (.ireturn, 1) := by decide +kernel
theorem dX5_find_159 : decode cX5_find 159 = .ok (.aload_n 0, 1) := by decide +kernel
theorem dX5_find_160 : decode cX5_find 160 = .ok (.getfield 16, 3) := by decide +kernel
theorem dX5_find_163 : decode cX5_find 163 = .ok (.lconst 1, 1) := by decide +kernel
theorem dX5_find_164 : decode cX5_find 164 = .ok (.invokevirtual 39, 3) := by decide +kernel
theorem dX5_find_167 : decode cX5_find 167 = .ok (.aload_n 0, 1) := by decide +kernel
theorem dX5_find_168 : decode cX5_find 168 = .ok (.getfield 25, 3) := by decide +kernel
theorem dX5_find_171 : decode cX5_find 171 = .ok (.aload_n 0, 1) := by decide +kernel
theorem dX5_find_172 : decode cX5_find 172 = .ok (.getfield 16, 3) := by decide +kernel
theorem dX5_find_175 : decode cX5_find 175 = .ok (.invokevirtual 75, 3) := by decide +kernel
theorem dX5_find_178 : decode cX5_find 178 = .ok (.iinc 5 1, 3) := by decide +kernel
theorem dX5_find_181 : decode cX5_find 181 = .ok (.goto (-67), 3) := by decide +kernel
theorem dX5_find_184 : decode cX5_find 184 = .ok (.iconst 0, 1) := by decide +kernel
theorem dX5_find_185 : decode cX5_find 185 = .ok (.ireturn, 1) := by decide +kernel
theorem dX6_init_0 : decode cX6_init 0 = .ok (.aload_n 0, 1) := by decide +kernel
theorem dX6_init_1 : decode cX6_init 1 = .ok (.invokespecial 3, 3) := by decide +kernel
theorem dX6_init_4 : decode cX6_init 4 = .ok (.aload_n 0, 1) := by decide +kernel
theorem dX6_init_5 : decode cX6_init 5 = .ok (.bipush 24, 2) := by decide +kernel
theorem dX6_init_7 : decode cX6_init 7 = .ok (.newarray .long, 2) := by decide +kernel
theorem dX6_init_9 : decode cX6_init 9 = .ok (.putfield 11, 3) := by decide +kernel
theorem dX6_init_12 : decode cX6_init 12 = .ok (.aload_n 0, 1) := by decide +kernel
theorem dX6_init_13 : decode cX6_init 13 = .ok (.iconst (-1), 1) := by decide +kernel
theorem dX6_init_14 : decode cX6_init 14 = .ok (.putfield 15, 3) := by decide +kernel
theorem dX6_init_17 : decode cX6_init 17 = .ok (.return_, 1) := by decide +kernel
theorem dX6_begin_0 : decode cX6_begin 0 = .ok (.iconst 0, 1) := by decide +kernel
theorem dX6_begin_1 : decode cX6_begin 1 = .ok (.istore_n 3, 1) := by decide +kernel
theorem dX6_begin_2 : decode cX6_begin 2 = .ok (.iload_n 3, 1) := by decide +kernel
theorem dX6_begin_3 : decode cX6_begin 3 = .ok (.bipush 24, 2) := by decide +kernel
theorem dX6_begin_5 : decode cX6_begin 5 = .ok (.if_icmp .ge 16, 3) := by decide +kernel
theorem dX6_begin_8 : decode cX6_begin 8 = .ok (.aload_n 0, 1) := by decide +kernel
theorem dX6_begin_9 : decode cX6_begin 9 = .ok (.getfield 11, 3) := by decide +kernel
theorem dX6_begin_12 : decode cX6_begin 12 = .ok (.iload_n 3, 1) := by decide +kernel
theorem dX6_begin_13 : decode cX6_begin 13 = .ok (.lconst 0, 1) := by decide +kernel
theorem dX6_begin_14 : decode cX6_begin 14 = .ok (.lastore, 1) := by decide +kernel
theorem dX6_begin_15 : decode cX6_begin 15 = .ok (.iinc 3 1, 3) := by decide +kernel
theorem dX6_begin_18 : decode cX6_begin 18 = .ok (.goto (-16), 3) := by decide +kernel
theorem dX6_begin_21 : decode cX6_begin 21 = .ok (.aload_n 0, 1) := by decide +kernel
theorem dX6_begin_22 : decode cX6_begin 22 = .ok (.iload_n 1, 1) := by decide +kernel
theorem dX6_begin_23 : decode cX6_begin 23 = .ok (.putfield 19, 3) := by decide +kernel
theorem dX6_begin_26 : decode cX6_begin 26 = .ok (.aload_n 0, 1) := by decide +kernel
theorem dX6_begin_27 : decode cX6_begin 27 = .ok (.iload_n 2, 1) := by decide +kernel
theorem dX6_begin_28 : decode cX6_begin 28 = .ok (.putfield 15, 3) := by decide +kernel
theorem dX6_begin_31 : decode cX6_begin 31 = .ok (.return_, 1) := by decide +kernel
theorem dX6_fault_0 : decode cX6_fault 0 = .ok (.aload_n 0, 1) := by decide +kernel
theorem dX6_fault_1 : decode cX6_fault 1 = .ok (.getfield 15, 3) := by decide +kernel
theorem dX6_fault_4 : decode cX6_fault 4 = .ok (.ifCond .ge 6, 3) := by decide +kernel
theorem dX6_fault_7 : decode cX6_fault 7 = .ok (.bipush (-11), 2) := by decide +kernel
theorem dX6_fault_9 : decode cX6_fault 9 = .ok (.ireturn, 1) := by decide +kernel
theorem dX6_fault_10 : decode cX6_fault 10 = .ok (.iload_n 1, 1) := by decide +kernel
theorem dX6_fault_11 : decode cX6_fault 11 = .ok (.aload_n 0, 1) := by decide +kernel
theorem dX6_fault_12 : decode cX6_fault 12 = .ok (.getfield 19, 3) := by decide +kernel
theorem dX6_fault_15 : decode cX6_fault 15 = .ok (.if_icmp .eq 6, 3) := by decide +kernel
theorem dX6_fault_18 : decode cX6_fault 18 = .ok (.bipush (-12), 2) := by decide +kernel
theorem dX6_fault_20 : decode cX6_fault 20 = .ok (.ireturn, 1) := by decide +kernel
theorem dX6_fault_21 : decode cX6_fault 21 = .ok (.iload_n 2, 1) := by decide +kernel
theorem dX6_fault_22 : decode cX6_fault 22 = .ok (.ifCond .lt 13, 3) := by decide +kernel
theorem dX6_fault_25 : decode cX6_fault 25 = .ok (.iload_n 2, 1) := by decide +kernel
theorem dX6_fault_26 : decode cX6_fault 26 = .ok (.aload_n 0, 1) := by decide +kernel
theorem dX6_fault_27 : decode cX6_fault 27 = .ok (.getfield 15, 3) := by decide +kernel
theorem dX6_fault_30 : decode cX6_fault 30 = .ok (.iload_n 3, 1) := by decide +kernel
theorem dX6_fault_31 : decode cX6_fault 31 = .ok (.isub, 1) := by decide +kernel
theorem dX6_fault_32 : decode cX6_fault 32 = .ok (.if_icmp .le 8, 3) := by decide +kernel
theorem dX6_fault_35 : decode cX6_fault 35 = .ok (.bipush (-13), 2) := by decide +kernel
theorem dX6_fault_37 : decode cX6_fault 37 = .ok (.goto 4, 3) := by decide +kernel
theorem dX6_fault_40 : decode cX6_fault 40 = .ok (.iconst 0, 1) := by decide +kernel
theorem dX6_fault_41 : decode cX6_fault 41 = .ok (.ireturn, 1) := by decide +kernel
theorem dX6_itemAt_0 : decode cX6_itemAt 0 = .ok (.iload_n 1, 1) := by decide +kernel
theorem dX6_itemAt_1 : decode cX6_itemAt 1 = .ok (.ifCond .lt 18, 3) := by decide +kernel
theorem dX6_itemAt_4 : decode cX6_itemAt 4 = .ok (.iload_n 1, 1) := by decide +kernel
theorem dX6_itemAt_5 : decode cX6_itemAt 5 = .ok (.bipush 24, 2) := by decide +kernel
theorem dX6_itemAt_7 : decode cX6_itemAt 7 = .ok (.if_icmp .ge 12, 3) := by decide +kernel
theorem dX6_itemAt_10 : decode cX6_itemAt 10 = .ok (.aload_n 0, 1) := by decide +kernel
theorem dX6_itemAt_11 : decode cX6_itemAt 11 = .ok (.getfield 11, 3) := by decide +kernel
theorem dX6_itemAt_14 : decode cX6_itemAt 14 = .ok (.iload_n 1, 1) := by decide +kernel
theorem dX6_itemAt_15 : decode cX6_itemAt 15 = .ok (.laload, 1) := by decide +kernel
theorem dX6_itemAt_16 : decode cX6_itemAt 16 = .ok (.goto 4, 3) := by decide +kernel
theorem dX6_itemAt_19 : decode cX6_itemAt 19 = .ok (.lconst 0, 1) := by decide +kernel
theorem dX6_itemAt_20 : decode cX6_itemAt 20 = .ok (.lreturn, 1) := by decide +kernel
theorem dX6_write_0 : decode cX6_write 0 = .ok (.iload_n 1, 1) := by decide +kernel
theorem dX6_write_1 : decode cX6_write 1 = .ok (.ifCond .lt 44, 3) := by decide +kernel
theorem dX6_write_4 : decode cX6_write 4 = .ok (.iload_n 1, 1) := by decide +kernel
theorem dX6_write_5 : decode cX6_write 5 = .ok (.bipush 24, 2) := by decide +kernel
theorem dX6_write_7 : decode cX6_write 7 = .ok (.if_icmp .ge 38, 3) := by decide +kernel
theorem dX6_write_10 : decode cX6_write 10 = .ok (.aload_n 0, 1) := by decide +kernel
theorem dX6_write_11 : decode cX6_write 11 = .ok (.getfield 11, 3) := by decide +kernel
theorem dX6_write_14 : decode cX6_write 14 = .ok (.iload_n 1, 1) := by decide +kernel
theorem dX6_write_15 : decode cX6_write 15 = .ok (.aload_n 0, 1) := by decide +kernel
theorem dX6_write_16 : decode cX6_write 16 = .ok (.getfield 19, 3) := by decide +kernel
theorem dX6_write_19 : decode cX6_write 19 = .ok (.ifCond .ne 10, 3) := by decide +kernel
theorem dX6_write_22 : decode cX6_write 22 = .ok (.lload_n 2, 1) := by decide +kernel
theorem dX6_write_23 : decode cX6_write 23 = .ok (.l2i, 1) := by decide +kernel
theorem dX6_write_24 : decode cX6_write 24 = .ok (.i2s, 1) := by decide +kernel
theorem dX6_write_25 : decode cX6_write 25 = .ok (.i2l, 1) := by decide +kernel
theorem dX6_write_26 : decode cX6_write 26 = .ok (.goto 18, 3) := by decide +kernel
theorem dX6_write_29 : decode cX6_write 29 = .ok (.aload_n 0, 1) := by decide +kernel
theorem dX6_write_30 : decode cX6_write 30 = .ok (.getfield 19, 3) := by decide +kernel
theorem dX6_write_33 : decode cX6_write 33 = .ok (.iconst 1, 1) := by decide +kernel
theorem dX6_write_34 : decode cX6_write 34 = .ok (.if_icmp .ne 9, 3) := by decide +kernel
theorem dX6_write_37 : decode cX6_write 37 = .ok (.lload_n 2, 1) := by decide +kernel
theorem dX6_write_38 : decode cX6_write 38 = .ok (.l2i, 1) := by decide +kernel
theorem dX6_write_39 : decode cX6_write 39 = .ok (.i2l, 1) := by decide +kernel
theorem dX6_write_40 : decode cX6_write 40 = .ok (.goto 4, 3) := by decide +kernel
theorem dX6_write_43 : decode cX6_write 43 = .ok (.lload_n 2, 1) := by decide +kernel
theorem dX6_write_44 : decode cX6_write 44 = .ok (.lastore, 1) := by decide +kernel
theorem dX6_write_45 : decode cX6_write 45 = .ok (.return_, 1) := by decide +kernel
theorem dX7_init_0 : decode cX7_init 0 = .ok (.aload_n 0, 1) := by decide +kernel
theorem dX7_init_1 : decode cX7_init 1 = .ok (.invokespecial 1, 3) := by decide +kernel
theorem dX7_init_4 : decode cX7_init 4 = .ok (.aload_n 0, 1) := by decide +kernel
theorem dX7_init_5 : decode cX7_init 5 = .ok (.bipush 100, 2) := by decide +kernel
theorem dX7_init_7 : decode cX7_init 7 = .ok (.newarray .int, 2) := by decide +kernel
theorem dX7_init_9 : decode cX7_init 9 = .ok (.putfield 9, 3) := by decide +kernel
theorem dX7_init_12 : decode cX7_init 12 = .ok (.return_, 1) := by decide +kernel
theorem dX7_allTypable_0 : decode cX7_allTypable 0 = .ok (.iconst 0, 1) := by decide +kernel
theorem dX7_allTypable_1 : decode cX7_allTypable 1 = .ok (.istore_n 3, 1) := by decide +kernel
theorem dX7_allTypable_2 : decode cX7_allTypable 2 = .ok (.iload_n 3, 1) := by decide +kernel
theorem dX7_allTypable_3 : decode cX7_allTypable 3 = .ok (.iload_n 2, 1) := by decide +kernel
theorem dX7_allTypable_4 : decode cX7_allTypable 4 = .ok (.if_icmp .ge 41, 3) := by decide +kernel
theorem dX7_allTypable_7 : decode cX7_allTypable 7 = .ok (.lload_n 0, 1) := by decide +kernel
theorem dX7_allTypable_8 : decode cX7_allTypable 8 = .ok (.bipush 8, 2) := by decide +kernel
theorem dX7_allTypable_10 : decode cX7_allTypable 10 = .ok (.iload_n 3, 1) := by decide +kernel
theorem dX7_allTypable_11 : decode cX7_allTypable 11 = .ok (.imul, 1) := by decide +kernel
theorem dX7_allTypable_12 : decode cX7_allTypable 12 = .ok (.lshr, 1) := by decide +kernel
theorem dX7_allTypable_13 : decode cX7_allTypable 13 = .ok (.ldc2_w 13, 3) := by decide +kernel
theorem dX7_allTypable_16 : decode cX7_allTypable 16 = .ok (.land, 1) := by decide +kernel
theorem dX7_allTypable_17 : decode cX7_allTypable 17 = .ok (.lstore 4, 2) := by decide +kernel
theorem dX7_allTypable_19 : decode cX7_allTypable 19 = .ok (.lload 4, 2) := by decide +kernel
theorem dX7_allTypable_21 : decode cX7_allTypable 21 = .ok (.ldc2_w 15, 3) := by decide +kernel
theorem dX7_allTypable_24 : decode cX7_allTypable 24 = .ok (.lcmp, 1) := by decide +kernel
theorem dX7_allTypable_25 : decode cX7_allTypable 25 = .ok (.ifCond .lt 12, 3) := by decide +kernel
theorem dX7_allTypable_28 : decode cX7_allTypable 28 = .ok (.lload 4, 2) := by decide +kernel
theorem dX7_allTypable_30 : decode cX7_allTypable 30 = .ok (.ldc2_w 17, 3) := by decide +kernel
theorem dX7_allTypable_33 : decode cX7_allTypable 33 = .ok (.lcmp, 1) := by decide +kernel
theorem dX7_allTypable_34 : decode cX7_allTypable 34 = .ok (.ifCond .le 5, 3) := by decide +kernel
theorem dX7_allTypable_37 : decode cX7_allTypable 37 = .ok (.iconst 0, 1) := by decide +kernel
theorem dX7_allTypable_38 : decode cX7_allTypable 38 = .ok (.ireturn, 1) := by decide +kernel
theorem dX7_allTypable_39 : decode cX7_allTypable 39 = .ok (.iinc 3 1, 3) := by decide +kernel
theorem dX7_allTypable_42 : decode cX7_allTypable 42 = .ok (.goto (-40), 3) := by decide +kernel
theorem dX7_allTypable_45 : decode cX7_allTypable 45 = .ok (.iconst 1, 1) := by decide +kernel
theorem dX7_allTypable_46 : decode cX7_allTypable 46 = .ok (.ireturn, 1) := by decide +kernel
theorem dX7_append_0 : decode cX7_append 0 = .ok (.iload_n 3, 1) := by decide +kernel
theorem dX7_append_1 : decode cX7_append 1 = .ok (.iconst 1, 1) := by decide +kernel
theorem dX7_append_2 : decode cX7_append 2 = .ok (.isub, 1) := by decide +kernel
theorem dX7_append_3 : decode cX7_append 3 = .ok (.istore 4, 2) := by decide +kernel
theorem dX7_append_5 : decode cX7_append 5 = .ok (.iload 4, 2) := by decide +kernel
theorem dX7_append_7 : decode cX7_append 7 = .ok (.ifCond .lt 49, 3) := by decide +kernel
theorem dX7_append_10 : decode cX7_append 10 = .ok (.aload_n 0, 1) := by decide +kernel
theorem dX7_append_11 : decode cX7_append 11 = .ok (.getfield 19, 3) := by decide +kernel
theorem dX7_append_14 : decode cX7_append 14 = .ok (.bipush 100, 2) := by decide +kernel
theorem dX7_append_16 : decode cX7_append 16 = .ok (.if_icmp .ge 40, 3) := by decide +kernel
theorem dX7_append_19 : decode cX7_append 19 = .ok (.aload_n 0, 1) := by decide +kernel
theorem dX7_append_20 : decode cX7_append 20 = .ok (.getfield 9, 3) := by decide +kernel
theorem dX7_append_23 : decode cX7_append 23 = .ok (.aload_n 0, 1) := by decide +kernel
theorem dX7_append_24 : decode cX7_append 24 = .ok (.getfield 19, 3) := by decide +kernel
theorem dX7_append_27 : decode cX7_append 27 = .ok (.lload_n 1, 1) := by decide +kernel
theorem dX7_append_28 : decode cX7_append 28 = .ok (.bipush 8, 2) := by decide +kernel
theorem dX7_append_30 : decode cX7_append 30 = .ok (.iload 4, 2) := by decide +kernel
theorem dX7_append_32 : decode cX7_append 32 = .ok (.imul, 1) := by decide +kernel
theorem dX7_append_33 : decode cX7_append 33 = .ok (.lshr, 1) := by decide +kernel
theorem dX7_append_34 : decode cX7_append 34 = .ok (.ldc2_w 13, 3) := by decide +kernel
theorem dX7_append_37 : decode cX7_append 37 = .ok (.land, 1) := by decide +kernel
theorem dX7_append_38 : decode cX7_append 38 = .ok (.l2i, 1) := by decide +kernel
theorem dX7_append_39 : decode cX7_append 39 = .ok (.iastore, 1) := by decide +kernel
theorem dX7_append_40 : decode cX7_append 40 = .ok (.aload_n 0, 1) := by decide +kernel
theorem dX7_append_41 : decode cX7_append 41 = .ok (.dup, 1) := by decide +kernel
theorem dX7_append_42 : decode cX7_append 42 = .ok (.getfield 19, 3) := by decide +kernel
theorem dX7_append_45 : decode cX7_append 45 = .ok (.iconst 1, 1) := by decide +kernel
theorem dX7_append_46 : decode cX7_append 46 = .ok (.iadd, 1) := by decide +kernel
theorem dX7_append_47 : decode cX7_append 47 = .ok (.putfield 19, 3) := by decide +kernel
theorem dX7_append_50 : decode cX7_append 50 = .ok (.iinc 4 (-1), 3) := by decide +kernel
theorem dX7_append_53 : decode cX7_append 53 = .ok (.goto (-48), 3) := by decide +kernel
theorem dX7_append_56 : decode cX7_append 56 = .ok (.return_, 1) := by decide +kernel
theorem dX7_byteAt_0 : decode cX7_byteAt 0 = .ok (.iload_n 1, 1) := by decide +kernel
theorem dX7_byteAt_1 : decode cX7_byteAt 1 = .ok (.ifCond .lt 26, 3) := by decide +kernel
theorem dX7_byteAt_4 : decode cX7_byteAt 4 = .ok (.iload_n 1, 1) := by decide +kernel
theorem dX7_byteAt_5 : decode cX7_byteAt 5 = .ok (.aload_n 0, 1) := by decide +kernel
theorem dX7_byteAt_6 : decode cX7_byteAt 6 = .ok (.getfield 19, 3) := by decide +kernel
theorem dX7_byteAt_9 : decode cX7_byteAt 9 = .ok (.if_icmp .ge 18, 3) := by decide +kernel
theorem dX7_byteAt_12 : decode cX7_byteAt 12 = .ok (.iload_n 1, 1) := by decide +kernel
theorem dX7_byteAt_13 : decode cX7_byteAt 13 = .ok (.bipush 100, 2) := by decide +kernel
theorem dX7_byteAt_15 : decode cX7_byteAt 15 = .ok (.if_icmp .ge 12, 3) := by decide +kernel
theorem dX7_byteAt_18 : decode cX7_byteAt 18 = .ok (.aload_n 0, 1) := by decide +kernel
theorem dX7_byteAt_19 : decode cX7_byteAt 19 = .ok (.getfield 9, 3) := by decide +kernel
theorem dX7_byteAt_22 : decode cX7_byteAt 22 = .ok (.iload_n 1, 1) := by decide +kernel
theorem dX7_byteAt_23 : decode cX7_byteAt 23 = .ok (.iaload, 1) := by decide +kernel
theorem dX7_byteAt_24 : decode cX7_byteAt 24 = .ok (.goto 4, 3) := by decide +kernel
theorem dX7_byteAt_27 : decode cX7_byteAt 27 = .ok (.iconst 0, 1) := by decide +kernel
theorem dX7_byteAt_28 : decode cX7_byteAt 28 = .ok (.ireturn, 1) := by decide +kernel
theorem dX7_isFigure_0 : decode cX7_isFigure 0 = .ok (.iload_n 1, 1) := by decide +kernel
theorem dX7_isFigure_1 : decode cX7_isFigure 1 = .ok (.bipush 48, 2) := by decide +kernel
theorem dX7_isFigure_3 : decode cX7_isFigure 3 = .ok (.if_icmp .lt 13, 3) := by decide +kernel
theorem dX7_isFigure_6 : decode cX7_isFigure 6 = .ok (.iload_n 1, 1) := by decide +kernel
theorem dX7_isFigure_7 : decode cX7_isFigure 7 = .ok (.bipush 57, 2) := by decide +kernel
theorem dX7_isFigure_9 : decode cX7_isFigure 9 = .ok (.if_icmp .gt 7, 3) := by decide +kernel
theorem dX7_isFigure_12 : decode cX7_isFigure 12 = .ok (.iconst 1, 1) := by decide +kernel
theorem dX7_isFigure_13 : decode cX7_isFigure 13 = .ok (.goto 4, 3) := by decide +kernel
theorem dX7_isFigure_16 : decode cX7_isFigure 16 = .ok (.iconst 0, 1) := by decide +kernel
theorem dX7_isFigure_17 : decode cX7_isFigure 17 = .ok (.ireturn, 1) := by decide +kernel
theorem dX7_fault_0 : decode cX7_fault 0 = .ok (.bipush (-20), 2) := by decide +kernel
theorem dX7_fault_2 : decode cX7_fault 2 = .ok (.iload_n 1, 1) := by decide +kernel
theorem dX7_fault_3 : decode cX7_fault 3 = .ok (.isub, 1) := by decide +kernel
theorem dX7_fault_4 : decode cX7_fault 4 = .ok (.ireturn, 1) := by decide +kernel
theorem dX7_faultHere_0 : decode cX7_faultHere 0 = .ok (.aload_n 0, 1) := by decide +kernel
theorem dX7_faultHere_1 : decode cX7_faultHere 1 = .ok (.aload_n 0, 1) := by decide +kernel
theorem dX7_faultHere_2 : decode cX7_faultHere 2 = .ok (.getfield 23, 3) := by decide +kernel
theorem dX7_faultHere_5 : decode cX7_faultHere 5 = .ok (.invokevirtual 26, 3) := by decide +kernel
theorem dX7_faultHere_8 : decode cX7_faultHere 8 = .ok (.ireturn, 1) := by decide +kernel
theorem dX7_skipBlanks_0 : decode cX7_skipBlanks 0 = .ok (.aload_n 0, 1) := by decide +kernel
theorem dX7_skipBlanks_1 : decode cX7_skipBlanks 1 = .ok (.getfield 23, 3) := by decide +kernel
theorem dX7_skipBlanks_4 : decode cX7_skipBlanks 4 = .ok (.aload_n 0, 1) := by decide +kernel
theorem dX7_skipBlanks_5 : decode cX7_skipBlanks 5 = .ok (.getfield 19, 3) := by decide +kernel
theorem dX7_skipBlanks_8 : decode cX7_skipBlanks 8 = .ok (.if_icmp .ge 29, 3) := by decide +kernel
theorem dX7_skipBlanks_11 : decode cX7_skipBlanks 11 = .ok (.aload_n 0, 1) := by decide +kernel
theorem dX7_skipBlanks_12 : decode cX7_skipBlanks 12 = .ok (.aload_n 0, 1) := by decide +kernel
theorem dX7_skipBlanks_13 : decode cX7_skipBlanks 13 = .ok (.getfield 23, 3) := by decide +kernel
theorem dX7_skipBlanks_16 : decode cX7_skipBlanks 16 = .ok (.invokevirtual 30, 3) := by decide +kernel
theorem dX7_skipBlanks_19 : decode cX7_skipBlanks 19 = .ok (.bipush 32, 2) := by decide +kernel
theorem dX7_skipBlanks_21 : decode cX7_skipBlanks 21 = .ok (.if_icmp .ne 16, 3) := by decide +kernel
theorem dX7_skipBlanks_24 : decode cX7_skipBlanks 24 = .ok (.aload_n 0, 1) := by decide +kernel
theorem dX7_skipBlanks_25 : decode cX7_skipBlanks 25 = .ok (.dup, 1) := by decide +kernel
theorem dX7_skipBlanks_26 : decode cX7_skipBlanks 26 = .ok (.getfield 23, 3) := by decide +kernel
theorem dX7_skipBlanks_29 : decode cX7_skipBlanks 29 = .ok (.iconst 1, 1) := by decide +kernel
theorem dX7_skipBlanks_30 : decode cX7_skipBlanks 30 = .ok (.iadd, 1) := by decide +kernel
theorem dX7_skipBlanks_31 : decode cX7_skipBlanks 31 = .ok (.putfield 23, 3) := by decide +kernel
theorem dX7_skipBlanks_34 : decode cX7_skipBlanks 34 = .ok (.goto (-34), 3) := by decide +kernel
theorem dX7_skipBlanks_37 : decode cX7_skipBlanks 37 = .ok (.return_, 1) := by decide +kernel
theorem dX7_atEnd_0 : decode cX7_atEnd 0 = .ok (.aload_n 0, 1) := by decide +kernel
theorem dX7_atEnd_1 : decode cX7_atEnd 1 = .ok (.invokevirtual 33, 3) := by decide +kernel
theorem dX7_atEnd_4 : decode cX7_atEnd 4 = .ok (.aload_n 0, 1) := by decide +kernel
theorem dX7_atEnd_5 : decode cX7_atEnd 5 = .ok (.getfield 23, 3) := by decide +kernel
theorem dX7_atEnd_8 : decode cX7_atEnd 8 = .ok (.aload_n 0, 1) := by decide +kernel
theorem dX7_atEnd_9 : decode cX7_atEnd 9 = .ok (.getfield 19, 3) := by decide +kernel
theorem dX7_atEnd_12 : decode cX7_atEnd 12 = .ok (.if_icmp .lt 7, 3) := by decide +kernel
theorem dX7_atEnd_15 : decode cX7_atEnd 15 = .ok (.iconst 1, 1) := by decide +kernel
theorem dX7_atEnd_16 : decode cX7_atEnd 16 = .ok (.goto 4, 3) := by decide +kernel
theorem dX7_atEnd_19 : decode cX7_atEnd 19 = .ok (.iconst 0, 1) := by decide +kernel
theorem dX7_atEnd_20 : decode cX7_atEnd 20 = .ok (.ireturn, 1) := by decide +kernel
theorem dX7_pass_0 : decode cX7_pass 0 = .ok (.aload_n 0, 1) := by decide +kernel
theorem dX7_pass_1 : decode cX7_pass 1 = .ok (.invokevirtual 33, 3) := by decide +kernel
theorem dX7_pass_4 : decode cX7_pass 4 = .ok (.aload_n 0, 1) := by decide +kernel
theorem dX7_pass_5 : decode cX7_pass 5 = .ok (.aload_n 0, 1) := by decide +kernel
theorem dX7_pass_6 : decode cX7_pass 6 = .ok (.getfield 23, 3) := by decide +kernel
theorem dX7_pass_9 : decode cX7_pass 9 = .ok (.invokevirtual 30, 3) := by decide +kernel
theorem dX7_pass_12 : decode cX7_pass 12 = .ok (.iload_n 1, 1) := by decide +kernel
theorem dX7_pass_13 : decode cX7_pass 13 = .ok (.if_icmp .eq 5, 3) := by decide +kernel
theorem dX7_pass_16 : decode cX7_pass 16 = .ok (.iconst 0, 1) := by decide +kernel
theorem dX7_pass_17 : decode cX7_pass 17 = .ok (.ireturn, 1) := by decide +kernel
theorem dX7_pass_18 : decode cX7_pass 18 = .ok (.aload_n 0, 1) := by decide +kernel
theorem dX7_pass_19 : decode cX7_pass 19 = .ok (.dup, 1) := by decide +kernel
theorem dX7_pass_20 : decode cX7_pass 20 = .ok (.getfield 23, 3) := by decide +kernel
theorem dX7_pass_23 : decode cX7_pass 23 = .ok (.iconst 1, 1) := by decide +kernel
theorem dX7_pass_24 : decode cX7_pass 24 = .ok (.iadd, 1) := by decide +kernel
theorem dX7_pass_25 : decode cX7_pass 25 = .ok (.putfield 23, 3) := by decide +kernel
theorem dX7_pass_28 : decode cX7_pass 28 = .ok (.iconst 1, 1) := by decide +kernel
theorem dX7_pass_29 : decode cX7_pass 29 = .ok (.ireturn, 1) := by decide +kernel
theorem dX7_readText_0 : decode cX7_readText 0 = .ok (.aload_n 1, 1) := by decide +kernel
theorem dX7_readText_1 : decode cX7_readText 1 = .ok (.lconst 0, 1) := by decide +kernel
theorem dX7_readText_2 : decode cX7_readText 2 = .ok (.invokevirtual 36, 3) := by decide +kernel
theorem dX7_readText_5 : decode cX7_readText 5 = .ok (.iconst 0, 1) := by decide +kernel
theorem dX7_readText_6 : decode cX7_readText 6 = .ok (.istore_n 3, 1) := by decide +kernel
theorem dX7_readText_7 : decode cX7_readText 7 = .ok (.iconst 0, 1) := by decide +kernel
theorem dX7_readText_8 : decode cX7_readText 8 = .ok (.istore 4, 2) := by decide +kernel
theorem dX7_readText_10 : decode cX7_readText 10 = .ok (.iload 4, 2) := by decide +kernel
theorem dX7_readText_12 : decode cX7_readText 12 = .ok (.aload_n 0, 1) := by decide +kernel
theorem dX7_readText_13 : decode cX7_readText 13 = .ok (.getfield 19, 3) := by decide +kernel
theorem dX7_readText_16 : decode cX7_readText 16 = .ok (.if_icmp .ge 75, 3) := by decide +kernel
theorem dX7_readText_19 : decode cX7_readText 19 = .ok (.aload_n 0, 1) := by decide +kernel
theorem dX7_readText_20 : decode cX7_readText 20 = .ok (.iload 4, 2) := by decide +kernel
theorem dX7_readText_22 : decode cX7_readText 22 = .ok (.invokevirtual 30, 3) := by decide +kernel
theorem dX7_readText_25 : decode cX7_readText 25 = .ok (.istore 5, 2) := by decide +kernel
theorem dX7_readText_27 : decode cX7_readText 27 = .ok (.iload 5, 2) := by decide +kernel
theorem dX7_readText_29 : decode cX7_readText 29 = .ok (.bipush 32, 2) := by decide +kernel
theorem dX7_readText_31 : decode cX7_readText 31 = .ok (.if_icmp .ne 6, 3) := by decide +kernel
theorem dX7_readText_34 : decode cX7_readText 34 = .ok (.goto 51, 3) := by decide +kernel
theorem dX7_readText_37 : decode cX7_readText 37 = .ok (.aload_n 0, 1) := by decide +kernel
theorem dX7_readText_38 : decode cX7_readText 38 = .ok (.iload 5, 2) := by decide +kernel
theorem dX7_readText_40 : decode cX7_readText 40 = .ok (.invokevirtual 42, 3) := by decide +kernel
theorem dX7_readText_43 : decode cX7_readText 43 = .ok (.ifCond .eq 9, 3) := by decide +kernel
theorem dX7_readText_46 : decode cX7_readText 46 = .ok (.iload_n 3, 1) := by decide +kernel
theorem dX7_readText_47 : decode cX7_readText 47 = .ok (.bipush 80, 2) := by decide +kernel
theorem dX7_readText_49 : decode cX7_readText 49 = .ok (.if_icmp .ne 10, 3) := by decide +kernel
theorem dX7_readText_52 : decode cX7_readText 52 = .ok (.aload_n 0, 1) := by decide +kernel
theorem dX7_readText_53 : decode cX7_readText 53 = .ok (.iload 4, 2) := by decide +kernel
theorem dX7_readText_55 : decode cX7_readText 55 = .ok (.invokevirtual 26, 3) := by decide +kernel
theorem dX7_readText_58 : decode cX7_readText 58 = .ok (.ireturn, 1) := by decide +kernel
theorem dX7_readText_59 : decode cX7_readText 59 = .ok (.aload_n 1, 1) := by decide +kernel
theorem dX7_readText_60 : decode cX7_readText 60 = .ok (.ldc2_w 46, 3) := by decide +kernel
theorem dX7_readText_63 : decode cX7_readText 63 = .ok (.lconst 0, 1) := by decide +kernel
theorem dX7_readText_64 : decode cX7_readText 64 = .ok (.invokevirtual 48, 3) := by decide +kernel
theorem dX7_readText_67 : decode cX7_readText 67 = .ok (.aload_n 2, 1) := by decide +kernel
theorem dX7_readText_68 : decode cX7_readText 68 = .ok (.iload 5, 2) := by decide +kernel
theorem dX7_readText_70 : decode cX7_readText 70 = .ok (.bipush 48, 2) := by decide +kernel
theorem dX7_readText_72 : decode cX7_readText 72 = .ok (.isub, 1) := by decide +kernel
theorem dX7_readText_73 : decode cX7_readText 73 = .ok (.i2l, 1) := by decide +kernel
theorem dX7_readText_74 : decode cX7_readText 74 = .ok (.invokevirtual 36, 3) := by decide +kernel
theorem dX7_readText_77 : decode cX7_readText 77 = .ok (.aload_n 1, 1) := by decide +kernel
theorem dX7_readText_78 : decode cX7_readText 78 = .ok (.aload_n 2, 1) := by decide +kernel
theorem dX7_readText_79 : decode cX7_readText 79 = .ok (.invokevirtual 52, 3) := by decide +kernel
theorem dX7_readText_82 : decode cX7_readText 82 = .ok (.iinc 3 1, 3) := by decide +kernel
theorem dX7_readText_85 : decode cX7_readText 85 = .ok (.iinc 4 1, 3) := by decide +kernel
theorem dX7_readText_88 : decode cX7_readText 88 = .ok (.goto (-78), 3) := by decide +kernel
theorem dX7_readText_91 : decode cX7_readText 91 = .ok (.iload_n 3, 1) := by decide +kernel
theorem dX7_readText_92 : decode cX7_readText 92 = .ok (.ifCond .ne 14, 3) := by decide +kernel
theorem dX7_readText_95 : decode cX7_readText 95 = .ok (.aload_n 0, 1) := by decide +kernel
theorem dX7_readText_96 : decode cX7_readText 96 = .ok (.aload_n 0, 1) := by decide +kernel
theorem dX7_readText_97 : decode cX7_readText 97 = .ok (.getfield 19, 3) := by decide +kernel
theorem dX7_readText_100 : decode cX7_readText 100 = .ok (.invokevirtual 26, 3) := by decide +kernel
theorem dX7_readText_103 : decode cX7_readText 103 = .ok (.goto 4, 3) := by decide +kernel
theorem dX7_readText_106 : decode cX7_readText 106 = .ok (.iconst 0, 1) := by decide +kernel
theorem dX7_readText_107 : decode cX7_readText 107 = .ok (.ireturn, 1) := by decide +kernel
theorem dX7_readClaim_0 : decode cX7_readClaim 0 = .ok (.aload_n 0, 1) := by decide +kernel
theorem dX7_readClaim_1 : decode cX7_readClaim 1 = .ok (.lconst 0, 1) := by decide +kernel
theorem dX7_readClaim_2 : decode cX7_readClaim 2 = .ok (.ldc2_w 56, 3) := by decide +kernel
theorem dX7_readClaim_5 : decode cX7_readClaim 5 = .ok (.invokevirtual 58, 3) := by decide +kernel
theorem dX7_readClaim_8 : decode cX7_readClaim 8 = .ok (.istore_n 1, 1) := by decide +kernel
theorem dX7_readClaim_9 : decode cX7_readClaim 9 = .ok (.iload_n 1, 1) := by decide +kernel
theorem dX7_readClaim_10 : decode cX7_readClaim 10 = .ok (.ifCond .eq 5, 3) := by decide +kernel
theorem dX7_readClaim_13 : decode cX7_readClaim 13 = .ok (.iload_n 1, 1) := by decide +kernel
theorem dX7_readClaim_14 : decode cX7_readClaim 14 = .ok (.ireturn, 1) := by decide +kernel
theorem dX7_readClaim_15 : decode cX7_readClaim 15 = .ok (.aload_n 0, 1) := by decide +kernel
theorem dX7_readClaim_16 : decode cX7_readClaim 16 = .ok (.aload_n 0, 1) := by decide +kernel
theorem dX7_readClaim_17 : decode cX7_readClaim 17 = .ok (.getfield 62, 3) := by decide +kernel
theorem dX7_readClaim_20 : decode cX7_readClaim 20 = .ok (.putfield 66, 3) := by decide +kernel
theorem dX7_readClaim_23 : decode cX7_readClaim 23 = .ok (.aload_n 0, 1) := by decide +kernel
theorem dX7_readClaim_24 : decode cX7_readClaim 24 = .ok (.bipush 61, 2) := by decide +kernel
theorem dX7_readClaim_26 : decode cX7_readClaim 26 = .ok (.invokevirtual 69, 3) := by decide +kernel
theorem dX7_readClaim_29 : decode cX7_readClaim 29 = .ok (.ifCond .ne 8, 3) := by decide +kernel
theorem dX7_readClaim_32 : decode cX7_readClaim 32 = .ok (.aload_n 0, 1) := by decide +kernel
theorem dX7_readClaim_33 : decode cX7_readClaim 33 = .ok (.invokevirtual 72, 3) := by decide +kernel
theorem dX7_readClaim_36 : decode cX7_readClaim 36 = .ok (.ireturn, 1) := by decide +kernel
theorem dX7_readClaim_37 : decode cX7_readClaim 37 = .ok (.aload_n 0, 1) := by decide +kernel
theorem dX7_readClaim_38 : decode cX7_readClaim 38 = .ok (.invokevirtual 33, 3) := by decide +kernel
theorem dX7_readClaim_41 : decode cX7_readClaim 41 = .ok (.aload_n 0, 1) := by decide +kernel
theorem dX7_readClaim_42 : decode cX7_readClaim 42 = .ok (.ldc 76, 2) := by decide +kernel
theorem dX7_readClaim_44 : decode cX7_readClaim 44 = .ok (.aload_n 0, 1) := by decide +kernel
theorem dX7_readClaim_45 : decode cX7_readClaim 45 = .ok (.aload_n 0, 1) := by decide +kernel
theorem dX7_readClaim_46 : decode cX7_readClaim 46 = .ok (.getfield 23, 3) := by decide +kernel
theorem dX7_readClaim_49 : decode cX7_readClaim 49 = .ok (.invokevirtual 30, 3) := by decide +kernel
theorem dX7_readClaim_52 : decode cX7_readClaim 52 = .ok (.i2c, 1) := by decide +kernel
theorem dX7_readClaim_53 : decode cX7_readClaim 53 = .ok (.invokevirtual 78, 3) := by decide +kernel
theorem dX7_readClaim_56 : decode cX7_readClaim 56 = .ok (.putfield 83, 3) := by decide +kernel
theorem dX7_readClaim_59 : decode cX7_readClaim 59 = .ok (.aload_n 0, 1) := by decide +kernel
theorem dX7_readClaim_60 : decode cX7_readClaim 60 = .ok (.getfield 23, 3) := by decide +kernel
theorem dX7_readClaim_63 : decode cX7_readClaim 63 = .ok (.aload_n 0, 1) := by decide +kernel
theorem dX7_readClaim_64 : decode cX7_readClaim 64 = .ok (.getfield 19, 3) := by decide +kernel
theorem dX7_readClaim_67 : decode cX7_readClaim 67 = .ok (.if_icmp .ge 10, 3) := by decide +kernel
theorem dX7_readClaim_70 : decode cX7_readClaim 70 = .ok (.aload_n 0, 1) := by decide +kernel
theorem dX7_readClaim_71 : decode cX7_readClaim 71 = .ok (.getfield 83, 3) := by decide +kernel
theorem dX7_readClaim_74 : decode cX7_readClaim 74 = .ok (.ifCond .ge 8, 3) := by decide +kernel
theorem dX7_readClaim_77 : decode cX7_readClaim 77 = .ok (.aload_n 0, 1) := by decide +kernel
theorem dX7_readClaim_78 : decode cX7_readClaim 78 = .ok (.invokevirtual 72, 3) := by decide +kernel
theorem dX7_readClaim_81 : decode cX7_readClaim 81 = .ok (.ireturn, 1) := by decide +kernel
theorem dX7_readClaim_82 : decode cX7_readClaim 82 = .ok (.aload_n 0, 1) := by decide +kernel
theorem dX7_readClaim_83 : decode cX7_readClaim 83 = .ok (.dup, 1) := by decide +kernel
theorem dX7_readClaim_84 : decode cX7_readClaim 84 = .ok (.getfield 23, 3) := by decide +kernel
theorem dX7_readClaim_87 : decode cX7_readClaim 87 = .ok (.iconst 1, 1) := by decide +kernel
theorem dX7_readClaim_88 : decode cX7_readClaim 88 = .ok (.iadd, 1) := by decide +kernel
theorem dX7_readClaim_89 : decode cX7_readClaim 89 = .ok (.putfield 23, 3) := by decide +kernel
theorem dX7_readClaim_92 : decode cX7_readClaim 92 = .ok (.aload_n 0, 1) := by decide +kernel
theorem dX7_readClaim_93 : decode cX7_readClaim 93 = .ok (.getfield 83, 3) := by decide +kernel
theorem dX7_readClaim_96 : decode cX7_readClaim 96 = .ok (.iconst 3, 1) := by decide +kernel
theorem dX7_readClaim_97 : decode cX7_readClaim 97 = .ok (.if_icmp .lt 10, 3) := by decide +kernel
theorem dX7_readClaim_100 : decode cX7_readClaim 100 = .ok (.aload_n 0, 1) := by decide +kernel
theorem dX7_readClaim_101 : decode cX7_readClaim 101 = .ok (.invokevirtual 88, 3) := by decide +kernel
theorem dX7_readClaim_104 : decode cX7_readClaim 104 = .ok (.goto 4, 3) := by decide +kernel
theorem dX7_readClaim_107 : decode cX7_readClaim 107 = .ok (.iconst 0, 1) := by decide +kernel
theorem dX7_readClaim_108 : decode cX7_readClaim 108 = .ok (.istore_n 1, 1) := by decide +kernel
theorem dX7_readClaim_109 : decode cX7_readClaim 109 = .ok (.iload_n 1, 1) := by decide +kernel
theorem dX7_readClaim_110 : decode cX7_readClaim 110 = .ok (.ifCond .eq 5, 3) := by decide +kernel
theorem dX7_readClaim_113 : decode cX7_readClaim 113 = .ok (.iload_n 1, 1) := by decide +kernel
theorem dX7_readClaim_114 : decode cX7_readClaim 114 = .ok (.ireturn, 1) := by decide +kernel
theorem dX7_readClaim_115 : decode cX7_readClaim 115 = .ok (.aload_n 0, 1) := by decide +kernel
theorem dX7_readClaim_116 : decode cX7_readClaim 116 = .ok (.lconst 0, 1) := by decide +kernel
theorem dX7_readClaim_117 : decode cX7_readClaim 117 = .ok (.ldc2_w 91, 3) := by decide +kernel
theorem dX7_readClaim_120 : decode cX7_readClaim 120 = .ok (.invokevirtual 58, 3) := by decide +kernel
theorem dX7_readClaim_123 : decode cX7_readClaim 123 = .ok (.istore_n 1, 1) := by decide +kernel
theorem dX7_readClaim_124 : decode cX7_readClaim 124 = .ok (.aload_n 0, 1) := by decide +kernel
theorem dX7_readClaim_125 : decode cX7_readClaim 125 = .ok (.aload_n 0, 1) := by decide +kernel
theorem dX7_readClaim_126 : decode cX7_readClaim 126 = .ok (.getfield 62, 3) := by decide +kernel
theorem dX7_readClaim_129 : decode cX7_readClaim 129 = .ok (.putfield 93, 3) := by decide +kernel
theorem dX7_readClaim_132 : decode cX7_readClaim 132 = .ok (.iload_n 1, 1) := by decide +kernel
theorem dX7_readClaim_133 : decode cX7_readClaim 133 = .ok (.ireturn, 1) := by decide +kernel
theorem dX7_readCorners_0 : decode cX7_readCorners 0 = .ok (.aload_n 0, 1) := by decide +kernel
theorem dX7_readCorners_1 : decode cX7_readCorners 1 = .ok (.ldc2_w 96, 3) := by decide +kernel
theorem dX7_readCorners_4 : decode cX7_readCorners 4 = .ok (.ldc2_w 98, 3) := by decide +kernel
theorem dX7_readCorners_7 : decode cX7_readCorners 7 = .ok (.invokevirtual 58, 3) := by decide +kernel
theorem dX7_readCorners_10 : decode cX7_readCorners 10 = .ok (.istore_n 1, 1) := by decide +kernel
theorem dX7_readCorners_11 : decode cX7_readCorners 11 = .ok (.iload_n 1, 1) := by decide +kernel
theorem dX7_readCorners_12 : decode cX7_readCorners 12 = .ok (.ifCond .eq 5, 3) := by decide +kernel
theorem dX7_readCorners_15 : decode cX7_readCorners 15 = .ok (.iload_n 1, 1) := by decide +kernel
theorem dX7_readCorners_16 : decode cX7_readCorners 16 = .ok (.ireturn, 1) := by decide +kernel
theorem dX7_readCorners_17 : decode cX7_readCorners 17 = .ok (.aload_n 0, 1) := by decide +kernel
theorem dX7_readCorners_18 : decode cX7_readCorners 18 = .ok (.aload_n 0, 1) := by decide +kernel
theorem dX7_readCorners_19 : decode cX7_readCorners 19 = .ok (.getfield 62, 3) := by decide +kernel
theorem dX7_readCorners_22 : decode cX7_readCorners 22 = .ok (.l2i, 1) := by decide +kernel
theorem dX7_readCorners_23 : decode cX7_readCorners 23 = .ok (.putfield 100, 3) := by decide +kernel
theorem dX7_readCorners_26 : decode cX7_readCorners 26 = .ok (.aload_n 0, 1) := by decide +kernel
theorem dX7_readCorners_27 : decode cX7_readCorners 27 = .ok (.bipush 58, 2) := by decide +kernel
theorem dX7_readCorners_29 : decode cX7_readCorners 29 = .ok (.invokevirtual 69, 3) := by decide +kernel
theorem dX7_readCorners_32 : decode cX7_readCorners 32 = .ok (.ifCond .eq 7, 3) := by decide +kernel
theorem dX7_readCorners_35 : decode cX7_readCorners 35 = .ok (.iconst 0, 1) := by decide +kernel
theorem dX7_readCorners_36 : decode cX7_readCorners 36 = .ok (.goto 7, 3) := by decide +kernel
theorem dX7_readCorners_39 : decode cX7_readCorners 39 = .ok (.aload_n 0, 1) := by decide +kernel
theorem dX7_readCorners_40 : decode cX7_readCorners 40 = .ok (.invokevirtual 72, 3) := by decide +kernel
theorem dX7_readCorners_43 : decode cX7_readCorners 43 = .ok (.ireturn, 1) := by decide +kernel
theorem dX7_readNumber_0 : decode cX7_readNumber 0 = .ok (.aload_n 0, 1) := by decide +kernel
theorem dX7_readNumber_1 : decode cX7_readNumber 1 = .ok (.invokevirtual 33, 3) := by decide +kernel
theorem dX7_readNumber_4 : decode cX7_readNumber 4 = .ok (.aload_n 0, 1) := by decide +kernel
theorem dX7_readNumber_5 : decode cX7_readNumber 5 = .ok (.getfield 23, 3) := by decide +kernel
theorem dX7_readNumber_8 : decode cX7_readNumber 8 = .ok (.istore 5, 2) := by decide +kernel
theorem dX7_readNumber_10 : decode cX7_readNumber 10 = .ok (.aload_n 0, 1) := by decide +kernel
theorem dX7_readNumber_11 : decode cX7_readNumber 11 = .ok (.lconst 0, 1) := by decide +kernel
theorem dX7_readNumber_12 : decode cX7_readNumber 12 = .ok (.putfield 62, 3) := by decide +kernel
theorem dX7_readNumber_15 : decode cX7_readNumber 15 = .ok (.aload_n 0, 1) := by decide +kernel
theorem dX7_readNumber_16 : decode cX7_readNumber 16 = .ok (.getfield 23, 3) := by decide +kernel
theorem dX7_readNumber_19 : decode cX7_readNumber 19 = .ok (.aload_n 0, 1) := by decide +kernel
theorem dX7_readNumber_20 : decode cX7_readNumber 20 = .ok (.getfield 19, 3) := by decide +kernel
theorem dX7_readNumber_23 : decode cX7_readNumber 23 = .ok (.if_icmp .ge 69, 3) := by decide +kernel
theorem dX7_readNumber_26 : decode cX7_readNumber 26 = .ok (.aload_n 0, 1) := by decide +kernel
theorem dX7_readNumber_27 : decode cX7_readNumber 27 = .ok (.aload_n 0, 1) := by decide +kernel
theorem dX7_readNumber_28 : decode cX7_readNumber 28 = .ok (.aload_n 0, 1) := by decide +kernel
theorem dX7_readNumber_29 : decode cX7_readNumber 29 = .ok (.getfield 23, 3) := by decide +kernel
theorem dX7_readNumber_32 : decode cX7_readNumber 32 = .ok (.invokevirtual 30, 3) := by decide +kernel
theorem dX7_readNumber_35 : decode cX7_readNumber 35 = .ok (.invokevirtual 42, 3) := by decide +kernel
theorem dX7_readNumber_38 : decode cX7_readNumber 38 = .ok (.ifCond .eq 54, 3) := by decide +kernel
theorem dX7_readNumber_41 : decode cX7_readNumber 41 = .ok (.aload_n 0, 1) := by decide +kernel
theorem dX7_readNumber_42 : decode cX7_readNumber 42 = .ok (.getfield 23, 3) := by decide +kernel
theorem dX7_readNumber_45 : decode cX7_readNumber 45 = .ok (.iload 5, 2) := by decide +kernel
theorem dX7_readNumber_47 : decode cX7_readNumber 47 = .ok (.isub, 1) := by decide +kernel
theorem dX7_readNumber_48 : decode cX7_readNumber 48 = .ok (.bipush 18, 2) := by decide +kernel
theorem dX7_readNumber_50 : decode cX7_readNumber 50 = .ok (.if_icmp .ge 29, 3) := by decide +kernel
theorem dX7_readNumber_53 : decode cX7_readNumber 53 = .ok (.aload_n 0, 1) := by decide +kernel
theorem dX7_readNumber_54 : decode cX7_readNumber 54 = .ok (.ldc2_w 46, 3) := by decide +kernel
theorem dX7_readNumber_57 : decode cX7_readNumber 57 = .ok (.aload_n 0, 1) := by decide +kernel
theorem dX7_readNumber_58 : decode cX7_readNumber 58 = .ok (.getfield 62, 3) := by decide +kernel
theorem dX7_readNumber_61 : decode cX7_readNumber 61 = .ok (.lmul, 1) := by decide +kernel
theorem dX7_readNumber_62 : decode cX7_readNumber 62 = .ok (.aload_n 0, 1) := by decide +kernel
theorem dX7_readNumber_63 : decode cX7_readNumber 63 = .ok (.aload_n 0, 1) := by decide +kernel
theorem dX7_readNumber_64 : decode cX7_readNumber 64 = .ok (.getfield 23, 3) := by decide +kernel
theorem dX7_readNumber_67 : decode cX7_readNumber 67 = .ok (.invokevirtual 30, 3) := by decide +kernel
theorem dX7_readNumber_70 : decode cX7_readNumber 70 = .ok (.i2l, 1) := by decide +kernel
theorem dX7_readNumber_71 : decode cX7_readNumber 71 = .ok (.ladd, 1) := by decide +kernel
theorem dX7_readNumber_72 : decode cX7_readNumber 72 = .ok (.ldc2_w 103, 3) := by decide +kernel
theorem dX7_readNumber_75 : decode cX7_readNumber 75 = .ok (.lsub, 1) := by decide +kernel
theorem dX7_readNumber_76 : decode cX7_readNumber 76 = .ok (.putfield 62, 3) := by decide +kernel
theorem dX7_readNumber_79 : decode cX7_readNumber 79 = .ok (.aload_n 0, 1) := by decide +kernel
theorem dX7_readNumber_80 : decode cX7_readNumber 80 = .ok (.dup, 1) := by decide +kernel
theorem dX7_readNumber_81 : decode cX7_readNumber 81 = .ok (.getfield 23, 3) := by decide +kernel
theorem dX7_readNumber_84 : decode cX7_readNumber 84 = .ok (.iconst 1, 1) := by decide +kernel
theorem dX7_readNumber_85 : decode cX7_readNumber 85 = .ok (.iadd, 1) := by decide +kernel
theorem dX7_readNumber_86 : decode cX7_readNumber 86 = .ok (.putfield 23, 3) := by decide +kernel
theorem dX7_readNumber_89 : decode cX7_readNumber 89 = .ok (.goto (-74), 3) := by decide +kernel
theorem dX7_readNumber_92 : decode cX7_readNumber 92 = .ok (.aload_n 0, 1) := by decide +kernel
theorem dX7_readNumber_93 : decode cX7_readNumber 93 = .ok (.getfield 23, 3) := by decide +kernel
theorem dX7_readNumber_96 : decode cX7_readNumber 96 = .ok (.iload 5, 2) := by decide +kernel
theorem dX7_readNumber_98 : decode cX7_readNumber 98 = .ok (.if_icmp .eq 33, 3) := by decide +kernel
theorem dX7_readNumber_101 : decode cX7_readNumber 101 = .ok (.aload_n 0, 1) := by decide +kernel
theorem dX7_readNumber_102 : decode cX7_readNumber 102 = .ok (.getfield 23, 3) := by decide +kernel
theorem dX7_readNumber_105 : decode cX7_readNumber 105 = .ok (.iload 5, 2) := by decide +kernel
theorem dX7_readNumber_107 : decode cX7_readNumber 107 = .ok (.isub, 1) := by decide +kernel
theorem dX7_readNumber_108 : decode cX7_readNumber 108 = .ok (.bipush 18, 2) := by decide +kernel
theorem dX7_readNumber_110 : decode cX7_readNumber 110 = .ok (.if_icmp .gt 21, 3) := by decide +kernel
theorem dX7_readNumber_113 : decode cX7_readNumber 113 = .ok (.aload_n 0, 1) := by decide +kernel
theorem dX7_readNumber_114 : decode cX7_readNumber 114 = .ok (.getfield 62, 3) := by decide +kernel
theorem dX7_readNumber_117 : decode cX7_readNumber 117 = .ok (.lload_n 1, 1) := by decide +kernel
theorem dX7_readNumber_118 : decode cX7_readNumber 118 = .ok (.lcmp, 1) := by decide +kernel
theorem dX7_readNumber_119 : decode cX7_readNumber 119 = .ok (.ifCond .lt 12, 3) := by decide +kernel
theorem dX7_readNumber_122 : decode cX7_readNumber 122 = .ok (.aload_n 0, 1) := by decide +kernel
theorem dX7_readNumber_123 : decode cX7_readNumber 123 = .ok (.getfield 62, 3) := by decide +kernel
theorem dX7_readNumber_126 : decode cX7_readNumber 126 = .ok (.lload_n 3, 1) := by decide +kernel
theorem dX7_readNumber_127 : decode cX7_readNumber 127 = .ok (.lcmp, 1) := by decide +kernel
theorem dX7_readNumber_128 : decode cX7_readNumber 128 = .ok (.ifCond .le 10, 3) := by decide +kernel
theorem dX7_readNumber_131 : decode cX7_readNumber 131 = .ok (.aload_n 0, 1) := by decide +kernel
theorem dX7_readNumber_132 : decode cX7_readNumber 132 = .ok (.iload 5, 2) := by decide +kernel
theorem dX7_readNumber_134 : decode cX7_readNumber 134 = .ok (.invokevirtual 26, 3) := by decide +kernel
theorem dX7_readNumber_137 : decode cX7_readNumber 137 = .ok (.ireturn, 1) := by decide +kernel
theorem dX7_readNumber_138 : decode cX7_readNumber 138 = .ok (.iconst 0, 1) := by decide +kernel
theorem dX7_readNumber_139 : decode cX7_readNumber 139 = .ok (.ireturn, 1) := by decide +kernel
theorem dX8_init_0 : decode cX8_init 0 = .ok (.aload_n 0, 1) := by decide +kernel
theorem dX8_init_1 : decode cX8_init 1 = .ok (.invokespecial 1, 3) := by decide +kernel
theorem dX8_init_4 : decode cX8_init 4 = .ok (.aload_n 0, 1) := by decide +kernel
theorem dX8_init_5 : decode cX8_init 5 = .ok (.bipush 56, 2) := by decide +kernel
theorem dX8_init_7 : decode cX8_init 7 = .ok (.newarray .long, 2) := by decide +kernel
theorem dX8_init_9 : decode cX8_init 9 = .ok (.putfield 9, 3) := by decide +kernel
theorem dX8_init_12 : decode cX8_init 12 = .ok (.return_, 1) := by decide +kernel
theorem dX8_limb_0 : decode cX8_limb 0 = .ok (.iload_n 1, 1) := by decide +kernel
theorem dX8_limb_1 : decode cX8_limb 1 = .ok (.ifCond .lt 26, 3) := by decide +kernel
theorem dX8_limb_4 : decode cX8_limb 4 = .ok (.iload_n 1, 1) := by decide +kernel
theorem dX8_limb_5 : decode cX8_limb 5 = .ok (.aload_n 0, 1) := by decide +kernel
theorem dX8_limb_6 : decode cX8_limb 6 = .ok (.getfield 13, 3) := by decide +kernel
theorem dX8_limb_9 : decode cX8_limb 9 = .ok (.if_icmp .ge 18, 3) := by decide +kernel
theorem dX8_limb_12 : decode cX8_limb 12 = .ok (.iload_n 1, 1) := by decide +kernel
theorem dX8_limb_13 : decode cX8_limb 13 = .ok (.bipush 56, 2) := by decide +kernel
theorem dX8_limb_15 : decode cX8_limb 15 = .ok (.if_icmp .ge 12, 3) := by decide +kernel
theorem dX8_limb_18 : decode cX8_limb 18 = .ok (.aload_n 0, 1) := by decide +kernel
theorem dX8_limb_19 : decode cX8_limb 19 = .ok (.getfield 9, 3) := by decide +kernel
theorem dX8_limb_22 : decode cX8_limb 22 = .ok (.iload_n 1, 1) := by decide +kernel
theorem dX8_limb_23 : decode cX8_limb 23 = .ok (.laload, 1) := by decide +kernel
theorem dX8_limb_24 : decode cX8_limb 24 = .ok (.goto 4, 3) := by decide +kernel
theorem dX8_limb_27 : decode cX8_limb 27 = .ok (.lconst 0, 1) := by decide +kernel
theorem dX8_limb_28 : decode cX8_limb 28 = .ok (.lreturn, 1) := by decide +kernel
theorem dX8_write_0 : decode cX8_write 0 = .ok (.iload_n 1, 1) := by decide +kernel
theorem dX8_write_1 : decode cX8_write 1 = .ok (.ifCond .lt 16, 3) := by decide +kernel
theorem dX8_write_4 : decode cX8_write 4 = .ok (.iload_n 1, 1) := by decide +kernel
theorem dX8_write_5 : decode cX8_write 5 = .ok (.bipush 56, 2) := by decide +kernel
theorem dX8_write_7 : decode cX8_write 7 = .ok (.if_icmp .ge 10, 3) := by decide +kernel
theorem dX8_write_10 : decode cX8_write 10 = .ok (.aload_n 0, 1) := by decide +kernel
theorem dX8_write_11 : decode cX8_write 11 = .ok (.getfield 9, 3) := by decide +kernel
theorem dX8_write_14 : decode cX8_write 14 = .ok (.iload_n 1, 1) := by decide +kernel
theorem dX8_write_15 : decode cX8_write 15 = .ok (.lload_n 2, 1) := by decide +kernel
theorem dX8_write_16 : decode cX8_write 16 = .ok (.lastore, 1) := by decide +kernel
theorem dX8_write_17 : decode cX8_write 17 = .ok (.return_, 1) := by decide +kernel
theorem dX8_trim_0 : decode cX8_trim 0 = .ok (.iconst 0, 1) := by decide +kernel
theorem dX8_trim_1 : decode cX8_trim 1 = .ok (.iload_n 1, 1) := by decide +kernel
theorem dX8_trim_2 : decode cX8_trim 2 = .ok (.bipush 56, 2) := by decide +kernel
theorem dX8_trim_4 : decode cX8_trim 4 = .ok (.invokestatic 17, 3) := by decide +kernel
theorem dX8_trim_7 : decode cX8_trim 7 = .ok (.invokestatic 23, 3) := by decide +kernel
theorem dX8_trim_10 : decode cX8_trim 10 = .ok (.istore_n 2, 1) := by decide +kernel
theorem dX8_trim_11 : decode cX8_trim 11 = .ok (.iload_n 2, 1) := by decide +kernel
theorem dX8_trim_12 : decode cX8_trim 12 = .ok (.ifCond .le 22, 3) := by decide +kernel
theorem dX8_trim_15 : decode cX8_trim 15 = .ok (.aload_n 0, 1) := by decide +kernel
theorem dX8_trim_16 : decode cX8_trim 16 = .ok (.getfield 9, 3) := by decide +kernel
theorem dX8_trim_19 : decode cX8_trim 19 = .ok (.iload_n 2, 1) := by decide +kernel
theorem dX8_trim_20 : decode cX8_trim 20 = .ok (.iconst 1, 1) := by decide +kernel
theorem dX8_trim_21 : decode cX8_trim 21 = .ok (.isub, 1) := by decide +kernel
theorem dX8_trim_22 : decode cX8_trim 22 = .ok (.laload, 1) := by decide +kernel
theorem dX8_trim_23 : decode cX8_trim 23 = .ok (.lconst 0, 1) := by decide +kernel
theorem dX8_trim_24 : decode cX8_trim 24 = .ok (.lcmp, 1) := by decide +kernel
theorem dX8_trim_25 : decode cX8_trim 25 = .ok (.ifCond .ne 9, 3) := by decide +kernel
theorem dX8_trim_28 : decode cX8_trim 28 = .ok (.iinc 2 (-1), 3) := by decide +kernel
theorem dX8_trim_31 : decode cX8_trim 31 = .ok (.goto (-20), 3) := by decide +kernel
theorem dX8_trim_34 : decode cX8_trim 34 = .ok (.aload_n 0, 1) := by decide +kernel
theorem dX8_trim_35 : decode cX8_trim 35 = .ok (.iload_n 2, 1) := by decide +kernel
theorem dX8_trim_36 : decode cX8_trim 36 = .ok (.putfield 13, 3) := by decide +kernel
theorem dX8_trim_39 : decode cX8_trim 39 = .ok (.return_, 1) := by decide +kernel
theorem dX8_widen_0 : decode cX8_widen 0 = .ok (.aload_n 0, 1) := by decide +kernel
theorem dX8_widen_1 : decode cX8_widen 1 = .ok (.aload_n 0, 1) := by decide +kernel
theorem dX8_widen_2 : decode cX8_widen 2 = .ok (.getfield 13, 3) := by decide +kernel
theorem dX8_widen_5 : decode cX8_widen 5 = .ok (.lconst 0, 1) := by decide +kernel
theorem dX8_widen_6 : decode cX8_widen 6 = .ok (.invokevirtual 26, 3) := by decide +kernel
theorem dX8_widen_9 : decode cX8_widen 9 = .ok (.aload_n 0, 1) := by decide +kernel
theorem dX8_widen_10 : decode cX8_widen 10 = .ok (.aload_n 0, 1) := by decide +kernel
theorem dX8_widen_11 : decode cX8_widen 11 = .ok (.getfield 13, 3) := by decide +kernel
theorem dX8_widen_14 : decode cX8_widen 14 = .ok (.bipush 56, 2) := by decide +kernel
theorem dX8_widen_16 : decode cX8_widen 16 = .ok (.if_icmp .ge 12, 3) := by decide +kernel
theorem dX8_widen_19 : decode cX8_widen 19 = .ok (.aload_n 0, 1) := by decide +kernel
theorem dX8_widen_20 : decode cX8_widen 20 = .ok (.getfield 13, 3) := by decide +kernel
theorem dX8_widen_23 : decode cX8_widen 23 = .ok (.iconst 1, 1) := by decide +kernel
theorem dX8_widen_24 : decode cX8_widen 24 = .ok (.iadd, 1) := by decide +kernel
theorem dX8_widen_25 : decode cX8_widen 25 = .ok (.goto 5, 3) := by decide +kernel
theorem dX8_widen_28 : decode cX8_widen 28 = .ok (.bipush 56, 2) := by decide +kernel
theorem dX8_widen_30 : decode cX8_widen 30 = .ok (.putfield 13, 3) := by decide +kernel
theorem dX8_widen_33 : decode cX8_widen 33 = .ok (.return_, 1) := by decide +kernel
theorem dX8_setLong_0 : decode cX8_setLong 0 = .ok (.aload_n 0, 1) := by decide +kernel
theorem dX8_setLong_1 : decode cX8_setLong 1 = .ok (.iconst 0, 1) := by decide +kernel
theorem dX8_setLong_2 : decode cX8_setLong 2 = .ok (.lload_n 1, 1) := by decide +kernel
theorem dX8_setLong_3 : decode cX8_setLong 3 = .ok (.ldc2_w 30, 3) := by decide +kernel
theorem dX8_setLong_6 : decode cX8_setLong 6 = .ok (.lrem, 1) := by decide +kernel
theorem dX8_setLong_7 : decode cX8_setLong 7 = .ok (.invokevirtual 26, 3) := by decide +kernel
theorem dX8_setLong_10 : decode cX8_setLong 10 = .ok (.aload_n 0, 1) := by decide +kernel
theorem dX8_setLong_11 : decode cX8_setLong 11 = .ok (.iconst 1, 1) := by decide +kernel
theorem dX8_setLong_12 : decode cX8_setLong 12 = .ok (.lload_n 1, 1) := by decide +kernel
theorem dX8_setLong_13 : decode cX8_setLong 13 = .ok (.ldc2_w 30, 3) := by decide +kernel
theorem dX8_setLong_16 : decode cX8_setLong 16 = .ok (.ldiv, 1) := by decide +kernel
theorem dX8_setLong_17 : decode cX8_setLong 17 = .ok (.ldc2_w 30, 3) := by decide +kernel
theorem dX8_setLong_20 : decode cX8_setLong 20 = .ok (.lrem, 1) := by decide +kernel
theorem dX8_setLong_21 : decode cX8_setLong 21 = .ok (.invokevirtual 26, 3) := by decide +kernel
theorem dX8_setLong_24 : decode cX8_setLong 24 = .ok (.aload_n 0, 1) := by decide +kernel
theorem dX8_setLong_25 : decode cX8_setLong 25 = .ok (.iconst 2, 1) := by decide +kernel
theorem dX8_setLong_26 : decode cX8_setLong 26 = .ok (.lload_n 1, 1) := by decide +kernel
theorem dX8_setLong_27 : decode cX8_setLong 27 = .ok (.ldc2_w 30, 3) := by decide +kernel
theorem dX8_setLong_30 : decode cX8_setLong 30 = .ok (.ldiv, 1) := by decide +kernel
theorem dX8_setLong_31 : decode cX8_setLong 31 = .ok (.ldc2_w 30, 3) := by decide +kernel
theorem dX8_setLong_34 : decode cX8_setLong 34 = .ok (.ldiv, 1) := by decide +kernel
theorem dX8_setLong_35 : decode cX8_setLong 35 = .ok (.invokevirtual 26, 3) := by decide +kernel
theorem dX8_setLong_38 : decode cX8_setLong 38 = .ok (.aload_n 0, 1) := by decide +kernel
theorem dX8_setLong_39 : decode cX8_setLong 39 = .ok (.iconst 3, 1) := by decide +kernel
theorem dX8_setLong_40 : decode cX8_setLong 40 = .ok (.invokevirtual 32, 3) := by decide +kernel
theorem dX8_setLong_43 : decode cX8_setLong 43 = .ok (.return_, 1) := by decide +kernel
theorem dX8_setPowerOfTen_0 : decode cX8_setPowerOfTen 0 = .ok (.iload_n 1, 1) := by decide +kernel
theorem dX8_setPowerOfTen_1 : decode cX8_setPowerOfTen 1 = .ok (.bipush 9, 2) := by decide +kernel
theorem dX8_setPowerOfTen_3 : decode cX8_setPowerOfTen 3 = .ok (.idiv, 1) := by decide +kernel
theorem dX8_setPowerOfTen_4 : decode cX8_setPowerOfTen 4 = .ok (.istore_n 2, 1) := by decide +kernel
theorem dX8_setPowerOfTen_5 : decode cX8_setPowerOfTen 5 = .ok (.iconst 0, 1) := by decide +kernel
theorem dX8_setPowerOfTen_6 : decode cX8_setPowerOfTen 6 = .ok (.istore_n 3, 1) := by decide +kernel
theorem dX8_setPowerOfTen_7 : decode cX8_setPowerOfTen 7 = .ok (.iload_n 3, 1) := by decide +kernel
theorem dX8_setPowerOfTen_8 : decode cX8_setPowerOfTen 8 = .ok (.iload_n 2, 1) := by decide +kernel
theorem dX8_setPowerOfTen_9 : decode cX8_setPowerOfTen 9 = .ok (.if_icmp .gt 22, 3) := by decide +kernel
theorem dX8_setPowerOfTen_12 : decode cX8_setPowerOfTen 12 = .ok (.iload_n 3, 1) := by decide +kernel
theorem dX8_setPowerOfTen_13 : decode cX8_setPowerOfTen 13 = .ok (.bipush 56, 2) := by decide +kernel
theorem dX8_setPowerOfTen_15 : decode cX8_setPowerOfTen 15 = .ok (.if_icmp .ge 16, 3) := by decide +kernel
theorem dX8_setPowerOfTen_18 : decode cX8_setPowerOfTen 18 = .ok (.aload_n 0, 1) := by decide +kernel
theorem dX8_setPowerOfTen_19 : decode cX8_setPowerOfTen 19 = .ok (.getfield 9, 3) := by decide +kernel
theorem dX8_setPowerOfTen_22 : decode cX8_setPowerOfTen 22 = .ok (.iload_n 3, 1) := by decide +kernel
theorem dX8_setPowerOfTen_23 : decode cX8_setPowerOfTen 23 = .ok (.lconst 0, 1) := by decide +kernel
theorem dX8_setPowerOfTen_24 : decode cX8_setPowerOfTen 24 = .ok (.lastore, 1) := by decide +kernel
theorem dX8_setPowerOfTen_25 : decode cX8_setPowerOfTen 25 = .ok (.iinc 3 1, 3) := by decide +kernel
theorem dX8_setPowerOfTen_28 : decode cX8_setPowerOfTen 28 = .ok (.goto (-21), 3) := by decide +kernel
theorem dX8_setPowerOfTen_31 : decode cX8_setPowerOfTen 31 = .ok (.lconst 1, 1) := by decide +kernel
theorem dX8_setPowerOfTen_32 : decode cX8_setPowerOfTen 32 = .ok (.lstore_n 3, 1) := by decide +kernel
theorem dX8_setPowerOfTen_33 : decode cX8_setPowerOfTen 33 = .ok (.iconst 0, 1) := by decide +kernel
theorem dX8_setPowerOfTen_34 : decode cX8_setPowerOfTen 34 = .ok (.istore 5, 2) := by decide +kernel
theorem dX8_setPowerOfTen_36 : decode cX8_setPowerOfTen 36 = .ok (.iload 5, 2) := by decide +kernel
theorem dX8_setPowerOfTen_38 : decode cX8_setPowerOfTen 38 = .ok (.iload_n 1, 1) := by decide +kernel
theorem dX8_setPowerOfTen_39 : decode cX8_setPowerOfTen 39 = .ok (.bipush 9, 2) := by decide +kernel
theorem dX8_setPowerOfTen_41 : decode cX8_setPowerOfTen 41 = .ok (.irem, 1) := by decide +kernel
theorem dX8_setPowerOfTen_42 : decode cX8_setPowerOfTen 42 = .ok (.if_icmp .ge 15, 3) := by decide +kernel
theorem dX8_setPowerOfTen_45 : decode cX8_setPowerOfTen 45 = .ok (.lload_n 3, 1) := by decide +kernel
theorem dX8_setPowerOfTen_46 : decode cX8_setPowerOfTen 46 = .ok (.ldc2_w 36, 3) := by decide +kernel
theorem dX8_setPowerOfTen_49 : decode cX8_setPowerOfTen 49 = .ok (.lmul, 1) := by decide +kernel
theorem dX8_setPowerOfTen_50 : decode cX8_setPowerOfTen 50 = .ok (.lstore_n 3, 1) := by decide +kernel
theorem dX8_setPowerOfTen_51 : decode cX8_setPowerOfTen 51 = .ok (.iinc 5 1, 3) := by decide +kernel
theorem dX8_setPowerOfTen_54 : decode cX8_setPowerOfTen 54 = .ok (.goto (-18), 3) := by decide +kernel
theorem dX8_setPowerOfTen_57 : decode cX8_setPowerOfTen 57 = .ok (.aload_n 0, 1) := by decide +kernel
theorem dX8_setPowerOfTen_58 : decode cX8_setPowerOfTen 58 = .ok (.iload_n 2, 1) := by decide +kernel
theorem dX8_setPowerOfTen_59 : decode cX8_setPowerOfTen 59 = .ok (.lload_n 3, 1) := by decide +kernel
theorem dX8_setPowerOfTen_60 : decode cX8_setPowerOfTen 60 = .ok (.invokevirtual 26, 3) := by decide +kernel
theorem dX8_setPowerOfTen_63 : decode cX8_setPowerOfTen 63 = .ok (.aload_n 0, 1) := by decide +kernel
theorem dX8_setPowerOfTen_64 : decode cX8_setPowerOfTen 64 = .ok (.iload_n 2, 1) := by decide +kernel
theorem dX8_setPowerOfTen_65 : decode cX8_setPowerOfTen 65 = .ok (.iconst 1, 1) := by decide +kernel
theorem dX8_setPowerOfTen_66 : decode cX8_setPowerOfTen 66 = .ok (.iadd, 1) := by decide +kernel
theorem dX8_setPowerOfTen_67 : decode cX8_setPowerOfTen 67 = .ok (.invokevirtual 32, 3) := by decide +kernel
theorem dX8_setPowerOfTen_70 : decode cX8_setPowerOfTen 70 = .ok (.return_, 1) := by decide +kernel
theorem dX8_copy_0 : decode cX8_copy 0 = .ok (.iconst 0, 1) := by decide +kernel
theorem dX8_copy_1 : decode cX8_copy 1 = .ok (.istore_n 2, 1) := by decide +kernel
theorem dX8_copy_2 : decode cX8_copy 2 = .ok (.iload_n 2, 1) := by decide +kernel
theorem dX8_copy_3 : decode cX8_copy 3 = .ok (.aload_n 1, 1) := by decide +kernel
theorem dX8_copy_4 : decode cX8_copy 4 = .ok (.getfield 13, 3) := by decide +kernel
theorem dX8_copy_7 : decode cX8_copy 7 = .ok (.if_icmp .ge 19, 3) := by decide +kernel
theorem dX8_copy_10 : decode cX8_copy 10 = .ok (.aload_n 0, 1) := by decide +kernel
theorem dX8_copy_11 : decode cX8_copy 11 = .ok (.iload_n 2, 1) := by decide +kernel
theorem dX8_copy_12 : decode cX8_copy 12 = .ok (.aload_n 1, 1) := by decide +kernel
theorem dX8_copy_13 : decode cX8_copy 13 = .ok (.iload_n 2, 1) := by decide +kernel
theorem dX8_copy_14 : decode cX8_copy 14 = .ok (.invokevirtual 38, 3) := by decide +kernel
theorem dX8_copy_17 : decode cX8_copy 17 = .ok (.invokevirtual 26, 3) := by decide +kernel
theorem dX8_copy_20 : decode cX8_copy 20 = .ok (.iinc 2 1, 3) := by decide +kernel
theorem dX8_copy_23 : decode cX8_copy 23 = .ok (.goto (-21), 3) := by decide +kernel
theorem dX8_copy_26 : decode cX8_copy 26 = .ok (.aload_n 0, 1) := by decide +kernel
theorem dX8_copy_27 : decode cX8_copy 27 = .ok (.aload_n 1, 1) := by decide +kernel
theorem dX8_copy_28 : decode cX8_copy 28 = .ok (.getfield 13, 3) := by decide +kernel
theorem dX8_copy_31 : decode cX8_copy 31 = .ok (.invokevirtual 32, 3) := by decide +kernel
theorem dX8_copy_34 : decode cX8_copy 34 = .ok (.return_, 1) := by decide +kernel
theorem dX8_add_0 : decode cX8_add 0 = .ok (.aload_n 0, 1) := by decide +kernel
theorem dX8_add_1 : decode cX8_add 1 = .ok (.getfield 13, 3) := by decide +kernel
theorem dX8_add_4 : decode cX8_add 4 = .ok (.aload_n 1, 1) := by decide +kernel
theorem dX8_add_5 : decode cX8_add 5 = .ok (.getfield 13, 3) := by decide +kernel
theorem dX8_add_8 : decode cX8_add 8 = .ok (.invokestatic 23, 3) := by decide +kernel
theorem dX8_add_11 : decode cX8_add 11 = .ok (.istore_n 2, 1) := by decide +kernel
theorem dX8_add_12 : decode cX8_add 12 = .ok (.lconst 0, 1) := by decide +kernel
theorem dX8_add_13 : decode cX8_add 13 = .ok (.lstore_n 3, 1) := by decide +kernel
theorem dX8_add_14 : decode cX8_add 14 = .ok (.iconst 0, 1) := by decide +kernel
theorem dX8_add_15 : decode cX8_add 15 = .ok (.istore 5, 2) := by decide +kernel
theorem dX8_add_17 : decode cX8_add 17 = .ok (.iload 5, 2) := by decide +kernel
theorem dX8_add_19 : decode cX8_add 19 = .ok (.iload_n 2, 1) := by decide +kernel
theorem dX8_add_20 : decode cX8_add 20 = .ok (.if_icmp .gt 55, 3) := by decide +kernel
theorem dX8_add_23 : decode cX8_add 23 = .ok (.aload_n 0, 1) := by decide +kernel
theorem dX8_add_24 : decode cX8_add 24 = .ok (.iload 5, 2) := by decide +kernel
theorem dX8_add_26 : decode cX8_add 26 = .ok (.invokevirtual 38, 3) := by decide +kernel
theorem dX8_add_29 : decode cX8_add 29 = .ok (.aload_n 1, 1) := by decide +kernel
theorem dX8_add_30 : decode cX8_add 30 = .ok (.iload 5, 2) := by decide +kernel
theorem dX8_add_32 : decode cX8_add 32 = .ok (.invokevirtual 38, 3) := by decide +kernel
theorem dX8_add_35 : decode cX8_add 35 = .ok (.ladd, 1) := by decide +kernel
theorem dX8_add_36 : decode cX8_add 36 = .ok (.lload_n 3, 1) := by decide +kernel
theorem dX8_add_37 : decode cX8_add 37 = .ok (.ladd, 1) := by decide +kernel
theorem dX8_add_38 : decode cX8_add 38 = .ok (.lstore 6, 2) := by decide +kernel
theorem dX8_add_40 : decode cX8_add 40 = .ok (.lload 6, 2) := by decide +kernel
theorem dX8_add_42 : decode cX8_add 42 = .ok (.ldc2_w 30, 3) := by decide +kernel
theorem dX8_add_45 : decode cX8_add 45 = .ok (.lcmp, 1) := by decide +kernel
theorem dX8_add_46 : decode cX8_add 46 = .ok (.ifCond .lt 7, 3) := by decide +kernel
theorem dX8_add_49 : decode cX8_add 49 = .ok (.lconst 1, 1) := by decide +kernel
theorem dX8_add_50 : decode cX8_add 50 = .ok (.goto 4, 3) := by decide +kernel
theorem dX8_add_53 : decode cX8_add 53 = .ok (.lconst 0, 1) := by decide +kernel
theorem dX8_add_54 : decode cX8_add 54 = .ok (.lstore_n 3, 1) := by decide +kernel
theorem dX8_add_55 : decode cX8_add 55 = .ok (.aload_n 0, 1) := by decide +kernel
theorem dX8_add_56 : decode cX8_add 56 = .ok (.iload 5, 2) := by decide +kernel
theorem dX8_add_58 : decode cX8_add 58 = .ok (.lload 6, 2) := by decide +kernel
theorem dX8_add_60 : decode cX8_add 60 = .ok (.lload_n 3, 1) := by decide +kernel
theorem dX8_add_61 : decode cX8_add 61 = .ok (.ldc2_w 30, 3) := by decide +kernel
theorem dX8_add_64 : decode cX8_add 64 = .ok (.lmul, 1) := by decide +kernel
theorem dX8_add_65 : decode cX8_add 65 = .ok (.lsub, 1) := by decide +kernel
theorem dX8_add_66 : decode cX8_add 66 = .ok (.invokevirtual 26, 3) := by decide +kernel
theorem dX8_add_69 : decode cX8_add 69 = .ok (.iinc 5 1, 3) := by decide +kernel
theorem dX8_add_72 : decode cX8_add 72 = .ok (.goto (-55), 3) := by decide +kernel
theorem dX8_add_75 : decode cX8_add 75 = .ok (.aload_n 0, 1) := by decide +kernel
theorem dX8_add_76 : decode cX8_add 76 = .ok (.iload_n 2, 1) := by decide +kernel
theorem dX8_add_77 : decode cX8_add 77 = .ok (.iconst 1, 1) := by decide +kernel
theorem dX8_add_78 : decode cX8_add 78 = .ok (.iadd, 1) := by decide +kernel
theorem dX8_add_79 : decode cX8_add 79 = .ok (.invokevirtual 32, 3) := by decide +kernel
theorem dX8_add_82 : decode cX8_add 82 = .ok (.return_, 1) := by decide +kernel
theorem dX8_subtract_0 : decode cX8_subtract 0 = .ok (.aload_n 0, 1) := by decide +kernel
theorem dX8_subtract_1 : decode cX8_subtract 1 = .ok (.getfield 13, 3) := by decide +kernel
theorem dX8_subtract_4 : decode cX8_subtract 4 = .ok (.istore_n 2, 1) := by decide +kernel
theorem dX8_subtract_5 : decode cX8_subtract 5 = .ok (.lconst 0, 1) := by decide +kernel
theorem dX8_subtract_6 : decode cX8_subtract 6 = .ok (.lstore_n 3, 1) := by decide +kernel
theorem dX8_subtract_7 : decode cX8_subtract 7 = .ok (.iconst 0, 1) := by decide +kernel
theorem dX8_subtract_8 : decode cX8_subtract 8 = .ok (.istore 5, 2) := by decide +kernel
theorem dX8_subtract_10 : decode cX8_subtract 10 = .ok (.iload 5, 2) := by decide +kernel
theorem dX8_subtract_12 : decode cX8_subtract 12 = .ok (.iload_n 2, 1) := by decide +kernel
theorem dX8_subtract_13 : decode cX8_subtract 13 = .ok (.if_icmp .ge 53, 3) := by decide +kernel
theorem dX8_subtract_16 : decode cX8_subtract 16 = .ok (.aload_n 0, 1) := by decide +kernel
theorem dX8_subtract_17 : decode cX8_subtract 17 = .ok (.iload 5, 2) := by decide +kernel
theorem dX8_subtract_19 : decode cX8_subtract 19 = .ok (.invokevirtual 38, 3) := by decide +kernel
theorem dX8_subtract_22 : decode cX8_subtract 22 = .ok (.aload_n 1, 1) := by decide +kernel
theorem dX8_subtract_23 : decode cX8_subtract 23 = .ok (.iload 5, 2) := by decide +kernel
theorem dX8_subtract_25 : decode cX8_subtract 25 = .ok (.invokevirtual 38, 3) := by decide +kernel
theorem dX8_subtract_28 : decode cX8_subtract 28 = .ok (.lsub, 1) := by decide +kernel
theorem dX8_subtract_29 : decode cX8_subtract 29 = .ok (.lload_n 3, 1) := by decide +kernel
theorem dX8_subtract_30 : decode cX8_subtract 30 = .ok (.lsub, 1) := by decide +kernel
theorem dX8_subtract_31 : decode cX8_subtract 31 = .ok (.lstore 6, 2) := by decide +kernel
theorem dX8_subtract_33 : decode cX8_subtract 33 = .ok (.lload 6, 2) := by decide +kernel
theorem dX8_subtract_35 : decode cX8_subtract 35 = .ok (.lconst 0, 1) := by decide +kernel
theorem dX8_subtract_36 : decode cX8_subtract 36 = .ok (.lcmp, 1) := by decide +kernel
theorem dX8_subtract_37 : decode cX8_subtract 37 = .ok (.ifCond .ge 7, 3) := by decide +kernel
theorem dX8_subtract_40 : decode cX8_subtract 40 = .ok (.lconst 1, 1) := by decide +kernel
theorem dX8_subtract_41 : decode cX8_subtract 41 = .ok (.goto 4, 3) := by decide +kernel
theorem dX8_subtract_44 : decode cX8_subtract 44 = .ok (.lconst 0, 1) := by decide +kernel
theorem dX8_subtract_45 : decode cX8_subtract 45 = .ok (.lstore_n 3, 1) := by decide +kernel
theorem dX8_subtract_46 : decode cX8_subtract 46 = .ok (.aload_n 0, 1) := by decide +kernel
theorem dX8_subtract_47 : decode cX8_subtract 47 = .ok (.iload 5, 2) := by decide +kernel
theorem dX8_subtract_49 : decode cX8_subtract 49 = .ok (.lload 6, 2) := by decide +kernel
theorem dX8_subtract_51 : decode cX8_subtract 51 = .ok (.lload_n 3, 1) := by decide +kernel
theorem dX8_subtract_52 : decode cX8_subtract 52 = .ok (.ldc2_w 30, 3) := by decide +kernel
theorem dX8_subtract_55 : decode cX8_subtract 55 = .ok (.lmul, 1) := by decide +kernel
theorem dX8_subtract_56 : decode cX8_subtract 56 = .ok (.ladd, 1) := by decide +kernel
theorem dX8_subtract_57 : decode cX8_subtract 57 = .ok (.invokevirtual 26, 3) := by decide +kernel
theorem dX8_subtract_60 : decode cX8_subtract 60 = .ok (.iinc 5 1, 3) := by decide +kernel
theorem dX8_subtract_63 : decode cX8_subtract 63 = .ok (.goto (-53), 3) := by decide +kernel
theorem dX8_subtract_66 : decode cX8_subtract 66 = .ok (.aload_n 0, 1) := by decide +kernel
theorem dX8_subtract_67 : decode cX8_subtract 67 = .ok (.iload_n 2, 1) := by decide +kernel
theorem dX8_subtract_68 : decode cX8_subtract 68 = .ok (.invokevirtual 32, 3) := by decide +kernel
theorem dX8_subtract_71 : decode cX8_subtract 71 = .ok (.return_, 1) := by decide +kernel
theorem dX8_scale_0 : decode cX8_scale 0 = .ok (.aload_n 0, 1) := by decide +kernel
theorem dX8_scale_1 : decode cX8_scale 1 = .ok (.getfield 13, 3) := by decide +kernel
theorem dX8_scale_4 : decode cX8_scale 4 = .ok (.istore 5, 2) := by decide +kernel
theorem dX8_scale_6 : decode cX8_scale 6 = .ok (.lload_n 3, 1) := by decide +kernel
theorem dX8_scale_7 : decode cX8_scale 7 = .ok (.lstore 6, 2) := by decide +kernel
theorem dX8_scale_9 : decode cX8_scale 9 = .ok (.iconst 0, 1) := by decide +kernel
theorem dX8_scale_10 : decode cX8_scale 10 = .ok (.istore 8, 2) := by decide +kernel
theorem dX8_scale_12 : decode cX8_scale 12 = .ok (.iload 8, 2) := by decide +kernel
theorem dX8_scale_14 : decode cX8_scale 14 = .ok (.iload 5, 2) := by decide +kernel
theorem dX8_scale_16 : decode cX8_scale 16 = .ok (.if_icmp .gt 42, 3) := by decide +kernel
theorem dX8_scale_19 : decode cX8_scale 19 = .ok (.aload_n 0, 1) := by decide +kernel
theorem dX8_scale_20 : decode cX8_scale 20 = .ok (.iload 8, 2) := by decide +kernel
theorem dX8_scale_22 : decode cX8_scale 22 = .ok (.invokevirtual 38, 3) := by decide +kernel
theorem dX8_scale_25 : decode cX8_scale 25 = .ok (.lload_n 1, 1) := by decide +kernel
theorem dX8_scale_26 : decode cX8_scale 26 = .ok (.lmul, 1) := by decide +kernel
theorem dX8_scale_27 : decode cX8_scale 27 = .ok (.lload 6, 2) := by decide +kernel
theorem dX8_scale_29 : decode cX8_scale 29 = .ok (.ladd, 1) := by decide +kernel
theorem dX8_scale_30 : decode cX8_scale 30 = .ok (.lstore 9, 2) := by decide +kernel
theorem dX8_scale_32 : decode cX8_scale 32 = .ok (.lload 9, 2) := by decide +kernel
theorem dX8_scale_34 : decode cX8_scale 34 = .ok (.ldc2_w 30, 3) := by decide +kernel
theorem dX8_scale_37 : decode cX8_scale 37 = .ok (.ldiv, 1) := by decide +kernel
theorem dX8_scale_38 : decode cX8_scale 38 = .ok (.lstore 6, 2) := by decide +kernel
theorem dX8_scale_40 : decode cX8_scale 40 = .ok (.aload_n 0, 1) := by decide +kernel
theorem dX8_scale_41 : decode cX8_scale 41 = .ok (.iload 8, 2) := by decide +kernel
theorem dX8_scale_43 : decode cX8_scale 43 = .ok (.lload 9, 2) := by decide +kernel
theorem dX8_scale_45 : decode cX8_scale 45 = .ok (.ldc2_w 30, 3) := by decide +kernel
theorem dX8_scale_48 : decode cX8_scale 48 = .ok (.lrem, 1) := by decide +kernel
theorem dX8_scale_49 : decode cX8_scale 49 = .ok (.invokevirtual 26, 3) := by decide +kernel
theorem dX8_scale_52 : decode cX8_scale 52 = .ok (.iinc 8 1, 3) := by decide +kernel
theorem dX8_scale_55 : decode cX8_scale 55 = .ok (.goto (-43), 3) := by decide +kernel
theorem dX8_scale_58 : decode cX8_scale 58 = .ok (.aload_n 0, 1) := by decide +kernel
theorem dX8_scale_59 : decode cX8_scale 59 = .ok (.iload 5, 2) := by decide +kernel
theorem dX8_scale_61 : decode cX8_scale 61 = .ok (.iconst 1, 1) := by decide +kernel
theorem dX8_scale_62 : decode cX8_scale 62 = .ok (.iadd, 1) := by decide +kernel
theorem dX8_scale_63 : decode cX8_scale 63 = .ok (.invokevirtual 32, 3) := by decide +kernel
theorem dX8_scale_66 : decode cX8_scale 66 = .ok (.return_, 1) := by decide +kernel
theorem dX8_shrink_0 : decode cX8_shrink 0 = .ok (.lload_n 1, 1) := by decide +kernel
theorem dX8_shrink_1 : decode cX8_shrink 1 = .ok (.lconst 0, 1) := by decide +kernel
theorem dX8_shrink_2 : decode cX8_shrink 2 = .ok (.lcmp, 1) := by decide +kernel
theorem dX8_shrink_3 : decode cX8_shrink 3 = .ok (.ifCond .gt 5, 3) := by decide +kernel
theorem dX8_shrink_6 : decode cX8_shrink 6 = .ok (.lconst 0, 1) := by decide +kernel
theorem dX8_shrink_7 : decode cX8_shrink 7 = .ok (.lreturn, 1) := by decide +kernel
theorem dX8_shrink_8 : decode cX8_shrink 8 = .ok (.lconst 0, 1) := by decide +kernel
theorem dX8_shrink_9 : decode cX8_shrink 9 = .ok (.lstore_n 3, 1) := by decide +kernel
theorem dX8_shrink_10 : decode cX8_shrink 10 = .ok (.aload_n 0, 1) := by decide +kernel
theorem dX8_shrink_11 : decode cX8_shrink 11 = .ok (.getfield 13, 3) := by decide +kernel
theorem dX8_shrink_14 : decode cX8_shrink 14 = .ok (.iconst 1, 1) := by decide +kernel
theorem dX8_shrink_15 : decode cX8_shrink 15 = .ok (.isub, 1) := by decide +kernel
theorem dX8_shrink_16 : decode cX8_shrink 16 = .ok (.istore 5, 2) := by decide +kernel
theorem dX8_shrink_18 : decode cX8_shrink 18 = .ok (.iload 5, 2) := by decide +kernel
theorem dX8_shrink_20 : decode cX8_shrink 20 = .ok (.ifCond .lt 38, 3) := by decide +kernel
theorem dX8_shrink_23 : decode cX8_shrink 23 = .ok (.lload_n 3, 1) := by decide +kernel
theorem dX8_shrink_24 : decode cX8_shrink 24 = .ok (.ldc2_w 30, 3) := by decide +kernel
theorem dX8_shrink_27 : decode cX8_shrink 27 = .ok (.lmul, 1) := by decide +kernel
theorem dX8_shrink_28 : decode cX8_shrink 28 = .ok (.aload_n 0, 1) := by decide +kernel
theorem dX8_shrink_29 : decode cX8_shrink 29 = .ok (.iload 5, 2) := by decide +kernel
theorem dX8_shrink_31 : decode cX8_shrink 31 = .ok (.invokevirtual 38, 3) := by decide +kernel
theorem dX8_shrink_34 : decode cX8_shrink 34 = .ok (.ladd, 1) := by decide +kernel
theorem dX8_shrink_35 : decode cX8_shrink 35 = .ok (.lstore 6, 2) := by decide +kernel
theorem dX8_shrink_37 : decode cX8_shrink 37 = .ok (.aload_n 0, 1) := by decide +kernel
theorem dX8_shrink_38 : decode cX8_shrink 38 = .ok (.iload 5, 2) := by decide +kernel
theorem dX8_shrink_40 : decode cX8_shrink 40 = .ok (.lload 6, 2) := by decide +kernel
theorem dX8_shrink_42 : decode cX8_shrink 42 = .ok (.lload_n 1, 1) := by decide +kernel
theorem dX8_shrink_43 : decode cX8_shrink 43 = .ok (.ldiv, 1) := by decide +kernel
theorem dX8_shrink_44 : decode cX8_shrink 44 = .ok (.invokevirtual 26, 3) := by decide +kernel
theorem dX8_shrink_47 : decode cX8_shrink 47 = .ok (.lload 6, 2) := by decide +kernel
theorem dX8_shrink_49 : decode cX8_shrink 49 = .ok (.lload_n 1, 1) := by decide +kernel
theorem dX8_shrink_50 : decode cX8_shrink 50 = .ok (.lrem, 1) := by decide +kernel
theorem dX8_shrink_51 : decode cX8_shrink 51 = .ok (.lstore_n 3, 1) := by decide +kernel
theorem dX8_shrink_52 : decode cX8_shrink 52 = .ok (.iinc 5 (-1), 3) := by decide +kernel
theorem dX8_shrink_55 : decode cX8_shrink 55 = .ok (.goto (-37), 3) := by decide +kernel
theorem dX8_shrink_58 : decode cX8_shrink 58 = .ok (.aload_n 0, 1) := by decide +kernel
theorem dX8_shrink_59 : decode cX8_shrink 59 = .ok (.aload_n 0, 1) := by decide +kernel
theorem dX8_shrink_60 : decode cX8_shrink 60 = .ok (.getfield 13, 3) := by decide +kernel
theorem dX8_shrink_63 : decode cX8_shrink 63 = .ok (.invokevirtual 32, 3) := by decide +kernel
theorem dX8_shrink_66 : decode cX8_shrink 66 = .ok (.lload_n 3, 1) := by decide +kernel
theorem dX8_shrink_67 : decode cX8_shrink 67 = .ok (.lreturn, 1) := by decide +kernel
theorem dX8_setProduct_0 : decode cX8_setProduct 0 = .ok (.aload_n 1, 1) := by decide +kernel
theorem dX8_setProduct_1 : decode cX8_setProduct 1 = .ok (.getfield 13, 3) := by decide +kernel
theorem dX8_setProduct_4 : decode cX8_setProduct 4 = .ok (.aload_n 2, 1) := by decide +kernel
theorem dX8_setProduct_5 : decode cX8_setProduct 5 = .ok (.getfield 13, 3) := by decide +kernel
theorem dX8_setProduct_8 : decode cX8_setProduct 8 = .ok (.iadd, 1) := by decide +kernel
theorem dX8_setProduct_9 : decode cX8_setProduct 9 = .ok (.istore_n 3, 1) := by decide +kernel
theorem dX8_setProduct_10 : decode cX8_setProduct 10 = .ok (.iconst 0, 1) := by decide +kernel
theorem dX8_setProduct_11 : decode cX8_setProduct 11 = .ok (.istore 4, 2) := by decide +kernel
theorem dX8_setProduct_13 : decode cX8_setProduct 13 = .ok (.iload 4, 2) := by decide +kernel
theorem dX8_setProduct_15 : decode cX8_setProduct 15 = .ok (.iload_n 3, 1) := by decide +kernel
theorem dX8_setProduct_16 : decode cX8_setProduct 16 = .ok (.if_icmp .ge 24, 3) := by decide +kernel
theorem dX8_setProduct_19 : decode cX8_setProduct 19 = .ok (.iload 4, 2) := by decide +kernel
theorem dX8_setProduct_21 : decode cX8_setProduct 21 = .ok (.bipush 56, 2) := by decide +kernel
theorem dX8_setProduct_23 : decode cX8_setProduct 23 = .ok (.if_icmp .ge 17, 3) := by decide +kernel
theorem dX8_setProduct_26 : decode cX8_setProduct 26 = .ok (.aload_n 0, 1) := by decide +kernel
theorem dX8_setProduct_27 : decode cX8_setProduct 27 = .ok (.getfield 9, 3) := by decide +kernel
theorem dX8_setProduct_30 : decode cX8_setProduct 30 = .ok (.iload 4, 2) := by decide +kernel
theorem dX8_setProduct_32 : decode cX8_setProduct 32 = .ok (.lconst 0, 1) := by decide +kernel
theorem dX8_setProduct_33 : decode cX8_setProduct 33 = .ok (.lastore, 1) := by decide +kernel
theorem dX8_setProduct_34 : decode cX8_setProduct 34 = .ok (.iinc 4 1, 3) := by decide +kernel
theorem dX8_setProduct_37 : decode cX8_setProduct 37 = .ok (.goto (-24), 3) := by decide +kernel
theorem dX8_setProduct_40 : decode cX8_setProduct 40 = .ok (.aload_n 0, 1) := by decide +kernel
theorem dX8_setProduct_41 : decode cX8_setProduct 41 = .ok (.iload_n 3, 1) := by decide +kernel
theorem dX8_setProduct_42 : decode cX8_setProduct 42 = .ok (.bipush 56, 2) := by decide +kernel
theorem dX8_setProduct_44 : decode cX8_setProduct 44 = .ok (.invokestatic 17, 3) := by decide +kernel
theorem dX8_setProduct_47 : decode cX8_setProduct 47 = .ok (.putfield 13, 3) := by decide +kernel
theorem dX8_setProduct_50 : decode cX8_setProduct 50 = .ok (.iconst 0, 1) := by decide +kernel
theorem dX8_setProduct_51 : decode cX8_setProduct 51 = .ok (.istore 4, 2) := by decide +kernel
theorem dX8_setProduct_53 : decode cX8_setProduct 53 = .ok (.iload 4, 2) := by decide +kernel
theorem dX8_setProduct_55 : decode cX8_setProduct 55 = .ok (.aload_n 1, 1) := by decide +kernel
theorem dX8_setProduct_56 : decode cX8_setProduct 56 = .ok (.getfield 13, 3) := by decide +kernel
theorem dX8_setProduct_59 : decode cX8_setProduct 59 = .ok (.if_icmp .ge 94, 3) := by decide +kernel
theorem dX8_setProduct_62 : decode cX8_setProduct 62 = .ok (.lconst 0, 1) := by decide +kernel
theorem dX8_setProduct_63 : decode cX8_setProduct 63 = .ok (.lstore 5, 2) := by decide +kernel
theorem dX8_setProduct_65 : decode cX8_setProduct 65 = .ok (.iconst 0, 1) := by decide +kernel
theorem dX8_setProduct_66 : decode cX8_setProduct 66 = .ok (.istore 7, 2) := by decide +kernel
theorem dX8_setProduct_68 : decode cX8_setProduct 68 = .ok (.iload 7, 2) := by decide +kernel
theorem dX8_setProduct_70 : decode cX8_setProduct 70 = .ok (.aload_n 2, 1) := by decide +kernel
theorem dX8_setProduct_71 : decode cX8_setProduct 71 = .ok (.getfield 13, 3) := by decide +kernel
theorem dX8_setProduct_74 : decode cX8_setProduct 74 = .ok (.if_icmp .ge 60, 3) := by decide +kernel
theorem dX8_setProduct_77 : decode cX8_setProduct 77 = .ok (.aload_n 0, 1) := by decide +kernel
theorem dX8_setProduct_78 : decode cX8_setProduct 78 = .ok (.iload 4, 2) := by decide +kernel
theorem dX8_setProduct_80 : decode cX8_setProduct 80 = .ok (.iload 7, 2) := by decide +kernel
theorem dX8_setProduct_82 : decode cX8_setProduct 82 = .ok (.iadd, 1) := by decide +kernel
theorem dX8_setProduct_83 : decode cX8_setProduct 83 = .ok (.invokevirtual 38, 3) := by decide +kernel
theorem dX8_setProduct_86 : decode cX8_setProduct 86 = .ok (.aload_n 1, 1) := by decide +kernel
theorem dX8_setProduct_87 : decode cX8_setProduct 87 = .ok (.iload 4, 2) := by decide +kernel
theorem dX8_setProduct_89 : decode cX8_setProduct 89 = .ok (.invokevirtual 38, 3) := by decide +kernel
theorem dX8_setProduct_92 : decode cX8_setProduct 92 = .ok (.aload_n 2, 1) := by decide +kernel
theorem dX8_setProduct_93 : decode cX8_setProduct 93 = .ok (.iload 7, 2) := by decide +kernel
theorem dX8_setProduct_95 : decode cX8_setProduct 95 = .ok (.invokevirtual 38, 3) := by decide +kernel
theorem dX8_setProduct_98 : decode cX8_setProduct 98 = .ok (.lmul, 1) := by decide +kernel
theorem dX8_setProduct_99 : decode cX8_setProduct 99 = .ok (.ladd, 1) := by decide +kernel
theorem dX8_setProduct_100 : decode cX8_setProduct 100 = .ok (.lload 5, 2) := by decide +kernel
theorem dX8_setProduct_102 : decode cX8_setProduct 102 = .ok (.ladd, 1) := by decide +kernel
theorem dX8_setProduct_103 : decode cX8_setProduct 103 = .ok (.lstore 8, 2) := by decide +kernel
theorem dX8_setProduct_105 : decode cX8_setProduct 105 = .ok (.lload 8, 2) := by decide +kernel
theorem dX8_setProduct_107 : decode cX8_setProduct 107 = .ok (.ldc2_w 30, 3) := by decide +kernel
theorem dX8_setProduct_110 : decode cX8_setProduct 110 = .ok (.ldiv, 1) := by decide +kernel
theorem dX8_setProduct_111 : decode cX8_setProduct 111 = .ok (.lstore 5, 2) := by decide +kernel
theorem dX8_setProduct_113 : decode cX8_setProduct 113 = .ok (.aload_n 0, 1) := by decide +kernel
theorem dX8_setProduct_114 : decode cX8_setProduct 114 = .ok (.iload 4, 2) := by decide +kernel
theorem dX8_setProduct_116 : decode cX8_setProduct 116 = .ok (.iload 7, 2) := by decide +kernel
theorem dX8_setProduct_118 : decode cX8_setProduct 118 = .ok (.iadd, 1) := by decide +kernel
theorem dX8_setProduct_119 : decode cX8_setProduct 119 = .ok (.lload 8, 2) := by decide +kernel
theorem dX8_setProduct_121 : decode cX8_setProduct 121 = .ok (.ldc2_w 30, 3) := by decide +kernel
theorem dX8_setProduct_124 : decode cX8_setProduct 124 = .ok (.lrem, 1) := by decide +kernel
theorem dX8_setProduct_125 : decode cX8_setProduct 125 = .ok (.invokevirtual 26, 3) := by decide +kernel
theorem dX8_setProduct_128 : decode cX8_setProduct 128 = .ok (.iinc 7 1, 3) := by decide +kernel
theorem dX8_setProduct_131 : decode cX8_setProduct 131 = .ok (.goto (-63), 3) := by decide +kernel
theorem dX8_setProduct_134 : decode cX8_setProduct 134 = .ok (.aload_n 0, 1) := by decide +kernel
theorem dX8_setProduct_135 : decode cX8_setProduct 135 = .ok (.iload 4, 2) := by decide +kernel
theorem dX8_setProduct_137 : decode cX8_setProduct 137 = .ok (.aload_n 2, 1) := by decide +kernel
theorem dX8_setProduct_138 : decode cX8_setProduct 138 = .ok (.getfield 13, 3) := by decide +kernel
theorem dX8_setProduct_141 : decode cX8_setProduct 141 = .ok (.iadd, 1) := by decide +kernel
theorem dX8_setProduct_142 : decode cX8_setProduct 142 = .ok (.lload 5, 2) := by decide +kernel
theorem dX8_setProduct_144 : decode cX8_setProduct 144 = .ok (.invokevirtual 26, 3) := by decide +kernel
theorem dX8_setProduct_147 : decode cX8_setProduct 147 = .ok (.iinc 4 1, 3) := by decide +kernel
theorem dX8_setProduct_150 : decode cX8_setProduct 150 = .ok (.goto (-97), 3) := by decide +kernel
theorem dX8_setProduct_153 : decode cX8_setProduct 153 = .ok (.aload_n 0, 1) := by decide +kernel
theorem dX8_setProduct_154 : decode cX8_setProduct 154 = .ok (.iload_n 3, 1) := by decide +kernel
theorem dX8_setProduct_155 : decode cX8_setProduct 155 = .ok (.invokevirtual 32, 3) := by decide +kernel
theorem dX8_setProduct_158 : decode cX8_setProduct 158 = .ok (.return_, 1) := by decide +kernel
theorem dX8_compareWith_0 : decode cX8_compareWith 0 = .ok (.aload_n 0, 1) := by decide +kernel
theorem dX8_compareWith_1 : decode cX8_compareWith 1 = .ok (.getfield 13, 3) := by decide +kernel
theorem dX8_compareWith_4 : decode cX8_compareWith 4 = .ok (.aload_n 1, 1) := by decide +kernel
theorem dX8_compareWith_5 : decode cX8_compareWith 5 = .ok (.getfield 13, 3) := by decide +kernel
theorem dX8_compareWith_8 : decode cX8_compareWith 8 = .ok (.if_icmp .eq 20, 3) := by decide +kernel
theorem dX8_compareWith_11 : decode cX8_compareWith 11 = .ok (.aload_n 0, 1) := by decide +kernel
theorem dX8_compareWith_12 : decode cX8_compareWith 12 = .ok (.getfield 13, 3) := by decide +kernel
theorem dX8_compareWith_15 : decode cX8_compareWith 15 = .ok (.aload_n 1, 1) := by decide +kernel
theorem dX8_compareWith_16 : decode cX8_compareWith 16 = .ok (.getfield 13, 3) := by decide +kernel
theorem dX8_compareWith_19 : decode cX8_compareWith 19 = .ok (.if_icmp .le 7, 3) := by decide +kernel
theorem dX8_compareWith_22 : decode cX8_compareWith 22 = .ok (.iconst 1, 1) := by decide +kernel
theorem dX8_compareWith_23 : decode cX8_compareWith 23 = .ok (.goto 4, 3) := by decide +kernel
theorem dX8_compareWith_26 : decode cX8_compareWith 26 = .ok (.iconst (-1), 1) := by decide +kernel
theorem dX8_compareWith_27 : decode cX8_compareWith 27 = .ok (.ireturn, 1) := by decide +kernel
theorem dX8_compareWith_28 : decode cX8_compareWith 28 = .ok (.aload_n 0, 1) := by decide +kernel
theorem dX8_compareWith_29 : decode cX8_compareWith 29 = .ok (.getfield 13, 3) := by decide +kernel
theorem dX8_compareWith_32 : decode cX8_compareWith 32 = .ok (.iconst 1, 1) := by decide +kernel
theorem dX8_compareWith_33 : decode cX8_compareWith 33 = .ok (.isub, 1) := by decide +kernel
theorem dX8_compareWith_34 : decode cX8_compareWith 34 = .ok (.istore_n 2, 1) := by decide +kernel
theorem dX8_compareWith_35 : decode cX8_compareWith 35 = .ok (.iload_n 2, 1) := by decide +kernel
theorem dX8_compareWith_36 : decode cX8_compareWith 36 = .ok (.ifCond .lt 43, 3) := by decide +kernel
theorem dX8_compareWith_39 : decode cX8_compareWith 39 = .ok (.aload_n 0, 1) := by decide +kernel
theorem dX8_compareWith_40 : decode cX8_compareWith 40 = .ok (.iload_n 2, 1) := by decide +kernel
theorem dX8_compareWith_41 : decode cX8_compareWith 41 = .ok (.invokevirtual 38, 3) := by decide +kernel
theorem dX8_compareWith_44 : decode cX8_compareWith 44 = .ok (.aload_n 1, 1) := by decide +kernel
theorem dX8_compareWith_45 : decode cX8_compareWith 45 = .ok (.iload_n 2, 1) := by decide +kernel
theorem dX8_compareWith_46 : decode cX8_compareWith 46 = .ok (.invokevirtual 38, 3) := by decide +kernel
theorem dX8_compareWith_49 : decode cX8_compareWith 49 = .ok (.lcmp, 1) := by decide +kernel
theorem dX8_compareWith_50 : decode cX8_compareWith 50 = .ok (.ifCond .eq 23, 3) := by decide +kernel
theorem dX8_compareWith_53 : decode cX8_compareWith 53 = .ok (.aload_n 0, 1) := by decide +kernel
theorem dX8_compareWith_54 : decode cX8_compareWith 54 = .ok (.iload_n 2, 1) := by decide +kernel
theorem dX8_compareWith_55 : decode cX8_compareWith 55 = .ok (.invokevirtual 38, 3) := by decide +kernel
theorem dX8_compareWith_58 : decode cX8_compareWith 58 = .ok (.aload_n 1, 1) := by decide +kernel
theorem dX8_compareWith_59 : decode cX8_compareWith 59 = .ok (.iload_n 2, 1) := by decide +kernel
theorem dX8_compareWith_60 : decode cX8_compareWith 60 = .ok (.invokevirtual 38, 3) := by decide +kernel
theorem dX8_compareWith_63 : decode cX8_compareWith 63 = .ok (.lcmp, 1) := by decide +kernel
theorem dX8_compareWith_64 : decode cX8_compareWith 64 = .ok (.ifCond .le 7, 3) := by decide +kernel
theorem dX8_compareWith_67 : decode cX8_compareWith 67 = .ok (.iconst 1, 1) := by decide +kernel
theorem dX8_compareWith_68 : decode cX8_compareWith 68 = .ok (.goto 4, 3) := by decide +kernel
theorem dX8_compareWith_71 : decode cX8_compareWith 71 = .ok (.iconst (-1), 1) := by decide +kernel
theorem dX8_compareWith_72 : decode cX8_compareWith 72 = .ok (.ireturn, 1) := by decide +kernel
theorem dX8_compareWith_73 : decode cX8_compareWith 73 = .ok (.iinc 2 (-1), 3) := by decide +kernel
theorem dX8_compareWith_76 : decode cX8_compareWith 76 = .ok (.goto (-41), 3) := by decide +kernel
theorem dX8_compareWith_79 : decode cX8_compareWith 79 = .ok (.iconst 0, 1) := by decide +kernel
theorem dX8_compareWith_80 : decode cX8_compareWith 80 = .ok (.ireturn, 1) := by decide +kernel
theorem dX8_countFigures_0 : decode cX8_countFigures 0 = .ok (.aload_n 0, 1) := by decide +kernel
theorem dX8_countFigures_1 : decode cX8_countFigures 1 = .ok (.getfield 13, 3) := by decide +kernel
theorem dX8_countFigures_4 : decode cX8_countFigures 4 = .ok (.ifCond .ne 5, 3) := by decide +kernel
theorem dX8_countFigures_7 : decode cX8_countFigures 7 = .ok (.iconst 1, 1) := by decide +kernel
theorem dX8_countFigures_8 : decode cX8_countFigures 8 = .ok (.ireturn, 1) := by decide +kernel
theorem dX8_countFigures_9 : decode cX8_countFigures 9 = .ok (.aload_n 0, 1) := by decide +kernel
theorem dX8_countFigures_10 : decode cX8_countFigures 10 = .ok (.getfield 13, 3) := by decide +kernel
theorem dX8_countFigures_13 : decode cX8_countFigures 13 = .ok (.iconst 1, 1) := by decide +kernel
theorem dX8_countFigures_14 : decode cX8_countFigures 14 = .ok (.isub, 1) := by decide +kernel
theorem dX8_countFigures_15 : decode cX8_countFigures 15 = .ok (.bipush 9, 2) := by decide +kernel
theorem dX8_countFigures_17 : decode cX8_countFigures 17 = .ok (.imul, 1) := by decide +kernel
theorem dX8_countFigures_18 : decode cX8_countFigures 18 = .ok (.istore_n 1, 1) := by decide +kernel
theorem dX8_countFigures_19 : decode cX8_countFigures 19 = .ok (.aload_n 0, 1) := by decide +kernel
theorem dX8_countFigures_20 : decode cX8_countFigures 20 = .ok (.aload_n 0, 1) := by decide +kernel
theorem dX8_countFigures_21 : decode cX8_countFigures 21 = .ok (.getfield 13, 3) := by decide +kernel
theorem dX8_countFigures_24 : decode cX8_countFigures 24 = .ok (.iconst 1, 1) := by decide +kernel
theorem dX8_countFigures_25 : decode cX8_countFigures 25 = .ok (.isub, 1) := by decide +kernel
theorem dX8_countFigures_26 : decode cX8_countFigures 26 = .ok (.invokevirtual 38, 3) := by decide +kernel
theorem dX8_countFigures_29 : decode cX8_countFigures 29 = .ok (.lstore_n 2, 1) := by decide +kernel
theorem dX8_countFigures_30 : decode cX8_countFigures 30 = .ok (.iconst 0, 1) := by decide +kernel
theorem dX8_countFigures_31 : decode cX8_countFigures 31 = .ok (.istore 4, 2) := by decide +kernel
theorem dX8_countFigures_33 : decode cX8_countFigures 33 = .ok (.iload 4, 2) := by decide +kernel
theorem dX8_countFigures_35 : decode cX8_countFigures 35 = .ok (.bipush 9, 2) := by decide +kernel
theorem dX8_countFigures_37 : decode cX8_countFigures 37 = .ok (.if_icmp .ge 24, 3) := by decide +kernel
theorem dX8_countFigures_40 : decode cX8_countFigures 40 = .ok (.lload_n 2, 1) := by decide +kernel
theorem dX8_countFigures_41 : decode cX8_countFigures 41 = .ok (.lconst 0, 1) := by decide +kernel
theorem dX8_countFigures_42 : decode cX8_countFigures 42 = .ok (.lcmp, 1) := by decide +kernel
theorem dX8_countFigures_43 : decode cX8_countFigures 43 = .ok (.ifCond .le 18, 3) := by decide +kernel
theorem dX8_countFigures_46 : decode cX8_countFigures 46 = .ok (.iinc 1 1, 3) := by decide +kernel
theorem dX8_countFigures_49 : decode cX8_countFigures 49 = .ok (.lload_n 2, 1) := by decide +kernel
theorem dX8_countFigures_50 : decode cX8_countFigures 50 = .ok (.ldc2_w 36, 3) := by decide +kernel
theorem dX8_countFigures_53 : decode cX8_countFigures 53 = .ok (.ldiv, 1) := by decide +kernel
theorem dX8_countFigures_54 : decode cX8_countFigures 54 = .ok (.lstore_n 2, 1) := by decide +kernel
theorem dX8_countFigures_55 : decode cX8_countFigures 55 = .ok (.iinc 4 1, 3) := by decide +kernel
theorem dX8_countFigures_58 : decode cX8_countFigures 58 = .ok (.goto (-25), 3) := by decide +kernel
theorem dX8_countFigures_61 : decode cX8_countFigures 61 = .ok (.iload_n 1, 1) := by decide +kernel
theorem dX8_countFigures_62 : decode cX8_countFigures 62 = .ok (.ireturn, 1) := by decide +kernel
theorem dX9_init_0 : decode cX9_init 0 = .ok (.aload_n 0, 1) := by decide +kernel
theorem dX9_init_1 : decode cX9_init 1 = .ok (.invokespecial 1, 3) := by decide +kernel
theorem dX9_init_4 : decode cX9_init 4 = .ok (.aload_n 0, 1) := by decide +kernel
theorem dX9_init_5 : decode cX9_init 5 = .ok (.bipush 8, 2) := by decide +kernel
theorem dX9_init_7 : decode cX9_init 7 = .ok (.anewarray 9, 3) := by decide +kernel
theorem dX9_init_10 : decode cX9_init 10 = .ok (.putfield 11, 3) := by decide +kernel
theorem dX9_init_13 : decode cX9_init 13 = .ok (.aload_n 0, 1) := by decide +kernel
theorem dX9_init_14 : decode cX9_init 14 = .ok (.bipush 8, 2) := by decide +kernel
theorem dX9_init_16 : decode cX9_init 16 = .ok (.anewarray 9, 3) := by decide +kernel
theorem dX9_init_19 : decode cX9_init 19 = .ok (.putfield 15, 3) := by decide +kernel
theorem dX9_init_22 : decode cX9_init 22 = .ok (.aload_n 0, 1) := by decide +kernel
theorem dX9_init_23 : decode cX9_init 23 = .ok (.iconst 4, 1) := by decide +kernel
theorem dX9_init_24 : decode cX9_init 24 = .ok (.anewarray 18, 3) := by decide +kernel
theorem dX9_init_27 : decode cX9_init 27 = .ok (.putfield 20, 3) := by decide +kernel
theorem dX9_init_30 : decode cX9_init 30 = .ok (.aload_n 0, 1) := by decide +kernel
theorem dX9_init_31 : decode cX9_init 31 = .ok (.new 24, 3) := by decide +kernel
theorem dX9_init_34 : decode cX9_init 34 = .ok (.dup, 1) := by decide +kernel
theorem dX9_init_35 : decode cX9_init 35 = .ok (.invokespecial 26, 3) := by decide +kernel
theorem dX9_init_38 : decode cX9_init 38 = .ok (.putfield 27, 3) := by decide +kernel
theorem dX9_init_41 : decode cX9_init 41 = .ok (.aload_n 0, 1) := by decide +kernel
theorem dX9_init_42 : decode cX9_init 42 = .ok (.new 31, 3) := by decide +kernel
theorem dX9_init_45 : decode cX9_init 45 = .ok (.dup, 1) := by decide +kernel
theorem dX9_init_46 : decode cX9_init 46 = .ok (.invokespecial 33, 3) := by decide +kernel
theorem dX9_init_49 : decode cX9_init 49 = .ok (.putfield 34, 3) := by decide +kernel
theorem dX9_init_52 : decode cX9_init 52 = .ok (.aload_n 0, 1) := by decide +kernel
theorem dX9_init_53 : decode cX9_init 53 = .ok (.new 38, 3) := by decide +kernel
theorem dX9_init_56 : decode cX9_init 56 = .ok (.dup, 1) := by decide +kernel
theorem dX9_init_57 : decode cX9_init 57 = .ok (.aload_n 0, 1) := by decide +kernel
theorem dX9_init_58 : decode cX9_init 58 = .ok (.getfield 34, 3) := by decide +kernel
theorem dX9_init_61 : decode cX9_init 61 = .ok (.invokespecial 40, 3) := by decide +kernel
theorem dX9_init_64 : decode cX9_init 64 = .ok (.putfield 43, 3) := by decide +kernel
theorem dX9_init_67 : decode cX9_init 67 = .ok (.aload_n 0, 1) := by decide +kernel
theorem dX9_init_68 : decode cX9_init 68 = .ok (.new 47, 3) := by decide +kernel
theorem dX9_init_71 : decode cX9_init 71 = .ok (.dup, 1) := by decide +kernel
theorem dX9_init_72 : decode cX9_init 72 = .ok (.invokespecial 49, 3) := by decide +kernel
theorem dX9_init_75 : decode cX9_init 75 = .ok (.putfield 50, 3) := by decide +kernel
theorem dX9_init_78 : decode cX9_init 78 = .ok (.aload_n 0, 1) := by decide +kernel
theorem dX9_init_79 : decode cX9_init 79 = .ok (.new 54, 3) := by decide +kernel
theorem dX9_init_82 : decode cX9_init 82 = .ok (.dup, 1) := by decide +kernel
theorem dX9_init_83 : decode cX9_init 83 = .ok (.aload_n 0, 1) := by decide +kernel
theorem dX9_init_84 : decode cX9_init 84 = .ok (.getfield 50, 3) := by decide +kernel
theorem dX9_init_87 : decode cX9_init 87 = .ok (.invokespecial 56, 3) := by decide +kernel
theorem dX9_init_90 : decode cX9_init 90 = .ok (.putfield 59, 3) := by decide +kernel
theorem dX9_init_93 : decode cX9_init 93 = .ok (.aload_n 0, 1) := by decide +kernel
theorem dX9_init_94 : decode cX9_init 94 = .ok (.new 63, 3) := by decide +kernel
theorem dX9_init_97 : decode cX9_init 97 = .ok (.dup, 1) := by decide +kernel
theorem dX9_init_98 : decode cX9_init 98 = .ok (.invokespecial 65, 3) := by decide +kernel
theorem dX9_init_101 : decode cX9_init 101 = .ok (.putfield 66, 3) := by decide +kernel
theorem dX9_init_104 : decode cX9_init 104 = .ok (.aload_n 0, 1) := by decide +kernel
theorem dX9_init_105 : decode cX9_init 105 = .ok (.new 63, 3) := by decide +kernel
theorem dX9_init_108 : decode cX9_init 108 = .ok (.dup, 1) := by decide +kernel
theorem dX9_init_109 : decode cX9_init 109 = .ok (.invokespecial 65, 3) := by decide +kernel
theorem dX9_init_112 : decode cX9_init 112 = .ok (.putfield 70, 3) := by decide +kernel
theorem dX9_init_115 : decode cX9_init 115 = .ok (.iconst 0, 1) := by decide +kernel
theorem dX9_init_116 : decode cX9_init 116 = .ok (.istore_n 1, 1) := by decide +kernel
theorem dX9_init_117 : decode cX9_init 117 = .ok (.iload_n 1, 1) := by decide +kernel
theorem dX9_init_118 : decode cX9_init 118 = .ok (.bipush 8, 2) := by decide +kernel
theorem dX9_init_120 : decode cX9_init 120 = .ok (.if_icmp .ge 35, 3) := by decide +kernel
theorem dX9_init_123 : decode cX9_init 123 = .ok (.aload_n 0, 1) := by decide +kernel
theorem dX9_init_124 : decode cX9_init 124 = .ok (.getfield 11, 3) := by decide +kernel
theorem dX9_init_127 : decode cX9_init 127 = .ok (.iload_n 1, 1) := by decide +kernel
theorem dX9_init_128 : decode cX9_init 128 = .ok (.new 9, 3) := by decide +kernel
theorem dX9_init_131 : decode cX9_init 131 = .ok (.dup, 1) := by decide +kernel
theorem dX9_init_132 : decode cX9_init 132 = .ok (.invokespecial 73, 3) := by decide +kernel
theorem dX9_init_135 : decode cX9_init 135 = .ok (.aastore, 1) := by decide +kernel
theorem dX9_init_136 : decode cX9_init 136 = .ok (.aload_n 0, 1) := by decide +kernel
theorem dX9_init_137 : decode cX9_init 137 = .ok (.getfield 15, 3) := by decide +kernel
theorem dX9_init_140 : decode cX9_init 140 = .ok (.iload_n 1, 1) := by decide +kernel
theorem dX9_init_141 : decode cX9_init 141 = .ok (.new 9, 3) := by decide +kernel
theorem dX9_init_144 : decode cX9_init 144 = .ok (.dup, 1) := by decide +kernel
theorem dX9_init_145 : decode cX9_init 145 = .ok (.invokespecial 73, 3) := by decide +kernel
theorem dX9_init_148 : decode cX9_init 148 = .ok (.aastore, 1) := by decide +kernel
theorem dX9_init_149 : decode cX9_init 149 = .ok (.iinc 1 1, 3) := by decide +kernel
theorem dX9_init_152 : decode cX9_init 152 = .ok (.goto (-35), 3) := by decide +kernel
theorem dX9_init_155 : decode cX9_init 155 = .ok (.iconst 0, 1) := by decide +kernel
theorem dX9_init_156 : decode cX9_init 156 = .ok (.istore_n 1, 1) := by decide +kernel
theorem dX9_init_157 : decode cX9_init 157 = .ok (.iload_n 1, 1) := by decide +kernel
theorem dX9_init_158 : decode cX9_init 158 = .ok (.iconst 4, 1) := by decide +kernel
theorem dX9_init_159 : decode cX9_init 159 = .ok (.if_icmp .ge 22, 3) := by decide +kernel
theorem dX9_init_162 : decode cX9_init 162 = .ok (.aload_n 0, 1) := by decide +kernel
theorem dX9_init_163 : decode cX9_init 163 = .ok (.getfield 20, 3) := by decide +kernel
theorem dX9_init_166 : decode cX9_init 166 = .ok (.iload_n 1, 1) := by decide +kernel
theorem dX9_init_167 : decode cX9_init 167 = .ok (.new 18, 3) := by decide +kernel
theorem dX9_init_170 : decode cX9_init 170 = .ok (.dup, 1) := by decide +kernel
theorem dX9_init_171 : decode cX9_init 171 = .ok (.invokespecial 74, 3) := by decide +kernel
theorem dX9_init_174 : decode cX9_init 174 = .ok (.aastore, 1) := by decide +kernel
theorem dX9_init_175 : decode cX9_init 175 = .ok (.iinc 1 1, 3) := by decide +kernel
theorem dX9_init_178 : decode cX9_init 178 = .ok (.goto (-21), 3) := by decide +kernel
theorem dX9_init_181 : decode cX9_init 181 = .ok (.return_, 1) := by decide +kernel
theorem dX9_put_0 : decode cX9_put 0 = .ok (.iload_n 1, 1) := by decide +kernel
theorem dX9_put_1 : decode cX9_put 1 = .ok (.invokestatic 75, 3) := by decide +kernel
theorem dX9_put_4 : decode cX9_put 4 = .ok (.ifCond .eq 9, 3) := by decide +kernel
theorem dX9_put_7 : decode cX9_put 7 = .ok (.lload_n 2, 1) := by decide +kernel
theorem dX9_put_8 : decode cX9_put 8 = .ok (.lconst 0, 1) := by decide +kernel
theorem dX9_put_9 : decode cX9_put 9 = .ok (.lcmp, 1) := by decide +kernel
theorem dX9_put_10 : decode cX9_put 10 = .ok (.ifCond .ge 5, 3) := by decide +kernel
theorem dX9_put_13 : decode cX9_put 13 = .ok (.iconst (-1), 1) := by decide +kernel
theorem dX9_put_14 : decode cX9_put 14 = .ok (.ireturn, 1) := by decide +kernel
theorem dX9_put_15 : decode cX9_put 15 = .ok (.aload_n 0, 1) := by decide +kernel
theorem dX9_put_16 : decode cX9_put 16 = .ok (.getfield 66, 3) := by decide +kernel
theorem dX9_put_19 : decode cX9_put 19 = .ok (.lload_n 2, 1) := by decide +kernel
theorem dX9_put_20 : decode cX9_put 20 = .ok (.invokevirtual 79, 3) := by decide +kernel
theorem dX9_put_23 : decode cX9_put 23 = .ok (.aload_n 0, 1) := by decide +kernel
theorem dX9_put_24 : decode cX9_put 24 = .ok (.iload_n 1, 1) := by decide +kernel
theorem dX9_put_25 : decode cX9_put 25 = .ok (.aload_n 0, 1) := by decide +kernel
theorem dX9_put_26 : decode cX9_put 26 = .ok (.getfield 66, 3) := by decide +kernel
theorem dX9_put_29 : decode cX9_put 29 = .ok (.invokevirtual 83, 3) := by decide +kernel
theorem dX9_put_32 : decode cX9_put 32 = .ok (.ireturn, 1) := by decide +kernel
theorem dX9_shape_0 : decode cX9_shape 0 = .ok (.iload_n 1, 1) := by decide +kernel
theorem dX9_shape_1 : decode cX9_shape 1 = .ok (.invokestatic 75, 3) := by decide +kernel
theorem dX9_shape_4 : decode cX9_shape 4 = .ok (.ifCond .eq 12, 3) := by decide +kernel
theorem dX9_shape_7 : decode cX9_shape 7 = .ok (.iload_n 2, 1) := by decide +kernel
theorem dX9_shape_8 : decode cX9_shape 8 = .ok (.ifCond .lt 8, 3) := by decide +kernel
theorem dX9_shape_11 : decode cX9_shape 11 = .ok (.iload_n 2, 1) := by decide +kernel
theorem dX9_shape_12 : decode cX9_shape 12 = .ok (.iconst 4, 1) := by decide +kernel
theorem dX9_shape_13 : decode cX9_shape 13 = .ok (.if_icmp .le 5, 3) := by decide +kernel
theorem dX9_shape_16 : decode cX9_shape 16 = .ok (.iconst (-1), 1) := by decide +kernel
theorem dX9_shape_17 : decode cX9_shape 17 = .ok (.ireturn, 1) := by decide +kernel
theorem dX9_shape_18 : decode cX9_shape 18 = .ok (.iload_n 2, 1) := by decide +kernel
theorem dX9_shape_19 : decode cX9_shape 19 = .ok (.iconst 3, 1) := by decide +kernel
theorem dX9_shape_20 : decode cX9_shape 20 = .ok (.if_icmp .lt 17, 3) := by decide +kernel
theorem dX9_shape_23 : decode cX9_shape 23 = .ok (.iload_n 3, 1) := by decide +kernel
theorem dX9_shape_24 : decode cX9_shape 24 = .ok (.iconst 3, 1) := by decide +kernel
theorem dX9_shape_25 : decode cX9_shape 25 = .ok (.if_icmp .lt 16, 3) := by decide +kernel
theorem dX9_shape_28 : decode cX9_shape 28 = .ok (.iload_n 3, 1) := by decide +kernel
theorem dX9_shape_29 : decode cX9_shape 29 = .ok (.bipush 99, 2) := by decide +kernel
theorem dX9_shape_31 : decode cX9_shape 31 = .ok (.if_icmp .le 12, 3) := by decide +kernel
theorem dX9_shape_34 : decode cX9_shape 34 = .ok (.goto 7, 3) := by decide +kernel
theorem dX9_shape_37 : decode cX9_shape 37 = .ok (.iload_n 3, 1) := by decide +kernel
theorem dX9_shape_38 : decode cX9_shape 38 = .ok (.ifCond .eq 5, 3) := by decide +kernel
theorem dX9_shape_41 : decode cX9_shape 41 = .ok (.iconst (-1), 1) := by decide +kernel
theorem dX9_shape_42 : decode cX9_shape 42 = .ok (.ireturn, 1) := by decide +kernel
theorem dX9_shape_43 : decode cX9_shape 43 = .ok (.aload_n 0, 1) := by decide +kernel
theorem dX9_shape_44 : decode cX9_shape 44 = .ok (.getfield 11, 3) := by decide +kernel
theorem dX9_shape_47 : decode cX9_shape 47 = .ok (.iload_n 1, 1) := by decide +kernel
theorem dX9_shape_48 : decode cX9_shape 48 = .ok (.aaload, 1) := by decide +kernel
theorem dX9_shape_49 : decode cX9_shape 49 = .ok (.iload_n 2, 1) := by decide +kernel
theorem dX9_shape_50 : decode cX9_shape 50 = .ok (.iload_n 3, 1) := by decide +kernel
theorem dX9_shape_51 : decode cX9_shape 51 = .ok (.invokevirtual 87, 3) := by decide +kernel
theorem dX9_shape_54 : decode cX9_shape 54 = .ok (.iconst 1, 1) := by decide +kernel
theorem dX9_shape_55 : decode cX9_shape 55 = .ok (.ireturn, 1) := by decide +kernel
theorem dX9_empty_0 : decode cX9_empty 0 = .ok (.iload_n 1, 1) := by decide +kernel
theorem dX9_empty_1 : decode cX9_empty 1 = .ok (.invokestatic 75, 3) := by decide +kernel
theorem dX9_empty_4 : decode cX9_empty 4 = .ok (.ifCond .ne 5, 3) := by decide +kernel
theorem dX9_empty_7 : decode cX9_empty 7 = .ok (.iconst (-1), 1) := by decide +kernel
theorem dX9_empty_8 : decode cX9_empty 8 = .ok (.ireturn, 1) := by decide +kernel
theorem dX9_empty_9 : decode cX9_empty 9 = .ok (.aload_n 0, 1) := by decide +kernel
theorem dX9_empty_10 : decode cX9_empty 10 = .ok (.getfield 11, 3) := by decide +kernel
theorem dX9_empty_13 : decode cX9_empty 13 = .ok (.iload_n 1, 1) := by decide +kernel
theorem dX9_empty_14 : decode cX9_empty 14 = .ok (.aaload, 1) := by decide +kernel
theorem dX9_empty_15 : decode cX9_empty 15 = .ok (.getfield 91, 3) := by decide +kernel
theorem dX9_empty_18 : decode cX9_empty 18 = .ok (.istore_n 2, 1) := by decide +kernel
theorem dX9_empty_19 : decode cX9_empty 19 = .ok (.aload_n 0, 1) := by decide +kernel
theorem dX9_empty_20 : decode cX9_empty 20 = .ok (.getfield 11, 3) := by decide +kernel
theorem dX9_empty_23 : decode cX9_empty 23 = .ok (.iload_n 1, 1) := by decide +kernel
theorem dX9_empty_24 : decode cX9_empty 24 = .ok (.aaload, 1) := by decide +kernel
theorem dX9_empty_25 : decode cX9_empty 25 = .ok (.invokevirtual 95, 3) := by decide +kernel
theorem dX9_empty_28 : decode cX9_empty 28 = .ok (.iload_n 2, 1) := by decide +kernel
theorem dX9_empty_29 : decode cX9_empty 29 = .ok (.ireturn, 1) := by decide +kernel
theorem dX9_told_0 : decode cX9_told 0 = .ok (.iload_n 1, 1) := by decide +kernel
theorem dX9_told_1 : decode cX9_told 1 = .ok (.invokestatic 75, 3) := by decide +kernel
theorem dX9_told_4 : decode cX9_told 4 = .ok (.ifCond .eq 15, 3) := by decide +kernel
theorem dX9_told_7 : decode cX9_told 7 = .ok (.aload_n 0, 1) := by decide +kernel
theorem dX9_told_8 : decode cX9_told 8 = .ok (.getfield 11, 3) := by decide +kernel
theorem dX9_told_11 : decode cX9_told 11 = .ok (.iload_n 1, 1) := by decide +kernel
theorem dX9_told_12 : decode cX9_told 12 = .ok (.aaload, 1) := by decide +kernel
theorem dX9_told_13 : decode cX9_told 13 = .ok (.getfield 91, 3) := by decide +kernel
theorem dX9_told_16 : decode cX9_told 16 = .ok (.goto 4, 3) := by decide +kernel
theorem dX9_told_19 : decode cX9_told 19 = .ok (.iconst (-1), 1) := by decide +kernel
theorem dX9_told_20 : decode cX9_told 20 = .ok (.ireturn, 1) := by decide +kernel
theorem dX9_type_0 : decode cX9_type 0 = .ok (.iload_n 3, 1) := by decide +kernel
theorem dX9_type_1 : decode cX9_type 1 = .ok (.iconst 1, 1) := by decide +kernel
theorem dX9_type_2 : decode cX9_type 2 = .ok (.if_icmp .lt 17, 3) := by decide +kernel
theorem dX9_type_5 : decode cX9_type 5 = .ok (.iload_n 3, 1) := by decide +kernel
theorem dX9_type_6 : decode cX9_type 6 = .ok (.bipush 8, 2) := by decide +kernel
theorem dX9_type_8 : decode cX9_type 8 = .ok (.if_icmp .gt 11, 3) := by decide +kernel
theorem dX9_type_11 : decode cX9_type 11 = .ok (.lload_n 1, 1) := by decide +kernel
theorem dX9_type_12 : decode cX9_type 12 = .ok (.iload_n 3, 1) := by decide +kernel
theorem dX9_type_13 : decode cX9_type 13 = .ok (.invokestatic 98, 3) := by decide +kernel
theorem dX9_type_16 : decode cX9_type 16 = .ok (.ifCond .ne 5, 3) := by decide +kernel
theorem dX9_type_19 : decode cX9_type 19 = .ok (.iconst (-1), 1) := by decide +kernel
theorem dX9_type_20 : decode cX9_type 20 = .ok (.ireturn, 1) := by decide +kernel
theorem dX9_type_21 : decode cX9_type 21 = .ok (.iload_n 3, 1) := by decide +kernel
theorem dX9_type_22 : decode cX9_type 22 = .ok (.bipush 100, 2) := by decide +kernel
theorem dX9_type_24 : decode cX9_type 24 = .ok (.aload_n 0, 1) := by decide +kernel
theorem dX9_type_25 : decode cX9_type 25 = .ok (.getfield 27, 3) := by decide +kernel
theorem dX9_type_28 : decode cX9_type 28 = .ok (.getfield 102, 3) := by decide +kernel
theorem dX9_type_31 : decode cX9_type 31 = .ok (.isub, 1) := by decide +kernel
theorem dX9_type_32 : decode cX9_type 32 = .ok (.if_icmp .le 6, 3) := by decide +kernel
theorem dX9_type_35 : decode cX9_type 35 = .ok (.bipush (-3), 2) := by decide +kernel
theorem dX9_type_37 : decode cX9_type 37 = .ok (.ireturn, 1) := by decide +kernel
theorem dX9_type_38 : decode cX9_type 38 = .ok (.aload_n 0, 1) := by decide +kernel
theorem dX9_type_39 : decode cX9_type 39 = .ok (.getfield 27, 3) := by decide +kernel
theorem dX9_type_42 : decode cX9_type 42 = .ok (.lload_n 1, 1) := by decide +kernel
theorem dX9_type_43 : decode cX9_type 43 = .ok (.iload_n 3, 1) := by decide +kernel
theorem dX9_type_44 : decode cX9_type 44 = .ok (.invokevirtual 105, 3) := by decide +kernel
theorem dX9_type_47 : decode cX9_type 47 = .ok (.aload_n 0, 1) := by decide +kernel
theorem dX9_type_48 : decode cX9_type 48 = .ok (.getfield 27, 3) := by decide +kernel
theorem dX9_type_51 : decode cX9_type 51 = .ok (.getfield 102, 3) := by decide +kernel
theorem dX9_type_54 : decode cX9_type 54 = .ok (.ireturn, 1) := by decide +kernel
theorem dX9_number_0 : decode cX9_number 0 = .ok (.iload_n 1, 1) := by decide +kernel
theorem dX9_number_1 : decode cX9_number 1 = .ok (.invokestatic 75, 3) := by decide +kernel
theorem dX9_number_4 : decode cX9_number 4 = .ok (.ifCond .ne 5, 3) := by decide +kernel
theorem dX9_number_7 : decode cX9_number 7 = .ok (.iconst (-1), 1) := by decide +kernel
theorem dX9_number_8 : decode cX9_number 8 = .ok (.ireturn, 1) := by decide +kernel
theorem dX9_number_9 : decode cX9_number 9 = .ok (.aload_n 0, 1) := by decide +kernel
theorem dX9_number_10 : decode cX9_number 10 = .ok (.getfield 27, 3) := by decide +kernel
theorem dX9_number_13 : decode cX9_number 13 = .ok (.aload_n 0, 1) := by decide +kernel
theorem dX9_number_14 : decode cX9_number 14 = .ok (.getfield 66, 3) := by decide +kernel
theorem dX9_number_17 : decode cX9_number 17 = .ok (.aload_n 0, 1) := by decide +kernel
theorem dX9_number_18 : decode cX9_number 18 = .ok (.getfield 70, 3) := by decide +kernel
theorem dX9_number_21 : decode cX9_number 21 = .ok (.invokevirtual 109, 3) := by decide +kernel
theorem dX9_number_24 : decode cX9_number 24 = .ok (.istore_n 2, 1) := by decide +kernel
theorem dX9_number_25 : decode cX9_number 25 = .ok (.aload_n 0, 1) := by decide +kernel
theorem dX9_number_26 : decode cX9_number 26 = .ok (.getfield 27, 3) := by decide +kernel
theorem dX9_number_29 : decode cX9_number 29 = .ok (.iconst 0, 1) := by decide +kernel
theorem dX9_number_30 : decode cX9_number 30 = .ok (.putfield 102, 3) := by decide +kernel
theorem dX9_number_33 : decode cX9_number 33 = .ok (.iload_n 2, 1) := by decide +kernel
theorem dX9_number_34 : decode cX9_number 34 = .ok (.ifCond .eq 7, 3) := by decide +kernel
theorem dX9_number_37 : decode cX9_number 37 = .ok (.iload_n 2, 1) := by decide +kernel
theorem dX9_number_38 : decode cX9_number 38 = .ok (.goto 12, 3) := by decide +kernel
theorem dX9_number_41 : decode cX9_number 41 = .ok (.aload_n 0, 1) := by decide +kernel
theorem dX9_number_42 : decode cX9_number 42 = .ok (.iload_n 1, 1) := by decide +kernel
theorem dX9_number_43 : decode cX9_number 43 = .ok (.aload_n 0, 1) := by decide +kernel
theorem dX9_number_44 : decode cX9_number 44 = .ok (.getfield 66, 3) := by decide +kernel
theorem dX9_number_47 : decode cX9_number 47 = .ok (.invokevirtual 83, 3) := by decide +kernel
theorem dX9_number_50 : decode cX9_number 50 = .ok (.ireturn, 1) := by decide +kernel
theorem dX9_figures_0 : decode cX9_figures 0 = .ok (.iload_n 1, 1) := by decide +kernel
theorem dX9_figures_1 : decode cX9_figures 1 = .ok (.invokestatic 75, 3) := by decide +kernel
theorem dX9_figures_4 : decode cX9_figures 4 = .ok (.ifCond .ne 5, 3) := by decide +kernel
theorem dX9_figures_7 : decode cX9_figures 7 = .ok (.iconst (-1), 1) := by decide +kernel
theorem dX9_figures_8 : decode cX9_figures 8 = .ok (.ireturn, 1) := by decide +kernel
theorem dX9_figures_9 : decode cX9_figures 9 = .ok (.aload_n 0, 1) := by decide +kernel
theorem dX9_figures_10 : decode cX9_figures 10 = .ok (.iload_n 1, 1) := by decide +kernel
theorem dX9_figures_11 : decode cX9_figures 11 = .ok (.invokevirtual 113, 3) := by decide +kernel
theorem dX9_figures_14 : decode cX9_figures 14 = .ok (.istore_n 2, 1) := by decide +kernel
theorem dX9_figures_15 : decode cX9_figures 15 = .ok (.iload_n 2, 1) := by decide +kernel
theorem dX9_figures_16 : decode cX9_figures 16 = .ok (.ifCond .eq 7, 3) := by decide +kernel
theorem dX9_figures_19 : decode cX9_figures 19 = .ok (.iload_n 2, 1) := by decide +kernel
theorem dX9_figures_20 : decode cX9_figures 20 = .ok (.goto 15, 3) := by decide +kernel
theorem dX9_figures_23 : decode cX9_figures 23 = .ok (.aload_n 0, 1) := by decide +kernel
theorem dX9_figures_24 : decode cX9_figures 24 = .ok (.getfield 11, 3) := by decide +kernel
theorem dX9_figures_27 : decode cX9_figures 27 = .ok (.iload_n 1, 1) := by decide +kernel
theorem dX9_figures_28 : decode cX9_figures 28 = .ok (.aaload, 1) := by decide +kernel
theorem dX9_figures_29 : decode cX9_figures 29 = .ok (.getfield 117, 3) := by decide +kernel
theorem dX9_figures_32 : decode cX9_figures 32 = .ok (.invokevirtual 120, 3) := by decide +kernel
theorem dX9_figures_35 : decode cX9_figures 35 = .ok (.ireturn, 1) := by decide +kernel
theorem dX9_nine_0 : decode cX9_nine 0 = .ok (.iload_n 1, 1) := by decide +kernel
theorem dX9_nine_1 : decode cX9_nine 1 = .ok (.invokestatic 75, 3) := by decide +kernel
theorem dX9_nine_4 : decode cX9_nine 4 = .ok (.ifCond .eq 13, 3) := by decide +kernel
theorem dX9_nine_7 : decode cX9_nine 7 = .ok (.iload_n 2, 1) := by decide +kernel
theorem dX9_nine_8 : decode cX9_nine 8 = .ok (.ifCond .lt 9, 3) := by decide +kernel
theorem dX9_nine_11 : decode cX9_nine 11 = .ok (.iload_n 2, 1) := by decide +kernel
theorem dX9_nine_12 : decode cX9_nine 12 = .ok (.bipush 24, 2) := by decide +kernel
theorem dX9_nine_14 : decode cX9_nine 14 = .ok (.if_icmp .lt 5, 3) := by decide +kernel
theorem dX9_nine_17 : decode cX9_nine 17 = .ok (.iconst (-1), 1) := by decide +kernel
theorem dX9_nine_18 : decode cX9_nine 18 = .ok (.ireturn, 1) := by decide +kernel
theorem dX9_nine_19 : decode cX9_nine 19 = .ok (.aload_n 0, 1) := by decide +kernel
theorem dX9_nine_20 : decode cX9_nine 20 = .ok (.iload_n 1, 1) := by decide +kernel
theorem dX9_nine_21 : decode cX9_nine 21 = .ok (.invokevirtual 113, 3) := by decide +kernel
theorem dX9_nine_24 : decode cX9_nine 24 = .ok (.istore_n 3, 1) := by decide +kernel
theorem dX9_nine_25 : decode cX9_nine 25 = .ok (.iload_n 3, 1) := by decide +kernel
theorem dX9_nine_26 : decode cX9_nine 26 = .ok (.ifCond .eq 7, 3) := by decide +kernel
theorem dX9_nine_29 : decode cX9_nine 29 = .ok (.iload_n 3, 1) := by decide +kernel
theorem dX9_nine_30 : decode cX9_nine 30 = .ok (.goto 17, 3) := by decide +kernel
theorem dX9_nine_33 : decode cX9_nine 33 = .ok (.aload_n 0, 1) := by decide +kernel
theorem dX9_nine_34 : decode cX9_nine 34 = .ok (.getfield 11, 3) := by decide +kernel
theorem dX9_nine_37 : decode cX9_nine 37 = .ok (.iload_n 1, 1) := by decide +kernel
theorem dX9_nine_38 : decode cX9_nine 38 = .ok (.aaload, 1) := by decide +kernel
theorem dX9_nine_39 : decode cX9_nine 39 = .ok (.getfield 117, 3) := by decide +kernel
theorem dX9_nine_42 : decode cX9_nine 42 = .ok (.iload_n 2, 1) := by decide +kernel
theorem dX9_nine_43 : decode cX9_nine 43 = .ok (.invokevirtual 124, 3) := by decide +kernel
theorem dX9_nine_46 : decode cX9_nine 46 = .ok (.l2i, 1) := by decide +kernel
theorem dX9_nine_47 : decode cX9_nine 47 = .ok (.ireturn, 1) := by decide +kernel
theorem dX9_reckon_0 : decode cX9_reckon 0 = .ok (.iload_n 1, 1) := by decide +kernel
theorem dX9_reckon_1 : decode cX9_reckon 1 = .ok (.ifCond .lt 30, 3) := by decide +kernel
theorem dX9_reckon_4 : decode cX9_reckon 4 = .ok (.iload_n 1, 1) := by decide +kernel
theorem dX9_reckon_5 : decode cX9_reckon 5 = .ok (.iconst 4, 1) := by decide +kernel
theorem dX9_reckon_6 : decode cX9_reckon 6 = .ok (.if_icmp .gt 25, 3) := by decide +kernel
theorem dX9_reckon_9 : decode cX9_reckon 9 = .ok (.iload_n 2, 1) := by decide +kernel
theorem dX9_reckon_10 : decode cX9_reckon 10 = .ok (.invokestatic 75, 3) := by decide +kernel
theorem dX9_reckon_13 : decode cX9_reckon 13 = .ok (.ifCond .eq 18, 3) := by decide +kernel
theorem dX9_reckon_16 : decode cX9_reckon 16 = .ok (.iload_n 3, 1) := by decide +kernel
theorem dX9_reckon_17 : decode cX9_reckon 17 = .ok (.invokestatic 75, 3) := by decide +kernel
theorem dX9_reckon_20 : decode cX9_reckon 20 = .ok (.ifCond .eq 11, 3) := by decide +kernel
theorem dX9_reckon_23 : decode cX9_reckon 23 = .ok (.iload 4, 2) := by decide +kernel
theorem dX9_reckon_25 : decode cX9_reckon 25 = .ok (.invokestatic 75, 3) := by decide +kernel
theorem dX9_reckon_28 : decode cX9_reckon 28 = .ok (.ifCond .ne 5, 3) := by decide +kernel
theorem dX9_reckon_31 : decode cX9_reckon 31 = .ok (.iconst (-1), 1) := by decide +kernel
theorem dX9_reckon_32 : decode cX9_reckon 32 = .ok (.ireturn, 1) := by decide +kernel
theorem dX9_reckon_33 : decode cX9_reckon 33 = .ok (.aload_n 0, 1) := by decide +kernel
theorem dX9_reckon_34 : decode cX9_reckon 34 = .ok (.iload_n 2, 1) := by decide +kernel
theorem dX9_reckon_35 : decode cX9_reckon 35 = .ok (.iload_n 3, 1) := by decide +kernel
theorem dX9_reckon_36 : decode cX9_reckon 36 = .ok (.invokevirtual 128, 3) := by decide +kernel
theorem dX9_reckon_39 : decode cX9_reckon 39 = .ok (.istore 5, 2) := by decide +kernel
theorem dX9_reckon_41 : decode cX9_reckon 41 = .ok (.iload 5, 2) := by decide +kernel
theorem dX9_reckon_43 : decode cX9_reckon 43 = .ok (.ifCond .eq 6, 3) := by decide +kernel
theorem dX9_reckon_46 : decode cX9_reckon 46 = .ok (.iload 5, 2) := by decide +kernel
theorem dX9_reckon_48 : decode cX9_reckon 48 = .ok (.ireturn, 1) := by decide +kernel
theorem dX9_reckon_49 : decode cX9_reckon 49 = .ok (.aload_n 0, 1) := by decide +kernel
theorem dX9_reckon_50 : decode cX9_reckon 50 = .ok (.getfield 11, 3) := by decide +kernel
theorem dX9_reckon_53 : decode cX9_reckon 53 = .ok (.iload_n 2, 1) := by decide +kernel
theorem dX9_reckon_54 : decode cX9_reckon 54 = .ok (.aaload, 1) := by decide +kernel
theorem dX9_reckon_55 : decode cX9_reckon 55 = .ok (.getfield 117, 3) := by decide +kernel
theorem dX9_reckon_58 : decode cX9_reckon 58 = .ok (.astore 6, 2) := by decide +kernel
theorem dX9_reckon_60 : decode cX9_reckon 60 = .ok (.aload_n 0, 1) := by decide +kernel
theorem dX9_reckon_61 : decode cX9_reckon 61 = .ok (.getfield 11, 3) := by decide +kernel
theorem dX9_reckon_64 : decode cX9_reckon 64 = .ok (.iload_n 3, 1) := by decide +kernel
theorem dX9_reckon_65 : decode cX9_reckon 65 = .ok (.aaload, 1) := by decide +kernel
theorem dX9_reckon_66 : decode cX9_reckon 66 = .ok (.getfield 117, 3) := by decide +kernel
theorem dX9_reckon_69 : decode cX9_reckon 69 = .ok (.astore 7, 2) := by decide +kernel
theorem dX9_reckon_71 : decode cX9_reckon 71 = .ok (.iload_n 1, 1) := by decide +kernel
theorem dX9_reckon_72 : decode cX9_reckon 72 = .ok (.iconst 1, 1) := by decide +kernel
theorem dX9_reckon_73 : decode cX9_reckon 73 = .ok (.if_icmp .ne 16, 3) := by decide +kernel
theorem dX9_reckon_76 : decode cX9_reckon 76 = .ok (.aload 6, 2) := by decide +kernel
theorem dX9_reckon_78 : decode cX9_reckon 78 = .ok (.aload 7, 2) := by decide +kernel
theorem dX9_reckon_80 : decode cX9_reckon 80 = .ok (.invokevirtual 132, 3) := by decide +kernel
theorem dX9_reckon_83 : decode cX9_reckon 83 = .ok (.ifCond .ge 6, 3) := by decide +kernel
theorem dX9_reckon_86 : decode cX9_reckon 86 = .ok (.bipush (-2), 2) := by decide +kernel
theorem dX9_reckon_88 : decode cX9_reckon 88 = .ok (.ireturn, 1) := by decide +kernel
theorem dX9_reckon_89 : decode cX9_reckon 89 = .ok (.iload_n 1, 1) := by decide +kernel
theorem dX9_reckon_90 : decode cX9_reckon 90 = .ok (.iconst 3, 1) := by decide +kernel
theorem dX9_reckon_91 : decode cX9_reckon 91 = .ok (.if_icmp .lt 14, 3) := by decide +kernel
theorem dX9_reckon_94 : decode cX9_reckon 94 = .ok (.aload 7, 2) := by decide +kernel
theorem dX9_reckon_96 : decode cX9_reckon 96 = .ok (.getfield 136, 3) := by decide +kernel
theorem dX9_reckon_99 : decode cX9_reckon 99 = .ok (.ifCond .ne 6, 3) := by decide +kernel
theorem dX9_reckon_102 : decode cX9_reckon 102 = .ok (.bipush (-15), 2) := by decide +kernel
theorem dX9_reckon_104 : decode cX9_reckon 104 = .ok (.ireturn, 1) := by decide +kernel
theorem dX9_reckon_105 : decode cX9_reckon 105 = .ok (.aload_n 0, 1) := by decide +kernel
theorem dX9_reckon_106 : decode cX9_reckon 106 = .ok (.iload_n 1, 1) := by decide +kernel
theorem dX9_reckon_107 : decode cX9_reckon 107 = .ok (.aload 6, 2) := by decide +kernel
theorem dX9_reckon_109 : decode cX9_reckon 109 = .ok (.aload 7, 2) := by decide +kernel
theorem dX9_reckon_111 : decode cX9_reckon 111 = .ok (.invokevirtual 139, 3) := by decide +kernel
theorem dX9_reckon_114 : decode cX9_reckon 114 = .ok (.aload_n 0, 1) := by decide +kernel
theorem dX9_reckon_115 : decode cX9_reckon 115 = .ok (.iload 4, 2) := by decide +kernel
theorem dX9_reckon_117 : decode cX9_reckon 117 = .ok (.aload_n 0, 1) := by decide +kernel
theorem dX9_reckon_118 : decode cX9_reckon 118 = .ok (.getfield 66, 3) := by decide +kernel
theorem dX9_reckon_121 : decode cX9_reckon 121 = .ok (.invokevirtual 83, 3) := by decide +kernel
theorem dX9_reckon_124 : decode cX9_reckon 124 = .ok (.ireturn, 1) := by decide +kernel
theorem dX9_root_0 : decode cX9_root 0 = .ok (.iload_n 1, 1) := by decide +kernel
theorem dX9_root_1 : decode cX9_root 1 = .ok (.invokestatic 75, 3) := by decide +kernel
theorem dX9_root_4 : decode cX9_root 4 = .ok (.ifCond .eq 10, 3) := by decide +kernel
theorem dX9_root_7 : decode cX9_root 7 = .ok (.iload_n 2, 1) := by decide +kernel
theorem dX9_root_8 : decode cX9_root 8 = .ok (.invokestatic 75, 3) := by decide +kernel
theorem dX9_root_11 : decode cX9_root 11 = .ok (.ifCond .ne 5, 3) := by decide +kernel
theorem dX9_root_14 : decode cX9_root 14 = .ok (.iconst (-1), 1) := by decide +kernel
theorem dX9_root_15 : decode cX9_root 15 = .ok (.ireturn, 1) := by decide +kernel
theorem dX9_root_16 : decode cX9_root 16 = .ok (.aload_n 0, 1) := by decide +kernel
theorem dX9_root_17 : decode cX9_root 17 = .ok (.iload_n 1, 1) := by decide +kernel
theorem dX9_root_18 : decode cX9_root 18 = .ok (.invokevirtual 113, 3) := by decide +kernel
theorem dX9_root_21 : decode cX9_root 21 = .ok (.istore_n 3, 1) := by decide +kernel
theorem dX9_root_22 : decode cX9_root 22 = .ok (.iload_n 3, 1) := by decide +kernel
theorem dX9_root_23 : decode cX9_root 23 = .ok (.ifCond .eq 5, 3) := by decide +kernel
theorem dX9_root_26 : decode cX9_root 26 = .ok (.iload_n 3, 1) := by decide +kernel
theorem dX9_root_27 : decode cX9_root 27 = .ok (.ireturn, 1) := by decide +kernel
theorem dX9_root_28 : decode cX9_root 28 = .ok (.aload_n 0, 1) := by decide +kernel
theorem dX9_root_29 : decode cX9_root 29 = .ok (.getfield 11, 3) := by decide +kernel
theorem dX9_root_32 : decode cX9_root 32 = .ok (.iload_n 1, 1) := by decide +kernel
theorem dX9_root_33 : decode cX9_root 33 = .ok (.aaload, 1) := by decide +kernel
theorem dX9_root_34 : decode cX9_root 34 = .ok (.getfield 117, 3) := by decide +kernel
theorem dX9_root_37 : decode cX9_root 37 = .ok (.astore 4, 2) := by decide +kernel
theorem dX9_root_39 : decode cX9_root 39 = .ok (.aload_n 0, 1) := by decide +kernel
theorem dX9_root_40 : decode cX9_root 40 = .ok (.getfield 34, 3) := by decide +kernel
theorem dX9_root_43 : decode cX9_root 43 = .ok (.aload 4, 2) := by decide +kernel
theorem dX9_root_45 : decode cX9_root 45 = .ok (.iconst 2, 1) := by decide +kernel
theorem dX9_root_46 : decode cX9_root 46 = .ok (.aload_n 0, 1) := by decide +kernel
theorem dX9_root_47 : decode cX9_root 47 = .ok (.getfield 66, 3) := by decide +kernel
theorem dX9_root_50 : decode cX9_root 50 = .ok (.invokevirtual 143, 3) := by decide +kernel
theorem dX9_root_53 : decode cX9_root 53 = .ok (.aload_n 0, 1) := by decide +kernel
theorem dX9_root_54 : decode cX9_root 54 = .ok (.getfield 70, 3) := by decide +kernel
theorem dX9_root_57 : decode cX9_root 57 = .ok (.aload_n 0, 1) := by decide +kernel
theorem dX9_root_58 : decode cX9_root 58 = .ok (.getfield 66, 3) := by decide +kernel
theorem dX9_root_61 : decode cX9_root 61 = .ok (.aload_n 0, 1) := by decide +kernel
theorem dX9_root_62 : decode cX9_root 62 = .ok (.getfield 66, 3) := by decide +kernel
theorem dX9_root_65 : decode cX9_root 65 = .ok (.invokevirtual 147, 3) := by decide +kernel
theorem dX9_root_68 : decode cX9_root 68 = .ok (.aload_n 0, 1) := by decide +kernel
theorem dX9_root_69 : decode cX9_root 69 = .ok (.getfield 70, 3) := by decide +kernel
theorem dX9_root_72 : decode cX9_root 72 = .ok (.aload 4, 2) := by decide +kernel
theorem dX9_root_74 : decode cX9_root 74 = .ok (.invokevirtual 132, 3) := by decide +kernel
theorem dX9_root_77 : decode cX9_root 77 = .ok (.ifCond .ne 7, 3) := by decide +kernel
