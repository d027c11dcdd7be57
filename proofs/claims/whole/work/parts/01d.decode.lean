theorem dX10_side_26 : decode cX10_side 26 = .ok (.ifCond .ne 5, 3) := by decide +kernel
theorem dX10_side_29 : decode cX10_side 29 = .ok (.iconst (-1), 1) := by decide +kernel
theorem dX10_side_30 : decode cX10_side 30 = .ok (.ireturn, 1) := by decide +kernel
theorem dX10_side_31 : decode cX10_side 31 = .ok (.aload_n 0, 1) := by decide +kernel
theorem dX10_side_32 : decode cX10_side 32 = .ok (.iload_n 1, 1) := by decide +kernel
theorem dX10_side_33 : decode cX10_side 33 = .ok (.ldc2_w 184, 3) := by decide +kernel
theorem dX10_side_36 : decode cX10_side 36 = .ok (.ldc2_w 190, 3) := by decide +kernel
theorem dX10_side_39 : decode cX10_side 39 = .ok (.iload_n 2, 1) := by decide +kernel
theorem dX10_side_40 : decode cX10_side 40 = .ok (.i2l, 1) := by decide +kernel
theorem dX10_side_41 : decode cX10_side 41 = .ok (.lmul, 1) := by decide +kernel
theorem dX10_side_42 : decode cX10_side 42 = .ok (.invokevirtual 208, 3) := by decide +kernel
theorem dX10_side_45 : decode cX10_side 45 = .ok (.aload_n 0, 1) := by decide +kernel
theorem dX10_side_46 : decode cX10_side 46 = .ok (.iload_n 3, 1) := by decide +kernel
theorem dX10_side_47 : decode cX10_side 47 = .ok (.bipush 8, 2) := by decide +kernel
theorem dX10_side_49 : decode cX10_side 49 = .ok (.invokevirtual 128, 3) := by decide +kernel
theorem dX10_side_52 : decode cX10_side 52 = .ok (.ireturn, 1) := by decide +kernel
theorem dX10_rootLong_0 : decode cX10_rootLong 0 = .ok (.lconst 0, 1) := by decide +kernel
theorem dX10_rootLong_1 : decode cX10_rootLong 1 = .ok (.lstore_n 2, 1) := by decide +kernel
theorem dX10_rootLong_2 : decode cX10_rootLong 2 = .ok (.ldc2_w 212, 3) := by decide +kernel
theorem dX10_rootLong_5 : decode cX10_rootLong 5 = .ok (.lstore 4, 2) := by decide +kernel
theorem dX10_rootLong_7 : decode cX10_rootLong 7 = .ok (.lload_n 2, 1) := by decide +kernel
theorem dX10_rootLong_8 : decode cX10_rootLong 8 = .ok (.lload 4, 2) := by decide +kernel
theorem dX10_rootLong_10 : decode cX10_rootLong 10 = .ok (.lcmp, 1) := by decide +kernel
theorem dX10_rootLong_11 : decode cX10_rootLong 11 = .ok (.ifCond .ge 42, 3) := by decide +kernel
theorem dX10_rootLong_14 : decode cX10_rootLong 14 = .ok (.lload_n 2, 1) := by decide +kernel
theorem dX10_rootLong_15 : decode cX10_rootLong 15 = .ok (.lload 4, 2) := by decide +kernel
theorem dX10_rootLong_17 : decode cX10_rootLong 17 = .ok (.lload_n 2, 1) := by decide +kernel
theorem dX10_rootLong_18 : decode cX10_rootLong 18 = .ok (.lsub, 1) := by decide +kernel
theorem dX10_rootLong_19 : decode cX10_rootLong 19 = .ok (.lconst 1, 1) := by decide +kernel
theorem dX10_rootLong_20 : decode cX10_rootLong 20 = .ok (.ladd, 1) := by decide +kernel
theorem dX10_rootLong_21 : decode cX10_rootLong 21 = .ok (.ldc2_w 190, 3) := by decide +kernel
theorem dX10_rootLong_24 : decode cX10_rootLong 24 = .ok (.ldiv, 1) := by decide +kernel
theorem dX10_rootLong_25 : decode cX10_rootLong 25 = .ok (.ladd, 1) := by decide +kernel
theorem dX10_rootLong_26 : decode cX10_rootLong 26 = .ok (.lstore 6, 2) := by decide +kernel
theorem dX10_rootLong_28 : decode cX10_rootLong 28 = .ok (.lload 6, 2) := by decide +kernel
theorem dX10_rootLong_30 : decode cX10_rootLong 30 = .ok (.lload 6, 2) := by decide +kernel
theorem dX10_rootLong_32 : decode cX10_rootLong 32 = .ok (.lmul, 1) := by decide +kernel
theorem dX10_rootLong_33 : decode cX10_rootLong 33 = .ok (.lload_n 0, 1) := by decide +kernel
theorem dX10_rootLong_34 : decode cX10_rootLong 34 = .ok (.lcmp, 1) := by decide +kernel
theorem dX10_rootLong_35 : decode cX10_rootLong 35 = .ok (.ifCond .gt 9, 3) := by decide +kernel
theorem dX10_rootLong_38 : decode cX10_rootLong 38 = .ok (.lload 6, 2) := by decide +kernel
theorem dX10_rootLong_40 : decode cX10_rootLong 40 = .ok (.lstore_n 2, 1) := by decide +kernel
theorem dX10_rootLong_41 : decode cX10_rootLong 41 = .ok (.goto 9, 3) := by decide +kernel
theorem dX10_rootLong_44 : decode cX10_rootLong 44 = .ok (.lload 6, 2) := by decide +kernel
theorem dX10_rootLong_46 : decode cX10_rootLong 46 = .ok (.lconst 1, 1) := by decide +kernel
theorem dX10_rootLong_47 : decode cX10_rootLong 47 = .ok (.lsub, 1) := by decide +kernel
theorem dX10_rootLong_48 : decode cX10_rootLong 48 = .ok (.lstore 4, 2) := by decide +kernel
theorem dX10_rootLong_50 : decode cX10_rootLong 50 = .ok (.goto (-43), 3) := by decide +kernel
theorem dX10_rootLong_53 : decode cX10_rootLong 53 = .ok (.lload_n 2, 1) := by decide +kernel
theorem dX10_rootLong_54 : decode cX10_rootLong 54 = .ok (.lreturn, 1) := by decide +kernel
theorem dX10_isSquare_0 : decode cX10_isSquare 0 = .ok (.lload_n 0, 1) := by decide +kernel
theorem dX10_isSquare_1 : decode cX10_isSquare 1 = .ok (.lconst 0, 1) := by decide +kernel
theorem dX10_isSquare_2 : decode cX10_isSquare 2 = .ok (.lcmp, 1) := by decide +kernel
theorem dX10_isSquare_3 : decode cX10_isSquare 3 = .ok (.ifCond .lt 21, 3) := by decide +kernel
theorem dX10_isSquare_6 : decode cX10_isSquare 6 = .ok (.lload_n 0, 1) := by decide +kernel
theorem dX10_isSquare_7 : decode cX10_isSquare 7 = .ok (.invokestatic 214, 3) := by decide +kernel
theorem dX10_isSquare_10 : decode cX10_isSquare 10 = .ok (.lload_n 0, 1) := by decide +kernel
theorem dX10_isSquare_11 : decode cX10_isSquare 11 = .ok (.invokestatic 214, 3) := by decide +kernel
theorem dX10_isSquare_14 : decode cX10_isSquare 14 = .ok (.lmul, 1) := by decide +kernel
theorem dX10_isSquare_15 : decode cX10_isSquare 15 = .ok (.lload_n 0, 1) := by decide +kernel
theorem dX10_isSquare_16 : decode cX10_isSquare 16 = .ok (.lcmp, 1) := by decide +kernel
theorem dX10_isSquare_17 : decode cX10_isSquare 17 = .ok (.ifCond .ne 7, 3) := by decide +kernel
theorem dX10_isSquare_20 : decode cX10_isSquare 20 = .ok (.iconst 1, 1) := by decide +kernel
theorem dX10_isSquare_21 : decode cX10_isSquare 21 = .ok (.goto 4, 3) := by decide +kernel
theorem dX10_isSquare_24 : decode cX10_isSquare 24 = .ok (.iconst 0, 1) := by decide +kernel
theorem dX10_isSquare_25 : decode cX10_isSquare 25 = .ok (.ireturn, 1) := by decide +kernel
theorem dX10_isRoot_0 : decode cX10_isRoot 0 = .ok (.iload_n 0, 1) := by decide +kernel
theorem dX10_isRoot_1 : decode cX10_isRoot 1 = .ok (.i2l, 1) := by decide +kernel
theorem dX10_isRoot_2 : decode cX10_isRoot 2 = .ok (.ldc2_w 190, 3) := by decide +kernel
theorem dX10_isRoot_5 : decode cX10_isRoot 5 = .ok (.ldc2_w 218, 3) := by decide +kernel
theorem dX10_isRoot_8 : decode cX10_isRoot 8 = .ok (.invokestatic 49, 3) := by decide +kernel
theorem dX10_isRoot_11 : decode cX10_isRoot 11 = .ok (.ifCond .eq 15, 3) := by decide +kernel
theorem dX10_isRoot_14 : decode cX10_isRoot 14 = .ok (.iload_n 0, 1) := by decide +kernel
theorem dX10_isRoot_15 : decode cX10_isRoot 15 = .ok (.i2l, 1) := by decide +kernel
theorem dX10_isRoot_16 : decode cX10_isRoot 16 = .ok (.invokestatic 220, 3) := by decide +kernel
theorem dX10_isRoot_19 : decode cX10_isRoot 19 = .ok (.ifCond .ne 7, 3) := by decide +kernel
theorem dX10_isRoot_22 : decode cX10_isRoot 22 = .ok (.iconst 1, 1) := by decide +kernel
theorem dX10_isRoot_23 : decode cX10_isRoot 23 = .ok (.goto 4, 3) := by decide +kernel
theorem dX10_isRoot_26 : decode cX10_isRoot 26 = .ok (.iconst 0, 1) := by decide +kernel
theorem dX10_isRoot_27 : decode cX10_isRoot 27 = .ok (.ireturn, 1) := by decide +kernel
theorem dX10_beginParts_0 : decode cX10_beginParts 0 = .ok (.aload_n 0, 1) := by decide +kernel
theorem dX10_beginParts_1 : decode cX10_beginParts 1 = .ok (.iconst 0, 1) := by decide +kernel
theorem dX10_beginParts_2 : decode cX10_beginParts 2 = .ok (.putfield 224, 3) := by decide +kernel
theorem dX10_beginParts_5 : decode cX10_beginParts 5 = .ok (.aload_n 0, 1) := by decide +kernel
theorem dX10_beginParts_6 : decode cX10_beginParts 6 = .ok (.iconst 1, 1) := by decide +kernel
theorem dX10_beginParts_7 : decode cX10_beginParts 7 = .ok (.putfield 227, 3) := by decide +kernel
theorem dX10_beginParts_10 : decode cX10_beginParts 10 = .ok (.aload_n 0, 1) := by decide +kernel
theorem dX10_beginParts_11 : decode cX10_beginParts 11 = .ok (.iload_n 1, 1) := by decide +kernel
theorem dX10_beginParts_12 : decode cX10_beginParts 12 = .ok (.i2l, 1) := by decide +kernel
theorem dX10_beginParts_13 : decode cX10_beginParts 13 = .ok (.invokestatic 214, 3) := by decide +kernel
theorem dX10_beginParts_16 : decode cX10_beginParts 16 = .ok (.l2i, 1) := by decide +kernel
theorem dX10_beginParts_17 : decode cX10_beginParts 17 = .ok (.putfield 230, 3) := by decide +kernel
theorem dX10_beginParts_20 : decode cX10_beginParts 20 = .ok (.return_, 1) := by decide +kernel
theorem dX10_goOn_0 : decode cX10_goOn 0 = .ok (.aload_n 0, 1) := by decide +kernel
theorem dX10_goOn_1 : decode cX10_goOn 1 = .ok (.aload_n 0, 1) := by decide +kernel
theorem dX10_goOn_2 : decode cX10_goOn 2 = .ok (.getfield 227, 3) := by decide +kernel
theorem dX10_goOn_5 : decode cX10_goOn 5 = .ok (.aload_n 0, 1) := by decide +kernel
theorem dX10_goOn_6 : decode cX10_goOn 6 = .ok (.getfield 230, 3) := by decide +kernel
theorem dX10_goOn_9 : decode cX10_goOn 9 = .ok (.imul, 1) := by decide +kernel
theorem dX10_goOn_10 : decode cX10_goOn 10 = .ok (.aload_n 0, 1) := by decide +kernel
theorem dX10_goOn_11 : decode cX10_goOn 11 = .ok (.getfield 224, 3) := by decide +kernel
theorem dX10_goOn_14 : decode cX10_goOn 14 = .ok (.isub, 1) := by decide +kernel
theorem dX10_goOn_15 : decode cX10_goOn 15 = .ok (.putfield 224, 3) := by decide +kernel
theorem dX10_goOn_18 : decode cX10_goOn 18 = .ok (.aload_n 0, 1) := by decide +kernel
theorem dX10_goOn_19 : decode cX10_goOn 19 = .ok (.iload_n 1, 1) := by decide +kernel
theorem dX10_goOn_20 : decode cX10_goOn 20 = .ok (.aload_n 0, 1) := by decide +kernel
theorem dX10_goOn_21 : decode cX10_goOn 21 = .ok (.getfield 224, 3) := by decide +kernel
theorem dX10_goOn_24 : decode cX10_goOn 24 = .ok (.aload_n 0, 1) := by decide +kernel
theorem dX10_goOn_25 : decode cX10_goOn 25 = .ok (.getfield 224, 3) := by decide +kernel
theorem dX10_goOn_28 : decode cX10_goOn 28 = .ok (.imul, 1) := by decide +kernel
theorem dX10_goOn_29 : decode cX10_goOn 29 = .ok (.isub, 1) := by decide +kernel
theorem dX10_goOn_30 : decode cX10_goOn 30 = .ok (.aload_n 0, 1) := by decide +kernel
theorem dX10_goOn_31 : decode cX10_goOn 31 = .ok (.getfield 227, 3) := by decide +kernel
theorem dX10_goOn_34 : decode cX10_goOn 34 = .ok (.idiv, 1) := by decide +kernel
theorem dX10_goOn_35 : decode cX10_goOn 35 = .ok (.putfield 227, 3) := by decide +kernel
theorem dX10_goOn_38 : decode cX10_goOn 38 = .ok (.aload_n 0, 1) := by decide +kernel
theorem dX10_goOn_39 : decode cX10_goOn 39 = .ok (.iload_n 1, 1) := by decide +kernel
theorem dX10_goOn_40 : decode cX10_goOn 40 = .ok (.i2l, 1) := by decide +kernel
theorem dX10_goOn_41 : decode cX10_goOn 41 = .ok (.invokestatic 214, 3) := by decide +kernel
theorem dX10_goOn_44 : decode cX10_goOn 44 = .ok (.l2i, 1) := by decide +kernel
theorem dX10_goOn_45 : decode cX10_goOn 45 = .ok (.aload_n 0, 1) := by decide +kernel
theorem dX10_goOn_46 : decode cX10_goOn 46 = .ok (.getfield 224, 3) := by decide +kernel
theorem dX10_goOn_49 : decode cX10_goOn 49 = .ok (.iadd, 1) := by decide +kernel
theorem dX10_goOn_50 : decode cX10_goOn 50 = .ok (.aload_n 0, 1) := by decide +kernel
theorem dX10_goOn_51 : decode cX10_goOn 51 = .ok (.getfield 227, 3) := by decide +kernel
theorem dX10_goOn_54 : decode cX10_goOn 54 = .ok (.idiv, 1) := by decide +kernel
theorem dX10_goOn_55 : decode cX10_goOn 55 = .ok (.putfield 230, 3) := by decide +kernel
theorem dX10_goOn_58 : decode cX10_goOn 58 = .ok (.return_, 1) := by decide +kernel
theorem dX10_roundOf_0 : decode cX10_roundOf 0 = .ok (.aload_n 0, 1) := by decide +kernel
theorem dX10_roundOf_1 : decode cX10_roundOf 1 = .ok (.iload_n 1, 1) := by decide +kernel
theorem dX10_roundOf_2 : decode cX10_roundOf 2 = .ok (.invokevirtual 233, 3) := by decide +kernel
theorem dX10_roundOf_5 : decode cX10_roundOf 5 = .ok (.iconst 0, 1) := by decide +kernel
theorem dX10_roundOf_6 : decode cX10_roundOf 6 = .ok (.istore_n 2, 1) := by decide +kernel
theorem dX10_roundOf_7 : decode cX10_roundOf 7 = .ok (.iconst 2, 1) := by decide +kernel
theorem dX10_roundOf_8 : decode cX10_roundOf 8 = .ok (.aload_n 0, 1) := by decide +kernel
theorem dX10_roundOf_9 : decode cX10_roundOf 9 = .ok (.getfield 230, 3) := by decide +kernel
theorem dX10_roundOf_12 : decode cX10_roundOf 12 = .ok (.imul, 1) := by decide +kernel
theorem dX10_roundOf_13 : decode cX10_roundOf 13 = .ok (.istore_n 3, 1) := by decide +kernel
theorem dX10_roundOf_14 : decode cX10_roundOf 14 = .ok (.iload_n 2, 1) := by decide +kernel
theorem dX10_roundOf_15 : decode cX10_roundOf 15 = .ok (.ifCond .eq 11, 3) := by decide +kernel
theorem dX10_roundOf_18 : decode cX10_roundOf 18 = .ok (.aload_n 0, 1) := by decide +kernel
theorem dX10_roundOf_19 : decode cX10_roundOf 19 = .ok (.getfield 230, 3) := by decide +kernel
theorem dX10_roundOf_22 : decode cX10_roundOf 22 = .ok (.iload_n 3, 1) := by decide +kernel
theorem dX10_roundOf_23 : decode cX10_roundOf 23 = .ok (.if_icmp .eq 14, 3) := by decide +kernel
theorem dX10_roundOf_26 : decode cX10_roundOf 26 = .ok (.aload_n 0, 1) := by decide +kernel
theorem dX10_roundOf_27 : decode cX10_roundOf 27 = .ok (.iload_n 1, 1) := by decide +kernel
theorem dX10_roundOf_28 : decode cX10_roundOf 28 = .ok (.invokevirtual 237, 3) := by decide +kernel
theorem dX10_roundOf_31 : decode cX10_roundOf 31 = .ok (.iinc 2 1, 3) := by decide +kernel
theorem dX10_roundOf_34 : decode cX10_roundOf 34 = .ok (.goto (-20), 3) := by decide +kernel
theorem dX10_roundOf_37 : decode cX10_roundOf 37 = .ok (.iload_n 2, 1) := by decide +kernel
theorem dX10_roundOf_38 : decode cX10_roundOf 38 = .ok (.ireturn, 1) := by decide +kernel
theorem dX10_round_0 : decode cX10_round 0 = .ok (.iload_n 1, 1) := by decide +kernel
theorem dX10_round_1 : decode cX10_round 1 = .ok (.invokestatic 240, 3) := by decide +kernel
theorem dX10_round_4 : decode cX10_round 4 = .ok (.ifCond .eq 17, 3) := by decide +kernel
theorem dX10_round_7 : decode cX10_round 7 = .ok (.iload_n 2, 1) := by decide +kernel
theorem dX10_round_8 : decode cX10_round 8 = .ok (.i2l, 1) := by decide +kernel
theorem dX10_round_9 : decode cX10_round 9 = .ok (.ldc2_w 243, 3) := by decide +kernel
theorem dX10_round_12 : decode cX10_round 12 = .ok (.ldc2_w 218, 3) := by decide +kernel
theorem dX10_round_15 : decode cX10_round 15 = .ok (.invokestatic 49, 3) := by decide +kernel
theorem dX10_round_18 : decode cX10_round 18 = .ok (.ifCond .ne 5, 3) := by decide +kernel
theorem dX10_round_21 : decode cX10_round 21 = .ok (.iconst (-1), 1) := by decide +kernel
theorem dX10_round_22 : decode cX10_round 22 = .ok (.ireturn, 1) := by decide +kernel
theorem dX10_round_23 : decode cX10_round 23 = .ok (.aload_n 0, 1) := by decide +kernel
theorem dX10_round_24 : decode cX10_round 24 = .ok (.iload_n 1, 1) := by decide +kernel
theorem dX10_round_25 : decode cX10_round 25 = .ok (.invokevirtual 245, 3) := by decide +kernel
theorem dX10_round_28 : decode cX10_round 28 = .ok (.istore_n 3, 1) := by decide +kernel
theorem dX10_round_29 : decode cX10_round 29 = .ok (.iload_n 2, 1) := by decide +kernel
theorem dX10_round_30 : decode cX10_round 30 = .ok (.ifCond .ge 5, 3) := by decide +kernel
theorem dX10_round_33 : decode cX10_round 33 = .ok (.iload_n 3, 1) := by decide +kernel
theorem dX10_round_34 : decode cX10_round 34 = .ok (.ireturn, 1) := by decide +kernel
theorem dX10_round_35 : decode cX10_round 35 = .ok (.aload_n 0, 1) := by decide +kernel
theorem dX10_round_36 : decode cX10_round 36 = .ok (.iload_n 1, 1) := by decide +kernel
theorem dX10_round_37 : decode cX10_round 37 = .ok (.invokevirtual 233, 3) := by decide +kernel
theorem dX10_round_40 : decode cX10_round 40 = .ok (.iload_n 2, 1) := by decide +kernel
theorem dX10_round_41 : decode cX10_round 41 = .ok (.ifCond .ne 7, 3) := by decide +kernel
theorem dX10_round_44 : decode cX10_round 44 = .ok (.iconst 0, 1) := by decide +kernel
theorem dX10_round_45 : decode cX10_round 45 = .ok (.goto 10, 3) := by decide +kernel
theorem dX10_round_48 : decode cX10_round 48 = .ok (.iload_n 2, 1) := by decide +kernel
theorem dX10_round_49 : decode cX10_round 49 = .ok (.iconst 1, 1) := by decide +kernel
theorem dX10_round_50 : decode cX10_round 50 = .ok (.isub, 1) := by decide +kernel
theorem dX10_round_51 : decode cX10_round 51 = .ok (.iload_n 3, 1) := by decide +kernel
theorem dX10_round_52 : decode cX10_round 52 = .ok (.irem, 1) := by decide +kernel
theorem dX10_round_53 : decode cX10_round 53 = .ok (.iconst 1, 1) := by decide +kernel
theorem dX10_round_54 : decode cX10_round 54 = .ok (.iadd, 1) := by decide +kernel
theorem dX10_round_55 : decode cX10_round 55 = .ok (.istore 4, 2) := by decide +kernel
theorem dX10_round_57 : decode cX10_round 57 = .ok (.iconst 0, 1) := by decide +kernel
theorem dX10_round_58 : decode cX10_round 58 = .ok (.istore 5, 2) := by decide +kernel
theorem dX10_round_60 : decode cX10_round 60 = .ok (.iload 5, 2) := by decide +kernel
theorem dX10_round_62 : decode cX10_round 62 = .ok (.iload 4, 2) := by decide +kernel
theorem dX10_round_64 : decode cX10_round 64 = .ok (.if_icmp .ge 14, 3) := by decide +kernel
theorem dX10_round_67 : decode cX10_round 67 = .ok (.aload_n 0, 1) := by decide +kernel
theorem dX10_round_68 : decode cX10_round 68 = .ok (.iload_n 1, 1) := by decide +kernel
theorem dX10_round_69 : decode cX10_round 69 = .ok (.invokevirtual 237, 3) := by decide +kernel
theorem dX10_round_72 : decode cX10_round 72 = .ok (.iinc 5 1, 3) := by decide +kernel
theorem dX10_round_75 : decode cX10_round 75 = .ok (.goto (-15), 3) := by decide +kernel
theorem dX10_round_78 : decode cX10_round 78 = .ok (.aload_n 0, 1) := by decide +kernel
theorem dX10_round_79 : decode cX10_round 79 = .ok (.getfield 230, 3) := by decide +kernel
theorem dX10_round_82 : decode cX10_round 82 = .ok (.ireturn, 1) := by decide +kernel
theorem dX10_less_0 : decode cX10_less 0 = .ok (.iload_n 1, 1) := by decide +kernel
theorem dX10_less_1 : decode cX10_less 1 = .ok (.invokestatic 240, 3) := by decide +kernel
theorem dX10_less_4 : decode cX10_less 4 = .ok (.ifCond .eq 13, 3) := by decide +kernel
theorem dX10_less_7 : decode cX10_less 7 = .ok (.aload_n 0, 1) := by decide +kernel
theorem dX10_less_8 : decode cX10_less 8 = .ok (.iload_n 1, 1) := by decide +kernel
theorem dX10_less_9 : decode cX10_less 9 = .ok (.invokevirtual 245, 3) := by decide +kernel
theorem dX10_less_12 : decode cX10_less 12 = .ok (.iconst 2, 1) := by decide +kernel
theorem dX10_less_13 : decode cX10_less 13 = .ok (.irem, 1) := by decide +kernel
theorem dX10_less_14 : decode cX10_less 14 = .ok (.goto 4, 3) := by decide +kernel
theorem dX10_less_17 : decode cX10_less 17 = .ok (.iconst (-1), 1) := by decide +kernel
theorem dX10_less_18 : decode cX10_less 18 = .ok (.ireturn, 1) := by decide +kernel
theorem dX10_findNear_0 : decode cX10_findNear 0 = .ok (.aload_n 0, 1) := by decide +kernel
theorem dX10_findNear_1 : decode cX10_findNear 1 = .ok (.iload_n 1, 1) := by decide +kernel
theorem dX10_findNear_2 : decode cX10_findNear 2 = .ok (.invokevirtual 233, 3) := by decide +kernel
theorem dX10_findNear_5 : decode cX10_findNear 5 = .ok (.aload_n 0, 1) := by decide +kernel
theorem dX10_findNear_6 : decode cX10_findNear 6 = .ok (.bipush 9, 2) := by decide +kernel
theorem dX10_findNear_8 : decode cX10_findNear 8 = .ok (.lconst 1, 1) := by decide +kernel
theorem dX10_findNear_9 : decode cX10_findNear 9 = .ok (.invokevirtual 60, 3) := by decide +kernel
theorem dX10_findNear_12 : decode cX10_findNear 12 = .ok (.aload_n 0, 1) := by decide +kernel
theorem dX10_findNear_13 : decode cX10_findNear 13 = .ok (.bipush 11, 2) := by decide +kernel
theorem dX10_findNear_15 : decode cX10_findNear 15 = .ok (.lconst 0, 1) := by decide +kernel
theorem dX10_findNear_16 : decode cX10_findNear 16 = .ok (.invokevirtual 60, 3) := by decide +kernel
theorem dX10_findNear_19 : decode cX10_findNear 19 = .ok (.aload_n 0, 1) := by decide +kernel
theorem dX10_findNear_20 : decode cX10_findNear 20 = .ok (.bipush 8, 2) := by decide +kernel
theorem dX10_findNear_22 : decode cX10_findNear 22 = .ok (.aload_n 0, 1) := by decide +kernel
theorem dX10_findNear_23 : decode cX10_findNear 23 = .ok (.getfield 230, 3) := by decide +kernel
theorem dX10_findNear_26 : decode cX10_findNear 26 = .ok (.i2l, 1) := by decide +kernel
theorem dX10_findNear_27 : decode cX10_findNear 27 = .ok (.invokevirtual 60, 3) := by decide +kernel
theorem dX10_findNear_30 : decode cX10_findNear 30 = .ok (.aload_n 0, 1) := by decide +kernel
theorem dX10_findNear_31 : decode cX10_findNear 31 = .ok (.bipush 10, 2) := by decide +kernel
theorem dX10_findNear_33 : decode cX10_findNear 33 = .ok (.lconst 1, 1) := by decide +kernel
theorem dX10_findNear_34 : decode cX10_findNear 34 = .ok (.invokevirtual 60, 3) := by decide +kernel
theorem dX10_findNear_37 : decode cX10_findNear 37 = .ok (.iconst 0, 1) := by decide +kernel
theorem dX10_findNear_38 : decode cX10_findNear 38 = .ok (.istore_n 3, 1) := by decide +kernel
theorem dX10_findNear_39 : decode cX10_findNear 39 = .ok (.iload_n 3, 1) := by decide +kernel
theorem dX10_findNear_40 : decode cX10_findNear 40 = .ok (.iload_n 2, 1) := by decide +kernel
theorem dX10_findNear_41 : decode cX10_findNear 41 = .ok (.if_icmp .ge 94, 3) := by decide +kernel
theorem dX10_findNear_44 : decode cX10_findNear 44 = .ok (.aload_n 0, 1) := by decide +kernel
theorem dX10_findNear_45 : decode cX10_findNear 45 = .ok (.iload_n 1, 1) := by decide +kernel
theorem dX10_findNear_46 : decode cX10_findNear 46 = .ok (.invokevirtual 237, 3) := by decide +kernel
theorem dX10_findNear_49 : decode cX10_findNear 49 = .ok (.aload_n 0, 1) := by decide +kernel
theorem dX10_findNear_50 : decode cX10_findNear 50 = .ok (.bipush 12, 2) := by decide +kernel
theorem dX10_findNear_52 : decode cX10_findNear 52 = .ok (.bipush 8, 2) := by decide +kernel
theorem dX10_findNear_54 : decode cX10_findNear 54 = .ok (.aload_n 0, 1) := by decide +kernel
theorem dX10_findNear_55 : decode cX10_findNear 55 = .ok (.getfield 230, 3) := by decide +kernel
theorem dX10_findNear_58 : decode cX10_findNear 58 = .ok (.i2l, 1) := by decide +kernel
theorem dX10_findNear_59 : decode cX10_findNear 59 = .ok (.lconst 0, 1) := by decide +kernel
theorem dX10_findNear_60 : decode cX10_findNear 60 = .ok (.invokevirtual 69, 3) := by decide +kernel
theorem dX10_findNear_63 : decode cX10_findNear 63 = .ok (.aload_n 0, 1) := by decide +kernel
theorem dX10_findNear_64 : decode cX10_findNear 64 = .ok (.bipush 12, 2) := by decide +kernel
theorem dX10_findNear_66 : decode cX10_findNear 66 = .ok (.bipush 12, 2) := by decide +kernel
theorem dX10_findNear_68 : decode cX10_findNear 68 = .ok (.bipush 9, 2) := by decide +kernel
theorem dX10_findNear_70 : decode cX10_findNear 70 = .ok (.invokevirtual 171, 3) := by decide +kernel
theorem dX10_findNear_73 : decode cX10_findNear 73 = .ok (.aload_n 0, 1) := by decide +kernel
theorem dX10_findNear_74 : decode cX10_findNear 74 = .ok (.bipush 9, 2) := by decide +kernel
theorem dX10_findNear_76 : decode cX10_findNear 76 = .ok (.bipush 8, 2) := by decide +kernel
theorem dX10_findNear_78 : decode cX10_findNear 78 = .ok (.invokevirtual 81, 3) := by decide +kernel
theorem dX10_findNear_81 : decode cX10_findNear 81 = .ok (.aload_n 0, 1) := by decide +kernel
theorem dX10_findNear_82 : decode cX10_findNear 82 = .ok (.bipush 8, 2) := by decide +kernel
theorem dX10_findNear_84 : decode cX10_findNear 84 = .ok (.bipush 12, 2) := by decide +kernel
theorem dX10_findNear_86 : decode cX10_findNear 86 = .ok (.invokevirtual 81, 3) := by decide +kernel
theorem dX10_findNear_89 : decode cX10_findNear 89 = .ok (.aload_n 0, 1) := by decide +kernel
theorem dX10_findNear_90 : decode cX10_findNear 90 = .ok (.bipush 12, 2) := by decide +kernel
theorem dX10_findNear_92 : decode cX10_findNear 92 = .ok (.bipush 10, 2) := by decide +kernel
theorem dX10_findNear_94 : decode cX10_findNear 94 = .ok (.aload_n 0, 1) := by decide +kernel
theorem dX10_findNear_95 : decode cX10_findNear 95 = .ok (.getfield 230, 3) := by decide +kernel
theorem dX10_findNear_98 : decode cX10_findNear 98 = .ok (.i2l, 1) := by decide +kernel
theorem dX10_findNear_99 : decode cX10_findNear 99 = .ok (.lconst 0, 1) := by decide +kernel
theorem dX10_findNear_100 : decode cX10_findNear 100 = .ok (.invokevirtual 69, 3) := by decide +kernel
theorem dX10_findNear_103 : decode cX10_findNear 103 = .ok (.aload_n 0, 1) := by decide +kernel
theorem dX10_findNear_104 : decode cX10_findNear 104 = .ok (.bipush 12, 2) := by decide +kernel
theorem dX10_findNear_106 : decode cX10_findNear 106 = .ok (.bipush 12, 2) := by decide +kernel
theorem dX10_findNear_108 : decode cX10_findNear 108 = .ok (.bipush 11, 2) := by decide +kernel
theorem dX10_findNear_110 : decode cX10_findNear 110 = .ok (.invokevirtual 171, 3) := by decide +kernel
theorem dX10_findNear_113 : decode cX10_findNear 113 = .ok (.aload_n 0, 1) := by decide +kernel
theorem dX10_findNear_114 : decode cX10_findNear 114 = .ok (.bipush 11, 2) := by decide +kernel
theorem dX10_findNear_116 : decode cX10_findNear 116 = .ok (.bipush 10, 2) := by decide +kernel
theorem dX10_findNear_118 : decode cX10_findNear 118 = .ok (.invokevirtual 81, 3) := by decide +kernel
theorem dX10_findNear_121 : decode cX10_findNear 121 = .ok (.aload_n 0, 1) := by decide +kernel
theorem dX10_findNear_122 : decode cX10_findNear 122 = .ok (.bipush 10, 2) := by decide +kernel
theorem dX10_findNear_124 : decode cX10_findNear 124 = .ok (.bipush 12, 2) := by decide +kernel
theorem dX10_findNear_126 : decode cX10_findNear 126 = .ok (.invokevirtual 81, 3) := by decide +kernel
theorem dX10_findNear_129 : decode cX10_findNear 129 = .ok (.iinc 3 1, 3) := by decide +kernel
theorem dX10_findNear_132 : decode cX10_findNear 132 = .ok (.goto (-93), 3) := by decide +kernel
theorem dX10_findNear_135 : decode cX10_findNear 135 = .ok (.return_, 1) := by decide +kernel
theorem dX10_comeTwo_0 : decode cX10_comeTwo 0 = .ok (.aload_n 0, 1) := by decide +kernel
theorem dX10_comeTwo_1 : decode cX10_comeTwo 1 = .ok (.bipush 8, 2) := by decide +kernel
theorem dX10_comeTwo_3 : decode cX10_comeTwo 3 = .ok (.invokevirtual 87, 3) := by decide +kernel
theorem dX10_comeTwo_6 : decode cX10_comeTwo 6 = .ok (.ifCond .ne 12, 3) := by decide +kernel
theorem dX10_comeTwo_9 : decode cX10_comeTwo 9 = .ok (.aload_n 0, 1) := by decide +kernel
theorem dX10_comeTwo_10 : decode cX10_comeTwo 10 = .ok (.bipush 10, 2) := by decide +kernel
theorem dX10_comeTwo_12 : decode cX10_comeTwo 12 = .ok (.invokevirtual 87, 3) := by decide +kernel
theorem dX10_comeTwo_15 : decode cX10_comeTwo 15 = .ok (.ifCond .eq 6, 3) := by decide +kernel
theorem dX10_comeTwo_18 : decode cX10_comeTwo 18 = .ok (.bipush (-3), 2) := by decide +kernel
theorem dX10_comeTwo_20 : decode cX10_comeTwo 20 = .ok (.ireturn, 1) := by decide +kernel
theorem dX10_comeTwo_21 : decode cX10_comeTwo 21 = .ok (.aload_n 0, 1) := by decide +kernel
theorem dX10_comeTwo_22 : decode cX10_comeTwo 22 = .ok (.iload_n 2, 1) := by decide +kernel
theorem dX10_comeTwo_23 : decode cX10_comeTwo 23 = .ok (.bipush 10, 2) := by decide +kernel
theorem dX10_comeTwo_25 : decode cX10_comeTwo 25 = .ok (.invokevirtual 128, 3) := by decide +kernel
theorem dX10_comeTwo_28 : decode cX10_comeTwo 28 = .ok (.pop, 1) := by decide +kernel
theorem dX10_comeTwo_29 : decode cX10_comeTwo 29 = .ok (.aload_n 0, 1) := by decide +kernel
theorem dX10_comeTwo_30 : decode cX10_comeTwo 30 = .ok (.iload_n 1, 1) := by decide +kernel
theorem dX10_comeTwo_31 : decode cX10_comeTwo 31 = .ok (.bipush 8, 2) := by decide +kernel
theorem dX10_comeTwo_33 : decode cX10_comeTwo 33 = .ok (.invokevirtual 128, 3) := by decide +kernel
theorem dX10_comeTwo_36 : decode cX10_comeTwo 36 = .ok (.ireturn, 1) := by decide +kernel
theorem dX10_near_0 : decode cX10_near 0 = .ok (.iload_n 1, 1) := by decide +kernel
theorem dX10_near_1 : decode cX10_near 1 = .ok (.invokestatic 240, 3) := by decide +kernel
theorem dX10_near_4 : decode cX10_near 4 = .ok (.ifCond .eq 36, 3) := by decide +kernel
theorem dX10_near_7 : decode cX10_near 7 = .ok (.iload_n 2, 1) := by decide +kernel
theorem dX10_near_8 : decode cX10_near 8 = .ok (.i2l, 1) := by decide +kernel
theorem dX10_near_9 : decode cX10_near 9 = .ok (.lconst 0, 1) := by decide +kernel
theorem dX10_near_10 : decode cX10_near 10 = .ok (.ldc2_w 204, 3) := by decide +kernel
theorem dX10_near_13 : decode cX10_near 13 = .ok (.invokestatic 49, 3) := by decide +kernel
theorem dX10_near_16 : decode cX10_near 16 = .ok (.ifCond .eq 24, 3) := by decide +kernel
theorem dX10_near_19 : decode cX10_near 19 = .ok (.iload_n 3, 1) := by decide +kernel
theorem dX10_near_20 : decode cX10_near 20 = .ok (.invokestatic 94, 3) := by decide +kernel
theorem dX10_near_23 : decode cX10_near 23 = .ok (.ifCond .eq 17, 3) := by decide +kernel
theorem dX10_near_26 : decode cX10_near 26 = .ok (.iload 4, 2) := by decide +kernel
theorem dX10_near_28 : decode cX10_near 28 = .ok (.invokestatic 94, 3) := by decide +kernel
theorem dX10_near_31 : decode cX10_near 31 = .ok (.ifCond .eq 9, 3) := by decide +kernel
theorem dX10_near_34 : decode cX10_near 34 = .ok (.iload_n 3, 1) := by decide +kernel
theorem dX10_near_35 : decode cX10_near 35 = .ok (.iload 4, 2) := by decide +kernel
theorem dX10_near_37 : decode cX10_near 37 = .ok (.if_icmp .ne 5, 3) := by decide +kernel
theorem dX10_near_40 : decode cX10_near 40 = .ok (.iconst (-1), 1) := by decide +kernel
theorem dX10_near_41 : decode cX10_near 41 = .ok (.ireturn, 1) := by decide +kernel
theorem dX10_near_42 : decode cX10_near 42 = .ok (.aload_n 0, 1) := by decide +kernel
theorem dX10_near_43 : decode cX10_near 43 = .ok (.iload_n 1, 1) := by decide +kernel
theorem dX10_near_44 : decode cX10_near 44 = .ok (.iload_n 2, 1) := by decide +kernel
theorem dX10_near_45 : decode cX10_near 45 = .ok (.invokevirtual 248, 3) := by decide +kernel
theorem dX10_near_48 : decode cX10_near 48 = .ok (.aload_n 0, 1) := by decide +kernel
theorem dX10_near_49 : decode cX10_near 49 = .ok (.iload_n 3, 1) := by decide +kernel
theorem dX10_near_50 : decode cX10_near 50 = .ok (.iload 4, 2) := by decide +kernel
theorem dX10_near_52 : decode cX10_near 52 = .ok (.invokevirtual 251, 3) := by decide +kernel
theorem dX10_near_55 : decode cX10_near 55 = .ok (.ireturn, 1) := by decide +kernel
theorem dX10_one_0 : decode cX10_one 0 = .ok (.iload_n 1, 1) := by decide +kernel
theorem dX10_one_1 : decode cX10_one 1 = .ok (.invokestatic 240, 3) := by decide +kernel
theorem dX10_one_4 : decode cX10_one 4 = .ok (.ifCond .eq 36, 3) := by decide +kernel
theorem dX10_one_7 : decode cX10_one 7 = .ok (.iload_n 2, 1) := by decide +kernel
theorem dX10_one_8 : decode cX10_one 8 = .ok (.i2l, 1) := by decide +kernel
theorem dX10_one_9 : decode cX10_one 9 = .ok (.lconst 1, 1) := by decide +kernel
theorem dX10_one_10 : decode cX10_one 10 = .ok (.ldc2_w 101, 3) := by decide +kernel
theorem dX10_one_13 : decode cX10_one 13 = .ok (.invokestatic 49, 3) := by decide +kernel
theorem dX10_one_16 : decode cX10_one 16 = .ok (.ifCond .eq 24, 3) := by decide +kernel
theorem dX10_one_19 : decode cX10_one 19 = .ok (.iload_n 3, 1) := by decide +kernel
theorem dX10_one_20 : decode cX10_one 20 = .ok (.invokestatic 94, 3) := by decide +kernel
theorem dX10_one_23 : decode cX10_one 23 = .ok (.ifCond .eq 17, 3) := by decide +kernel
theorem dX10_one_26 : decode cX10_one 26 = .ok (.iload 4, 2) := by decide +kernel
theorem dX10_one_28 : decode cX10_one 28 = .ok (.invokestatic 94, 3) := by decide +kernel
theorem dX10_one_31 : decode cX10_one 31 = .ok (.ifCond .eq 9, 3) := by decide +kernel
theorem dX10_one_34 : decode cX10_one 34 = .ok (.iload_n 3, 1) := by decide +kernel
theorem dX10_one_35 : decode cX10_one 35 = .ok (.iload 4, 2) := by decide +kernel
theorem dX10_one_37 : decode cX10_one 37 = .ok (.if_icmp .ne 5, 3) := by decide +kernel
theorem dX10_one_40 : decode cX10_one 40 = .ok (.iconst (-1), 1) := by decide +kernel
theorem dX10_one_41 : decode cX10_one 41 = .ok (.ireturn, 1) := by decide +kernel
theorem dX10_one_42 : decode cX10_one 42 = .ok (.aload_n 0, 1) := by decide +kernel
theorem dX10_one_43 : decode cX10_one 43 = .ok (.iload_n 1, 1) := by decide +kernel
theorem dX10_one_44 : decode cX10_one 44 = .ok (.invokevirtual 245, 3) := by decide +kernel
theorem dX10_one_47 : decode cX10_one 47 = .ok (.istore 5, 2) := by decide +kernel
theorem dX10_one_49 : decode cX10_one 49 = .ok (.aload_n 0, 1) := by decide +kernel
theorem dX10_one_50 : decode cX10_one 50 = .ok (.iload_n 1, 1) := by decide +kernel
theorem dX10_one_51 : decode cX10_one 51 = .ok (.iload 5, 2) := by decide +kernel
theorem dX10_one_53 : decode cX10_one 53 = .ok (.iconst 2, 1) := by decide +kernel
theorem dX10_one_54 : decode cX10_one 54 = .ok (.irem, 1) := by decide +kernel
theorem dX10_one_55 : decode cX10_one 55 = .ok (.ifCond .ne 10, 3) := by decide +kernel
theorem dX10_one_58 : decode cX10_one 58 = .ok (.iload 5, 2) := by decide +kernel
theorem dX10_one_60 : decode cX10_one 60 = .ok (.iconst 1, 1) := by decide +kernel
theorem dX10_one_61 : decode cX10_one 61 = .ok (.isub, 1) := by decide +kernel
theorem dX10_one_62 : decode cX10_one 62 = .ok (.goto 9, 3) := by decide +kernel
theorem dX10_one_65 : decode cX10_one 65 = .ok (.iconst 2, 1) := by decide +kernel
theorem dX10_one_66 : decode cX10_one 66 = .ok (.iload 5, 2) := by decide +kernel
theorem dX10_one_68 : decode cX10_one 68 = .ok (.imul, 1) := by decide +kernel
theorem dX10_one_69 : decode cX10_one 69 = .ok (.iconst 1, 1) := by decide +kernel
theorem dX10_one_70 : decode cX10_one 70 = .ok (.isub, 1) := by decide +kernel
theorem dX10_one_71 : decode cX10_one 71 = .ok (.invokevirtual 248, 3) := by decide +kernel
theorem dX10_one_74 : decode cX10_one 74 = .ok (.aload_n 0, 1) := by decide +kernel
theorem dX10_one_75 : decode cX10_one 75 = .ok (.bipush 13, 2) := by decide +kernel
theorem dX10_one_77 : decode cX10_one 77 = .ok (.bipush 8, 2) := by decide +kernel
theorem dX10_one_79 : decode cX10_one 79 = .ok (.invokevirtual 81, 3) := by decide +kernel
theorem dX10_one_82 : decode cX10_one 82 = .ok (.aload_n 0, 1) := by decide +kernel
theorem dX10_one_83 : decode cX10_one 83 = .ok (.bipush 14, 2) := by decide +kernel
theorem dX10_one_85 : decode cX10_one 85 = .ok (.bipush 10, 2) := by decide +kernel
theorem dX10_one_87 : decode cX10_one 87 = .ok (.invokevirtual 81, 3) := by decide +kernel
theorem dX10_one_90 : decode cX10_one 90 = .ok (.iconst 1, 1) := by decide +kernel
theorem dX10_one_91 : decode cX10_one 91 = .ok (.istore 6, 2) := by decide +kernel
theorem dX10_one_93 : decode cX10_one 93 = .ok (.iload 6, 2) := by decide +kernel
theorem dX10_one_95 : decode cX10_one 95 = .ok (.iload_n 2, 1) := by decide +kernel
theorem dX10_one_96 : decode cX10_one 96 = .ok (.if_icmp .ge 106, 3) := by decide +kernel
theorem dX10_one_99 : decode cX10_one 99 = .ok (.aload_n 0, 1) := by decide +kernel
theorem dX10_one_100 : decode cX10_one 100 = .ok (.bipush 8, 2) := by decide +kernel
theorem dX10_one_102 : decode cX10_one 102 = .ok (.invokevirtual 87, 3) := by decide +kernel
theorem dX10_one_105 : decode cX10_one 105 = .ok (.ifCond .ne 97, 3) := by decide +kernel
theorem dX10_one_108 : decode cX10_one 108 = .ok (.aload_n 0, 1) := by decide +kernel
theorem dX10_one_109 : decode cX10_one 109 = .ok (.bipush 10, 2) := by decide +kernel
theorem dX10_one_111 : decode cX10_one 111 = .ok (.invokevirtual 87, 3) := by decide +kernel
theorem dX10_one_114 : decode cX10_one 114 = .ok (.ifCond .ne 88, 3) := by decide +kernel
theorem dX10_one_117 : decode cX10_one 117 = .ok (.aload_n 0, 1) := by decide +kernel
theorem dX10_one_118 : decode cX10_one 118 = .ok (.bipush 9, 2) := by decide +kernel
theorem dX10_one_120 : decode cX10_one 120 = .ok (.bipush 13, 2) := by decide +kernel
theorem dX10_one_122 : decode cX10_one 122 = .ok (.bipush 8, 2) := by decide +kernel
theorem dX10_one_124 : decode cX10_one 124 = .ok (.invokevirtual 84, 3) := by decide +kernel
theorem dX10_one_127 : decode cX10_one 127 = .ok (.aload_n 0, 1) := by decide +kernel
theorem dX10_one_128 : decode cX10_one 128 = .ok (.bipush 11, 2) := by decide +kernel
theorem dX10_one_130 : decode cX10_one 130 = .ok (.bipush 14, 2) := by decide +kernel
theorem dX10_one_132 : decode cX10_one 132 = .ok (.bipush 10, 2) := by decide +kernel
theorem dX10_one_134 : decode cX10_one 134 = .ok (.invokevirtual 84, 3) := by decide +kernel
theorem dX10_one_137 : decode cX10_one 137 = .ok (.aload_n 0, 1) := by decide +kernel
theorem dX10_one_138 : decode cX10_one 138 = .ok (.bipush 11, 2) := by decide +kernel
theorem dX10_one_140 : decode cX10_one 140 = .ok (.bipush 11, 2) := by decide +kernel
theorem dX10_one_142 : decode cX10_one 142 = .ok (.iload_n 1, 1) := by decide +kernel
theorem dX10_one_143 : decode cX10_one 143 = .ok (.i2l, 1) := by decide +kernel
theorem dX10_one_144 : decode cX10_one 144 = .ok (.lconst 0, 1) := by decide +kernel
theorem dX10_one_145 : decode cX10_one 145 = .ok (.invokevirtual 69, 3) := by decide +kernel
theorem dX10_one_148 : decode cX10_one 148 = .ok (.aload_n 0, 1) := by decide +kernel
theorem dX10_one_149 : decode cX10_one 149 = .ok (.bipush 9, 2) := by decide +kernel
theorem dX10_one_151 : decode cX10_one 151 = .ok (.bipush 9, 2) := by decide +kernel
theorem dX10_one_153 : decode cX10_one 153 = .ok (.bipush 11, 2) := by decide +kernel
theorem dX10_one_155 : decode cX10_one 155 = .ok (.invokevirtual 171, 3) := by decide +kernel
theorem dX10_one_158 : decode cX10_one 158 = .ok (.aload_n 0, 1) := by decide +kernel
theorem dX10_one_159 : decode cX10_one 159 = .ok (.bipush 11, 2) := by decide +kernel
theorem dX10_one_161 : decode cX10_one 161 = .ok (.bipush 13, 2) := by decide +kernel
theorem dX10_one_163 : decode cX10_one 163 = .ok (.bipush 10, 2) := by decide +kernel
theorem dX10_one_165 : decode cX10_one 165 = .ok (.invokevirtual 84, 3) := by decide +kernel
theorem dX10_one_168 : decode cX10_one 168 = .ok (.aload_n 0, 1) := by decide +kernel
theorem dX10_one_169 : decode cX10_one 169 = .ok (.bipush 12, 2) := by decide +kernel
theorem dX10_one_171 : decode cX10_one 171 = .ok (.bipush 14, 2) := by decide +kernel
theorem dX10_one_173 : decode cX10_one 173 = .ok (.bipush 8, 2) := by decide +kernel
theorem dX10_one_175 : decode cX10_one 175 = .ok (.invokevirtual 84, 3) := by decide +kernel
theorem dX10_one_178 : decode cX10_one 178 = .ok (.aload_n 0, 1) := by decide +kernel
theorem dX10_one_179 : decode cX10_one 179 = .ok (.bipush 10, 2) := by decide +kernel
theorem dX10_one_181 : decode cX10_one 181 = .ok (.bipush 11, 2) := by decide +kernel
theorem dX10_one_183 : decode cX10_one 183 = .ok (.bipush 12, 2) := by decide +kernel
theorem dX10_one_185 : decode cX10_one 185 = .ok (.invokevirtual 171, 3) := by decide +kernel
theorem dX10_one_188 : decode cX10_one 188 = .ok (.aload_n 0, 1) := by decide +kernel
theorem dX10_one_189 : decode cX10_one 189 = .ok (.bipush 8, 2) := by decide +kernel
theorem dX10_one_191 : decode cX10_one 191 = .ok (.bipush 9, 2) := by decide +kernel
theorem dX10_one_193 : decode cX10_one 193 = .ok (.invokevirtual 81, 3) := by decide +kernel
theorem dX10_one_196 : decode cX10_one 196 = .ok (.iinc 6 1, 3) := by decide +kernel
theorem dX10_one_199 : decode cX10_one 199 = .ok (.goto (-106), 3) := by decide +kernel
theorem dX10_one_202 : decode cX10_one 202 = .ok (.aload_n 0, 1) := by decide +kernel
theorem dX10_one_203 : decode cX10_one 203 = .ok (.iload_n 3, 1) := by decide +kernel
theorem dX10_one_204 : decode cX10_one 204 = .ok (.iload 4, 2) := by decide +kernel
theorem dX10_one_206 : decode cX10_one 206 = .ok (.invokevirtual 251, 3) := by decide +kernel
theorem dX10_one_209 : decode cX10_one 209 = .ok (.ireturn, 1) := by decide +kernel
theorem dX10_off_0 : decode cX10_off 0 = .ok (.iload_n 1, 1) := by decide +kernel
theorem dX10_off_1 : decode cX10_off 1 = .ok (.invokestatic 240, 3) := by decide +kernel
theorem dX10_off_4 : decode cX10_off 4 = .ok (.ifCond .eq 31, 3) := by decide +kernel
theorem dX10_off_7 : decode cX10_off 7 = .ok (.iload_n 2, 1) := by decide +kernel
theorem dX10_off_8 : decode cX10_off 8 = .ok (.i2l, 1) := by decide +kernel
theorem dX10_off_9 : decode cX10_off 9 = .ok (.ldc2_w 254, 3) := by decide +kernel
theorem dX10_off_12 : decode cX10_off 12 = .ok (.ldc2_w 101, 3) := by decide +kernel
theorem dX10_off_15 : decode cX10_off 15 = .ok (.invokestatic 49, 3) := by decide +kernel
theorem dX10_off_18 : decode cX10_off 18 = .ok (.ifCond .eq 17, 3) := by decide +kernel
theorem dX10_off_21 : decode cX10_off 21 = .ok (.iload_n 3, 1) := by decide +kernel
theorem dX10_off_22 : decode cX10_off 22 = .ok (.i2l, 1) := by decide +kernel
theorem dX10_off_23 : decode cX10_off 23 = .ok (.ldc2_w 243, 3) := by decide +kernel
theorem dX10_off_26 : decode cX10_off 26 = .ok (.ldc2_w 218, 3) := by decide +kernel
theorem dX10_off_29 : decode cX10_off 29 = .ok (.invokestatic 49, 3) := by decide +kernel
theorem dX10_off_32 : decode cX10_off 32 = .ok (.ifCond .ne 5, 3) := by decide +kernel
theorem dX10_off_35 : decode cX10_off 35 = .ok (.iconst (-1), 1) := by decide +kernel
theorem dX10_off_36 : decode cX10_off 36 = .ok (.ireturn, 1) := by decide +kernel
theorem dX10_off_37 : decode cX10_off 37 = .ok (.iconst 0, 1) := by decide +kernel
theorem dX10_off_38 : decode cX10_off 38 = .ok (.istore 4, 2) := by decide +kernel
theorem dX10_off_40 : decode cX10_off 40 = .ok (.iconst 0, 1) := by decide +kernel
theorem dX10_off_41 : decode cX10_off 41 = .ok (.istore 5, 2) := by decide +kernel
theorem dX10_off_43 : decode cX10_off 43 = .ok (.iload 5, 2) := by decide +kernel
theorem dX10_off_45 : decode cX10_off 45 = .ok (.sipush 10000, 3) := by decide +kernel
theorem dX10_off_48 : decode cX10_off 48 = .ok (.if_icmp .ge 40, 3) := by decide +kernel
theorem dX10_off_51 : decode cX10_off 51 = .ok (.iload_n 1, 1) := by decide +kernel
theorem dX10_off_52 : decode cX10_off 52 = .ok (.i2l, 1) := by decide +kernel
theorem dX10_off_53 : decode cX10_off 53 = .ok (.iload 5, 2) := by decide +kernel
theorem dX10_off_55 : decode cX10_off 55 = .ok (.i2l, 1) := by decide +kernel
theorem dX10_off_56 : decode cX10_off 56 = .ok (.lmul, 1) := by decide +kernel
theorem dX10_off_57 : decode cX10_off 57 = .ok (.iload 5, 2) := by decide +kernel
theorem dX10_off_59 : decode cX10_off 59 = .ok (.i2l, 1) := by decide +kernel
theorem dX10_off_60 : decode cX10_off 60 = .ok (.lmul, 1) := by decide +kernel
theorem dX10_off_61 : decode cX10_off 61 = .ok (.iload_n 2, 1) := by decide +kernel
theorem dX10_off_62 : decode cX10_off 62 = .ok (.i2l, 1) := by decide +kernel
theorem dX10_off_63 : decode cX10_off 63 = .ok (.ladd, 1) := by decide +kernel
theorem dX10_off_64 : decode cX10_off 64 = .ok (.invokestatic 220, 3) := by decide +kernel
theorem dX10_off_67 : decode cX10_off 67 = .ok (.ifCond .eq 15, 3) := by decide +kernel
theorem dX10_off_70 : decode cX10_off 70 = .ok (.iload 4, 2) := by decide +kernel
theorem dX10_off_72 : decode cX10_off 72 = .ok (.iload_n 3, 1) := by decide +kernel
theorem dX10_off_73 : decode cX10_off 73 = .ok (.if_icmp .ne 6, 3) := by decide +kernel
theorem dX10_off_76 : decode cX10_off 76 = .ok (.iload 5, 2) := by decide +kernel
theorem dX10_off_78 : decode cX10_off 78 = .ok (.ireturn, 1) := by decide +kernel
theorem dX10_off_79 : decode cX10_off 79 = .ok (.iinc 4 1, 3) := by decide +kernel
theorem dX10_off_82 : decode cX10_off 82 = .ok (.iinc 5 1, 3) := by decide +kernel
theorem dX10_off_85 : decode cX10_off 85 = .ok (.goto (-42), 3) := by decide +kernel
theorem dX10_off_88 : decode cX10_off 88 = .ok (.iload_n 3, 1) := by decide +kernel
theorem dX10_off_89 : decode cX10_off 89 = .ok (.ifCond .ge 8, 3) := by decide +kernel
theorem dX10_off_92 : decode cX10_off 92 = .ok (.iload 4, 2) := by decide +kernel
theorem dX10_off_94 : decode cX10_off 94 = .ok (.goto 5, 3) := by decide +kernel
theorem dX10_off_97 : decode cX10_off 97 = .ok (.bipush (-4), 2) := by decide +kernel
theorem dX10_off_99 : decode cX10_off 99 = .ok (.ireturn, 1) := by decide +kernel
theorem dX10_best_0 : decode cX10_best 0 = .ok (.iload_n 1, 1) := by decide +kernel
theorem dX10_best_1 : decode cX10_best 1 = .ok (.i2l, 1) := by decide +kernel
theorem dX10_best_2 : decode cX10_best 2 = .ok (.lconst 0, 1) := by decide +kernel
theorem dX10_best_3 : decode cX10_best 3 = .ok (.ldc2_w 256, 3) := by decide +kernel
theorem dX10_best_6 : decode cX10_best 6 = .ok (.invokestatic 49, 3) := by decide +kernel
theorem dX10_best_9 : decode cX10_best 9 = .ok (.ifCond .eq 38, 3) := by decide +kernel
theorem dX10_best_12 : decode cX10_best 12 = .ok (.iload_n 2, 1) := by decide +kernel
theorem dX10_best_13 : decode cX10_best 13 = .ok (.i2l, 1) := by decide +kernel
theorem dX10_best_14 : decode cX10_best 14 = .ok (.lconst 1, 1) := by decide +kernel
theorem dX10_best_15 : decode cX10_best 15 = .ok (.ldc2_w 256, 3) := by decide +kernel
theorem dX10_best_18 : decode cX10_best 18 = .ok (.invokestatic 49, 3) := by decide +kernel
theorem dX10_best_21 : decode cX10_best 21 = .ok (.ifCond .eq 26, 3) := by decide +kernel
theorem dX10_best_24 : decode cX10_best 24 = .ok (.iload_n 3, 1) := by decide +kernel
theorem dX10_best_25 : decode cX10_best 25 = .ok (.i2l, 1) := by decide +kernel
theorem dX10_best_26 : decode cX10_best 26 = .ok (.lconst 1, 1) := by decide +kernel
theorem dX10_best_27 : decode cX10_best 27 = .ok (.ldc2_w 258, 3) := by decide +kernel
theorem dX10_best_30 : decode cX10_best 30 = .ok (.invokestatic 49, 3) := by decide +kernel
theorem dX10_best_33 : decode cX10_best 33 = .ok (.ifCond .eq 14, 3) := by decide +kernel
theorem dX10_best_36 : decode cX10_best 36 = .ok (.iload 4, 2) := by decide +kernel
theorem dX10_best_38 : decode cX10_best 38 = .ok (.i2l, 1) := by decide +kernel
theorem dX10_best_39 : decode cX10_best 39 = .ok (.lconst 0, 1) := by decide +kernel
theorem dX10_best_40 : decode cX10_best 40 = .ok (.lconst 1, 1) := by decide +kernel
theorem dX10_best_41 : decode cX10_best 41 = .ok (.invokestatic 49, 3) := by decide +kernel
theorem dX10_best_44 : decode cX10_best 44 = .ok (.ifCond .ne 5, 3) := by decide +kernel
theorem dX10_best_47 : decode cX10_best 47 = .ok (.iconst (-1), 1) := by decide +kernel
theorem dX10_best_48 : decode cX10_best 48 = .ok (.ireturn, 1) := by decide +kernel
theorem dX10_best_49 : decode cX10_best 49 = .ok (.lconst 0, 1) := by decide +kernel
theorem dX10_best_50 : decode cX10_best 50 = .ok (.lstore 5, 2) := by decide +kernel
theorem dX10_best_52 : decode cX10_best 52 = .ok (.lconst 0, 1) := by decide +kernel
theorem dX10_best_53 : decode cX10_best 53 = .ok (.lstore 7, 2) := by decide +kernel
theorem dX10_best_55 : decode cX10_best 55 = .ok (.lconst 0, 1) := by decide +kernel
theorem dX10_best_56 : decode cX10_best 56 = .ok (.lstore 9, 2) := by decide +kernel
theorem dX10_best_58 : decode cX10_best 58 = .ok (.lconst 1, 1) := by decide +kernel
theorem dX10_best_59 : decode cX10_best 59 = .ok (.lstore 11, 2) := by decide +kernel
theorem dX10_best_61 : decode cX10_best 61 = .ok (.lload 11, 2) := by decide +kernel
theorem dX10_best_63 : decode cX10_best 63 = .ok (.iload_n 3, 1) := by decide +kernel
theorem dX10_best_64 : decode cX10_best 64 = .ok (.i2l, 1) := by decide +kernel
theorem dX10_best_65 : decode cX10_best 65 = .ok (.lcmp, 1) := by decide +kernel
theorem dX10_best_66 : decode cX10_best 66 = .ok (.ifCond .gt 110, 3) := by decide +kernel
theorem dX10_best_69 : decode cX10_best 69 = .ok (.lload 11, 2) := by decide +kernel
theorem dX10_best_71 : decode cX10_best 71 = .ok (.iload_n 1, 1) := by decide +kernel
theorem dX10_best_72 : decode cX10_best 72 = .ok (.i2l, 1) := by decide +kernel
theorem dX10_best_73 : decode cX10_best 73 = .ok (.lmul, 1) := by decide +kernel
theorem dX10_best_74 : decode cX10_best 74 = .ok (.iload_n 2, 1) := by decide +kernel
theorem dX10_best_75 : decode cX10_best 75 = .ok (.i2l, 1) := by decide +kernel
theorem dX10_best_76 : decode cX10_best 76 = .ok (.ldiv, 1) := by decide +kernel
theorem dX10_best_77 : decode cX10_best 77 = .ok (.lstore 13, 2) := by decide +kernel
theorem dX10_best_79 : decode cX10_best 79 = .ok (.lload 13, 2) := by decide +kernel
theorem dX10_best_81 : decode cX10_best 81 = .ok (.lload 11, 2) := by decide +kernel
theorem dX10_best_83 : decode cX10_best 83 = .ok (.iload_n 1, 1) := by decide +kernel
theorem dX10_best_84 : decode cX10_best 84 = .ok (.i2l, 1) := by decide +kernel
theorem dX10_best_85 : decode cX10_best 85 = .ok (.lmul, 1) := by decide +kernel
theorem dX10_best_86 : decode cX10_best 86 = .ok (.iload_n 2, 1) := by decide +kernel
theorem dX10_best_87 : decode cX10_best 87 = .ok (.i2l, 1) := by decide +kernel
theorem dX10_best_88 : decode cX10_best 88 = .ok (.ldiv, 1) := by decide +kernel
theorem dX10_best_89 : decode cX10_best 89 = .ok (.lconst 1, 1) := by decide +kernel
theorem dX10_best_90 : decode cX10_best 90 = .ok (.ladd, 1) := by decide +kernel
theorem dX10_best_91 : decode cX10_best 91 = .ok (.lcmp, 1) := by decide +kernel
theorem dX10_best_92 : decode cX10_best 92 = .ok (.ifCond .gt 75, 3) := by decide +kernel
theorem dX10_best_95 : decode cX10_best 95 = .ok (.lload 13, 2) := by decide +kernel
theorem dX10_best_97 : decode cX10_best 97 = .ok (.iload_n 2, 1) := by decide +kernel
theorem dX10_best_98 : decode cX10_best 98 = .ok (.i2l, 1) := by decide +kernel
theorem dX10_best_99 : decode cX10_best 99 = .ok (.lmul, 1) := by decide +kernel
theorem dX10_best_100 : decode cX10_best 100 = .ok (.lload 11, 2) := by decide +kernel
theorem dX10_best_102 : decode cX10_best 102 = .ok (.iload_n 1, 1) := by decide +kernel
theorem dX10_best_103 : decode cX10_best 103 = .ok (.i2l, 1) := by decide +kernel
theorem dX10_best_104 : decode cX10_best 104 = .ok (.lmul, 1) := by decide +kernel
theorem dX10_best_105 : decode cX10_best 105 = .ok (.lsub, 1) := by decide +kernel
theorem dX10_best_106 : decode cX10_best 106 = .ok (.lstore 15, 2) := by decide +kernel
theorem dX10_best_108 : decode cX10_best 108 = .ok (.lload 15, 2) := by decide +kernel
theorem dX10_best_110 : decode cX10_best 110 = .ok (.lconst 0, 1) := by decide +kernel
theorem dX10_best_111 : decode cX10_best 111 = .ok (.lcmp, 1) := by decide +kernel
theorem dX10_best_112 : decode cX10_best 112 = .ok (.ifCond .ge 9, 3) := by decide +kernel
theorem dX10_best_115 : decode cX10_best 115 = .ok (.lload 15, 2) := by decide +kernel
theorem dX10_best_117 : decode cX10_best 117 = .ok (.lneg, 1) := by decide +kernel
theorem dX10_best_118 : decode cX10_best 118 = .ok (.goto 5, 3) := by decide +kernel
theorem dX10_best_121 : decode cX10_best 121 = .ok (.lload 15, 2) := by decide +kernel
theorem dX10_best_123 : decode cX10_best 123 = .ok (.lstore 15, 2) := by decide +kernel
theorem dX10_best_125 : decode cX10_best 125 = .ok (.lload 7, 2) := by decide +kernel
theorem dX10_best_127 : decode cX10_best 127 = .ok (.lconst 0, 1) := by decide +kernel
theorem dX10_best_128 : decode cX10_best 128 = .ok (.lcmp, 1) := by decide +kernel
theorem dX10_best_129 : decode cX10_best 129 = .ok (.ifCond .eq 17, 3) := by decide +kernel
theorem dX10_best_132 : decode cX10_best 132 = .ok (.lload 15, 2) := by decide +kernel
theorem dX10_best_134 : decode cX10_best 134 = .ok (.lload 7, 2) := by decide +kernel
theorem dX10_best_136 : decode cX10_best 136 = .ok (.lmul, 1) := by decide +kernel
theorem dX10_best_137 : decode cX10_best 137 = .ok (.lload 9, 2) := by decide +kernel
theorem dX10_best_139 : decode cX10_best 139 = .ok (.lload 11, 2) := by decide +kernel
theorem dX10_best_141 : decode cX10_best 141 = .ok (.lmul, 1) := by decide +kernel
theorem dX10_best_142 : decode cX10_best 142 = .ok (.lcmp, 1) := by decide +kernel
theorem dX10_best_143 : decode cX10_best 143 = .ok (.ifCond .ge 15, 3) := by decide +kernel
theorem dX10_best_146 : decode cX10_best 146 = .ok (.lload 13, 2) := by decide +kernel
theorem dX10_best_148 : decode cX10_best 148 = .ok (.lstore 5, 2) := by decide +kernel
theorem dX10_best_150 : decode cX10_best 150 = .ok (.lload 11, 2) := by decide +kernel
theorem dX10_best_152 : decode cX10_best 152 = .ok (.lstore 7, 2) := by decide +kernel
theorem dX10_best_154 : decode cX10_best 154 = .ok (.lload 15, 2) := by decide +kernel
theorem dX10_best_156 : decode cX10_best 156 = .ok (.lstore 9, 2) := by decide +kernel
theorem dX10_best_158 : decode cX10_best 158 = .ok (.lload 13, 2) := by decide +kernel
theorem dX10_best_160 : decode cX10_best 160 = .ok (.lconst 1, 1) := by decide +kernel
theorem dX10_best_161 : decode cX10_best 161 = .ok (.ladd, 1) := by decide +kernel
theorem dX10_best_162 : decode cX10_best 162 = .ok (.lstore 13, 2) := by decide +kernel
theorem dX10_best_164 : decode cX10_best 164 = .ok (.goto (-85), 3) := by decide +kernel
theorem dX10_best_167 : decode cX10_best 167 = .ok (.lload 11, 2) := by decide +kernel
theorem dX10_best_169 : decode cX10_best 169 = .ok (.lconst 1, 1) := by decide +kernel
theorem dX10_best_170 : decode cX10_best 170 = .ok (.ladd, 1) := by decide +kernel
theorem dX10_best_171 : decode cX10_best 171 = .ok (.lstore 11, 2) := by decide +kernel
theorem dX10_best_173 : decode cX10_best 173 = .ok (.goto (-112), 3) := by decide +kernel
theorem dX10_best_176 : decode cX10_best 176 = .ok (.iload 4, 2) := by decide +kernel
theorem dX10_best_178 : decode cX10_best 178 = .ok (.ifCond .ne 8, 3) := by decide +kernel
theorem dX10_best_181 : decode cX10_best 181 = .ok (.lload 5, 2) := by decide +kernel
theorem dX10_best_183 : decode cX10_best 183 = .ok (.goto 5, 3) := by decide +kernel
theorem dX10_best_186 : decode cX10_best 186 = .ok (.lload 7, 2) := by decide +kernel
theorem dX10_best_188 : decode cX10_best 188 = .ok (.l2i, 1) := by decide +kernel
theorem dX10_best_189 : decode cX10_best 189 = .ok (.ireturn, 1) := by decide +kernel
theorem dX10_two_0 : decode cX10_two 0 = .ok (.iload_n 1, 1) := by decide +kernel
theorem dX10_two_1 : decode cX10_two 1 = .ok (.i2l, 1) := by decide +kernel
theorem dX10_two_2 : decode cX10_two 2 = .ok (.lconst 0, 1) := by decide +kernel
theorem dX10_two_3 : decode cX10_two 3 = .ok (.ldc2_w 53, 3) := by decide +kernel
theorem dX10_two_6 : decode cX10_two 6 = .ok (.invokestatic 49, 3) := by decide +kernel
theorem dX10_two_9 : decode cX10_two 9 = .ok (.ifCond .eq 8, 3) := by decide +kernel
theorem dX10_two_12 : decode cX10_two 12 = .ok (.iload_n 2, 1) := by decide +kernel
theorem dX10_two_13 : decode cX10_two 13 = .ok (.iconst (-1), 1) := by decide +kernel
theorem dX10_two_14 : decode cX10_two 14 = .ok (.if_icmp .ge 5, 3) := by decide +kernel
theorem dX10_two_17 : decode cX10_two 17 = .ok (.iconst (-1), 1) := by decide +kernel
theorem dX10_two_18 : decode cX10_two 18 = .ok (.ireturn, 1) := by decide +kernel
theorem dX10_two_19 : decode cX10_two 19 = .ok (.iconst 0, 1) := by decide +kernel
theorem dX10_two_20 : decode cX10_two 20 = .ok (.istore_n 3, 1) := by decide +kernel
theorem dX10_two_21 : decode cX10_two 21 = .ok (.iconst 0, 1) := by decide +kernel
theorem dX10_two_22 : decode cX10_two 22 = .ok (.istore 4, 2) := by decide +kernel
theorem dX10_two_24 : decode cX10_two 24 = .ok (.ldc2_w 190, 3) := by decide +kernel
theorem dX10_two_27 : decode cX10_two 27 = .ok (.iload 4, 2) := by decide +kernel
theorem dX10_two_29 : decode cX10_two 29 = .ok (.i2l, 1) := by decide +kernel
theorem dX10_two_30 : decode cX10_two 30 = .ok (.lmul, 1) := by decide +kernel
theorem dX10_two_31 : decode cX10_two 31 = .ok (.iload 4, 2) := by decide +kernel
theorem dX10_two_33 : decode cX10_two 33 = .ok (.i2l, 1) := by decide +kernel
theorem dX10_two_34 : decode cX10_two 34 = .ok (.lmul, 1) := by decide +kernel
theorem dX10_two_35 : decode cX10_two 35 = .ok (.iload_n 1, 1) := by decide +kernel
theorem dX10_two_36 : decode cX10_two 36 = .ok (.i2l, 1) := by decide +kernel
theorem dX10_two_37 : decode cX10_two 37 = .ok (.lcmp, 1) := by decide +kernel
theorem dX10_two_38 : decode cX10_two 38 = .ok (.ifCond .gt 34, 3) := by decide +kernel
theorem dX10_two_41 : decode cX10_two 41 = .ok (.iload_n 1, 1) := by decide +kernel
theorem dX10_two_42 : decode cX10_two 42 = .ok (.iload 4, 2) := by decide +kernel
theorem dX10_two_44 : decode cX10_two 44 = .ok (.iload 4, 2) := by decide +kernel
theorem dX10_two_46 : decode cX10_two 46 = .ok (.imul, 1) := by decide +kernel
theorem dX10_two_47 : decode cX10_two 47 = .ok (.isub, 1) := by decide +kernel
theorem dX10_two_48 : decode cX10_two 48 = .ok (.i2l, 1) := by decide +kernel
theorem dX10_two_49 : decode cX10_two 49 = .ok (.invokestatic 220, 3) := by decide +kernel
theorem dX10_two_52 : decode cX10_two 52 = .ok (.ifCond .eq 14, 3) := by decide +kernel
theorem dX10_two_55 : decode cX10_two 55 = .ok (.iload_n 3, 1) := by decide +kernel
theorem dX10_two_56 : decode cX10_two 56 = .ok (.iload_n 2, 1) := by decide +kernel
theorem dX10_two_57 : decode cX10_two 57 = .ok (.if_icmp .ne 6, 3) := by decide +kernel
theorem dX10_two_60 : decode cX10_two 60 = .ok (.iload 4, 2) := by decide +kernel
theorem dX10_two_62 : decode cX10_two 62 = .ok (.ireturn, 1) := by decide +kernel
theorem dX10_two_63 : decode cX10_two 63 = .ok (.iinc 3 1, 3) := by decide +kernel
theorem dX10_two_66 : decode cX10_two 66 = .ok (.iinc 4 1, 3) := by decide +kernel
theorem dX10_two_69 : decode cX10_two 69 = .ok (.goto (-45), 3) := by decide +kernel
theorem dX10_two_72 : decode cX10_two 72 = .ok (.iload_n 2, 1) := by decide +kernel
theorem dX10_two_73 : decode cX10_two 73 = .ok (.ifCond .ge 7, 3) := by decide +kernel
theorem dX10_two_76 : decode cX10_two 76 = .ok (.iload_n 3, 1) := by decide +kernel
theorem dX10_two_77 : decode cX10_two 77 = .ok (.goto 5, 3) := by decide +kernel
theorem dX10_two_80 : decode cX10_two 80 = .ok (.bipush (-4), 2) := by decide +kernel
theorem dX10_two_82 : decode cX10_two 82 = .ok (.ireturn, 1) := by decide +kernel
theorem dX10_triangle_0 : decode cX10_triangle 0 = .ok (.ldc2_w 103, 3) := by decide +kernel
theorem dX10_triangle_3 : decode cX10_triangle 3 = .ok (.iload_n 0, 1) := by decide +kernel
theorem dX10_triangle_4 : decode cX10_triangle 4 = .ok (.i2l, 1) := by decide +kernel
theorem dX10_triangle_5 : decode cX10_triangle 5 = .ok (.lmul, 1) := by decide +kernel
theorem dX10_triangle_6 : decode cX10_triangle 6 = .ok (.lconst 1, 1) := by decide +kernel
theorem dX10_triangle_7 : decode cX10_triangle 7 = .ok (.ladd, 1) := by decide +kernel
theorem dX10_triangle_8 : decode cX10_triangle 8 = .ok (.invokestatic 214, 3) := by decide +kernel
theorem dX10_triangle_11 : decode cX10_triangle 11 = .ok (.lstore_n 1, 1) := by decide +kernel
theorem dX10_triangle_12 : decode cX10_triangle 12 = .ok (.lload_n 1, 1) := by decide +kernel
theorem dX10_triangle_13 : decode cX10_triangle 13 = .ok (.lload_n 1, 1) := by decide +kernel
theorem dX10_triangle_14 : decode cX10_triangle 14 = .ok (.lmul, 1) := by decide +kernel
theorem dX10_triangle_15 : decode cX10_triangle 15 = .ok (.ldc2_w 103, 3) := by decide +kernel
theorem dX10_triangle_18 : decode cX10_triangle 18 = .ok (.iload_n 0, 1) := by decide +kernel
theorem dX10_triangle_19 : decode cX10_triangle 19 = .ok (.i2l, 1) := by decide +kernel
theorem dX10_triangle_20 : decode cX10_triangle 20 = .ok (.lmul, 1) := by decide +kernel
theorem dX10_triangle_21 : decode cX10_triangle 21 = .ok (.lconst 1, 1) := by decide +kernel
theorem dX10_triangle_22 : decode cX10_triangle 22 = .ok (.ladd, 1) := by decide +kernel
theorem dX10_triangle_23 : decode cX10_triangle 23 = .ok (.lcmp, 1) := by decide +kernel
theorem dX10_triangle_24 : decode cX10_triangle 24 = .ok (.ifCond .ne 14, 3) := by decide +kernel
theorem dX10_triangle_27 : decode cX10_triangle 27 = .ok (.lload_n 1, 1) := by decide +kernel
theorem dX10_triangle_28 : decode cX10_triangle 28 = .ok (.lconst 1, 1) := by decide +kernel
theorem dX10_triangle_29 : decode cX10_triangle 29 = .ok (.lsub, 1) := by decide +kernel
theorem dX10_triangle_30 : decode cX10_triangle 30 = .ok (.ldc2_w 190, 3) := by decide +kernel
theorem dX10_triangle_33 : decode cX10_triangle 33 = .ok (.ldiv, 1) := by decide +kernel
theorem dX10_triangle_34 : decode cX10_triangle 34 = .ok (.l2i, 1) := by decide +kernel
theorem dX10_triangle_35 : decode cX10_triangle 35 = .ok (.goto 4, 3) := by decide +kernel
theorem dX10_triangle_38 : decode cX10_triangle 38 = .ok (.iconst (-1), 1) := by decide +kernel
theorem dX10_triangle_39 : decode cX10_triangle 39 = .ok (.ireturn, 1) := by decide +kernel
theorem dX10_triangleOf_0 : decode cX10_triangleOf 0 = .ok (.iload_n 0, 1) := by decide +kernel
theorem dX10_triangleOf_1 : decode cX10_triangleOf 1 = .ok (.iload_n 0, 1) := by decide +kernel
theorem dX10_triangleOf_2 : decode cX10_triangleOf 2 = .ok (.iconst 1, 1) := by decide +kernel
theorem dX10_triangleOf_3 : decode cX10_triangleOf 3 = .ok (.iadd, 1) := by decide +kernel
theorem dX10_triangleOf_4 : decode cX10_triangleOf 4 = .ok (.imul, 1) := by decide +kernel
theorem dX10_triangleOf_5 : decode cX10_triangleOf 5 = .ok (.iconst 2, 1) := by decide +kernel
theorem dX10_triangleOf_6 : decode cX10_triangleOf 6 = .ok (.idiv, 1) := by decide +kernel
theorem dX10_triangleOf_7 : decode cX10_triangleOf 7 = .ok (.ireturn, 1) := by decide +kernel
theorem dX10_three_0 : decode cX10_three 0 = .ok (.iload_n 1, 1) := by decide +kernel
theorem dX10_three_1 : decode cX10_three 1 = .ok (.i2l, 1) := by decide +kernel
theorem dX10_three_2 : decode cX10_three 2 = .ok (.lconst 0, 1) := by decide +kernel
theorem dX10_three_3 : decode cX10_three 3 = .ok (.ldc2_w 260, 3) := by decide +kernel
theorem dX10_three_6 : decode cX10_three 6 = .ok (.invokestatic 49, 3) := by decide +kernel
theorem dX10_three_9 : decode cX10_three 9 = .ok (.ifCond .eq 15, 3) := by decide +kernel
theorem dX10_three_12 : decode cX10_three 12 = .ok (.iload_n 2, 1) := by decide +kernel
theorem dX10_three_13 : decode cX10_three 13 = .ok (.i2l, 1) := by decide +kernel
theorem dX10_three_14 : decode cX10_three 14 = .ok (.lconst 0, 1) := by decide +kernel
theorem dX10_three_15 : decode cX10_three 15 = .ok (.ldc2_w 190, 3) := by decide +kernel
theorem dX10_three_18 : decode cX10_three 18 = .ok (.invokestatic 49, 3) := by decide +kernel
theorem dX10_three_21 : decode cX10_three 21 = .ok (.ifCond .ne 5, 3) := by decide +kernel
theorem dX10_three_24 : decode cX10_three 24 = .ok (.iconst (-1), 1) := by decide +kernel
theorem dX10_three_25 : decode cX10_three 25 = .ok (.ireturn, 1) := by decide +kernel
theorem dX10_three_26 : decode cX10_three 26 = .ok (.iconst 0, 1) := by decide +kernel
theorem dX10_three_27 : decode cX10_three 27 = .ok (.istore_n 3, 1) := by decide +kernel
theorem dX10_three_28 : decode cX10_three 28 = .ok (.iconst 3, 1) := by decide +kernel
theorem dX10_three_29 : decode cX10_three 29 = .ok (.iload_n 3, 1) := by decide +kernel
theorem dX10_three_30 : decode cX10_three 30 = .ok (.invokestatic 262, 3) := by decide +kernel
theorem dX10_three_33 : decode cX10_three 33 = .ok (.imul, 1) := by decide +kernel
theorem dX10_three_34 : decode cX10_three 34 = .ok (.iload_n 1, 1) := by decide +kernel
theorem dX10_three_35 : decode cX10_three 35 = .ok (.if_icmp .gt 79, 3) := by decide +kernel
theorem dX10_three_38 : decode cX10_three 38 = .ok (.iload_n 3, 1) := by decide +kernel
theorem dX10_three_39 : decode cX10_three 39 = .ok (.istore 4, 2) := by decide +kernel
theorem dX10_three_41 : decode cX10_three 41 = .ok (.iload_n 3, 1) := by decide +kernel
theorem dX10_three_42 : decode cX10_three 42 = .ok (.invokestatic 262, 3) := by decide +kernel
theorem dX10_three_45 : decode cX10_three 45 = .ok (.iconst 2, 1) := by decide +kernel
theorem dX10_three_46 : decode cX10_three 46 = .ok (.iload 4, 2) := by decide +kernel
theorem dX10_three_48 : decode cX10_three 48 = .ok (.invokestatic 262, 3) := by decide +kernel
theorem dX10_three_51 : decode cX10_three 51 = .ok (.imul, 1) := by decide +kernel
theorem dX10_three_52 : decode cX10_three 52 = .ok (.iadd, 1) := by decide +kernel
theorem dX10_three_53 : decode cX10_three 53 = .ok (.iload_n 1, 1) := by decide +kernel
theorem dX10_three_54 : decode cX10_three 54 = .ok (.if_icmp .gt 54, 3) := by decide +kernel
theorem dX10_three_57 : decode cX10_three 57 = .ok (.iload_n 1, 1) := by decide +kernel
theorem dX10_three_58 : decode cX10_three 58 = .ok (.iload_n 3, 1) := by decide +kernel
theorem dX10_three_59 : decode cX10_three 59 = .ok (.invokestatic 262, 3) := by decide +kernel
theorem dX10_three_62 : decode cX10_three 62 = .ok (.isub, 1) := by decide +kernel
theorem dX10_three_63 : decode cX10_three 63 = .ok (.iload 4, 2) := by decide +kernel
theorem dX10_three_65 : decode cX10_three 65 = .ok (.invokestatic 262, 3) := by decide +kernel
theorem dX10_three_68 : decode cX10_three 68 = .ok (.isub, 1) := by decide +kernel
theorem dX10_three_69 : decode cX10_three 69 = .ok (.invokestatic 265, 3) := by decide +kernel
theorem dX10_three_72 : decode cX10_three 72 = .ok (.istore 5, 2) := by decide +kernel
theorem dX10_three_74 : decode cX10_three 74 = .ok (.iload 5, 2) := by decide +kernel
theorem dX10_three_76 : decode cX10_three 76 = .ok (.iload 4, 2) := by decide +kernel
theorem dX10_three_78 : decode cX10_three 78 = .ok (.if_icmp .lt 24, 3) := by decide +kernel
theorem dX10_three_81 : decode cX10_three 81 = .ok (.iload_n 2, 1) := by decide +kernel
theorem dX10_three_82 : decode cX10_three 82 = .ok (.ifCond .ne 7, 3) := by decide +kernel
theorem dX10_three_85 : decode cX10_three 85 = .ok (.iload_n 3, 1) := by decide +kernel
theorem dX10_three_86 : decode cX10_three 86 = .ok (.goto 15, 3) := by decide +kernel
theorem dX10_three_89 : decode cX10_three 89 = .ok (.iload_n 2, 1) := by decide +kernel
theorem dX10_three_90 : decode cX10_three 90 = .ok (.iconst 1, 1) := by decide +kernel
theorem dX10_three_91 : decode cX10_three 91 = .ok (.if_icmp .ne 8, 3) := by decide +kernel
theorem dX10_three_94 : decode cX10_three 94 = .ok (.iload 4, 2) := by decide +kernel
theorem dX10_three_96 : decode cX10_three 96 = .ok (.goto 5, 3) := by decide +kernel
theorem dX10_three_99 : decode cX10_three 99 = .ok (.iload 5, 2) := by decide +kernel
theorem dX10_three_101 : decode cX10_three 101 = .ok (.ireturn, 1) := by decide +kernel
theorem dX10_three_102 : decode cX10_three 102 = .ok (.iinc 4 1, 3) := by decide +kernel
theorem dX10_three_105 : decode cX10_three 105 = .ok (.goto (-64), 3) := by decide +kernel
theorem dX10_three_108 : decode cX10_three 108 = .ok (.iinc 3 1, 3) := by decide +kernel
theorem dX10_three_111 : decode cX10_three 111 = .ok (.goto (-83), 3) := by decide +kernel
theorem dX10_three_114 : decode cX10_three 114 = .ok (.bipush (-4), 2) := by decide +kernel
theorem dX10_three_116 : decode cX10_three 116 = .ok (.ireturn, 1) := by decide +kernel
theorem dX10_isSeven_0 : decode cX10_isSeven 0 = .ok (.iload_n 0, 1) := by decide +kernel
theorem dX10_isSeven_1 : decode cX10_isSeven 1 = .ok (.istore_n 1, 1) := by decide +kernel
theorem dX10_isSeven_2 : decode cX10_isSeven 2 = .ok (.iload_n 1, 1) := by decide +kernel
theorem dX10_isSeven_3 : decode cX10_isSeven 3 = .ok (.ifCond .le 16, 3) := by decide +kernel
theorem dX10_isSeven_6 : decode cX10_isSeven 6 = .ok (.iload_n 1, 1) := by decide +kernel
theorem dX10_isSeven_7 : decode cX10_isSeven 7 = .ok (.iconst 4, 1) := by decide +kernel
theorem dX10_isSeven_8 : decode cX10_isSeven 8 = .ok (.irem, 1) := by decide +kernel
theorem dX10_isSeven_9 : decode cX10_isSeven 9 = .ok (.ifCond .ne 10, 3) := by decide +kernel
theorem dX10_isSeven_12 : decode cX10_isSeven 12 = .ok (.iload_n 1, 1) := by decide +kernel
theorem dX10_isSeven_13 : decode cX10_isSeven 13 = .ok (.iconst 4, 1) := by decide +kernel
theorem dX10_isSeven_14 : decode cX10_isSeven 14 = .ok (.idiv, 1) := by decide +kernel
theorem dX10_isSeven_15 : decode cX10_isSeven 15 = .ok (.istore_n 1, 1) := by decide +kernel
theorem dX10_isSeven_16 : decode cX10_isSeven 16 = .ok (.goto (-14), 3) := by decide +kernel
theorem dX10_isSeven_19 : decode cX10_isSeven 19 = .ok (.iload_n 1, 1) := by decide +kernel
theorem dX10_isSeven_20 : decode cX10_isSeven 20 = .ok (.bipush 8, 2) := by decide +kernel
theorem dX10_isSeven_22 : decode cX10_isSeven 22 = .ok (.irem, 1) := by decide +kernel
theorem dX10_isSeven_23 : decode cX10_isSeven 23 = .ok (.bipush 7, 2) := by decide +kernel
theorem dX10_isSeven_25 : decode cX10_isSeven 25 = .ok (.if_icmp .ne 7, 3) := by decide +kernel
theorem dX10_isSeven_28 : decode cX10_isSeven 28 = .ok (.iconst 1, 1) := by decide +kernel
theorem dX10_isSeven_29 : decode cX10_isSeven 29 = .ok (.goto 4, 3) := by decide +kernel
theorem dX10_isSeven_32 : decode cX10_isSeven 32 = .ok (.iconst 0, 1) := by decide +kernel
theorem dX10_isSeven_33 : decode cX10_isSeven 33 = .ok (.ireturn, 1) := by decide +kernel
theorem dX10_four_0 : decode cX10_four 0 = .ok (.iload_n 1, 1) := by decide +kernel
theorem dX10_four_1 : decode cX10_four 1 = .ok (.i2l, 1) := by decide +kernel
theorem dX10_four_2 : decode cX10_four 2 = .ok (.lconst 0, 1) := by decide +kernel
theorem dX10_four_3 : decode cX10_four 3 = .ok (.ldc2_w 260, 3) := by decide +kernel
theorem dX10_four_6 : decode cX10_four 6 = .ok (.invokestatic 49, 3) := by decide +kernel
theorem dX10_four_9 : decode cX10_four 9 = .ok (.ifCond .eq 15, 3) := by decide +kernel
theorem dX10_four_12 : decode cX10_four 12 = .ok (.iload_n 2, 1) := by decide +kernel
theorem dX10_four_13 : decode cX10_four 13 = .ok (.i2l, 1) := by decide +kernel
theorem dX10_four_14 : decode cX10_four 14 = .ok (.lconst 0, 1) := by decide +kernel
theorem dX10_four_15 : decode cX10_four 15 = .ok (.ldc2_w 99, 3) := by decide +kernel
theorem dX10_four_18 : decode cX10_four 18 = .ok (.invokestatic 49, 3) := by decide +kernel
theorem dX10_four_21 : decode cX10_four 21 = .ok (.ifCond .ne 5, 3) := by decide +kernel
theorem dX10_four_24 : decode cX10_four 24 = .ok (.iconst (-1), 1) := by decide +kernel
theorem dX10_four_25 : decode cX10_four 25 = .ok (.ireturn, 1) := by decide +kernel
theorem dX10_four_26 : decode cX10_four 26 = .ok (.iconst 0, 1) := by decide +kernel
theorem dX10_four_27 : decode cX10_four 27 = .ok (.istore_n 3, 1) := by decide +kernel
theorem dX10_four_28 : decode cX10_four 28 = .ok (.iconst 4, 1) := by decide +kernel
theorem dX10_four_29 : decode cX10_four 29 = .ok (.iload_n 3, 1) := by decide +kernel
theorem dX10_four_30 : decode cX10_four 30 = .ok (.imul, 1) := by decide +kernel
theorem dX10_four_31 : decode cX10_four 31 = .ok (.iload_n 3, 1) := by decide +kernel
theorem dX10_four_32 : decode cX10_four 32 = .ok (.imul, 1) := by decide +kernel
theorem dX10_four_33 : decode cX10_four 33 = .ok (.iload_n 1, 1) := by decide +kernel
theorem dX10_four_34 : decode cX10_four 34 = .ok (.if_icmp .gt 175, 3) := by decide +kernel
theorem dX10_four_37 : decode cX10_four 37 = .ok (.iload_n 3, 1) := by decide +kernel
theorem dX10_four_38 : decode cX10_four 38 = .ok (.istore 4, 2) := by decide +kernel
theorem dX10_four_40 : decode cX10_four 40 = .ok (.iload_n 3, 1) := by decide +kernel
theorem dX10_four_41 : decode cX10_four 41 = .ok (.iload_n 3, 1) := by decide +kernel
theorem dX10_four_42 : decode cX10_four 42 = .ok (.imul, 1) := by decide +kernel
theorem dX10_four_43 : decode cX10_four 43 = .ok (.iconst 3, 1) := by decide +kernel
theorem dX10_four_44 : decode cX10_four 44 = .ok (.iload 4, 2) := by decide +kernel
theorem dX10_four_46 : decode cX10_four 46 = .ok (.imul, 1) := by decide +kernel
theorem dX10_four_47 : decode cX10_four 47 = .ok (.iload 4, 2) := by decide +kernel
theorem dX10_four_49 : decode cX10_four 49 = .ok (.imul, 1) := by decide +kernel
theorem dX10_four_50 : decode cX10_four 50 = .ok (.iadd, 1) := by decide +kernel
theorem dX10_four_51 : decode cX10_four 51 = .ok (.iload_n 1, 1) := by decide +kernel
theorem dX10_four_52 : decode cX10_four 52 = .ok (.if_icmp .gt 151, 3) := by decide +kernel
theorem dX10_four_55 : decode cX10_four 55 = .ok (.iload_n 1, 1) := by decide +kernel
theorem dX10_four_56 : decode cX10_four 56 = .ok (.iload_n 3, 1) := by decide +kernel
theorem dX10_four_57 : decode cX10_four 57 = .ok (.iload_n 3, 1) := by decide +kernel
theorem dX10_four_58 : decode cX10_four 58 = .ok (.imul, 1) := by decide +kernel
theorem dX10_four_59 : decode cX10_four 59 = .ok (.isub, 1) := by decide +kernel
theorem dX10_four_60 : decode cX10_four 60 = .ok (.invokestatic 268, 3) := by decide +kernel
theorem dX10_four_63 : decode cX10_four 63 = .ok (.ifCond .ne 140, 3) := by decide +kernel
theorem dX10_four_66 : decode cX10_four 66 = .ok (.iload_n 1, 1) := by decide +kernel
theorem dX10_four_67 : decode cX10_four 67 = .ok (.iload_n 3, 1) := by decide +kernel
theorem dX10_four_68 : decode cX10_four 68 = .ok (.iload_n 3, 1) := by decide +kernel
theorem dX10_four_69 : decode cX10_four 69 = .ok (.imul, 1) := by decide +kernel
theorem dX10_four_70 : decode cX10_four 70 = .ok (.isub, 1) := by decide +kernel
theorem dX10_four_71 : decode cX10_four 71 = .ok (.iload 4, 2) := by decide +kernel
theorem dX10_four_73 : decode cX10_four 73 = .ok (.iload 4, 2) := by decide +kernel
theorem dX10_four_75 : decode cX10_four 75 = .ok (.imul, 1) := by decide +kernel
theorem dX10_four_76 : decode cX10_four 76 = .ok (.isub, 1) := by decide +kernel
theorem dX10_four_77 : decode cX10_four 77 = .ok (.istore 5, 2) := by decide +kernel
theorem dX10_four_79 : decode cX10_four 79 = .ok (.iload 4, 2) := by decide +kernel
theorem dX10_four_81 : decode cX10_four 81 = .ok (.istore 6, 2) := by decide +kernel
theorem dX10_four_83 : decode cX10_four 83 = .ok (.iload 5, 2) := by decide +kernel
theorem dX10_four_85 : decode cX10_four 85 = .ok (.i2l, 1) := by decide +kernel
theorem dX10_four_86 : decode cX10_four 86 = .ok (.invokestatic 214, 3) := by decide +kernel
theorem dX10_four_89 : decode cX10_four 89 = .ok (.l2i, 1) := by decide +kernel
theorem dX10_four_90 : decode cX10_four 90 = .ok (.istore 7, 2) := by decide +kernel
theorem dX10_four_92 : decode cX10_four 92 = .ok (.iload 6, 2) := by decide +kernel
theorem dX10_four_94 : decode cX10_four 94 = .ok (.iload 7, 2) := by decide +kernel
theorem dX10_four_96 : decode cX10_four 96 = .ok (.if_icmp .ge 47, 3) := by decide +kernel
theorem dX10_four_99 : decode cX10_four 99 = .ok (.iload 6, 2) := by decide +kernel
theorem dX10_four_101 : decode cX10_four 101 = .ok (.iload 6, 2) := by decide +kernel
theorem dX10_four_103 : decode cX10_four 103 = .ok (.imul, 1) := by decide +kernel
theorem dX10_four_104 : decode cX10_four 104 = .ok (.iload 7, 2) := by decide +kernel
theorem dX10_four_106 : decode cX10_four 106 = .ok (.iload 7, 2) := by decide +kernel
theorem dX10_four_108 : decode cX10_four 108 = .ok (.imul, 1) := by decide +kernel
theorem dX10_four_109 : decode cX10_four 109 = .ok (.iadd, 1) := by decide +kernel
theorem dX10_four_110 : decode cX10_four 110 = .ok (.iload 5, 2) := by decide +kernel
theorem dX10_four_112 : decode cX10_four 112 = .ok (.if_icmp .eq 31, 3) := by decide +kernel
theorem dX10_four_115 : decode cX10_four 115 = .ok (.iload 6, 2) := by decide +kernel
theorem dX10_four_117 : decode cX10_four 117 = .ok (.iload 6, 2) := by decide +kernel
theorem dX10_four_119 : decode cX10_four 119 = .ok (.imul, 1) := by decide +kernel
theorem dX10_four_120 : decode cX10_four 120 = .ok (.iload 7, 2) := by decide +kernel
theorem dX10_four_122 : decode cX10_four 122 = .ok (.iload 7, 2) := by decide +kernel
theorem dX10_four_124 : decode cX10_four 124 = .ok (.imul, 1) := by decide +kernel
theorem dX10_four_125 : decode cX10_four 125 = .ok (.iadd, 1) := by decide +kernel
theorem dX10_four_126 : decode cX10_four 126 = .ok (.iload 5, 2) := by decide +kernel
theorem dX10_four_128 : decode cX10_four 128 = .ok (.if_icmp .ge 9, 3) := by decide +kernel
theorem dX10_four_131 : decode cX10_four 131 = .ok (.iinc 6 1, 3) := by decide +kernel
theorem dX10_four_134 : decode cX10_four 134 = .ok (.goto (-42), 3) := by decide +kernel
theorem dX10_four_137 : decode cX10_four 137 = .ok (.iinc 7 (-1), 3) := by decide +kernel
theorem dX10_four_140 : decode cX10_four 140 = .ok (.goto (-48), 3) := by decide +kernel
theorem dX10_four_143 : decode cX10_four 143 = .ok (.iload 6, 2) := by decide +kernel
theorem dX10_four_145 : decode cX10_four 145 = .ok (.iload 7, 2) := by decide +kernel
theorem dX10_four_147 : decode cX10_four 147 = .ok (.if_icmp .gt 50, 3) := by decide +kernel
theorem dX10_four_150 : decode cX10_four 150 = .ok (.iload 6, 2) := by decide +kernel
theorem dX10_four_152 : decode cX10_four 152 = .ok (.iload 6, 2) := by decide +kernel
theorem dX10_four_154 : decode cX10_four 154 = .ok (.imul, 1) := by decide +kernel
theorem dX10_four_155 : decode cX10_four 155 = .ok (.iload 7, 2) := by decide +kernel
theorem dX10_four_157 : decode cX10_four 157 = .ok (.iload 7, 2) := by decide +kernel
theorem dX10_four_159 : decode cX10_four 159 = .ok (.imul, 1) := by decide +kernel
theorem dX10_four_160 : decode cX10_four 160 = .ok (.iadd, 1) := by decide +kernel
theorem dX10_four_161 : decode cX10_four 161 = .ok (.iload 5, 2) := by decide +kernel
theorem dX10_four_163 : decode cX10_four 163 = .ok (.if_icmp .ne 34, 3) := by decide +kernel
theorem dX10_four_166 : decode cX10_four 166 = .ok (.iload_n 2, 1) := by decide +kernel
theorem dX10_four_167 : decode cX10_four 167 = .ok (.ifCond .ne 7, 3) := by decide +kernel
theorem dX10_four_170 : decode cX10_four 170 = .ok (.iload_n 3, 1) := by decide +kernel
theorem dX10_four_171 : decode cX10_four 171 = .ok (.goto 25, 3) := by decide +kernel
theorem dX10_four_174 : decode cX10_four 174 = .ok (.iload_n 2, 1) := by decide +kernel
theorem dX10_four_175 : decode cX10_four 175 = .ok (.iconst 1, 1) := by decide +kernel
theorem dX10_four_176 : decode cX10_four 176 = .ok (.if_icmp .ne 8, 3) := by decide +kernel
theorem dX10_four_179 : decode cX10_four 179 = .ok (.iload 4, 2) := by decide +kernel
theorem dX10_four_181 : decode cX10_four 181 = .ok (.goto 15, 3) := by decide +kernel
theorem dX10_four_184 : decode cX10_four 184 = .ok (.iload_n 2, 1) := by decide +kernel
theorem dX10_four_185 : decode cX10_four 185 = .ok (.iconst 2, 1) := by decide +kernel
theorem dX10_four_186 : decode cX10_four 186 = .ok (.if_icmp .ne 8, 3) := by decide +kernel
theorem dX10_four_189 : decode cX10_four 189 = .ok (.iload 6, 2) := by decide +kernel
theorem dX10_four_191 : decode cX10_four 191 = .ok (.goto 5, 3) := by decide +kernel
theorem dX10_four_194 : decode cX10_four 194 = .ok (.iload 7, 2) := by decide +kernel
theorem dX10_four_196 : decode cX10_four 196 = .ok (.ireturn, 1) := by decide +kernel
theorem dX10_four_197 : decode cX10_four 197 = .ok (.iinc 4 1, 3) := by decide +kernel
theorem dX10_four_200 : decode cX10_four 200 = .ok (.goto (-160), 3) := by decide +kernel
theorem dX10_four_203 : decode cX10_four 203 = .ok (.iinc 3 1, 3) := by decide +kernel
theorem dX10_four_206 : decode cX10_four 206 = .ok (.goto (-178), 3) := by decide +kernel
theorem dX10_four_209 : decode cX10_four 209 = .ok (.bipush (-4), 2) := by decide +kernel
theorem dX10_four_211 : decode cX10_four 211 = .ok (.ireturn, 1) := by decide +kernel
theorem dX10_fewest_0 : decode cX10_fewest 0 = .ok (.iload_n 1, 1) := by decide +kernel
theorem dX10_fewest_1 : decode cX10_fewest 1 = .ok (.i2l, 1) := by decide +kernel
theorem dX10_fewest_2 : decode cX10_fewest 2 = .ok (.lconst 0, 1) := by decide +kernel
theorem dX10_fewest_3 : decode cX10_fewest 3 = .ok (.ldc2_w 53, 3) := by decide +kernel
theorem dX10_fewest_6 : decode cX10_fewest 6 = .ok (.invokestatic 49, 3) := by decide +kernel
theorem dX10_fewest_9 : decode cX10_fewest 9 = .ok (.ifCond .ne 5, 3) := by decide +kernel
theorem dX10_fewest_12 : decode cX10_fewest 12 = .ok (.iconst (-1), 1) := by decide +kernel
theorem dX10_fewest_13 : decode cX10_fewest 13 = .ok (.ireturn, 1) := by decide +kernel
theorem dX10_fewest_14 : decode cX10_fewest 14 = .ok (.iload_n 1, 1) := by decide +kernel
theorem dX10_fewest_15 : decode cX10_fewest 15 = .ok (.i2l, 1) := by decide +kernel
theorem dX10_fewest_16 : decode cX10_fewest 16 = .ok (.invokestatic 220, 3) := by decide +kernel
theorem dX10_fewest_19 : decode cX10_fewest 19 = .ok (.ifCond .eq 13, 3) := by decide +kernel
theorem dX10_fewest_22 : decode cX10_fewest 22 = .ok (.iload_n 1, 1) := by decide +kernel
theorem dX10_fewest_23 : decode cX10_fewest 23 = .ok (.ifCond .ne 7, 3) := by decide +kernel
theorem dX10_fewest_26 : decode cX10_fewest 26 = .ok (.iconst 0, 1) := by decide +kernel
theorem dX10_fewest_27 : decode cX10_fewest 27 = .ok (.goto 4, 3) := by decide +kernel
theorem dX10_fewest_30 : decode cX10_fewest 30 = .ok (.iconst 1, 1) := by decide +kernel
theorem dX10_fewest_31 : decode cX10_fewest 31 = .ok (.ireturn, 1) := by decide +kernel
theorem dX10_fewest_32 : decode cX10_fewest 32 = .ok (.iconst 1, 1) := by decide +kernel
theorem dX10_fewest_33 : decode cX10_fewest 33 = .ok (.istore_n 2, 1) := by decide +kernel
theorem dX10_fewest_34 : decode cX10_fewest 34 = .ok (.ldc2_w 190, 3) := by decide +kernel
theorem dX10_fewest_37 : decode cX10_fewest 37 = .ok (.iload_n 2, 1) := by decide +kernel
theorem dX10_fewest_38 : decode cX10_fewest 38 = .ok (.i2l, 1) := by decide +kernel
theorem dX10_fewest_39 : decode cX10_fewest 39 = .ok (.lmul, 1) := by decide +kernel
theorem dX10_fewest_40 : decode cX10_fewest 40 = .ok (.iload_n 2, 1) := by decide +kernel
theorem dX10_fewest_41 : decode cX10_fewest 41 = .ok (.i2l, 1) := by decide +kernel
theorem dX10_fewest_42 : decode cX10_fewest 42 = .ok (.lmul, 1) := by decide +kernel
theorem dX10_fewest_43 : decode cX10_fewest 43 = .ok (.iload_n 1, 1) := by decide +kernel
theorem dX10_fewest_44 : decode cX10_fewest 44 = .ok (.i2l, 1) := by decide +kernel
theorem dX10_fewest_45 : decode cX10_fewest 45 = .ok (.lcmp, 1) := by decide +kernel
theorem dX10_fewest_46 : decode cX10_fewest 46 = .ok (.ifCond .gt 23, 3) := by decide +kernel
theorem dX10_fewest_49 : decode cX10_fewest 49 = .ok (.iload_n 1, 1) := by decide +kernel
theorem dX10_fewest_50 : decode cX10_fewest 50 = .ok (.iload_n 2, 1) := by decide +kernel
theorem dX10_fewest_51 : decode cX10_fewest 51 = .ok (.iload_n 2, 1) := by decide +kernel
theorem dX10_fewest_52 : decode cX10_fewest 52 = .ok (.imul, 1) := by decide +kernel
theorem dX10_fewest_53 : decode cX10_fewest 53 = .ok (.isub, 1) := by decide +kernel
theorem dX10_fewest_54 : decode cX10_fewest 54 = .ok (.i2l, 1) := by decide +kernel
theorem dX10_fewest_55 : decode cX10_fewest 55 = .ok (.invokestatic 220, 3) := by decide +kernel
theorem dX10_fewest_58 : decode cX10_fewest 58 = .ok (.ifCond .eq 5, 3) := by decide +kernel
theorem dX10_fewest_61 : decode cX10_fewest 61 = .ok (.iconst 2, 1) := by decide +kernel
theorem dX10_fewest_62 : decode cX10_fewest 62 = .ok (.ireturn, 1) := by decide +kernel
theorem dX10_fewest_63 : decode cX10_fewest 63 = .ok (.iinc 2 1, 3) := by decide +kernel
theorem dX10_fewest_66 : decode cX10_fewest 66 = .ok (.goto (-32), 3) := by decide +kernel
theorem dX10_fewest_69 : decode cX10_fewest 69 = .ok (.iload_n 1, 1) := by decide +kernel
theorem dX10_fewest_70 : decode cX10_fewest 70 = .ok (.invokestatic 268, 3) := by decide +kernel
theorem dX10_fewest_73 : decode cX10_fewest 73 = .ok (.ifCond .eq 7, 3) := by decide +kernel
theorem dX10_fewest_76 : decode cX10_fewest 76 = .ok (.iconst 4, 1) := by decide +kernel
theorem dX10_fewest_77 : decode cX10_fewest 77 = .ok (.goto 4, 3) := by decide +kernel
theorem dX10_fewest_80 : decode cX10_fewest 80 = .ok (.iconst 3, 1) := by decide +kernel
theorem dX10_fewest_81 : decode cX10_fewest 81 = .ok (.ireturn, 1) := by decide +kernel
theorem dX10_wall_0 : decode cX10_wall 0 = .ok (.iload_n 1, 1) := by decide +kernel
theorem dX10_wall_1 : decode cX10_wall 1 = .ok (.i2l, 1) := by decide +kernel
theorem dX10_wall_2 : decode cX10_wall 2 = .ok (.lconst 1, 1) := by decide +kernel
theorem dX10_wall_3 : decode cX10_wall 3 = .ok (.ldc2_w 258, 3) := by decide +kernel
theorem dX10_wall_6 : decode cX10_wall 6 = .ok (.invokestatic 49, 3) := by decide +kernel
theorem dX10_wall_9 : decode cX10_wall 9 = .ok (.ifCond .eq 8, 3) := by decide +kernel
theorem dX10_wall_12 : decode cX10_wall 12 = .ok (.iload_n 2, 1) := by decide +kernel
theorem dX10_wall_13 : decode cX10_wall 13 = .ok (.iconst (-1), 1) := by decide +kernel
theorem dX10_wall_14 : decode cX10_wall 14 = .ok (.if_icmp .ge 5, 3) := by decide +kernel
theorem dX10_wall_17 : decode cX10_wall 17 = .ok (.iconst (-1), 1) := by decide +kernel
theorem dX10_wall_18 : decode cX10_wall 18 = .ok (.ireturn, 1) := by decide +kernel
theorem dX10_wall_19 : decode cX10_wall 19 = .ok (.bipush 8, 2) := by decide +kernel
theorem dX10_wall_21 : decode cX10_wall 21 = .ok (.iload_n 1, 1) := by decide +kernel
theorem dX10_wall_22 : decode cX10_wall 22 = .ok (.imul, 1) := by decide +kernel
theorem dX10_wall_23 : decode cX10_wall 23 = .ok (.iload_n 1, 1) := by decide +kernel
theorem dX10_wall_24 : decode cX10_wall 24 = .ok (.imul, 1) := by decide +kernel
theorem dX10_wall_25 : decode cX10_wall 25 = .ok (.istore_n 3, 1) := by decide +kernel
theorem dX10_wall_26 : decode cX10_wall 26 = .ok (.iconst 0, 1) := by decide +kernel
theorem dX10_wall_27 : decode cX10_wall 27 = .ok (.istore 4, 2) := by decide +kernel
theorem dX10_wall_29 : decode cX10_wall 29 = .ok (.iconst 1, 1) := by decide +kernel
theorem dX10_wall_30 : decode cX10_wall 30 = .ok (.istore 5, 2) := by decide +kernel
theorem dX10_wall_32 : decode cX10_wall 32 = .ok (.iload 5, 2) := by decide +kernel
theorem dX10_wall_34 : decode cX10_wall 34 = .ok (.iload 5, 2) := by decide +kernel
theorem dX10_wall_36 : decode cX10_wall 36 = .ok (.imul, 1) := by decide +kernel
theorem dX10_wall_37 : decode cX10_wall 37 = .ok (.iload_n 3, 1) := by decide +kernel
theorem dX10_wall_38 : decode cX10_wall 38 = .ok (.if_icmp .gt 32, 3) := by decide +kernel
theorem dX10_wall_41 : decode cX10_wall 41 = .ok (.iload_n 3, 1) := by decide +kernel
theorem dX10_wall_42 : decode cX10_wall 42 = .ok (.iload 5, 2) := by decide +kernel
theorem dX10_wall_44 : decode cX10_wall 44 = .ok (.irem, 1) := by decide +kernel
theorem dX10_wall_45 : decode cX10_wall 45 = .ok (.ifCond .ne 19, 3) := by decide +kernel
theorem dX10_wall_48 : decode cX10_wall 48 = .ok (.iload 4, 2) := by decide +kernel
theorem dX10_wall_50 : decode cX10_wall 50 = .ok (.iload_n 2, 1) := by decide +kernel
theorem dX10_wall_51 : decode cX10_wall 51 = .ok (.if_icmp .ne 10, 3) := by decide +kernel
theorem dX10_wall_54 : decode cX10_wall 54 = .ok (.iload 5, 2) := by decide +kernel
theorem dX10_wall_56 : decode cX10_wall 56 = .ok (.iconst 4, 1) := by decide +kernel
theorem dX10_wall_57 : decode cX10_wall 57 = .ok (.iload_n 1, 1) := by decide +kernel
theorem dX10_wall_58 : decode cX10_wall 58 = .ok (.imul, 1) := by decide +kernel
theorem dX10_wall_59 : decode cX10_wall 59 = .ok (.iadd, 1) := by decide +kernel
theorem dX10_wall_60 : decode cX10_wall 60 = .ok (.ireturn, 1) := by decide +kernel
theorem dX10_wall_61 : decode cX10_wall 61 = .ok (.iinc 4 1, 3) := by decide +kernel
theorem dX10_wall_64 : decode cX10_wall 64 = .ok (.iinc 5 1, 3) := by decide +kernel
theorem dX10_wall_67 : decode cX10_wall 67 = .ok (.goto (-35), 3) := by decide +kernel
theorem dX10_wall_70 : decode cX10_wall 70 = .ok (.iload_n 2, 1) := by decide +kernel
theorem dX10_wall_71 : decode cX10_wall 71 = .ok (.ifCond .ge 8, 3) := by decide +kernel
theorem dX10_wall_74 : decode cX10_wall 74 = .ok (.iload 4, 2) := by decide +kernel
theorem dX10_wall_76 : decode cX10_wall 76 = .ok (.goto 5, 3) := by decide +kernel
theorem dX10_wall_79 : decode cX10_wall 79 = .ok (.bipush (-4), 2) := by decide +kernel
theorem dX10_wall_81 : decode cX10_wall 81 = .ok (.ireturn, 1) := by decide +kernel
theorem dX10_flat_0 : decode cX10_flat 0 = .ok (.iload_n 1, 1) := by decide +kernel
theorem dX10_flat_1 : decode cX10_flat 1 = .ok (.i2l, 1) := by decide +kernel
theorem dX10_flat_2 : decode cX10_flat 2 = .ok (.ldc2_w 99, 3) := by decide +kernel
theorem dX10_flat_5 : decode cX10_flat 5 = .ok (.ldc2_w 101, 3) := by decide +kernel
theorem dX10_flat_8 : decode cX10_flat 8 = .ok (.invokestatic 49, 3) := by decide +kernel
theorem dX10_flat_11 : decode cX10_flat 11 = .ok (.ifCond .eq 8, 3) := by decide +kernel
theorem dX10_flat_14 : decode cX10_flat 14 = .ok (.iload_n 2, 1) := by decide +kernel
theorem dX10_flat_15 : decode cX10_flat 15 = .ok (.iconst (-1), 1) := by decide +kernel
theorem dX10_flat_16 : decode cX10_flat 16 = .ok (.if_icmp .ge 5, 3) := by decide +kernel
theorem dX10_flat_19 : decode cX10_flat 19 = .ok (.iconst (-1), 1) := by decide +kernel
theorem dX10_flat_20 : decode cX10_flat 20 = .ok (.ireturn, 1) := by decide +kernel
theorem dX10_flat_21 : decode cX10_flat 21 = .ok (.iconst 0, 1) := by decide +kernel
theorem dX10_flat_22 : decode cX10_flat 22 = .ok (.istore_n 3, 1) := by decide +kernel
theorem dX10_flat_23 : decode cX10_flat 23 = .ok (.lconst 0, 1) := by decide +kernel
theorem dX10_flat_24 : decode cX10_flat 24 = .ok (.lstore 4, 2) := by decide +kernel
theorem dX10_flat_26 : decode cX10_flat 26 = .ok (.lconst 1, 1) := by decide +kernel
theorem dX10_flat_27 : decode cX10_flat 27 = .ok (.lstore 6, 2) := by decide +kernel
theorem dX10_flat_29 : decode cX10_flat 29 = .ok (.lload 6, 2) := by decide +kernel
theorem dX10_flat_31 : decode cX10_flat 31 = .ok (.ldc2_w 271, 3) := by decide +kernel
theorem dX10_flat_34 : decode cX10_flat 34 = .ok (.lcmp, 1) := by decide +kernel
theorem dX10_flat_35 : decode cX10_flat 35 = .ok (.ifCond .gt 63, 3) := by decide +kernel
theorem dX10_flat_38 : decode cX10_flat 38 = .ok (.lload 4, 2) := by decide +kernel
theorem dX10_flat_40 : decode cX10_flat 40 = .ok (.iload_n 1, 1) := by decide +kernel
theorem dX10_flat_41 : decode cX10_flat 41 = .ok (.i2l, 1) := by decide +kernel
theorem dX10_flat_42 : decode cX10_flat 42 = .ok (.ldc2_w 190, 3) := by decide +kernel
theorem dX10_flat_45 : decode cX10_flat 45 = .ok (.lsub, 1) := by decide +kernel
theorem dX10_flat_46 : decode cX10_flat 46 = .ok (.lload 6, 2) := by decide +kernel
theorem dX10_flat_48 : decode cX10_flat 48 = .ok (.lmul, 1) := by decide +kernel
theorem dX10_flat_49 : decode cX10_flat 49 = .ok (.lload 6, 2) := by decide +kernel
theorem dX10_flat_51 : decode cX10_flat 51 = .ok (.lmul, 1) := by decide +kernel
theorem dX10_flat_52 : decode cX10_flat 52 = .ok (.iload_n 1, 1) := by decide +kernel
theorem dX10_flat_53 : decode cX10_flat 53 = .ok (.i2l, 1) := by decide +kernel
theorem dX10_flat_54 : decode cX10_flat 54 = .ok (.ldc2_w 97, 3) := by decide +kernel
theorem dX10_flat_57 : decode cX10_flat 57 = .ok (.lsub, 1) := by decide +kernel
theorem dX10_flat_58 : decode cX10_flat 58 = .ok (.lload 6, 2) := by decide +kernel
theorem dX10_flat_60 : decode cX10_flat 60 = .ok (.lmul, 1) := by decide +kernel
theorem dX10_flat_61 : decode cX10_flat 61 = .ok (.lsub, 1) := by decide +kernel
theorem dX10_flat_62 : decode cX10_flat 62 = .ok (.ldc2_w 190, 3) := by decide +kernel
theorem dX10_flat_65 : decode cX10_flat 65 = .ok (.ldiv, 1) := by decide +kernel
theorem dX10_flat_66 : decode cX10_flat 66 = .ok (.ladd, 1) := by decide +kernel
theorem dX10_flat_67 : decode cX10_flat 67 = .ok (.lstore 4, 2) := by decide +kernel
theorem dX10_flat_69 : decode cX10_flat 69 = .ok (.lload 4, 2) := by decide +kernel
theorem dX10_flat_71 : decode cX10_flat 71 = .ok (.invokestatic 220, 3) := by decide +kernel
theorem dX10_flat_74 : decode cX10_flat 74 = .ok (.ifCond .eq 15, 3) := by decide +kernel
theorem dX10_flat_77 : decode cX10_flat 77 = .ok (.iload_n 3, 1) := by decide +kernel
theorem dX10_flat_78 : decode cX10_flat 78 = .ok (.iload_n 2, 1) := by decide +kernel
theorem dX10_flat_79 : decode cX10_flat 79 = .ok (.if_icmp .ne 7, 3) := by decide +kernel
theorem dX10_flat_82 : decode cX10_flat 82 = .ok (.lload 6, 2) := by decide +kernel
theorem dX10_flat_84 : decode cX10_flat 84 = .ok (.l2i, 1) := by decide +kernel
theorem dX10_flat_85 : decode cX10_flat 85 = .ok (.ireturn, 1) := by decide +kernel
theorem dX10_flat_86 : decode cX10_flat 86 = .ok (.iinc 3 1, 3) := by decide +kernel
theorem dX10_flat_89 : decode cX10_flat 89 = .ok (.lload 6, 2) := by decide +kernel
theorem dX10_flat_91 : decode cX10_flat 91 = .ok (.lconst 1, 1) := by decide +kernel
theorem dX10_flat_92 : decode cX10_flat 92 = .ok (.ladd, 1) := by decide +kernel
theorem dX10_flat_93 : decode cX10_flat 93 = .ok (.lstore 6, 2) := by decide +kernel
theorem dX10_flat_95 : decode cX10_flat 95 = .ok (.goto (-66), 3) := by decide +kernel
theorem dX10_flat_98 : decode cX10_flat 98 = .ok (.iload_n 2, 1) := by decide +kernel
theorem dX10_flat_99 : decode cX10_flat 99 = .ok (.ifCond .ge 7, 3) := by decide +kernel
theorem dX10_flat_102 : decode cX10_flat 102 = .ok (.iload_n 3, 1) := by decide +kernel
theorem dX10_flat_103 : decode cX10_flat 103 = .ok (.goto 5, 3) := by decide +kernel
theorem dX10_flat_106 : decode cX10_flat 106 = .ok (.bipush (-4), 2) := by decide +kernel
theorem dX10_flat_108 : decode cX10_flat 108 = .ok (.ireturn, 1) := by decide +kernel
theorem dX10_corners_0 : decode cX10_corners 0 = .ok (.iload_n 1, 1) := by decide +kernel
theorem dX10_corners_1 : decode cX10_corners 1 = .ok (.i2l, 1) := by decide +kernel
theorem dX10_corners_2 : decode cX10_corners 2 = .ok (.lconst 1, 1) := by decide +kernel
theorem dX10_corners_3 : decode cX10_corners 3 = .ok (.ldc2_w 273, 3) := by decide +kernel
theorem dX10_corners_6 : decode cX10_corners 6 = .ok (.invokestatic 49, 3) := by decide +kernel
theorem dX10_corners_9 : decode cX10_corners 9 = .ok (.ifCond .eq 8, 3) := by decide +kernel
theorem dX10_corners_12 : decode cX10_corners 12 = .ok (.iload_n 2, 1) := by decide +kernel
theorem dX10_corners_13 : decode cX10_corners 13 = .ok (.iconst (-1), 1) := by decide +kernel
theorem dX10_corners_14 : decode cX10_corners 14 = .ok (.if_icmp .ge 5, 3) := by decide +kernel
theorem dX10_corners_17 : decode cX10_corners 17 = .ok (.iconst (-1), 1) := by decide +kernel
theorem dX10_corners_18 : decode cX10_corners 18 = .ok (.ireturn, 1) := by decide +kernel
theorem dX10_corners_19 : decode cX10_corners 19 = .ok (.iconst 0, 1) := by decide +kernel
theorem dX10_corners_20 : decode cX10_corners 20 = .ok (.istore_n 3, 1) := by decide +kernel
theorem dX10_corners_21 : decode cX10_corners 21 = .ok (.iconst 1, 1) := by decide +kernel
theorem dX10_corners_22 : decode cX10_corners 22 = .ok (.istore 4, 2) := by decide +kernel
theorem dX10_corners_24 : decode cX10_corners 24 = .ok (.iload 4, 2) := by decide +kernel
theorem dX10_corners_26 : decode cX10_corners 26 = .ok (.iload_n 1, 1) := by decide +kernel
theorem dX10_corners_27 : decode cX10_corners 27 = .ok (.if_icmp .gt 69, 3) := by decide +kernel
theorem dX10_corners_30 : decode cX10_corners 30 = .ok (.iconst 1, 1) := by decide +kernel
theorem dX10_corners_31 : decode cX10_corners 31 = .ok (.istore 5, 2) := by decide +kernel
theorem dX10_corners_33 : decode cX10_corners 33 = .ok (.iconst 2, 1) := by decide +kernel
theorem dX10_corners_34 : decode cX10_corners 34 = .ok (.iload 5, 2) := by decide +kernel
theorem dX10_corners_36 : decode cX10_corners 36 = .ok (.imul, 1) := by decide +kernel
theorem dX10_corners_37 : decode cX10_corners 37 = .ok (.iload 5, 2) := by decide +kernel
theorem dX10_corners_39 : decode cX10_corners 39 = .ok (.imul, 1) := by decide +kernel
theorem dX10_corners_40 : decode cX10_corners 40 = .ok (.iload 4, 2) := by decide +kernel
theorem dX10_corners_42 : decode cX10_corners 42 = .ok (.iload 4, 2) := by decide +kernel
theorem dX10_corners_44 : decode cX10_corners 44 = .ok (.imul, 1) := by decide +kernel
theorem dX10_corners_45 : decode cX10_corners 45 = .ok (.if_icmp .ge 45, 3) := by decide +kernel
theorem dX10_corners_48 : decode cX10_corners 48 = .ok (.iload 4, 2) := by decide +kernel
theorem dX10_corners_50 : decode cX10_corners 50 = .ok (.iload 4, 2) := by decide +kernel
theorem dX10_corners_52 : decode cX10_corners 52 = .ok (.imul, 1) := by decide +kernel
theorem dX10_corners_53 : decode cX10_corners 53 = .ok (.iload 5, 2) := by decide +kernel
theorem dX10_corners_55 : decode cX10_corners 55 = .ok (.iload 5, 2) := by decide +kernel
theorem dX10_corners_57 : decode cX10_corners 57 = .ok (.imul, 1) := by decide +kernel
theorem dX10_corners_58 : decode cX10_corners 58 = .ok (.isub, 1) := by decide +kernel
theorem dX10_corners_59 : decode cX10_corners 59 = .ok (.i2l, 1) := by decide +kernel
theorem dX10_corners_60 : decode cX10_corners 60 = .ok (.invokestatic 220, 3) := by decide +kernel
theorem dX10_corners_63 : decode cX10_corners 63 = .ok (.ifCond .eq 21, 3) := by decide +kernel
theorem dX10_corners_66 : decode cX10_corners 66 = .ok (.iload_n 3, 1) := by decide +kernel
theorem dX10_corners_67 : decode cX10_corners 67 = .ok (.iload_n 2, 1) := by decide +kernel
theorem dX10_corners_68 : decode cX10_corners 68 = .ok (.if_icmp .ne 13, 3) := by decide +kernel
theorem dX10_corners_71 : decode cX10_corners 71 = .ok (.sipush 1000, 3) := by decide +kernel
theorem dX10_corners_74 : decode cX10_corners 74 = .ok (.iload 5, 2) := by decide +kernel
theorem dX10_corners_76 : decode cX10_corners 76 = .ok (.imul, 1) := by decide +kernel
theorem dX10_corners_77 : decode cX10_corners 77 = .ok (.iload 4, 2) := by decide +kernel
theorem dX10_corners_79 : decode cX10_corners 79 = .ok (.iadd, 1) := by decide +kernel
theorem dX10_corners_80 : decode cX10_corners 80 = .ok (.ireturn, 1) := by decide +kernel
theorem dX10_corners_81 : decode cX10_corners 81 = .ok (.iinc 3 1, 3) := by decide +kernel
theorem dX10_corners_84 : decode cX10_corners 84 = .ok (.iinc 5 1, 3) := by decide +kernel
theorem dX10_corners_87 : decode cX10_corners 87 = .ok (.goto (-54), 3) := by decide +kernel
theorem dX10_corners_90 : decode cX10_corners 90 = .ok (.iinc 4 1, 3) := by decide +kernel
theorem dX10_corners_93 : decode cX10_corners 93 = .ok (.goto (-69), 3) := by decide +kernel
theorem dX10_corners_96 : decode cX10_corners 96 = .ok (.iload_n 2, 1) := by decide +kernel
theorem dX10_corners_97 : decode cX10_corners 97 = .ok (.ifCond .ge 7, 3) := by decide +kernel
theorem dX10_corners_100 : decode cX10_corners 100 = .ok (.iload_n 3, 1) := by decide +kernel
theorem dX10_corners_101 : decode cX10_corners 101 = .ok (.goto 5, 3) := by decide +kernel
theorem dX10_corners_104 : decode cX10_corners 104 = .ok (.bipush (-4), 2) := by decide +kernel
theorem dX10_corners_106 : decode cX10_corners 106 = .ok (.ireturn, 1) := by decide +kernel
theorem dX10_string_0 : decode cX10_string 0 = .ok (.iload_n 1, 1) := by decide +kernel
theorem dX10_string_1 : decode cX10_string 1 = .ok (.i2l, 1) := by decide +kernel
theorem dX10_string_2 : decode cX10_string 2 = .ok (.lconst 1, 1) := by decide +kernel
theorem dX10_string_3 : decode cX10_string 3 = .ok (.ldc2_w 275, 3) := by decide +kernel
theorem dX10_string_6 : decode cX10_string 6 = .ok (.invokestatic 49, 3) := by decide +kernel
theorem dX10_string_9 : decode cX10_string 9 = .ok (.ifCond .ne 5, 3) := by decide +kernel
theorem dX10_string_12 : decode cX10_string 12 = .ok (.iconst (-1), 1) := by decide +kernel
theorem dX10_string_13 : decode cX10_string 13 = .ok (.ireturn, 1) := by decide +kernel
theorem dX10_string_14 : decode cX10_string 14 = .ok (.iconst 0, 1) := by decide +kernel
theorem dX10_string_15 : decode cX10_string 15 = .ok (.istore_n 2, 1) := by decide +kernel
theorem dX10_string_16 : decode cX10_string 16 = .ok (.iload_n 1, 1) := by decide +kernel
theorem dX10_string_17 : decode cX10_string 17 = .ok (.i2l, 1) := by decide +kernel
theorem dX10_string_18 : decode cX10_string 18 = .ok (.lstore_n 3, 1) := by decide +kernel
theorem dX10_string_19 : decode cX10_string 19 = .ok (.lconst 1, 1) := by decide +kernel
theorem dX10_string_20 : decode cX10_string 20 = .ok (.lstore 5, 2) := by decide +kernel
theorem dX10_string_22 : decode cX10_string 22 = .ok (.ldc2_w 99, 3) := by decide +kernel
theorem dX10_string_25 : decode cX10_string 25 = .ok (.lload 5, 2) := by decide +kernel
theorem dX10_string_27 : decode cX10_string 27 = .ok (.lmul, 1) := by decide +kernel
theorem dX10_string_28 : decode cX10_string 28 = .ok (.lload_n 3, 1) := by decide +kernel
theorem dX10_string_29 : decode cX10_string 29 = .ok (.lcmp, 1) := by decide +kernel
theorem dX10_string_30 : decode cX10_string 30 = .ok (.ifCond .ge 69, 3) := by decide +kernel
theorem dX10_string_33 : decode cX10_string 33 = .ok (.lload_n 3, 1) := by decide +kernel
theorem dX10_string_34 : decode cX10_string 34 = .ok (.lload_n 3, 1) := by decide +kernel
theorem dX10_string_35 : decode cX10_string 35 = .ok (.lmul, 1) := by decide +kernel
theorem dX10_string_36 : decode cX10_string 36 = .ok (.ldc2_w 190, 3) := by decide +kernel
theorem dX10_string_39 : decode cX10_string 39 = .ok (.lload_n 3, 1) := by decide +kernel
theorem dX10_string_40 : decode cX10_string 40 = .ok (.lmul, 1) := by decide +kernel
theorem dX10_string_41 : decode cX10_string 41 = .ok (.lload 5, 2) := by decide +kernel
theorem dX10_string_43 : decode cX10_string 43 = .ok (.lmul, 1) := by decide +kernel
theorem dX10_string_44 : decode cX10_string 44 = .ok (.lsub, 1) := by decide +kernel
theorem dX10_string_45 : decode cX10_string 45 = .ok (.lstore 7, 2) := by decide +kernel
theorem dX10_string_47 : decode cX10_string 47 = .ok (.ldc2_w 190, 3) := by decide +kernel
theorem dX10_string_50 : decode cX10_string 50 = .ok (.lload_n 3, 1) := by decide +kernel
theorem dX10_string_51 : decode cX10_string 51 = .ok (.lmul, 1) := by decide +kernel
theorem dX10_string_52 : decode cX10_string 52 = .ok (.ldc2_w 190, 3) := by decide +kernel
theorem dX10_string_55 : decode cX10_string 55 = .ok (.lload 5, 2) := by decide +kernel
theorem dX10_string_57 : decode cX10_string 57 = .ok (.lmul, 1) := by decide +kernel
theorem dX10_string_58 : decode cX10_string 58 = .ok (.lsub, 1) := by decide +kernel
theorem dX10_string_59 : decode cX10_string 59 = .ok (.lstore 9, 2) := by decide +kernel
theorem dX10_string_61 : decode cX10_string 61 = .ok (.iload_n 2, 1) := by decide +kernel
theorem dX10_string_62 : decode cX10_string 62 = .ok (.lload 7, 2) := by decide +kernel
theorem dX10_string_64 : decode cX10_string 64 = .ok (.lload 9, 2) := by decide +kernel
theorem dX10_string_66 : decode cX10_string 66 = .ok (.lrem, 1) := by decide +kernel
theorem dX10_string_67 : decode cX10_string 67 = .ok (.lconst 0, 1) := by decide +kernel
theorem dX10_string_68 : decode cX10_string 68 = .ok (.lcmp, 1) := by decide +kernel
theorem dX10_string_69 : decode cX10_string 69 = .ok (.ifCond .ne 18, 3) := by decide +kernel
theorem dX10_string_72 : decode cX10_string 72 = .ok (.lload 7, 2) := by decide +kernel
theorem dX10_string_74 : decode cX10_string 74 = .ok (.lload 9, 2) := by decide +kernel
theorem dX10_string_76 : decode cX10_string 76 = .ok (.ldiv, 1) := by decide +kernel
theorem dX10_string_77 : decode cX10_string 77 = .ok (.lload 5, 2) := by decide +kernel
theorem dX10_string_79 : decode cX10_string 79 = .ok (.lcmp, 1) := by decide +kernel
theorem dX10_string_80 : decode cX10_string 80 = .ok (.ifCond .le 7, 3) := by decide +kernel
theorem dX10_string_83 : decode cX10_string 83 = .ok (.iconst 1, 1) := by decide +kernel
theorem dX10_string_84 : decode cX10_string 84 = .ok (.goto 4, 3) := by decide +kernel
theorem dX10_string_87 : decode cX10_string 87 = .ok (.iconst 0, 1) := by decide +kernel
theorem dX10_string_88 : decode cX10_string 88 = .ok (.iadd, 1) := by decide +kernel
theorem dX10_string_89 : decode cX10_string 89 = .ok (.istore_n 2, 1) := by decide +kernel
theorem dX10_string_90 : decode cX10_string 90 = .ok (.lload 5, 2) := by decide +kernel
theorem dX10_string_92 : decode cX10_string 92 = .ok (.lconst 1, 1) := by decide +kernel
theorem dX10_string_93 : decode cX10_string 93 = .ok (.ladd, 1) := by decide +kernel
theorem dX10_string_94 : decode cX10_string 94 = .ok (.lstore 5, 2) := by decide +kernel
theorem dX10_string_96 : decode cX10_string 96 = .ok (.goto (-74), 3) := by decide +kernel
theorem dX10_string_99 : decode cX10_string 99 = .ok (.iload_n 2, 1) := by decide +kernel
theorem dX10_string_100 : decode cX10_string 100 = .ok (.ireturn, 1) := by decide +kernel
theorem dX10_image_0 : decode cX10_image 0 = .ok (.iconst 0, 1) := by decide +kernel
theorem dX10_image_1 : decode cX10_image 1 = .ok (.istore_n 1, 1) := by decide +kernel
theorem dX10_image_2 : decode cX10_image 2 = .ok (.iload_n 1, 1) := by decide +kernel
theorem dX10_image_3 : decode cX10_image 3 = .ok (.sipush 640, 3) := by decide +kernel
theorem dX10_image_6 : decode cX10_image 6 = .ok (.if_icmp .ge 21, 3) := by decide +kernel
theorem dX10_image_9 : decode cX10_image 9 = .ok (.aload_n 0, 1) := by decide +kernel
theorem dX10_image_10 : decode cX10_image 10 = .ok (.getfield 35, 3) := by decide +kernel
theorem dX10_image_13 : decode cX10_image 13 = .ok (.iload_n 1, 1) := by decide +kernel
theorem dX10_image_14 : decode cX10_image 14 = .ok (.aload_n 0, 1) := by decide +kernel
theorem dX10_image_15 : decode cX10_image 15 = .ok (.getfield 7, 3) := by decide +kernel
theorem dX10_image_18 : decode cX10_image 18 = .ok (.iload_n 1, 1) := by decide +kernel
theorem dX10_image_19 : decode cX10_image 19 = .ok (.iaload, 1) := by decide +kernel
theorem dX10_image_20 : decode cX10_image 20 = .ok (.iastore, 1) := by decide +kernel
theorem dX10_image_21 : decode cX10_image 21 = .ok (.iinc 1 1, 3) := by decide +kernel
theorem dX10_image_24 : decode cX10_image 24 = .ok (.goto (-22), 3) := by decide +kernel
theorem dX10_image_27 : decode cX10_image 27 = .ok (.iconst 0, 1) := by decide +kernel
theorem dX10_image_28 : decode cX10_image 28 = .ok (.istore_n 1, 1) := by decide +kernel
theorem dX10_image_29 : decode cX10_image 29 = .ok (.iload_n 1, 1) := by decide +kernel
theorem dX10_image_30 : decode cX10_image 30 = .ok (.bipush 8, 2) := by decide +kernel
theorem dX10_image_32 : decode cX10_image 32 = .ok (.if_icmp .ge 41, 3) := by decide +kernel
theorem dX10_image_35 : decode cX10_image 35 = .ok (.aload_n 0, 1) := by decide +kernel
theorem dX10_image_36 : decode cX10_image 36 = .ok (.getfield 35, 3) := by decide +kernel
theorem dX10_image_39 : decode cX10_image 39 = .ok (.sipush 640, 3) := by decide +kernel
theorem dX10_image_42 : decode cX10_image 42 = .ok (.iload_n 1, 1) := by decide +kernel
theorem dX10_image_43 : decode cX10_image 43 = .ok (.iadd, 1) := by decide +kernel
theorem dX10_image_44 : decode cX10_image 44 = .ok (.aload_n 0, 1) := by decide +kernel
theorem dX10_image_45 : decode cX10_image 45 = .ok (.getfield 13, 3) := by decide +kernel
theorem dX10_image_48 : decode cX10_image 48 = .ok (.iload_n 1, 1) := by decide +kernel
theorem dX10_image_49 : decode cX10_image 49 = .ok (.iaload, 1) := by decide +kernel
theorem dX10_image_50 : decode cX10_image 50 = .ok (.iastore, 1) := by decide +kernel
theorem dX10_image_51 : decode cX10_image 51 = .ok (.aload_n 0, 1) := by decide +kernel
theorem dX10_image_52 : decode cX10_image 52 = .ok (.getfield 35, 3) := by decide +kernel
theorem dX10_image_55 : decode cX10_image 55 = .ok (.sipush 648, 3) := by decide +kernel
theorem dX10_image_58 : decode cX10_image 58 = .ok (.iload_n 1, 1) := by decide +kernel
theorem dX10_image_59 : decode cX10_image 59 = .ok (.iadd, 1) := by decide +kernel
theorem dX10_image_60 : decode cX10_image 60 = .ok (.aload_n 0, 1) := by decide +kernel
theorem dX10_image_61 : decode cX10_image 61 = .ok (.getfield 16, 3) := by decide +kernel
theorem dX10_image_64 : decode cX10_image 64 = .ok (.iload_n 1, 1) := by decide +kernel
theorem dX10_image_65 : decode cX10_image 65 = .ok (.iaload, 1) := by decide +kernel
theorem dX10_image_66 : decode cX10_image 66 = .ok (.iastore, 1) := by decide +kernel
theorem dX10_image_67 : decode cX10_image 67 = .ok (.iinc 1 1, 3) := by decide +kernel
theorem dX10_image_70 : decode cX10_image 70 = .ok (.goto (-41), 3) := by decide +kernel
theorem dX10_image_73 : decode cX10_image 73 = .ok (.aload_n 0, 1) := by decide +kernel
theorem dX10_image_74 : decode cX10_image 74 = .ok (.iconst 1, 1) := by decide +kernel
theorem dX10_image_75 : decode cX10_image 75 = .ok (.putfield 277, 3) := by decide +kernel
theorem dX10_image_78 : decode cX10_image 78 = .ok (.iconst 1, 1) := by decide +kernel
theorem dX10_image_79 : decode cX10_image 79 = .ok (.ireturn, 1) := by decide +kernel
theorem dX10_restore_0 : decode cX10_restore 0 = .ok (.aload_n 0, 1) := by decide +kernel
theorem dX10_restore_1 : decode cX10_restore 1 = .ok (.getfield 277, 3) := by decide +kernel
theorem dX10_restore_4 : decode cX10_restore 4 = .ok (.ifCond .ne 6, 3) := by decide +kernel
theorem dX10_restore_7 : decode cX10_restore 7 = .ok (.bipush (-4), 2) := by decide +kernel
theorem dX10_restore_9 : decode cX10_restore 9 = .ok (.ireturn, 1) := by decide +kernel
theorem dX10_restore_10 : decode cX10_restore 10 = .ok (.iconst 0, 1) := by decide +kernel
theorem dX10_restore_11 : decode cX10_restore 11 = .ok (.istore_n 1, 1) := by decide +kernel
theorem dX10_restore_12 : decode cX10_restore 12 = .ok (.iload_n 1, 1) := by decide +kernel
theorem dX10_restore_13 : decode cX10_restore 13 = .ok (.sipush 640, 3) := by decide +kernel
theorem dX10_restore_16 : decode cX10_restore 16 = .ok (.if_icmp .ge 21, 3) := by decide +kernel
theorem dX10_restore_19 : decode cX10_restore 19 = .ok (.aload_n 0, 1) := by decide +kernel
theorem dX10_restore_20 : decode cX10_restore 20 = .ok (.getfield 7, 3) := by decide +kernel
theorem dX10_restore_23 : decode cX10_restore 23 = .ok (.iload_n 1, 1) := by decide +kernel
theorem dX10_restore_24 : decode cX10_restore 24 = .ok (.aload_n 0, 1) := by decide +kernel
theorem dX10_restore_25 : decode cX10_restore 25 = .ok (.getfield 35, 3) := by decide +kernel
theorem dX10_restore_28 : decode cX10_restore 28 = .ok (.iload_n 1, 1) := by decide +kernel
theorem dX10_restore_29 : decode cX10_restore 29 = .ok (.iaload, 1) := by decide +kernel
theorem dX10_restore_30 : decode cX10_restore 30 = .ok (.iastore, 1) := by decide +kernel
theorem dX10_restore_31 : decode cX10_restore 31 = .ok (.iinc 1 1, 3) := by decide +kernel
theorem dX10_restore_34 : decode cX10_restore 34 = .ok (.goto (-22), 3) := by decide +kernel
theorem dX10_restore_37 : decode cX10_restore 37 = .ok (.iconst 0, 1) := by decide +kernel
theorem dX10_restore_38 : decode cX10_restore 38 = .ok (.istore_n 1, 1) := by decide +kernel
theorem dX10_restore_39 : decode cX10_restore 39 = .ok (.iload_n 1, 1) := by decide +kernel
theorem dX10_restore_40 : decode cX10_restore 40 = .ok (.bipush 8, 2) := by decide +kernel
theorem dX10_restore_42 : decode cX10_restore 42 = .ok (.if_icmp .ge 41, 3) := by decide +kernel
theorem dX10_restore_45 : decode cX10_restore 45 = .ok (.aload_n 0, 1) := by decide +kernel
theorem dX10_restore_46 : decode cX10_restore 46 = .ok (.getfield 13, 3) := by decide +kernel
theorem dX10_restore_49 : decode cX10_restore 49 = .ok (.iload_n 1, 1) := by decide +kernel
theorem dX10_restore_50 : decode cX10_restore 50 = .ok (.aload_n 0, 1) := by decide +kernel
theorem dX10_restore_51 : decode cX10_restore 51 = .ok (.getfield 35, 3) := by decide +kernel
theorem dX10_restore_54 : decode cX10_restore 54 = .ok (.sipush 640, 3) := by decide +kernel
theorem dX10_restore_57 : decode cX10_restore 57 = .ok (.iload_n 1, 1) := by decide +kernel
theorem dX10_restore_58 : decode cX10_restore 58 = .ok (.iadd, 1) := by decide +kernel
theorem dX10_restore_59 : decode cX10_restore 59 = .ok (.iaload, 1) := by decide +kernel
theorem dX10_restore_60 : decode cX10_restore 60 = .ok (.iastore, 1) := by decide +kernel
theorem dX10_restore_61 : decode cX10_restore 61 = .ok (.aload_n 0, 1) := by decide +kernel
theorem dX10_restore_62 : decode cX10_restore 62 = .ok (.getfield 16, 3) := by decide +kernel
theorem dX10_restore_65 : decode cX10_restore 65 = .ok (.iload_n 1, 1) := by decide +kernel
theorem dX10_restore_66 : decode cX10_restore 66 = .ok (.aload_n 0, 1) := by decide +kernel
theorem dX10_restore_67 : decode cX10_restore 67 = .ok (.getfield 35, 3) := by decide +kernel
theorem dX10_restore_70 : decode cX10_restore 70 = .ok (.sipush 648, 3) := by decide +kernel
theorem dX10_restore_73 : decode cX10_restore 73 = .ok (.iload_n 1, 1) := by decide +kernel
theorem dX10_restore_74 : decode cX10_restore 74 = .ok (.iadd, 1) := by decide +kernel
theorem dX10_restore_75 : decode cX10_restore 75 = .ok (.iaload, 1) := by decide +kernel
theorem dX10_restore_76 : decode cX10_restore 76 = .ok (.iastore, 1) := by decide +kernel
theorem dX10_restore_77 : decode cX10_restore 77 = .ok (.iinc 1 1, 3) := by decide +kernel
theorem dX10_restore_80 : decode cX10_restore 80 = .ok (.goto (-41), 3) := by decide +kernel
theorem dX10_restore_83 : decode cX10_restore 83 = .ok (.iconst 1, 1) := by decide +kernel
theorem dX10_restore_84 : decode cX10_restore 84 = .ok (.ireturn, 1) := by decide +kernel
theorem dX10_isSheet_0 : decode cX10_isSheet 0 = .ok (.iload_n 0, 1) := by decide +kernel
theorem dX10_isSheet_1 : decode cX10_isSheet 1 = .ok (.i2l, 1) := by decide +kernel
theorem dX10_isSheet_2 : decode cX10_isSheet 2 = .ok (.lconst 0, 1) := by decide +kernel
theorem dX10_isSheet_3 : decode cX10_isSheet 3 = .ok (.ldc2_w 99, 3) := by decide +kernel
theorem dX10_isSheet_6 : decode cX10_isSheet 6 = .ok (.invokestatic 49, 3) := by decide +kernel
theorem dX10_isSheet_9 : decode cX10_isSheet 9 = .ok (.ifCond .eq 19, 3) := by decide +kernel
theorem dX10_isSheet_12 : decode cX10_isSheet 12 = .ok (.iload_n 1, 1) := by decide +kernel
theorem dX10_isSheet_13 : decode cX10_isSheet 13 = .ok (.i2l, 1) := by decide +kernel
theorem dX10_isSheet_14 : decode cX10_isSheet 14 = .ok (.lconst 0, 1) := by decide +kernel
theorem dX10_isSheet_15 : decode cX10_isSheet 15 = .ok (.ldc2_w 190, 3) := by decide +kernel
theorem dX10_isSheet_18 : decode cX10_isSheet 18 = .ok (.invokestatic 49, 3) := by decide +kernel
theorem dX10_isSheet_21 : decode cX10_isSheet 21 = .ok (.ifCond .eq 7, 3) := by decide +kernel
theorem dX10_isSheet_24 : decode cX10_isSheet 24 = .ok (.iconst 1, 1) := by decide +kernel
theorem dX10_isSheet_25 : decode cX10_isSheet 25 = .ok (.goto 4, 3) := by decide +kernel
theorem dX10_isSheet_28 : decode cX10_isSheet 28 = .ok (.iconst 0, 1) := by decide +kernel
theorem dX10_isSheet_29 : decode cX10_isSheet 29 = .ok (.ireturn, 1) := by decide +kernel
theorem dX10_asLane_0 : decode cX10_asLane 0 = .ok (.iload_n 0, 1) := by decide +kernel
theorem dX10_asLane_1 : decode cX10_asLane 1 = .ok (.ifCond .ne 13, 3) := by decide +kernel
theorem dX10_asLane_4 : decode cX10_asLane 4 = .ok (.lload_n 1, 1) := by decide +kernel
theorem dX10_asLane_5 : decode cX10_asLane 5 = .ok (.bipush 48, 2) := by decide +kernel
theorem dX10_asLane_7 : decode cX10_asLane 7 = .ok (.lshl, 1) := by decide +kernel
theorem dX10_asLane_8 : decode cX10_asLane 8 = .ok (.bipush 48, 2) := by decide +kernel
theorem dX10_asLane_10 : decode cX10_asLane 10 = .ok (.lshr, 1) := by decide +kernel
theorem dX10_asLane_11 : decode cX10_asLane 11 = .ok (.goto 19, 3) := by decide +kernel
theorem dX10_asLane_14 : decode cX10_asLane 14 = .ok (.iload_n 0, 1) := by decide +kernel
theorem dX10_asLane_15 : decode cX10_asLane 15 = .ok (.iconst 1, 1) := by decide +kernel
theorem dX10_asLane_16 : decode cX10_asLane 16 = .ok (.if_icmp .ne 13, 3) := by decide +kernel
theorem dX10_asLane_19 : decode cX10_asLane 19 = .ok (.lload_n 1, 1) := by decide +kernel
theorem dX10_asLane_20 : decode cX10_asLane 20 = .ok (.bipush 32, 2) := by decide +kernel
theorem dX10_asLane_22 : decode cX10_asLane 22 = .ok (.lshl, 1) := by decide +kernel
theorem dX10_asLane_23 : decode cX10_asLane 23 = .ok (.bipush 32, 2) := by decide +kernel
theorem dX10_asLane_25 : decode cX10_asLane 25 = .ok (.lshr, 1) := by decide +kernel
theorem dX10_asLane_26 : decode cX10_asLane 26 = .ok (.goto 4, 3) := by decide +kernel
theorem dX10_asLane_29 : decode cX10_asLane 29 = .ok (.lload_n 1, 1) := by decide +kernel
theorem dX10_asLane_30 : decode cX10_asLane 30 = .ok (.lreturn, 1) := by decide +kernel
theorem dX10_sheet_0 : decode cX10_sheet 0 = .ok (.iload_n 1, 1) := by decide +kernel
theorem dX10_sheet_1 : decode cX10_sheet 1 = .ok (.iload_n 2, 1) := by decide +kernel
theorem dX10_sheet_2 : decode cX10_sheet 2 = .ok (.invokestatic 281, 3) := by decide +kernel
theorem dX10_sheet_5 : decode cX10_sheet 5 = .ok (.ifCond .eq 9, 3) := by decide +kernel
theorem dX10_sheet_8 : decode cX10_sheet 8 = .ok (.iload_n 3, 1) := by decide +kernel
theorem dX10_sheet_9 : decode cX10_sheet 9 = .ok (.bipush 24, 2) := by decide +kernel
theorem dX10_sheet_11 : decode cX10_sheet 11 = .ok (.if_icmp .le 5, 3) := by decide +kernel
theorem dX10_sheet_14 : decode cX10_sheet 14 = .ok (.iconst (-1), 1) := by decide +kernel
theorem dX10_sheet_15 : decode cX10_sheet 15 = .ok (.ireturn, 1) := by decide +kernel
theorem dX10_sheet_16 : decode cX10_sheet 16 = .ok (.iload_n 3, 1) := by decide +kernel
theorem dX10_sheet_17 : decode cX10_sheet 17 = .ok (.ifCond .ge 6, 3) := by decide +kernel
theorem dX10_sheet_20 : decode cX10_sheet 20 = .ok (.bipush (-14), 2) := by decide +kernel
theorem dX10_sheet_22 : decode cX10_sheet 22 = .ok (.ireturn, 1) := by decide +kernel
theorem dX10_sheet_23 : decode cX10_sheet 23 = .ok (.aload_n 0, 1) := by decide +kernel
theorem dX10_sheet_24 : decode cX10_sheet 24 = .ok (.getfield 38, 3) := by decide +kernel
theorem dX10_sheet_27 : decode cX10_sheet 27 = .ok (.iload_n 1, 1) := by decide +kernel
theorem dX10_sheet_28 : decode cX10_sheet 28 = .ok (.iload_n 2, 1) := by decide +kernel
theorem dX10_sheet_29 : decode cX10_sheet 29 = .ok (.iastore, 1) := by decide +kernel
theorem dX10_sheet_30 : decode cX10_sheet 30 = .ok (.aload_n 0, 1) := by decide +kernel
theorem dX10_sheet_31 : decode cX10_sheet 31 = .ok (.getfield 41, 3) := by decide +kernel
theorem dX10_sheet_34 : decode cX10_sheet 34 = .ok (.iload_n 1, 1) := by decide +kernel
theorem dX10_sheet_35 : decode cX10_sheet 35 = .ok (.iload_n 3, 1) := by decide +kernel
theorem dX10_sheet_36 : decode cX10_sheet 36 = .ok (.iastore, 1) := by decide +kernel
theorem dX10_sheet_37 : decode cX10_sheet 37 = .ok (.iconst 0, 1) := by decide +kernel
theorem dX10_sheet_38 : decode cX10_sheet 38 = .ok (.istore 4, 2) := by decide +kernel
theorem dX10_sheet_40 : decode cX10_sheet 40 = .ok (.iload 4, 2) := by decide +kernel
theorem dX10_sheet_42 : decode cX10_sheet 42 = .ok (.bipush 24, 2) := by decide +kernel
theorem dX10_sheet_44 : decode cX10_sheet 44 = .ok (.if_icmp .ge 22, 3) := by decide +kernel
theorem dX10_sheet_47 : decode cX10_sheet 47 = .ok (.aload_n 0, 1) := by decide +kernel
theorem dX10_sheet_48 : decode cX10_sheet 48 = .ok (.getfield 44, 3) := by decide +kernel
theorem dX10_sheet_51 : decode cX10_sheet 51 = .ok (.bipush 24, 2) := by decide +kernel
theorem dX10_sheet_53 : decode cX10_sheet 53 = .ok (.iload_n 1, 1) := by decide +kernel
theorem dX10_sheet_54 : decode cX10_sheet 54 = .ok (.imul, 1) := by decide +kernel
theorem dX10_sheet_55 : decode cX10_sheet 55 = .ok (.iload 4, 2) := by decide +kernel
theorem dX10_sheet_57 : decode cX10_sheet 57 = .ok (.iadd, 1) := by decide +kernel
theorem dX10_sheet_58 : decode cX10_sheet 58 = .ok (.lconst 0, 1) := by decide +kernel
theorem dX10_sheet_59 : decode cX10_sheet 59 = .ok (.lastore, 1) := by decide +kernel
theorem dX10_sheet_60 : decode cX10_sheet 60 = .ok (.iinc 4 1, 3) := by decide +kernel
theorem dX10_sheet_63 : decode cX10_sheet 63 = .ok (.goto (-23), 3) := by decide +kernel
theorem dX10_sheet_66 : decode cX10_sheet 66 = .ok (.iload_n 3, 1) := by decide +kernel
theorem dX10_sheet_67 : decode cX10_sheet 67 = .ok (.ireturn, 1) := by decide +kernel
theorem dX10_drop_0 : decode cX10_drop 0 = .ok (.iload_n 1, 1) := by decide +kernel
theorem dX10_drop_1 : decode cX10_drop 1 = .ok (.i2l, 1) := by decide +kernel
theorem dX10_drop_2 : decode cX10_drop 2 = .ok (.lconst 0, 1) := by decide +kernel
theorem dX10_drop_3 : decode cX10_drop 3 = .ok (.ldc2_w 99, 3) := by decide +kernel
theorem dX10_drop_6 : decode cX10_drop 6 = .ok (.invokestatic 49, 3) := by decide +kernel
theorem dX10_drop_9 : decode cX10_drop 9 = .ok (.ifCond .ne 5, 3) := by decide +kernel
theorem dX10_drop_12 : decode cX10_drop 12 = .ok (.iconst (-1), 1) := by decide +kernel
theorem dX10_drop_13 : decode cX10_drop 13 = .ok (.ireturn, 1) := by decide +kernel
theorem dX10_drop_14 : decode cX10_drop 14 = .ok (.aload_n 0, 1) := by decide +kernel
theorem dX10_drop_15 : decode cX10_drop 15 = .ok (.getfield 38, 3) := by decide +kernel
theorem dX10_drop_18 : decode cX10_drop 18 = .ok (.iload_n 1, 1) := by decide +kernel
theorem dX10_drop_19 : decode cX10_drop 19 = .ok (.iaload, 1) := by decide +kernel
theorem dX10_drop_20 : decode cX10_drop 20 = .ok (.ifCond .ge 6, 3) := by decide +kernel
theorem dX10_drop_23 : decode cX10_drop 23 = .ok (.bipush (-11), 2) := by decide +kernel
theorem dX10_drop_25 : decode cX10_drop 25 = .ok (.ireturn, 1) := by decide +kernel
theorem dX10_drop_26 : decode cX10_drop 26 = .ok (.aload_n 0, 1) := by decide +kernel
theorem dX10_drop_27 : decode cX10_drop 27 = .ok (.getfield 38, 3) := by decide +kernel
theorem dX10_drop_30 : decode cX10_drop 30 = .ok (.iload_n 1, 1) := by decide +kernel
theorem dX10_drop_31 : decode cX10_drop 31 = .ok (.iconst (-1), 1) := by decide +kernel
theorem dX10_drop_32 : decode cX10_drop 32 = .ok (.iastore, 1) := by decide +kernel
theorem dX10_drop_33 : decode cX10_drop 33 = .ok (.aload_n 0, 1) := by decide +kernel
theorem dX10_drop_34 : decode cX10_drop 34 = .ok (.getfield 41, 3) := by decide +kernel
theorem dX10_drop_37 : decode cX10_drop 37 = .ok (.iload_n 1, 1) := by decide +kernel
theorem dX10_drop_38 : decode cX10_drop 38 = .ok (.iaload, 1) := by decide +kernel
theorem dX10_drop_39 : decode cX10_drop 39 = .ok (.ireturn, 1) := by decide +kernel
theorem dX10_lacksRow_0 : decode cX10_lacksRow 0 = .ok (.aload_n 0, 1) := by decide +kernel
theorem dX10_lacksRow_1 : decode cX10_lacksRow 1 = .ok (.getfield 38, 3) := by decide +kernel
theorem dX10_lacksRow_4 : decode cX10_lacksRow 4 = .ok (.iload_n 1, 1) := by decide +kernel
theorem dX10_lacksRow_5 : decode cX10_lacksRow 5 = .ok (.iaload, 1) := by decide +kernel
theorem dX10_lacksRow_6 : decode cX10_lacksRow 6 = .ok (.iload_n 2, 1) := by decide +kernel
theorem dX10_lacksRow_7 : decode cX10_lacksRow 7 = .ok (.if_icmp .eq 20, 3) := by decide +kernel
theorem dX10_lacksRow_10 : decode cX10_lacksRow 10 = .ok (.aload_n 0, 1) := by decide +kernel
theorem dX10_lacksRow_11 : decode cX10_lacksRow 11 = .ok (.getfield 38, 3) := by decide +kernel
theorem dX10_lacksRow_14 : decode cX10_lacksRow 14 = .ok (.iload_n 1, 1) := by decide +kernel
theorem dX10_lacksRow_15 : decode cX10_lacksRow 15 = .ok (.iaload, 1) := by decide +kernel
theorem dX10_lacksRow_16 : decode cX10_lacksRow 16 = .ok (.ifCond .ge 8, 3) := by decide +kernel
theorem dX10_lacksRow_19 : decode cX10_lacksRow 19 = .ok (.bipush (-11), 2) := by decide +kernel
theorem dX10_lacksRow_21 : decode cX10_lacksRow 21 = .ok (.goto 5, 3) := by decide +kernel
theorem dX10_lacksRow_24 : decode cX10_lacksRow 24 = .ok (.bipush (-12), 2) := by decide +kernel
theorem dX10_lacksRow_26 : decode cX10_lacksRow 26 = .ok (.ireturn, 1) := by decide +kernel
theorem dX10_lacksRow_27 : decode cX10_lacksRow 27 = .ok (.iload_n 3, 1) := by decide +kernel
theorem dX10_lacksRow_28 : decode cX10_lacksRow 28 = .ok (.i2l, 1) := by decide +kernel
theorem dX10_lacksRow_29 : decode cX10_lacksRow 29 = .ok (.lconst 0, 1) := by decide +kernel
theorem dX10_lacksRow_30 : decode cX10_lacksRow 30 = .ok (.aload_n 0, 1) := by decide +kernel
theorem dX10_lacksRow_31 : decode cX10_lacksRow 31 = .ok (.getfield 41, 3) := by decide +kernel
theorem dX10_lacksRow_34 : decode cX10_lacksRow 34 = .ok (.iload_n 1, 1) := by decide +kernel
theorem dX10_lacksRow_35 : decode cX10_lacksRow 35 = .ok (.iaload, 1) := by decide +kernel
theorem dX10_lacksRow_36 : decode cX10_lacksRow 36 = .ok (.iload 4, 2) := by decide +kernel
theorem dX10_lacksRow_38 : decode cX10_lacksRow 38 = .ok (.isub, 1) := by decide +kernel
theorem dX10_lacksRow_39 : decode cX10_lacksRow 39 = .ok (.i2l, 1) := by decide +kernel
theorem dX10_lacksRow_40 : decode cX10_lacksRow 40 = .ok (.invokestatic 49, 3) := by decide +kernel
theorem dX10_lacksRow_43 : decode cX10_lacksRow 43 = .ok (.ifCond .eq 7, 3) := by decide +kernel
theorem dX10_lacksRow_46 : decode cX10_lacksRow 46 = .ok (.iconst 0, 1) := by decide +kernel
theorem dX10_lacksRow_47 : decode cX10_lacksRow 47 = .ok (.goto 5, 3) := by decide +kernel
theorem dX10_lacksRow_50 : decode cX10_lacksRow 50 = .ok (.bipush (-13), 2) := by decide +kernel
theorem dX10_lacksRow_52 : decode cX10_lacksRow 52 = .ok (.ireturn, 1) := by decide +kernel
theorem dX10_item_0 : decode cX10_item 0 = .ok (.iload_n 1, 1) := by decide +kernel
theorem dX10_item_1 : decode cX10_item 1 = .ok (.iload_n 2, 1) := by decide +kernel
theorem dX10_item_2 : decode cX10_item 2 = .ok (.invokestatic 281, 3) := by decide +kernel
theorem dX10_item_5 : decode cX10_item 5 = .ok (.ifCond .ne 5, 3) := by decide +kernel
theorem dX10_item_8 : decode cX10_item 8 = .ok (.iconst (-1), 1) := by decide +kernel
theorem dX10_item_9 : decode cX10_item 9 = .ok (.ireturn, 1) := by decide +kernel
theorem dX10_item_10 : decode cX10_item 10 = .ok (.aload_n 0, 1) := by decide +kernel
theorem dX10_item_11 : decode cX10_item 11 = .ok (.iload_n 1, 1) := by decide +kernel
theorem dX10_item_12 : decode cX10_item 12 = .ok (.iload_n 2, 1) := by decide +kernel
theorem dX10_item_13 : decode cX10_item 13 = .ok (.iload_n 3, 1) := by decide +kernel
theorem dX10_item_14 : decode cX10_item 14 = .ok (.iconst 1, 1) := by decide +kernel
theorem dX10_item_15 : decode cX10_item 15 = .ok (.invokevirtual 284, 3) := by decide +kernel
theorem dX10_item_18 : decode cX10_item 18 = .ok (.istore 6, 2) := by decide +kernel
theorem dX10_item_20 : decode cX10_item 20 = .ok (.iload 6, 2) := by decide +kernel
theorem dX10_item_22 : decode cX10_item 22 = .ok (.ifCond .ge 6, 3) := by decide +kernel
theorem dX10_item_25 : decode cX10_item 25 = .ok (.iload 6, 2) := by decide +kernel
theorem dX10_item_27 : decode cX10_item 27 = .ok (.ireturn, 1) := by decide +kernel
theorem dX10_item_28 : decode cX10_item 28 = .ok (.aload_n 0, 1) := by decide +kernel
theorem dX10_item_29 : decode cX10_item 29 = .ok (.getfield 44, 3) := by decide +kernel
theorem dX10_item_32 : decode cX10_item 32 = .ok (.bipush 24, 2) := by decide +kernel
theorem dX10_item_34 : decode cX10_item 34 = .ok (.iload_n 1, 1) := by decide +kernel
theorem dX10_item_35 : decode cX10_item 35 = .ok (.imul, 1) := by decide +kernel
theorem dX10_item_36 : decode cX10_item 36 = .ok (.iload_n 3, 1) := by decide +kernel
theorem dX10_item_37 : decode cX10_item 37 = .ok (.iadd, 1) := by decide +kernel
theorem dX10_item_38 : decode cX10_item 38 = .ok (.iload_n 2, 1) := by decide +kernel
theorem dX10_item_39 : decode cX10_item 39 = .ok (.lload 4, 2) := by decide +kernel
theorem dX10_item_41 : decode cX10_item 41 = .ok (.invokestatic 288, 3) := by decide +kernel
theorem dX10_item_44 : decode cX10_item 44 = .ok (.lastore, 1) := by decide +kernel
theorem dX10_item_45 : decode cX10_item 45 = .ok (.iconst 1, 1) := by decide +kernel
theorem dX10_item_46 : decode cX10_item 46 = .ok (.ireturn, 1) := by decide +kernel
theorem dX10_heap_0 : decode cX10_heap 0 = .ok (.iload_n 1, 1) := by decide +kernel
theorem dX10_heap_1 : decode cX10_heap 1 = .ok (.iload_n 2, 1) := by decide +kernel
theorem dX10_heap_2 : decode cX10_heap 2 = .ok (.invokestatic 281, 3) := by decide +kernel
theorem dX10_heap_5 : decode cX10_heap 5 = .ok (.ifCond .eq 24, 3) := by decide +kernel
theorem dX10_heap_8 : decode cX10_heap 8 = .ok (.iload 4, 2) := by decide +kernel
theorem dX10_heap_10 : decode cX10_heap 10 = .ok (.i2l, 1) := by decide +kernel
theorem dX10_heap_11 : decode cX10_heap 11 = .ok (.lconst 1, 1) := by decide +kernel
theorem dX10_heap_12 : decode cX10_heap 12 = .ok (.ldc2_w 292, 3) := by decide +kernel
theorem dX10_heap_15 : decode cX10_heap 15 = .ok (.invokestatic 49, 3) := by decide +kernel
theorem dX10_heap_18 : decode cX10_heap 18 = .ok (.ifCond .eq 11, 3) := by decide +kernel
theorem dX10_heap_21 : decode cX10_heap 21 = .ok (.iload 5, 2) := by decide +kernel
theorem dX10_heap_23 : decode cX10_heap 23 = .ok (.invokestatic 94, 3) := by decide +kernel
theorem dX10_heap_26 : decode cX10_heap 26 = .ok (.ifCond .ne 5, 3) := by decide +kernel
theorem dX10_heap_29 : decode cX10_heap 29 = .ok (.iconst (-1), 1) := by decide +kernel
theorem dX10_heap_30 : decode cX10_heap 30 = .ok (.ireturn, 1) := by decide +kernel
theorem dX10_heap_31 : decode cX10_heap 31 = .ok (.aload_n 0, 1) := by decide +kernel
theorem dX10_heap_32 : decode cX10_heap 32 = .ok (.iload_n 1, 1) := by decide +kernel
theorem dX10_heap_33 : decode cX10_heap 33 = .ok (.iload_n 2, 1) := by decide +kernel
theorem dX10_heap_34 : decode cX10_heap 34 = .ok (.iload_n 3, 1) := by decide +kernel
theorem dX10_heap_35 : decode cX10_heap 35 = .ok (.iload 4, 2) := by decide +kernel
theorem dX10_heap_37 : decode cX10_heap 37 = .ok (.invokevirtual 284, 3) := by decide +kernel
theorem dX10_heap_40 : decode cX10_heap 40 = .ok (.istore 6, 2) := by decide +kernel
theorem dX10_heap_42 : decode cX10_heap 42 = .ok (.iload 6, 2) := by decide +kernel
theorem dX10_heap_44 : decode cX10_heap 44 = .ok (.ifCond .ge 6, 3) := by decide +kernel
theorem dX10_heap_47 : decode cX10_heap 47 = .ok (.iload 6, 2) := by decide +kernel
theorem dX10_heap_49 : decode cX10_heap 49 = .ok (.ireturn, 1) := by decide +kernel
theorem dX10_heap_50 : decode cX10_heap 50 = .ok (.aload_n 0, 1) := by decide +kernel
theorem dX10_heap_51 : decode cX10_heap 51 = .ok (.bipush 8, 2) := by decide +kernel
theorem dX10_heap_53 : decode cX10_heap 53 = .ok (.lconst 0, 1) := by decide +kernel
theorem dX10_heap_54 : decode cX10_heap 54 = .ok (.invokevirtual 60, 3) := by decide +kernel
theorem dX10_heap_57 : decode cX10_heap 57 = .ok (.iconst 0, 1) := by decide +kernel
theorem dX10_heap_58 : decode cX10_heap 58 = .ok (.istore 7, 2) := by decide +kernel
theorem dX10_heap_60 : decode cX10_heap 60 = .ok (.iload 7, 2) := by decide +kernel
theorem dX10_heap_62 : decode cX10_heap 62 = .ok (.iload 4, 2) := by decide +kernel
theorem dX10_heap_64 : decode cX10_heap 64 = .ok (.if_icmp .ge 53, 3) := by decide +kernel
theorem dX10_heap_67 : decode cX10_heap 67 = .ok (.aload_n 0, 1) := by decide +kernel
theorem dX10_heap_68 : decode cX10_heap 68 = .ok (.getfield 44, 3) := by decide +kernel
theorem dX10_heap_71 : decode cX10_heap 71 = .ok (.bipush 24, 2) := by decide +kernel
theorem dX10_heap_73 : decode cX10_heap 73 = .ok (.iload_n 1, 1) := by decide +kernel
theorem dX10_heap_74 : decode cX10_heap 74 = .ok (.imul, 1) := by decide +kernel
theorem dX10_heap_75 : decode cX10_heap 75 = .ok (.iload_n 3, 1) := by decide +kernel
theorem dX10_heap_76 : decode cX10_heap 76 = .ok (.iadd, 1) := by decide +kernel
theorem dX10_heap_77 : decode cX10_heap 77 = .ok (.iload 7, 2) := by decide +kernel
theorem dX10_heap_79 : decode cX10_heap 79 = .ok (.iadd, 1) := by decide +kernel
theorem dX10_heap_80 : decode cX10_heap 80 = .ok (.laload, 1) := by decide +kernel
theorem dX10_heap_81 : decode cX10_heap 81 = .ok (.lstore 8, 2) := by decide +kernel
theorem dX10_heap_83 : decode cX10_heap 83 = .ok (.lload 8, 2) := by decide +kernel
theorem dX10_heap_85 : decode cX10_heap 85 = .ok (.lconst 0, 1) := by decide +kernel
theorem dX10_heap_86 : decode cX10_heap 86 = .ok (.lcmp, 1) := by decide +kernel
theorem dX10_heap_87 : decode cX10_heap 87 = .ok (.ifCond .ge 6, 3) := by decide +kernel
theorem dX10_heap_90 : decode cX10_heap 90 = .ok (.bipush (-2), 2) := by decide +kernel
theorem dX10_heap_92 : decode cX10_heap 92 = .ok (.ireturn, 1) := by decide +kernel
theorem dX10_heap_93 : decode cX10_heap 93 = .ok (.aload_n 0, 1) := by decide +kernel
theorem dX10_heap_94 : decode cX10_heap 94 = .ok (.bipush 9, 2) := by decide +kernel
theorem dX10_heap_96 : decode cX10_heap 96 = .ok (.lload 8, 2) := by decide +kernel
theorem dX10_heap_98 : decode cX10_heap 98 = .ok (.invokevirtual 60, 3) := by decide +kernel
theorem dX10_heap_101 : decode cX10_heap 101 = .ok (.aload_n 0, 1) := by decide +kernel
theorem dX10_heap_102 : decode cX10_heap 102 = .ok (.bipush 8, 2) := by decide +kernel
theorem dX10_heap_104 : decode cX10_heap 104 = .ok (.bipush 8, 2) := by decide +kernel
theorem dX10_heap_106 : decode cX10_heap 106 = .ok (.bipush 9, 2) := by decide +kernel
theorem dX10_heap_108 : decode cX10_heap 108 = .ok (.invokevirtual 171, 3) := by decide +kernel
theorem dX10_heap_111 : decode cX10_heap 111 = .ok (.iinc 7 1, 3) := by decide +kernel
theorem dX10_heap_114 : decode cX10_heap 114 = .ok (.goto (-54), 3) := by decide +kernel
theorem dX10_heap_117 : decode cX10_heap 117 = .ok (.aload_n 0, 1) := by decide +kernel
theorem dX10_heap_118 : decode cX10_heap 118 = .ok (.iload 5, 2) := by decide +kernel
theorem dX10_heap_120 : decode cX10_heap 120 = .ok (.bipush 8, 2) := by decide +kernel
theorem dX10_heap_122 : decode cX10_heap 122 = .ok (.invokevirtual 128, 3) := by decide +kernel
theorem dX10_heap_125 : decode cX10_heap 125 = .ok (.ireturn, 1) := by decide +kernel
theorem dX10_film_0 : decode cX10_film 0 = .ok (.iload_n 1, 1) := by decide +kernel
theorem dX10_film_1 : decode cX10_film 1 = .ok (.invokestatic 94, 3) := by decide +kernel
theorem dX10_film_4 : decode cX10_film 4 = .ok (.ifCond .eq 11, 3) := by decide +kernel
theorem dX10_film_7 : decode cX10_film 7 = .ok (.iload_n 2, 1) := by decide +kernel
theorem dX10_film_8 : decode cX10_film 8 = .ok (.iload_n 3, 1) := by decide +kernel
theorem dX10_film_9 : decode cX10_film 9 = .ok (.invokestatic 281, 3) := by decide +kernel
theorem dX10_film_12 : decode cX10_film 12 = .ok (.ifCond .ne 5, 3) := by decide +kernel
theorem dX10_film_15 : decode cX10_film 15 = .ok (.iconst (-1), 1) := by decide +kernel
theorem dX10_film_16 : decode cX10_film 16 = .ok (.ireturn, 1) := by decide +kernel
theorem dX10_film_17 : decode cX10_film 17 = .ok (.aload_n 0, 1) := by decide +kernel
theorem dX10_film_18 : decode cX10_film 18 = .ok (.iload_n 1, 1) := by decide +kernel
theorem dX10_film_19 : decode cX10_film 19 = .ok (.iconst 0, 1) := by decide +kernel
theorem dX10_film_20 : decode cX10_film 20 = .ok (.invokevirtual 162, 3) := by decide +kernel
theorem dX10_film_23 : decode cX10_film 23 = .ok (.istore 5, 2) := by decide +kernel
theorem dX10_film_25 : decode cX10_film 25 = .ok (.iload 5, 2) := by decide +kernel
theorem dX10_film_27 : decode cX10_film 27 = .ok (.ifCond .ge 6, 3) := by decide +kernel
theorem dX10_film_30 : decode cX10_film 30 = .ok (.iload 5, 2) := by decide +kernel
theorem dX10_film_32 : decode cX10_film 32 = .ok (.ireturn, 1) := by decide +kernel
theorem dX10_film_33 : decode cX10_film 33 = .ok (.aload_n 0, 1) := by decide +kernel
theorem dX10_film_34 : decode cX10_film 34 = .ok (.iload_n 1, 1) := by decide +kernel
theorem dX10_film_35 : decode cX10_film 35 = .ok (.invokevirtual 56, 3) := by decide +kernel
theorem dX10_film_38 : decode cX10_film 38 = .ok (.ifCond .ne 7, 3) := by decide +kernel
theorem dX10_film_41 : decode cX10_film 41 = .ok (.iconst 1, 1) := by decide +kernel
theorem dX10_film_42 : decode cX10_film 42 = .ok (.goto 8, 3) := by decide +kernel
theorem dX10_film_45 : decode cX10_film 45 = .ok (.aload_n 0, 1) := by decide +kernel
theorem dX10_film_46 : decode cX10_film 46 = .ok (.iload_n 1, 1) := by decide +kernel
theorem dX10_film_47 : decode cX10_film 47 = .ok (.invokevirtual 56, 3) := by decide +kernel
theorem dX10_film_50 : decode cX10_film 50 = .ok (.istore 6, 2) := by decide +kernel
theorem dX10_film_52 : decode cX10_film 52 = .ok (.aload_n 0, 1) := by decide +kernel
theorem dX10_film_53 : decode cX10_film 53 = .ok (.iload_n 2, 1) := by decide +kernel
theorem dX10_film_54 : decode cX10_film 54 = .ok (.iload_n 3, 1) := by decide +kernel
theorem dX10_film_55 : decode cX10_film 55 = .ok (.iload 4, 2) := by decide +kernel
theorem dX10_film_57 : decode cX10_film 57 = .ok (.iload 6, 2) := by decide +kernel
theorem dX10_film_59 : decode cX10_film 59 = .ok (.invokevirtual 284, 3) := by decide +kernel
theorem dX10_film_62 : decode cX10_film 62 = .ok (.istore 5, 2) := by decide +kernel
theorem dX10_film_64 : decode cX10_film 64 = .ok (.iload 5, 2) := by decide +kernel
theorem dX10_film_66 : decode cX10_film 66 = .ok (.ifCond .ge 6, 3) := by decide +kernel
theorem dX10_film_69 : decode cX10_film 69 = .ok (.iload 5, 2) := by decide +kernel
theorem dX10_film_71 : decode cX10_film 71 = .ok (.ireturn, 1) := by decide +kernel
theorem dX10_film_72 : decode cX10_film 72 = .ok (.iconst 0, 1) := by decide +kernel
theorem dX10_film_73 : decode cX10_film 73 = .ok (.istore 7, 2) := by decide +kernel
theorem dX10_film_75 : decode cX10_film 75 = .ok (.iload 7, 2) := by decide +kernel
theorem dX10_film_77 : decode cX10_film 77 = .ok (.iload 6, 2) := by decide +kernel
theorem dX10_film_79 : decode cX10_film 79 = .ok (.if_icmp .ge 41, 3) := by decide +kernel
theorem dX10_film_82 : decode cX10_film 82 = .ok (.aload_n 0, 1) := by decide +kernel
theorem dX10_film_83 : decode cX10_film 83 = .ok (.getfield 44, 3) := by decide +kernel
theorem dX10_film_86 : decode cX10_film 86 = .ok (.bipush 24, 2) := by decide +kernel
theorem dX10_film_88 : decode cX10_film 88 = .ok (.iload_n 2, 1) := by decide +kernel
theorem dX10_film_89 : decode cX10_film 89 = .ok (.imul, 1) := by decide +kernel
theorem dX10_film_90 : decode cX10_film 90 = .ok (.iload 4, 2) := by decide +kernel
theorem dX10_film_92 : decode cX10_film 92 = .ok (.iadd, 1) := by decide +kernel
theorem dX10_film_93 : decode cX10_film 93 = .ok (.iload 7, 2) := by decide +kernel
theorem dX10_film_95 : decode cX10_film 95 = .ok (.iadd, 1) := by decide +kernel
theorem dX10_film_96 : decode cX10_film 96 = .ok (.iload_n 3, 1) := by decide +kernel
theorem dX10_film_97 : decode cX10_film 97 = .ok (.aload_n 0, 1) := by decide +kernel
theorem dX10_film_98 : decode cX10_film 98 = .ok (.getfield 7, 3) := by decide +kernel
theorem dX10_film_101 : decode cX10_film 101 = .ok (.bipush 80, 2) := by decide +kernel
theorem dX10_film_103 : decode cX10_film 103 = .ok (.iload_n 1, 1) := by decide +kernel
theorem dX10_film_104 : decode cX10_film 104 = .ok (.imul, 1) := by decide +kernel
theorem dX10_film_105 : decode cX10_film 105 = .ok (.iload 7, 2) := by decide +kernel
theorem dX10_film_107 : decode cX10_film 107 = .ok (.iadd, 1) := by decide +kernel
theorem dX10_film_108 : decode cX10_film 108 = .ok (.iaload, 1) := by decide +kernel
theorem dX10_film_109 : decode cX10_film 109 = .ok (.i2l, 1) := by decide +kernel
theorem dX10_film_110 : decode cX10_film 110 = .ok (.invokestatic 288, 3) := by decide +kernel
theorem dX10_film_113 : decode cX10_film 113 = .ok (.lastore, 1) := by decide +kernel
theorem dX10_film_114 : decode cX10_film 114 = .ok (.iinc 7 1, 3) := by decide +kernel
theorem dX10_film_117 : decode cX10_film 117 = .ok (.goto (-42), 3) := by decide +kernel
theorem dX10_film_120 : decode cX10_film 120 = .ok (.iload 6, 2) := by decide +kernel
theorem dX10_film_122 : decode cX10_film 122 = .ok (.ireturn, 1) := by decide +kernel
theorem dJ11_isValidCodePoint_9a6ad_0 : decode cJ11_isValidCodePoint_9a6ad 0 = .ok (.iload_n 0, 1) := by decide +kernel
theorem dJ11_isValidCodePoint_9a6ad_1 : decode cJ11_isValidCodePoint_9a6ad 1 = .ok (.bipush 16, 2) := by decide +kernel
theorem dJ11_isValidCodePoint_9a6ad_3 : decode cJ11_isValidCodePoint_9a6ad 3 = .ok (.iushr, 1) := by decide +kernel
theorem dJ11_isValidCodePoint_9a6ad_4 : decode cJ11_isValidCodePoint_9a6ad 4 = .ok (.istore_n 1, 1) := by decide +kernel
theorem dJ11_isValidCodePoint_9a6ad_5 : decode cJ11_isValidCodePoint_9a6ad 5 = .ok (.iload_n 1, 1) := by decide +kernel
theorem dJ11_isValidCodePoint_9a6ad_6 : decode cJ11_isValidCodePoint_9a6ad 6 = .ok (.bipush 17, 2) := by decide +kernel
theorem dJ11_isValidCodePoint_9a6ad_8 : decode cJ11_isValidCodePoint_9a6ad 8 = .ok (.if_icmp .ge 7, 3) := by decide +kernel
theorem dJ11_isValidCodePoint_9a6ad_11 : decode cJ11_isValidCodePoint_9a6ad 11 = .ok (.iconst 1, 1) := by decide +kernel
theorem dJ11_isValidCodePoint_9a6ad_12 : decode cJ11_isValidCodePoint_9a6ad 12 = .ok (.goto 4, 3) := by decide +kernel
theorem dJ11_isValidCodePoint_9a6ad_15 : decode cJ11_isValidCodePoint_9a6ad 15 = .ok (.iconst 0, 1) := by decide +kernel
theorem dJ11_isValidCodePoint_9a6ad_16 : decode cJ11_isValidCodePoint_9a6ad 16 = .ok (.ireturn, 1) := by decide +kernel
theorem dJ11_highSurrogate_5068e_0 : decode cJ11_highSurrogate_5068e 0 = .ok (.iload_n 0, 1) := by decide +kernel
theorem dJ11_highSurrogate_5068e_1 : decode cJ11_highSurrogate_5068e 1 = .ok (.bipush 10, 2) := by decide +kernel
theorem dJ11_highSurrogate_5068e_3 : decode cJ11_highSurrogate_5068e 3 = .ok (.iushr, 1) := by decide +kernel
theorem dJ11_highSurrogate_5068e_4 : decode cJ11_highSurrogate_5068e 4 = .ok (.ldc 110, 2) := by decide +kernel
theorem dJ11_highSurrogate_5068e_6 : decode cJ11_highSurrogate_5068e 6 = .ok (.iadd, 1) := by decide +kernel
theorem dJ11_highSurrogate_5068e_7 : decode cJ11_highSurrogate_5068e 7 = .ok (.i2c, 1) := by decide +kernel
theorem dJ11_highSurrogate_5068e_8 : decode cJ11_highSurrogate_5068e 8 = .ok (.ireturn, 1) := by decide +kernel
theorem dJ11_lowSurrogate_5068e_0 : decode cJ11_lowSurrogate_5068e 0 = .ok (.iload_n 0, 1) := by decide +kernel
theorem dJ11_lowSurrogate_5068e_1 : decode cJ11_lowSurrogate_5068e 1 = .ok (.sipush 1023, 3) := by decide +kernel
theorem dJ11_lowSurrogate_5068e_4 : decode cJ11_lowSurrogate_5068e 4 = .ok (.iand, 1) := by decide +kernel
theorem dJ11_lowSurrogate_5068e_5 : decode cJ11_lowSurrogate_5068e 5 = .ok (.ldc 76, 2) := by decide +kernel
theorem dJ11_lowSurrogate_5068e_7 : decode cJ11_lowSurrogate_5068e 7 = .ok (.iadd, 1) := by decide +kernel
theorem dJ11_lowSurrogate_5068e_8 : decode cJ11_lowSurrogate_5068e 8 = .ok (.i2c, 1) := by decide +kernel
theorem dJ11_lowSurrogate_5068e_9 : decode cJ11_lowSurrogate_5068e 9 = .ok (.ireturn, 1) := by decide +kernel
theorem dJ9_floorDiv_f86c9_0 : decode cJ9_floorDiv_f86c9 0 = .ok (.lload_n 0, 1) := by decide +kernel
theorem dJ9_floorDiv_f86c9_1 : decode cJ9_floorDiv_f86c9 1 = .ok (.lload_n 2, 1) := by decide +kernel
theorem dJ9_floorDiv_f86c9_2 : decode cJ9_floorDiv_f86c9 2 = .ok (.ldiv, 1) := by decide +kernel
theorem dJ9_floorDiv_f86c9_3 : decode cJ9_floorDiv_f86c9 3 = .ok (.lstore 4, 2) := by decide +kernel
theorem dJ9_floorDiv_f86c9_5 : decode cJ9_floorDiv_f86c9 5 = .ok (.lload_n 0, 1) := by decide +kernel
theorem dJ9_floorDiv_f86c9_6 : decode cJ9_floorDiv_f86c9 6 = .ok (.lload_n 2, 1) := by decide +kernel
theorem dJ9_floorDiv_f86c9_7 : decode cJ9_floorDiv_f86c9 7 = .ok (.lxor, 1) := by decide +kernel
theorem dJ9_floorDiv_f86c9_8 : decode cJ9_floorDiv_f86c9 8 = .ok (.lconst 0, 1) := by decide +kernel
theorem dJ9_floorDiv_f86c9_9 : decode cJ9_floorDiv_f86c9 9 = .ok (.lcmp, 1) := by decide +kernel
theorem dJ9_floorDiv_f86c9_10 : decode cJ9_floorDiv_f86c9 10 = .ok (.ifCond .ge 17, 3) := by decide +kernel
theorem dJ9_floorDiv_f86c9_13 : decode cJ9_floorDiv_f86c9 13 = .ok (.lload 4, 2) := by decide +kernel
theorem dJ9_floorDiv_f86c9_15 : decode cJ9_floorDiv_f86c9 15 = .ok (.lload_n 2, 1) := by decide +kernel
theorem dJ9_floorDiv_f86c9_16 : decode cJ9_floorDiv_f86c9 16 = .ok (.lmul, 1) := by decide +kernel
theorem dJ9_floorDiv_f86c9_17 : decode cJ9_floorDiv_f86c9 17 = .ok (.lload_n 0, 1) := by decide +kernel
theorem dJ9_floorDiv_f86c9_18 : decode cJ9_floorDiv_f86c9 18 = .ok (.lcmp, 1) := by decide +kernel
theorem dJ9_floorDiv_f86c9_19 : decode cJ9_floorDiv_f86c9 19 = .ok (.ifCond .eq 8, 3) := by decide +kernel
theorem dJ9_floorDiv_f86c9_22 : decode cJ9_floorDiv_f86c9 22 = .ok (.lload 4, 2) := by decide +kernel
theorem dJ9_floorDiv_f86c9_24 : decode cJ9_floorDiv_f86c9 24 = .ok (.lconst 1, 1) := by decide +kernel
theorem dJ9_floorDiv_f86c9_25 : decode cJ9_floorDiv_f86c9 25 = .ok (.lsub, 1) := by decide +kernel
theorem dJ9_floorDiv_f86c9_26 : decode cJ9_floorDiv_f86c9 26 = .ok (.lreturn, 1) := by decide +kernel
theorem dJ9_floorDiv_f86c9_27 : decode cJ9_floorDiv_f86c9 27 = .ok (.lload 4, 2) := by decide +kernel
theorem dJ9_floorDiv_f86c9_29 : decode cJ9_floorDiv_f86c9 29 = .ok (.lreturn, 1) := by decide +kernel
theorem dJ9_floorMod_f86c9_0 : decode cJ9_floorMod_f86c9 0 = .ok (.lload_n 0, 1) := by decide +kernel
theorem dJ9_floorMod_f86c9_1 : decode cJ9_floorMod_f86c9 1 = .ok (.lload_n 2, 1) := by decide +kernel
theorem dJ9_floorMod_f86c9_2 : decode cJ9_floorMod_f86c9 2 = .ok (.lrem, 1) := by decide +kernel
theorem dJ9_floorMod_f86c9_3 : decode cJ9_floorMod_f86c9 3 = .ok (.lstore 4, 2) := by decide +kernel
theorem dJ9_floorMod_f86c9_5 : decode cJ9_floorMod_f86c9 5 = .ok (.lload_n 0, 1) := by decide +kernel
theorem dJ9_floorMod_f86c9_6 : decode cJ9_floorMod_f86c9 6 = .ok (.lload_n 2, 1) := by decide +kernel
theorem dJ9_floorMod_f86c9_7 : decode cJ9_floorMod_f86c9 7 = .ok (.lxor, 1) := by decide +kernel
theorem dJ9_floorMod_f86c9_8 : decode cJ9_floorMod_f86c9 8 = .ok (.lconst 0, 1) := by decide +kernel
theorem dJ9_floorMod_f86c9_9 : decode cJ9_floorMod_f86c9 9 = .ok (.lcmp, 1) := by decide +kernel
theorem dJ9_floorMod_f86c9_10 : decode cJ9_floorMod_f86c9 10 = .ok (.ifCond .ge 15, 3) := by decide +kernel
theorem dJ9_floorMod_f86c9_13 : decode cJ9_floorMod_f86c9 13 = .ok (.lload 4, 2) := by decide +kernel
theorem dJ9_floorMod_f86c9_15 : decode cJ9_floorMod_f86c9 15 = .ok (.lconst 0, 1) := by decide +kernel
theorem dJ9_floorMod_f86c9_16 : decode cJ9_floorMod_f86c9 16 = .ok (.lcmp, 1) := by decide +kernel
theorem dJ9_floorMod_f86c9_17 : decode cJ9_floorMod_f86c9 17 = .ok (.ifCond .eq 8, 3) := by decide +kernel
theorem dJ9_floorMod_f86c9_20 : decode cJ9_floorMod_f86c9 20 = .ok (.lload 4, 2) := by decide +kernel
theorem dJ9_floorMod_f86c9_22 : decode cJ9_floorMod_f86c9 22 = .ok (.lload_n 2, 1) := by decide +kernel
theorem dJ9_floorMod_f86c9_23 : decode cJ9_floorMod_f86c9 23 = .ok (.ladd, 1) := by decide +kernel
theorem dJ9_floorMod_f86c9_24 : decode cJ9_floorMod_f86c9 24 = .ok (.lreturn, 1) := by decide +kernel
theorem dJ9_floorMod_f86c9_25 : decode cJ9_floorMod_f86c9 25 = .ok (.lload 4, 2) := by decide +kernel
theorem dJ9_floorMod_f86c9_27 : decode cJ9_floorMod_f86c9 27 = .ok (.lreturn, 1) := by decide +kernel
theorem dJ9_abs_0f7a4_0 : decode cJ9_abs_0f7a4 0 = .ok (.iload_n 0, 1) := by decide +kernel
theorem dJ9_abs_0f7a4_1 : decode cJ9_abs_0f7a4 1 = .ok (.ifCond .ge 8, 3) := by decide +kernel
theorem dJ9_abs_0f7a4_4 : decode cJ9_abs_0f7a4 4 = .ok (.iload_n 0, 1) := by decide +kernel
theorem dJ9_abs_0f7a4_5 : decode cJ9_abs_0f7a4 5 = .ok (.ineg, 1) := by decide +kernel
theorem dJ9_abs_0f7a4_6 : decode cJ9_abs_0f7a4 6 = .ok (.goto 4, 3) := by decide +kernel
theorem dJ9_abs_0f7a4_9 : decode cJ9_abs_0f7a4 9 = .ok (.iload_n 0, 1) := by decide +kernel
theorem dJ9_abs_0f7a4_10 : decode cJ9_abs_0f7a4 10 = .ok (.ireturn, 1) := by decide +kernel
theorem dJ9_abs_067f4_0 : decode cJ9_abs_067f4 0 = .ok (.lload_n 0, 1) := by decide +kernel
theorem dJ9_abs_067f4_1 : decode cJ9_abs_067f4 1 = .ok (.lconst 0, 1) := by decide +kernel
theorem dJ9_abs_067f4_2 : decode cJ9_abs_067f4 2 = .ok (.lcmp, 1) := by decide +kernel
theorem dJ9_abs_067f4_3 : decode cJ9_abs_067f4 3 = .ok (.ifCond .ge 8, 3) := by decide +kernel
theorem dJ9_abs_067f4_6 : decode cJ9_abs_067f4 6 = .ok (.lload_n 0, 1) := by decide +kernel
theorem dJ9_abs_067f4_7 : decode cJ9_abs_067f4 7 = .ok (.lneg, 1) := by decide +kernel
theorem dJ9_abs_067f4_8 : decode cJ9_abs_067f4 8 = .ok (.goto 4, 3) := by decide +kernel
theorem dJ9_abs_067f4_11 : decode cJ9_abs_067f4 11 = .ok (.lload_n 0, 1) := by decide +kernel
theorem dJ9_abs_067f4_12 : decode cJ9_abs_067f4 12 = .ok (.lreturn, 1) := by decide +kernel
theorem dJ9_max_7cf53_0 : decode cJ9_max_7cf53 0 = .ok (.iload_n 0, 1) := by decide +kernel
theorem dJ9_max_7cf53_1 : decode cJ9_max_7cf53 1 = .ok (.iload_n 1, 1) := by decide +kernel
theorem dJ9_max_7cf53_2 : decode cJ9_max_7cf53 2 = .ok (.if_icmp .lt 7, 3) := by decide +kernel
theorem dJ9_max_7cf53_5 : decode cJ9_max_7cf53 5 = .ok (.iload_n 0, 1) := by decide +kernel
theorem dJ9_max_7cf53_6 : decode cJ9_max_7cf53 6 = .ok (.goto 4, 3) := by decide +kernel
theorem dJ9_max_7cf53_9 : decode cJ9_max_7cf53 9 = .ok (.iload_n 1, 1) := by decide +kernel
theorem dJ9_max_7cf53_10 : decode cJ9_max_7cf53 10 = .ok (.ireturn, 1) := by decide +kernel
theorem dJ9_min_7cf53_0 : decode cJ9_min_7cf53 0 = .ok (.iload_n 0, 1) := by decide +kernel
theorem dJ9_min_7cf53_1 : decode cJ9_min_7cf53 1 = .ok (.iload_n 1, 1) := by decide +kernel
theorem dJ9_min_7cf53_2 : decode cJ9_min_7cf53 2 = .ok (.if_icmp .gt 7, 3) := by decide +kernel
theorem dJ9_min_7cf53_5 : decode cJ9_min_7cf53 5 = .ok (.iload_n 0, 1) := by decide +kernel
theorem dJ9_min_7cf53_6 : decode cJ9_min_7cf53 6 = .ok (.goto 4, 3) := by decide +kernel
theorem dJ9_min_7cf53_9 : decode cJ9_min_7cf53 9 = .ok (.iload_n 1, 1) := by decide +kernel
theorem dJ9_min_7cf53_10 : decode cJ9_min_7cf53 10 = .ok (.ireturn, 1) := by decide +kernel
theorem dJ9_min_f86c9_0 : decode cJ9_min_f86c9 0 = .ok (.lload_n 0, 1) := by decide +kernel
theorem dJ9_min_f86c9_1 : decode cJ9_min_f86c9 1 = .ok (.lload_n 2, 1) := by decide +kernel
theorem dJ9_min_f86c9_2 : decode cJ9_min_f86c9 2 = .ok (.lcmp, 1) := by decide +kernel
theorem dJ9_min_f86c9_3 : decode cJ9_min_f86c9 3 = .ok (.ifCond .gt 7, 3) := by decide +kernel
theorem dJ9_min_f86c9_6 : decode cJ9_min_f86c9 6 = .ok (.lload_n 0, 1) := by decide +kernel
theorem dJ9_min_f86c9_7 : decode cJ9_min_f86c9 7 = .ok (.goto 4, 3) := by decide +kernel
theorem dJ9_min_f86c9_10 : decode cJ9_min_f86c9 10 = .ok (.lload_n 2, 1) := by decide +kernel
theorem dJ9_min_f86c9_11 : decode cJ9_min_f86c9 11 = .ok (.lreturn, 1) := by decide +kernel
theorem dJ0_length_8abf5_0 : decode cJ0_length_8abf5 0 = .ok (.aload_n 0, 1) := by decide +kernel
theorem dJ0_length_8abf5_1 : decode cJ0_length_8abf5 1 = .ok (.getfield 9, 3) := by decide +kernel
theorem dJ0_length_8abf5_4 : decode cJ0_length_8abf5 4 = .ok (.arraylength, 1) := by decide +kernel
theorem dJ0_length_8abf5_5 : decode cJ0_length_8abf5 5 = .ok (.aload_n 0, 1) := by decide +kernel
theorem dJ0_length_8abf5_6 : decode cJ0_length_8abf5 6 = .ok (.invokevirtual 335, 3) := by decide +kernel
theorem dJ0_length_8abf5_9 : decode cJ0_length_8abf5 9 = .ok (.ishr, 1) := by decide +kernel
theorem dJ0_length_8abf5_10 : decode cJ0_length_8abf5 10 = .ok (.ireturn, 1) := by decide +kernel
theorem dJ0_indexOf_0f7a4_0 : decode cJ0_indexOf_0f7a4 0 = .ok (.aload_n 0, 1) := by decide +kernel
theorem dJ0_indexOf_0f7a4_1 : decode cJ0_indexOf_0f7a4 1 = .ok (.iload_n 1, 1) := by decide +kernel
theorem dJ0_indexOf_0f7a4_2 : decode cJ0_indexOf_0f7a4 2 = .ok (.iconst 0, 1) := by decide +kernel
theorem dJ0_indexOf_0f7a4_3 : decode cJ0_indexOf_0f7a4 3 = .ok (.invokevirtual 633, 3) := by decide +kernel
theorem dJ0_indexOf_0f7a4_6 : decode cJ0_indexOf_0f7a4 6 = .ok (.ireturn, 1) := by decide +kernel
theorem dJ0_indexOf_7cf53_0 : decode cJ0_indexOf_7cf53 0 = .ok (.aload_n 0, 1) := by decide +kernel
theorem dJ0_indexOf_7cf53_1 : decode cJ0_indexOf_7cf53 1 = .ok (.invokevirtual 492, 3) := by decide +kernel
theorem dJ0_indexOf_7cf53_4 : decode cJ0_indexOf_7cf53 4 = .ok (.ifCond .eq 19, 3) := by decide +kernel
theorem dJ0_indexOf_7cf53_7 : decode cJ0_indexOf_7cf53 7 = .ok (.aload_n 0, 1) := by decide +kernel
theorem dJ0_indexOf_7cf53_8 : decode cJ0_indexOf_7cf53 8 = .ok (.getfield 9, 3) := by decide +kernel
theorem dJ0_indexOf_7cf53_11 : decode cJ0_indexOf_7cf53 11 = .ok (.iload_n 1, 1) := by decide +kernel
theorem dJ0_indexOf_7cf53_12 : decode cJ0_indexOf_7cf53 12 = .ok (.iload_n 2, 1) := by decide +kernel
theorem dJ0_indexOf_7cf53_13 : decode cJ0_indexOf_7cf53 13 = .ok (.aload_n 0, 1) := by decide +kernel
theorem dJ0_indexOf_7cf53_14 : decode cJ0_indexOf_7cf53 14 = .ok (.invokevirtual 505, 3) := by decide +kernel
theorem dJ0_indexOf_7cf53_17 : decode cJ0_indexOf_7cf53 17 = .ok (.invokestatic 637, 3) := by decide +kernel
theorem dJ0_indexOf_7cf53_20 : decode cJ0_indexOf_7cf53 20 = .ok (.goto 16, 3) := by decide +kernel
theorem dJ0_indexOf_7cf53_23 : decode cJ0_indexOf_7cf53 23 = .ok (.aload_n 0, 1) := by decide +kernel
theorem dJ0_indexOf_7cf53_24 : decode cJ0_indexOf_7cf53 24 = .ok (.getfield 9, 3) := by decide +kernel
theorem dJ0_indexOf_7cf53_27 : decode cJ0_indexOf_7cf53 27 = .ok (.iload_n 1, 1) := by decide +kernel
theorem dJ0_indexOf_7cf53_28 : decode cJ0_indexOf_7cf53 28 = .ok (.iload_n 2, 1) := by decide +kernel
theorem dJ0_indexOf_7cf53_29 : decode cJ0_indexOf_7cf53 29 = .ok (.aload_n 0, 1) := by decide +kernel
theorem dJ0_indexOf_7cf53_30 : decode cJ0_indexOf_7cf53 30 = .ok (.invokevirtual 505, 3) := by decide +kernel
theorem dJ0_indexOf_7cf53_33 : decode cJ0_indexOf_7cf53 33 = .ok (.invokestatic 640, 3) := by decide +kernel
theorem dJ0_indexOf_7cf53_36 : decode cJ0_indexOf_7cf53 36 = .ok (.ireturn, 1) := by decide +kernel
theorem dJ0_coder_7d493_0 : decode cJ0_coder_7d493 0 = .ok (.getstatic 38, 3) := by decide +kernel
theorem dJ0_coder_7d493_3 : decode cJ0_coder_7d493 3 = .ok (.ifCond .eq 10, 3) := by decide +kernel
theorem dJ0_coder_7d493_6 : decode cJ0_coder_7d493 6 = .ok (.aload_n 0, 1) := by decide +kernel
theorem dJ0_coder_7d493_7 : decode cJ0_coder_7d493 7 = .ok (.getfield 15, 3) := by decide +kernel
theorem dJ0_coder_7d493_10 : decode cJ0_coder_7d493 10 = .ok (.goto 4, 3) := by decide +kernel
theorem dJ0_coder_7d493_13 : decode cJ0_coder_7d493 13 = .ok (.iconst 1, 1) := by decide +kernel
theorem dJ0_coder_7d493_14 : decode cJ0_coder_7d493 14 = .ok (.ireturn, 1) := by decide +kernel
theorem dJ0_isLatin1_aae02_0 : decode cJ0_isLatin1_aae02 0 = .ok (.getstatic 38, 3) := by decide +kernel
theorem dJ0_isLatin1_aae02_3 : decode cJ0_isLatin1_aae02 3 = .ok (.ifCond .eq 14, 3) := by decide +kernel
theorem dJ0_isLatin1_aae02_6 : decode cJ0_isLatin1_aae02 6 = .ok (.aload_n 0, 1) := by decide +kernel
theorem dJ0_isLatin1_aae02_7 : decode cJ0_isLatin1_aae02 7 = .ok (.getfield 15, 3) := by decide +kernel
theorem dJ0_isLatin1_aae02_10 : decode cJ0_isLatin1_aae02 10 = .ok (.ifCond .ne 7, 3) := by decide +kernel
theorem dJ0_isLatin1_aae02_13 : decode cJ0_isLatin1_aae02 13 = .ok (.iconst 1, 1) := by decide +kernel
theorem dJ0_isLatin1_aae02_14 : decode cJ0_isLatin1_aae02 14 = .ok (.goto 4, 3) := by decide +kernel
theorem dJ0_isLatin1_aae02_17 : decode cJ0_isLatin1_aae02 17 = .ok (.iconst 0, 1) := by decide +kernel
theorem dJ0_isLatin1_aae02_18 : decode cJ0_isLatin1_aae02 18 = .ok (.ireturn, 1) := by decide +kernel
theorem dJ0_checkBoundsBeginEnd_23922_0 : decode cJ0_checkBoundsBeginEnd_23922 0 = .ok (.iload_n 0, 1) := by decide +kernel
theorem dJ0_checkBoundsBeginEnd_23922_1 : decode cJ0_checkBoundsBeginEnd_23922 1 = .ok (.iload_n 1, 1) := by decide +kernel
theorem dJ0_checkBoundsBeginEnd_23922_2 : decode cJ0_checkBoundsBeginEnd_23922 2 = .ok (.iload_n 2, 1) := by decide +kernel
theorem dJ0_checkBoundsBeginEnd_23922_3 : decode cJ0_checkBoundsBeginEnd_23922 3 = .ok (.getstatic 1053, 3) := by decide +kernel
theorem dJ0_checkBoundsBeginEnd_23922_6 : decode cJ0_checkBoundsBeginEnd_23922 6 = .ok (.invokestatic 1062, 3) := by decide +kernel
theorem dJ0_checkBoundsBeginEnd_23922_9 : decode cJ0_checkBoundsBeginEnd_23922 9 = .ok (.pop, 1) := by decide +kernel
theorem dJ0_checkBoundsBeginEnd_23922_10 : decode cJ0_checkBoundsBeginEnd_23922 10 = .ok (.return_, 1) := by decide +kernel
theorem dJ1_canEncode_9a6ad_0 : decode cJ1_canEncode_9a6ad 0 = .ok (.iload_n 0, 1) := by decide +kernel
theorem dJ1_canEncode_9a6ad_1 : decode cJ1_canEncode_9a6ad 1 = .ok (.ifCond .lt 14, 3) := by decide +kernel
theorem dJ1_canEncode_9a6ad_4 : decode cJ1_canEncode_9a6ad 4 = .ok (.iload_n 0, 1) := by decide +kernel
theorem dJ1_canEncode_9a6ad_5 : decode cJ1_canEncode_9a6ad 5 = .ok (.sipush 255, 3) := by decide +kernel
theorem dJ1_canEncode_9a6ad_8 : decode cJ1_canEncode_9a6ad 8 = .ok (.if_icmp .gt 7, 3) := by decide +kernel
theorem dJ1_canEncode_9a6ad_11 : decode cJ1_canEncode_9a6ad 11 = .ok (.iconst 1, 1) := by decide +kernel
theorem dJ1_canEncode_9a6ad_12 : decode cJ1_canEncode_9a6ad 12 = .ok (.goto 4, 3) := by decide +kernel
theorem dJ1_canEncode_9a6ad_15 : decode cJ1_canEncode_9a6ad 15 = .ok (.iconst 0, 1) := by decide +kernel
theorem dJ1_canEncode_9a6ad_16 : decode cJ1_canEncode_9a6ad 16 = .ok (.ireturn, 1) := by decide +kernel
theorem dJ1_indexOf_4cfef_0 : decode cJ1_indexOf_4cfef 0 = .ok (.iload_n 1, 1) := by decide +kernel
theorem dJ1_indexOf_4cfef_1 : decode cJ1_indexOf_4cfef 1 = .ok (.invokestatic 88, 3) := by decide +kernel
theorem dJ1_indexOf_4cfef_4 : decode cJ1_indexOf_4cfef 4 = .ok (.ifCond .ne 5, 3) := by decide +kernel
theorem dJ1_indexOf_4cfef_7 : decode cJ1_indexOf_4cfef 7 = .ok (.iconst (-1), 1) := by decide +kernel
theorem dJ1_indexOf_4cfef_8 : decode cJ1_indexOf_4cfef 8 = .ok (.ireturn, 1) := by decide +kernel
theorem dJ1_indexOf_4cfef_9 : decode cJ1_indexOf_4cfef 9 = .ok (.iload_n 2, 1) := by decide +kernel
theorem dJ1_indexOf_4cfef_10 : decode cJ1_indexOf_4cfef 10 = .ok (.iconst 0, 1) := by decide +kernel
theorem dJ1_indexOf_4cfef_11 : decode cJ1_indexOf_4cfef 11 = .ok (.invokestatic 92, 3) := by decide +kernel
theorem dJ1_indexOf_4cfef_14 : decode cJ1_indexOf_4cfef 14 = .ok (.istore_n 2, 1) := by decide +kernel
theorem dJ1_indexOf_4cfef_15 : decode cJ1_indexOf_4cfef 15 = .ok (.iload_n 3, 1) := by decide +kernel
theorem dJ1_indexOf_4cfef_16 : decode cJ1_indexOf_4cfef 16 = .ok (.aload_n 0, 1) := by decide +kernel
theorem dJ1_indexOf_4cfef_17 : decode cJ1_indexOf_4cfef 17 = .ok (.arraylength, 1) := by decide +kernel
theorem dJ1_indexOf_4cfef_18 : decode cJ1_indexOf_4cfef 18 = .ok (.invokestatic 38, 3) := by decide +kernel
theorem dJ1_indexOf_4cfef_21 : decode cJ1_indexOf_4cfef 21 = .ok (.istore_n 3, 1) := by decide +kernel
theorem dJ1_indexOf_4cfef_22 : decode cJ1_indexOf_4cfef 22 = .ok (.iload_n 2, 1) := by decide +kernel
theorem dJ1_indexOf_4cfef_23 : decode cJ1_indexOf_4cfef 23 = .ok (.iload_n 3, 1) := by decide +kernel
theorem dJ1_indexOf_4cfef_24 : decode cJ1_indexOf_4cfef 24 = .ok (.if_icmp .lt 5, 3) := by decide +kernel
theorem dJ1_indexOf_4cfef_27 : decode cJ1_indexOf_4cfef 27 = .ok (.iconst (-1), 1) := by decide +kernel
theorem dJ1_indexOf_4cfef_28 : decode cJ1_indexOf_4cfef 28 = .ok (.ireturn, 1) := by decide +kernel
theorem dJ1_indexOf_4cfef_29 : decode cJ1_indexOf_4cfef 29 = .ok (.aload_n 0, 1) := by decide +kernel
theorem dJ1_indexOf_4cfef_30 : decode cJ1_indexOf_4cfef 30 = .ok (.iload_n 1, 1) := by decide +kernel
theorem dJ1_indexOf_4cfef_31 : decode cJ1_indexOf_4cfef 31 = .ok (.iload_n 2, 1) := by decide +kernel
theorem dJ1_indexOf_4cfef_32 : decode cJ1_indexOf_4cfef 32 = .ok (.iload_n 3, 1) := by decide +kernel
theorem dJ1_indexOf_4cfef_33 : decode cJ1_indexOf_4cfef 33 = .ok (.invokestatic 95, 3) := by decide +kernel
theorem dJ1_indexOf_4cfef_36 : decode cJ1_indexOf_4cfef 36 = .ok (.ireturn, 1) := by decide +kernel
theorem dJ1_indexOfChar_4cfef_0 : decode cJ1_indexOfChar_4cfef 0 = .ok (.iload_n 1, 1) := by decide +kernel
theorem dJ1_indexOfChar_4cfef_1 : decode cJ1_indexOfChar_4cfef 1 = .ok (.i2b, 1) := by decide +kernel
theorem dJ1_indexOfChar_4cfef_2 : decode cJ1_indexOfChar_4cfef 2 = .ok (.istore 4, 2) := by decide +kernel
theorem dJ1_indexOfChar_4cfef_4 : decode cJ1_indexOfChar_4cfef 4 = .ok (.iload_n 2, 1) := by decide +kernel
theorem dJ1_indexOfChar_4cfef_5 : decode cJ1_indexOfChar_4cfef 5 = .ok (.istore 5, 2) := by decide +kernel
theorem dJ1_indexOfChar_4cfef_7 : decode cJ1_indexOfChar_4cfef 7 = .ok (.iload 5, 2) := by decide +kernel
theorem dJ1_indexOfChar_4cfef_9 : decode cJ1_indexOfChar_4cfef 9 = .ok (.iload_n 3, 1) := by decide +kernel
theorem dJ1_indexOfChar_4cfef_10 : decode cJ1_indexOfChar_4cfef 10 = .ok (.if_icmp .ge 21, 3) := by decide +kernel
theorem dJ1_indexOfChar_4cfef_13 : decode cJ1_indexOfChar_4cfef 13 = .ok (.aload_n 0, 1) := by decide +kernel
theorem dJ1_indexOfChar_4cfef_14 : decode cJ1_indexOfChar_4cfef 14 = .ok (.iload 5, 2) := by decide +kernel
theorem dJ1_indexOfChar_4cfef_16 : decode cJ1_indexOfChar_4cfef 16 = .ok (.baload, 1) := by decide +kernel
theorem dJ1_indexOfChar_4cfef_17 : decode cJ1_indexOfChar_4cfef 17 = .ok (.iload 4, 2) := by decide +kernel
theorem dJ1_indexOfChar_4cfef_19 : decode cJ1_indexOfChar_4cfef 19 = .ok (.if_icmp .ne 6, 3) := by decide +kernel
theorem dJ1_indexOfChar_4cfef_22 : decode cJ1_indexOfChar_4cfef 22 = .ok (.iload 5, 2) := by decide +kernel
theorem dJ1_indexOfChar_4cfef_24 : decode cJ1_indexOfChar_4cfef 24 = .ok (.ireturn, 1) := by decide +kernel
theorem dJ1_indexOfChar_4cfef_25 : decode cJ1_indexOfChar_4cfef 25 = .ok (.iinc 5 1, 3) := by decide +kernel
theorem dJ1_indexOfChar_4cfef_28 : decode cJ1_indexOfChar_4cfef 28 = .ok (.goto (-21), 3) := by decide +kernel
theorem dJ1_indexOfChar_4cfef_31 : decode cJ1_indexOfChar_4cfef 31 = .ok (.iconst (-1), 1) := by decide +kernel
theorem dJ1_indexOfChar_4cfef_32 : decode cJ1_indexOfChar_4cfef 32 = .ok (.ireturn, 1) := by decide +kernel
theorem dJ2_getChar_3b067_0 : decode cJ2_getChar_3b067 0 = .ok (.getstatic 44, 3) := by decide +kernel
theorem dJ2_getChar_3b067_3 : decode cJ2_getChar_3b067 3 = .ok (.ifCond .ne 25, 3) := by decide +kernel
theorem dJ2_getChar_3b067_6 : decode cJ2_getChar_3b067 6 = .ok (.iload_n 1, 1) := by decide +kernel
theorem dJ2_getChar_3b067_7 : decode cJ2_getChar_3b067 7 = .ok (.ifCond .lt 11, 3) := by decide +kernel
theorem dJ2_getChar_3b067_10 : decode cJ2_getChar_3b067 10 = .ok (.iload_n 1, 1) := by decide +kernel
theorem dJ2_getChar_3b067_11 : decode cJ2_getChar_3b067 11 = .ok (.aload_n 0, 1) := by decide +kernel
theorem dJ2_getChar_3b067_12 : decode cJ2_getChar_3b067 12 = .ok (.invokestatic 48, 3) := by decide +kernel
theorem dJ2_getChar_3b067_15 : decode cJ2_getChar_3b067 15 = .ok (.if_icmp .lt 13, 3) := by decide +kernel
theorem dJ2_getChar_3b067_18 : decode cJ2_getChar_3b067 18 = .ok (.new 52, 3) := by decide +kernel
theorem dJ2_getChar_3b067_21 : decode cJ2_getChar_3b067 21 = .ok (.dup, 1) := by decide +kernel
theorem dJ2_getChar_3b067_22 : decode cJ2_getChar_3b067 22 = .ok (.ldc 54, 2) := by decide +kernel
theorem dJ2_getChar_3b067_24 : decode cJ2_getChar_3b067 24 = .ok (.invokespecial 56, 3) := by decide +kernel
theorem dJ2_getChar_3b067_27 : decode cJ2_getChar_3b067 27 = .ok (.athrow, 1) := by decide +kernel
theorem dJ2_getChar_3b067_28 : decode cJ2_getChar_3b067 28 = .ok (.iload_n 1, 1) := by decide +kernel
theorem dJ2_getChar_3b067_29 : decode cJ2_getChar_3b067 29 = .ok (.iconst 1, 1) := by decide +kernel
theorem dJ2_getChar_3b067_30 : decode cJ2_getChar_3b067 30 = .ok (.ishl, 1) := by decide +kernel
theorem dJ2_getChar_3b067_31 : decode cJ2_getChar_3b067 31 = .ok (.istore_n 1, 1) := by decide +kernel
theorem dJ2_getChar_3b067_32 : decode cJ2_getChar_3b067 32 = .ok (.aload_n 0, 1) := by decide +kernel
theorem dJ2_getChar_3b067_33 : decode cJ2_getChar_3b067 33 = .ok (.iload_n 1, 1) := by decide +kernel
theorem dJ2_getChar_3b067_34 : decode cJ2_getChar_3b067 34 = .ok (.iinc 1 1, 3) := by decide +kernel
theorem dJ2_getChar_3b067_37 : decode cJ2_getChar_3b067 37 = .ok (.baload, 1) := by decide +kernel
theorem dJ2_getChar_3b067_38 : decode cJ2_getChar_3b067 38 = .ok (.sipush 255, 3) := by decide +kernel
theorem dJ2_getChar_3b067_41 : decode cJ2_getChar_3b067 41 = .ok (.iand, 1) := by decide +kernel
theorem dJ2_getChar_3b067_42 : decode cJ2_getChar_3b067 42 = .ok (.getstatic 59, 3) := by decide +kernel
theorem dJ2_getChar_3b067_45 : decode cJ2_getChar_3b067 45 = .ok (.ishl, 1) := by decide +kernel
theorem dJ2_getChar_3b067_46 : decode cJ2_getChar_3b067 46 = .ok (.aload_n 0, 1) := by decide +kernel
theorem dJ2_getChar_3b067_47 : decode cJ2_getChar_3b067 47 = .ok (.iload_n 1, 1) := by decide +kernel
theorem dJ2_getChar_3b067_48 : decode cJ2_getChar_3b067 48 = .ok (.baload, 1) := by decide +kernel
theorem dJ2_getChar_3b067_49 : decode cJ2_getChar_3b067 49 = .ok (.sipush 255, 3) := by decide +kernel
theorem dJ2_getChar_3b067_52 : decode cJ2_getChar_3b067 52 = .ok (.iand, 1) := by decide +kernel
theorem dJ2_getChar_3b067_53 : decode cJ2_getChar_3b067 53 = .ok (.getstatic 63, 3) := by decide +kernel
theorem dJ2_getChar_3b067_56 : decode cJ2_getChar_3b067 56 = .ok (.ishl, 1) := by decide +kernel
theorem dJ2_getChar_3b067_57 : decode cJ2_getChar_3b067 57 = .ok (.ior, 1) := by decide +kernel
theorem dJ2_getChar_3b067_58 : decode cJ2_getChar_3b067 58 = .ok (.i2c, 1) := by decide +kernel
theorem dJ2_getChar_3b067_59 : decode cJ2_getChar_3b067 59 = .ok (.ireturn, 1) := by decide +kernel
theorem dJ2_length_9d52b_0 : decode cJ2_length_9d52b 0 = .ok (.aload_n 0, 1) := by decide +kernel
theorem dJ2_length_9d52b_1 : decode cJ2_length_9d52b 1 = .ok (.arraylength, 1) := by decide +kernel
theorem dJ2_length_9d52b_2 : decode cJ2_length_9d52b 2 = .ok (.iconst 1, 1) := by decide +kernel
theorem dJ2_length_9d52b_3 : decode cJ2_length_9d52b 3 = .ok (.ishr, 1) := by decide +kernel
theorem dJ2_length_9d52b_4 : decode cJ2_length_9d52b 4 = .ok (.ireturn, 1) := by decide +kernel
theorem dJ2_indexOf_4cfef_0 : decode cJ2_indexOf_4cfef 0 = .ok (.iload_n 2, 1) := by decide +kernel
theorem dJ2_indexOf_4cfef_1 : decode cJ2_indexOf_4cfef 1 = .ok (.iconst 0, 1) := by decide +kernel
theorem dJ2_indexOf_4cfef_2 : decode cJ2_indexOf_4cfef 2 = .ok (.invokestatic 224, 3) := by decide +kernel
theorem dJ2_indexOf_4cfef_5 : decode cJ2_indexOf_4cfef 5 = .ok (.istore_n 2, 1) := by decide +kernel
theorem dJ2_indexOf_4cfef_6 : decode cJ2_indexOf_4cfef 6 = .ok (.iload_n 3, 1) := by decide +kernel
theorem dJ2_indexOf_4cfef_7 : decode cJ2_indexOf_4cfef 7 = .ok (.aload_n 0, 1) := by decide +kernel
theorem dJ2_indexOf_4cfef_8 : decode cJ2_indexOf_4cfef 8 = .ok (.arraylength, 1) := by decide +kernel
theorem dJ2_indexOf_4cfef_9 : decode cJ2_indexOf_4cfef 9 = .ok (.iconst 1, 1) := by decide +kernel
theorem dJ2_indexOf_4cfef_10 : decode cJ2_indexOf_4cfef 10 = .ok (.ishr, 1) := by decide +kernel
theorem dJ2_indexOf_4cfef_11 : decode cJ2_indexOf_4cfef 11 = .ok (.invokestatic 183, 3) := by decide +kernel
theorem dJ2_indexOf_4cfef_14 : decode cJ2_indexOf_4cfef 14 = .ok (.istore_n 3, 1) := by decide +kernel
theorem dJ2_indexOf_4cfef_15 : decode cJ2_indexOf_4cfef 15 = .ok (.iload_n 2, 1) := by decide +kernel
theorem dJ2_indexOf_4cfef_16 : decode cJ2_indexOf_4cfef 16 = .ok (.iload_n 3, 1) := by decide +kernel
theorem dJ2_indexOf_4cfef_17 : decode cJ2_indexOf_4cfef 17 = .ok (.if_icmp .lt 5, 3) := by decide +kernel
theorem dJ2_indexOf_4cfef_20 : decode cJ2_indexOf_4cfef 20 = .ok (.iconst (-1), 1) := by decide +kernel
theorem dJ2_indexOf_4cfef_21 : decode cJ2_indexOf_4cfef 21 = .ok (.ireturn, 1) := by decide +kernel
theorem dJ2_indexOf_4cfef_22 : decode cJ2_indexOf_4cfef 22 = .ok (.iload_n 1, 1) := by decide +kernel
theorem dJ2_indexOf_4cfef_23 : decode cJ2_indexOf_4cfef 23 = .ok (.ldc 227, 2) := by decide +kernel
theorem dJ2_indexOf_4cfef_25 : decode cJ2_indexOf_4cfef 25 = .ok (.if_icmp .ge 11, 3) := by decide +kernel
theorem dJ2_indexOf_4cfef_28 : decode cJ2_indexOf_4cfef 28 = .ok (.aload_n 0, 1) := by decide +kernel
theorem dJ2_indexOf_4cfef_29 : decode cJ2_indexOf_4cfef 29 = .ok (.iload_n 1, 1) := by decide +kernel
theorem dJ2_indexOf_4cfef_30 : decode cJ2_indexOf_4cfef 30 = .ok (.iload_n 2, 1) := by decide +kernel
theorem dJ2_indexOf_4cfef_31 : decode cJ2_indexOf_4cfef 31 = .ok (.iload_n 3, 1) := by decide +kernel
theorem dJ2_indexOf_4cfef_32 : decode cJ2_indexOf_4cfef 32 = .ok (.invokestatic 228, 3) := by decide +kernel
theorem dJ2_indexOf_4cfef_35 : decode cJ2_indexOf_4cfef 35 = .ok (.ireturn, 1) := by decide +kernel
theorem dJ2_indexOf_4cfef_36 : decode cJ2_indexOf_4cfef 36 = .ok (.aload_n 0, 1) := by decide +kernel
theorem dJ2_indexOf_4cfef_37 : decode cJ2_indexOf_4cfef 37 = .ok (.iload_n 1, 1) := by decide +kernel
theorem dJ2_indexOf_4cfef_38 : decode cJ2_indexOf_4cfef 38 = .ok (.iload_n 2, 1) := by decide +kernel
theorem dJ2_indexOf_4cfef_39 : decode cJ2_indexOf_4cfef 39 = .ok (.iload_n 3, 1) := by decide +kernel
theorem dJ2_indexOf_4cfef_40 : decode cJ2_indexOf_4cfef 40 = .ok (.invokestatic 232, 3) := by decide +kernel
theorem dJ2_indexOf_4cfef_43 : decode cJ2_indexOf_4cfef 43 = .ok (.ireturn, 1) := by decide +kernel
theorem dJ2_indexOfChar_4cfef_0 : decode cJ2_indexOfChar_4cfef 0 = .ok (.iload_n 2, 1) := by decide +kernel
theorem dJ2_indexOfChar_4cfef_1 : decode cJ2_indexOfChar_4cfef 1 = .ok (.iload_n 3, 1) := by decide +kernel
theorem dJ2_indexOfChar_4cfef_2 : decode cJ2_indexOfChar_4cfef 2 = .ok (.aload_n 0, 1) := by decide +kernel
theorem dJ2_indexOfChar_4cfef_3 : decode cJ2_indexOfChar_4cfef 3 = .ok (.invokestatic 96, 3) := by decide +kernel
theorem dJ2_indexOfChar_4cfef_6 : decode cJ2_indexOfChar_4cfef 6 = .ok (.aload_n 0, 1) := by decide +kernel
theorem dJ2_indexOfChar_4cfef_7 : decode cJ2_indexOfChar_4cfef 7 = .ok (.iload_n 1, 1) := by decide +kernel
theorem dJ2_indexOfChar_4cfef_8 : decode cJ2_indexOfChar_4cfef 8 = .ok (.iload_n 2, 1) := by decide +kernel
theorem dJ2_indexOfChar_4cfef_9 : decode cJ2_indexOfChar_4cfef 9 = .ok (.iload_n 3, 1) := by decide +kernel
theorem dJ2_indexOfChar_4cfef_10 : decode cJ2_indexOfChar_4cfef 10 = .ok (.invokestatic 244, 3) := by decide +kernel
theorem dJ2_indexOfChar_4cfef_13 : decode cJ2_indexOfChar_4cfef 13 = .ok (.ireturn, 1) := by decide +kernel
theorem dJ2_indexOfCharUnsafe_4cfef_0 : decode cJ2_indexOfCharUnsafe_4cfef 0 = .ok (.iload_n 2, 1) := by decide +kernel
theorem dJ2_indexOfCharUnsafe_4cfef_1 : decode cJ2_indexOfCharUnsafe_4cfef 1 = .ok (.istore 4, 2) := by decide +kernel
theorem dJ2_indexOfCharUnsafe_4cfef_3 : decode cJ2_indexOfCharUnsafe_4cfef 3 = .ok (.iload 4, 2) := by decide +kernel
theorem dJ2_indexOfCharUnsafe_4cfef_5 : decode cJ2_indexOfCharUnsafe_4cfef 5 = .ok (.iload_n 3, 1) := by decide +kernel
theorem dJ2_indexOfCharUnsafe_4cfef_6 : decode cJ2_indexOfCharUnsafe_4cfef 6 = .ok (.if_icmp .ge 22, 3) := by decide +kernel
theorem dJ2_indexOfCharUnsafe_4cfef_9 : decode cJ2_indexOfCharUnsafe_4cfef 9 = .ok (.aload_n 0, 1) := by decide +kernel
theorem dJ2_indexOfCharUnsafe_4cfef_10 : decode cJ2_indexOfCharUnsafe_4cfef 10 = .ok (.iload 4, 2) := by decide +kernel
theorem dJ2_indexOfCharUnsafe_4cfef_12 : decode cJ2_indexOfCharUnsafe_4cfef 12 = .ok (.invokestatic 71, 3) := by decide +kernel
theorem dJ2_indexOfCharUnsafe_4cfef_15 : decode cJ2_indexOfCharUnsafe_4cfef 15 = .ok (.iload_n 1, 1) := by decide +kernel
theorem dJ2_indexOfCharUnsafe_4cfef_16 : decode cJ2_indexOfCharUnsafe_4cfef 16 = .ok (.if_icmp .ne 6, 3) := by decide +kernel
theorem dJ2_indexOfCharUnsafe_4cfef_19 : decode cJ2_indexOfCharUnsafe_4cfef 19 = .ok (.iload 4, 2) := by decide +kernel
theorem dJ2_indexOfCharUnsafe_4cfef_21 : decode cJ2_indexOfCharUnsafe_4cfef 21 = .ok (.ireturn, 1) := by decide +kernel
theorem dJ2_indexOfCharUnsafe_4cfef_22 : decode cJ2_indexOfCharUnsafe_4cfef 22 = .ok (.iinc 4 1, 3) := by decide +kernel
theorem dJ2_indexOfCharUnsafe_4cfef_25 : decode cJ2_indexOfCharUnsafe_4cfef 25 = .ok (.goto (-22), 3) := by decide +kernel
theorem dJ2_indexOfCharUnsafe_4cfef_28 : decode cJ2_indexOfCharUnsafe_4cfef 28 = .ok (.iconst (-1), 1) := by decide +kernel
theorem dJ2_indexOfCharUnsafe_4cfef_29 : decode cJ2_indexOfCharUnsafe_4cfef 29 = .ok (.ireturn, 1) := by decide +kernel
theorem dJ2_indexOfSupplementary_4cfef_0 : decode cJ2_indexOfSupplementary_4cfef 0 = .ok (.iload_n 1, 1) := by decide +kernel
theorem dJ2_indexOfSupplementary_4cfef_1 : decode cJ2_indexOfSupplementary_4cfef 1 = .ok (.invokestatic 164, 3) := by decide +kernel
theorem dJ2_indexOfSupplementary_4cfef_4 : decode cJ2_indexOfSupplementary_4cfef 4 = .ok (.ifCond .eq 65, 3) := by decide +kernel
theorem dJ2_indexOfSupplementary_4cfef_7 : decode cJ2_indexOfSupplementary_4cfef 7 = .ok (.iload_n 1, 1) := by decide +kernel
theorem dJ2_indexOfSupplementary_4cfef_8 : decode cJ2_indexOfSupplementary_4cfef 8 = .ok (.invokestatic 157, 3) := by decide +kernel
theorem dJ2_indexOfSupplementary_4cfef_11 : decode cJ2_indexOfSupplementary_4cfef 11 = .ok (.istore 4, 2) := by decide +kernel
theorem dJ2_indexOfSupplementary_4cfef_13 : decode cJ2_indexOfSupplementary_4cfef 13 = .ok (.iload_n 1, 1) := by decide +kernel
theorem dJ2_indexOfSupplementary_4cfef_14 : decode cJ2_indexOfSupplementary_4cfef 14 = .ok (.invokestatic 161, 3) := by decide +kernel
theorem dJ2_indexOfSupplementary_4cfef_17 : decode cJ2_indexOfSupplementary_4cfef 17 = .ok (.istore 5, 2) := by decide +kernel
theorem dJ2_indexOfSupplementary_4cfef_19 : decode cJ2_indexOfSupplementary_4cfef 19 = .ok (.iload_n 2, 1) := by decide +kernel
theorem dJ2_indexOfSupplementary_4cfef_20 : decode cJ2_indexOfSupplementary_4cfef 20 = .ok (.iload_n 3, 1) := by decide +kernel
theorem dJ2_indexOfSupplementary_4cfef_21 : decode cJ2_indexOfSupplementary_4cfef 21 = .ok (.aload_n 0, 1) := by decide +kernel
theorem dJ2_indexOfSupplementary_4cfef_22 : decode cJ2_indexOfSupplementary_4cfef 22 = .ok (.invokestatic 96, 3) := by decide +kernel
theorem dJ2_indexOfSupplementary_4cfef_25 : decode cJ2_indexOfSupplementary_4cfef 25 = .ok (.iload_n 2, 1) := by decide +kernel
theorem dJ2_indexOfSupplementary_4cfef_26 : decode cJ2_indexOfSupplementary_4cfef 26 = .ok (.istore 6, 2) := by decide +kernel
theorem dJ2_indexOfSupplementary_4cfef_28 : decode cJ2_indexOfSupplementary_4cfef 28 = .ok (.iload 6, 2) := by decide +kernel
theorem dJ2_indexOfSupplementary_4cfef_30 : decode cJ2_indexOfSupplementary_4cfef 30 = .ok (.iload_n 3, 1) := by decide +kernel
theorem dJ2_indexOfSupplementary_4cfef_31 : decode cJ2_indexOfSupplementary_4cfef 31 = .ok (.iconst 1, 1) := by decide +kernel
theorem dJ2_indexOfSupplementary_4cfef_32 : decode cJ2_indexOfSupplementary_4cfef 32 = .ok (.isub, 1) := by decide +kernel
theorem dJ2_indexOfSupplementary_4cfef_33 : decode cJ2_indexOfSupplementary_4cfef 33 = .ok (.if_icmp .ge 36, 3) := by decide +kernel
theorem dJ2_indexOfSupplementary_4cfef_36 : decode cJ2_indexOfSupplementary_4cfef 36 = .ok (.aload_n 0, 1) := by decide +kernel
theorem dJ2_indexOfSupplementary_4cfef_37 : decode cJ2_indexOfSupplementary_4cfef 37 = .ok (.iload 6, 2) := by decide +kernel
theorem dJ2_indexOfSupplementary_4cfef_39 : decode cJ2_indexOfSupplementary_4cfef 39 = .ok (.invokestatic 71, 3) := by decide +kernel
theorem dJ2_indexOfSupplementary_4cfef_42 : decode cJ2_indexOfSupplementary_4cfef 42 = .ok (.iload 4, 2) := by decide +kernel
theorem dJ2_indexOfSupplementary_4cfef_44 : decode cJ2_indexOfSupplementary_4cfef 44 = .ok (.if_icmp .ne 19, 3) := by decide +kernel
theorem dJ2_indexOfSupplementary_4cfef_47 : decode cJ2_indexOfSupplementary_4cfef 47 = .ok (.aload_n 0, 1) := by decide +kernel
theorem dJ2_indexOfSupplementary_4cfef_48 : decode cJ2_indexOfSupplementary_4cfef 48 = .ok (.iload 6, 2) := by decide +kernel
theorem dJ2_indexOfSupplementary_4cfef_50 : decode cJ2_indexOfSupplementary_4cfef 50 = .ok (.iconst 1, 1) := by decide +kernel
theorem dJ2_indexOfSupplementary_4cfef_51 : decode cJ2_indexOfSupplementary_4cfef 51 = .ok (.iadd, 1) := by decide +kernel
theorem dJ2_indexOfSupplementary_4cfef_52 : decode cJ2_indexOfSupplementary_4cfef 52 = .ok (.invokestatic 71, 3) := by decide +kernel
theorem dJ2_indexOfSupplementary_4cfef_55 : decode cJ2_indexOfSupplementary_4cfef 55 = .ok (.iload 5, 2) := by decide +kernel
theorem dJ2_indexOfSupplementary_4cfef_57 : decode cJ2_indexOfSupplementary_4cfef 57 = .ok (.if_icmp .ne 6, 3) := by decide +kernel
theorem dJ2_indexOfSupplementary_4cfef_60 : decode cJ2_indexOfSupplementary_4cfef 60 = .ok (.iload 6, 2) := by decide +kernel
theorem dJ2_indexOfSupplementary_4cfef_62 : decode cJ2_indexOfSupplementary_4cfef 62 = .ok (.ireturn, 1) := by decide +kernel
theorem dJ2_indexOfSupplementary_4cfef_63 : decode cJ2_indexOfSupplementary_4cfef 63 = .ok (.iinc 6 1, 3) := by decide +kernel
theorem dJ2_indexOfSupplementary_4cfef_66 : decode cJ2_indexOfSupplementary_4cfef 66 = .ok (.goto (-38), 3) := by decide +kernel
theorem dJ2_indexOfSupplementary_4cfef_69 : decode cJ2_indexOfSupplementary_4cfef 69 = .ok (.iconst (-1), 1) := by decide +kernel
theorem dJ2_indexOfSupplementary_4cfef_70 : decode cJ2_indexOfSupplementary_4cfef 70 = .ok (.ireturn, 1) := by decide +kernel
theorem dJ2_checkBoundsBeginEnd_d044e_0 : decode cJ2_checkBoundsBeginEnd_d044e 0 = .ok (.iload_n 0, 1) := by decide +kernel
theorem dJ2_checkBoundsBeginEnd_d044e_1 : decode cJ2_checkBoundsBeginEnd_d044e 1 = .ok (.iload_n 1, 1) := by decide +kernel
theorem dJ2_checkBoundsBeginEnd_d044e_2 : decode cJ2_checkBoundsBeginEnd_d044e 2 = .ok (.aload_n 2, 1) := by decide +kernel
theorem dJ2_checkBoundsBeginEnd_d044e_3 : decode cJ2_checkBoundsBeginEnd_d044e 3 = .ok (.invokestatic 48, 3) := by decide +kernel
theorem dJ2_checkBoundsBeginEnd_d044e_6 : decode cJ2_checkBoundsBeginEnd_d044e 6 = .ok (.invokestatic 241, 3) := by decide +kernel
theorem dJ2_checkBoundsBeginEnd_d044e_9 : decode cJ2_checkBoundsBeginEnd_d044e 9 = .ok (.return_, 1) := by decide +kernel
theorem dJ3_checkFromToIndex_8c36e_0 : decode cJ3_checkFromToIndex_8c36e 0 = .ok (.iload_n 0, 1) := by decide +kernel
theorem dJ3_checkFromToIndex_8c36e_1 : decode cJ3_checkFromToIndex_8c36e 1 = .ok (.ifCond .lt 13, 3) := by decide +kernel
theorem dJ3_checkFromToIndex_8c36e_4 : decode cJ3_checkFromToIndex_8c36e 4 = .ok (.iload_n 0, 1) := by decide +kernel
theorem dJ3_checkFromToIndex_8c36e_5 : decode cJ3_checkFromToIndex_8c36e 5 = .ok (.iload_n 1, 1) := by decide +kernel
theorem dJ3_checkFromToIndex_8c36e_6 : decode cJ3_checkFromToIndex_8c36e 6 = .ok (.if_icmp .gt 8, 3) := by decide +kernel
theorem dJ3_checkFromToIndex_8c36e_9 : decode cJ3_checkFromToIndex_8c36e 9 = .ok (.iload_n 1, 1) := by decide +kernel
theorem dJ3_checkFromToIndex_8c36e_10 : decode cJ3_checkFromToIndex_8c36e 10 = .ok (.iload_n 2, 1) := by decide +kernel
theorem dJ3_checkFromToIndex_8c36e_11 : decode cJ3_checkFromToIndex_8c36e 11 = .ok (.if_icmp .le 11, 3) := by decide +kernel
theorem dJ3_checkFromToIndex_8c36e_14 : decode cJ3_checkFromToIndex_8c36e 14 = .ok (.aload_n 3, 1) := by decide +kernel
theorem dJ3_checkFromToIndex_8c36e_15 : decode cJ3_checkFromToIndex_8c36e 15 = .ok (.iload_n 0, 1) := by decide +kernel
theorem dJ3_checkFromToIndex_8c36e_16 : decode cJ3_checkFromToIndex_8c36e 16 = .ok (.iload_n 1, 1) := by decide +kernel
theorem dJ3_checkFromToIndex_8c36e_17 : decode cJ3_checkFromToIndex_8c36e 17 = .ok (.iload_n 2, 1) := by decide +kernel
theorem dJ3_checkFromToIndex_8c36e_18 : decode cJ3_checkFromToIndex_8c36e 18 = .ok (.invokestatic 99, 3) := by decide +kernel
theorem dJ3_checkFromToIndex_8c36e_21 : decode cJ3_checkFromToIndex_8c36e 21 = .ok (.athrow, 1) := by decide +kernel
theorem dJ3_checkFromToIndex_8c36e_22 : decode cJ3_checkFromToIndex_8c36e 22 = .ok (.iload_n 0, 1) := by decide +kernel
theorem dJ3_checkFromToIndex_8c36e_23 : decode cJ3_checkFromToIndex_8c36e 23 = .ok (.ireturn, 1) := by decide +kernel
theorem dL_law_0 : decode cL_law 0 = .ok (.new 7, 3) := by decide +kernel
theorem dL_law_3 : decode cL_law 3 = .ok (.dup, 1) := by decide +kernel
theorem dL_law_4 : decode cL_law 4 = .ok (.invokespecial 9, 3) := by decide +kernel
theorem dL_law_7 : decode cL_law 7 = .ok (.astore_n 1, 1) := by decide +kernel
theorem dL_law_8 : decode cL_law 8 = .ok (.new 10, 3) := by decide +kernel
theorem dL_law_11 : decode cL_law 11 = .ok (.dup, 1) := by decide +kernel
theorem dL_law_12 : decode cL_law 12 = .ok (.invokespecial 12, 3) := by decide +kernel
theorem dL_law_15 : decode cL_law 15 = .ok (.astore_n 2, 1) := by decide +kernel
theorem dL_law_16 : decode cL_law 16 = .ok (.iconst 0, 1) := by decide +kernel
theorem dL_law_17 : decode cL_law 17 = .ok (.istore_n 3, 1) := by decide +kernel
theorem dL_law_18 : decode cL_law 18 = .ok (.iload_n 3, 1) := by decide +kernel
theorem dL_law_19 : decode cL_law 19 = .ok (.aload_n 0, 1) := by decide +kernel
theorem dL_law_20 : decode cL_law 20 = .ok (.arraylength, 1) := by decide +kernel
theorem dL_law_21 : decode cL_law 21 = .ok (.bipush 6, 2) := by decide +kernel
theorem dL_law_23 : decode cL_law 23 = .ok (.isub, 1) := by decide +kernel
theorem dL_law_24 : decode cL_law 24 = .ok (.if_icmp .gt 1559, 3) := by decide +kernel
theorem dL_law_27 : decode cL_law 27 = .ok (.aload_n 0, 1) := by decide +kernel
theorem dL_law_28 : decode cL_law 28 = .ok (.iload_n 3, 1) := by decide +kernel
theorem dL_law_29 : decode cL_law 29 = .ok (.iaload, 1) := by decide +kernel
theorem dL_law_30 : decode cL_law 30 = .ok (.bipush 63, 2) := by decide +kernel
theorem dL_law_32 : decode cL_law 32 = .ok (.iand, 1) := by decide +kernel
theorem dL_law_33 : decode cL_law 33 = .ok (.tableswitch 1544 0 36 #[163, 226, 269, 292, 315, 378, 401, 424, 457, 510, 543, 576, 619, 662, 695, 738, 791, 814, 847, 900, 943, 996, 1029, 1062, 1095, 1118, 1151, 1184, 1217, 1240, 1253, 1266, 1279, 1342, 1385, 1408, 1491], 163) := by decide +kernel
theorem dL_law_196 : decode cL_law 196 = .ok (.aload_n 1, 1) := by decide +kernel
theorem dL_law_197 : decode cL_law 197 = .ok (.aload_n 0, 1) := by decide +kernel
theorem dL_law_198 : decode cL_law 198 = .ok (.iload_n 3, 1) := by decide +kernel
theorem dL_law_199 : decode cL_law 199 = .ok (.iconst 1, 1) := by decide +kernel
theorem dL_law_200 : decode cL_law 200 = .ok (.iadd, 1) := by decide +kernel
theorem dL_law_201 : decode cL_law 201 = .ok (.iaload, 1) := by decide +kernel
theorem dL_law_202 : decode cL_law 202 = .ok (.aload_n 0, 1) := by decide +kernel
theorem dL_law_203 : decode cL_law 203 = .ok (.iload_n 3, 1) := by decide +kernel
theorem dL_law_204 : decode cL_law 204 = .ok (.iconst 2, 1) := by decide +kernel
theorem dL_law_205 : decode cL_law 205 = .ok (.iadd, 1) := by decide +kernel
theorem dL_law_206 : decode cL_law 206 = .ok (.iaload, 1) := by decide +kernel
theorem dL_law_207 : decode cL_law 207 = .ok (.i2l, 1) := by decide +kernel
theorem dL_law_208 : decode cL_law 208 = .ok (.bipush 32, 2) := by decide +kernel
theorem dL_law_210 : decode cL_law 210 = .ok (.lshl, 1) := by decide +kernel
theorem dL_law_211 : decode cL_law 211 = .ok (.aload_n 0, 1) := by decide +kernel
theorem dL_law_212 : decode cL_law 212 = .ok (.iload_n 3, 1) := by decide +kernel
theorem dL_law_213 : decode cL_law 213 = .ok (.iconst 3, 1) := by decide +kernel
theorem dL_law_214 : decode cL_law 214 = .ok (.iadd, 1) := by decide +kernel
theorem dL_law_215 : decode cL_law 215 = .ok (.iaload, 1) := by decide +kernel
theorem dL_law_216 : decode cL_law 216 = .ok (.i2l, 1) := by decide +kernel
theorem dL_law_217 : decode cL_law 217 = .ok (.ldc2_w 13, 3) := by decide +kernel
theorem dL_law_220 : decode cL_law 220 = .ok (.land, 1) := by decide +kernel
theorem dL_law_221 : decode cL_law 221 = .ok (.lor, 1) := by decide +kernel
theorem dL_law_222 : decode cL_law 222 = .ok (.invokevirtual 15, 3) := by decide +kernel
theorem dL_law_225 : decode cL_law 225 = .ok (.aload_n 2, 1) := by decide +kernel
theorem dL_law_226 : decode cL_law 226 = .ok (.aload_n 0, 1) := by decide +kernel
theorem dL_law_227 : decode cL_law 227 = .ok (.iload_n 3, 1) := by decide +kernel
theorem dL_law_228 : decode cL_law 228 = .ok (.iconst 1, 1) := by decide +kernel
theorem dL_law_229 : decode cL_law 229 = .ok (.iadd, 1) := by decide +kernel
theorem dL_law_230 : decode cL_law 230 = .ok (.iaload, 1) := by decide +kernel
theorem dL_law_231 : decode cL_law 231 = .ok (.aload_n 0, 1) := by decide +kernel
theorem dL_law_232 : decode cL_law 232 = .ok (.iload_n 3, 1) := by decide +kernel
theorem dL_law_233 : decode cL_law 233 = .ok (.iconst 2, 1) := by decide +kernel
theorem dL_law_234 : decode cL_law 234 = .ok (.iadd, 1) := by decide +kernel
theorem dL_law_235 : decode cL_law 235 = .ok (.iaload, 1) := by decide +kernel
theorem dL_law_236 : decode cL_law 236 = .ok (.i2l, 1) := by decide +kernel
theorem dL_law_237 : decode cL_law 237 = .ok (.bipush 32, 2) := by decide +kernel
theorem dL_law_239 : decode cL_law 239 = .ok (.lshl, 1) := by decide +kernel
theorem dL_law_240 : decode cL_law 240 = .ok (.aload_n 0, 1) := by decide +kernel
theorem dL_law_241 : decode cL_law 241 = .ok (.iload_n 3, 1) := by decide +kernel
theorem dL_law_242 : decode cL_law 242 = .ok (.iconst 3, 1) := by decide +kernel
theorem dL_law_243 : decode cL_law 243 = .ok (.iadd, 1) := by decide +kernel
theorem dL_law_244 : decode cL_law 244 = .ok (.iaload, 1) := by decide +kernel
theorem dL_law_245 : decode cL_law 245 = .ok (.i2l, 1) := by decide +kernel
theorem dL_law_246 : decode cL_law 246 = .ok (.ldc2_w 13, 3) := by decide +kernel
theorem dL_law_249 : decode cL_law 249 = .ok (.land, 1) := by decide +kernel
theorem dL_law_250 : decode cL_law 250 = .ok (.lor, 1) := by decide +kernel
theorem dL_law_251 : decode cL_law 251 = .ok (.invokevirtual 19, 3) := by decide +kernel
theorem dL_law_254 : decode cL_law 254 = .ok (.if_icmp .eq 1323, 3) := by decide +kernel
theorem dL_law_257 : decode cL_law 257 = .ok (.iconst 0, 1) := by decide +kernel
theorem dL_law_258 : decode cL_law 258 = .ok (.ireturn, 1) := by decide +kernel
theorem dL_law_259 : decode cL_law 259 = .ok (.aload_n 1, 1) := by decide +kernel
theorem dL_law_260 : decode cL_law 260 = .ok (.aload_n 0, 1) := by decide +kernel
theorem dL_law_261 : decode cL_law 261 = .ok (.iload_n 3, 1) := by decide +kernel
theorem dL_law_262 : decode cL_law 262 = .ok (.iconst 1, 1) := by decide +kernel
theorem dL_law_263 : decode cL_law 263 = .ok (.iadd, 1) := by decide +kernel
theorem dL_law_264 : decode cL_law 264 = .ok (.iaload, 1) := by decide +kernel
theorem dL_law_265 : decode cL_law 265 = .ok (.aload_n 0, 1) := by decide +kernel
theorem dL_law_266 : decode cL_law 266 = .ok (.iload_n 3, 1) := by decide +kernel
theorem dL_law_267 : decode cL_law 267 = .ok (.iconst 2, 1) := by decide +kernel
theorem dL_law_268 : decode cL_law 268 = .ok (.iadd, 1) := by decide +kernel
theorem dL_law_269 : decode cL_law 269 = .ok (.iaload, 1) := by decide +kernel
theorem dL_law_270 : decode cL_law 270 = .ok (.aload_n 0, 1) := by decide +kernel
theorem dL_law_271 : decode cL_law 271 = .ok (.iload_n 3, 1) := by decide +kernel
theorem dL_law_272 : decode cL_law 272 = .ok (.iconst 3, 1) := by decide +kernel
theorem dL_law_273 : decode cL_law 273 = .ok (.iadd, 1) := by decide +kernel
theorem dL_law_274 : decode cL_law 274 = .ok (.iaload, 1) := by decide +kernel
theorem dL_law_275 : decode cL_law 275 = .ok (.invokevirtual 20, 3) := by decide +kernel
theorem dL_law_278 : decode cL_law 278 = .ok (.aload_n 2, 1) := by decide +kernel
theorem dL_law_279 : decode cL_law 279 = .ok (.aload_n 0, 1) := by decide +kernel
theorem dL_law_280 : decode cL_law 280 = .ok (.iload_n 3, 1) := by decide +kernel
theorem dL_law_281 : decode cL_law 281 = .ok (.iconst 1, 1) := by decide +kernel
theorem dL_law_282 : decode cL_law 282 = .ok (.iadd, 1) := by decide +kernel
theorem dL_law_283 : decode cL_law 283 = .ok (.iaload, 1) := by decide +kernel
theorem dL_law_284 : decode cL_law 284 = .ok (.aload_n 0, 1) := by decide +kernel
theorem dL_law_285 : decode cL_law 285 = .ok (.iload_n 3, 1) := by decide +kernel
theorem dL_law_286 : decode cL_law 286 = .ok (.iconst 2, 1) := by decide +kernel
theorem dL_law_287 : decode cL_law 287 = .ok (.iadd, 1) := by decide +kernel
theorem dL_law_288 : decode cL_law 288 = .ok (.iaload, 1) := by decide +kernel
theorem dL_law_289 : decode cL_law 289 = .ok (.aload_n 0, 1) := by decide +kernel
theorem dL_law_290 : decode cL_law 290 = .ok (.iload_n 3, 1) := by decide +kernel
theorem dL_law_291 : decode cL_law 291 = .ok (.iconst 3, 1) := by decide +kernel
theorem dL_law_292 : decode cL_law 292 = .ok (.iadd, 1) := by decide +kernel
theorem dL_law_293 : decode cL_law 293 = .ok (.iaload, 1) := by decide +kernel
theorem dL_law_294 : decode cL_law 294 = .ok (.invokevirtual 24, 3) := by decide +kernel
theorem dL_law_297 : decode cL_law 297 = .ok (.if_icmp .eq 1280, 3) := by decide +kernel
theorem dL_law_300 : decode cL_law 300 = .ok (.iconst 0, 1) := by decide +kernel
theorem dL_law_301 : decode cL_law 301 = .ok (.ireturn, 1) := by decide +kernel
theorem dL_law_302 : decode cL_law 302 = .ok (.aload_n 1, 1) := by decide +kernel
theorem dL_law_303 : decode cL_law 303 = .ok (.aload_n 0, 1) := by decide +kernel
theorem dL_law_304 : decode cL_law 304 = .ok (.iload_n 3, 1) := by decide +kernel
theorem dL_law_305 : decode cL_law 305 = .ok (.iconst 1, 1) := by decide +kernel
theorem dL_law_306 : decode cL_law 306 = .ok (.iadd, 1) := by decide +kernel
theorem dL_law_307 : decode cL_law 307 = .ok (.iaload, 1) := by decide +kernel
theorem dL_law_308 : decode cL_law 308 = .ok (.invokevirtual 25, 3) := by decide +kernel
theorem dL_law_311 : decode cL_law 311 = .ok (.aload_n 2, 1) := by decide +kernel
theorem dL_law_312 : decode cL_law 312 = .ok (.aload_n 0, 1) := by decide +kernel
theorem dL_law_313 : decode cL_law 313 = .ok (.iload_n 3, 1) := by decide +kernel
theorem dL_law_314 : decode cL_law 314 = .ok (.iconst 1, 1) := by decide +kernel
theorem dL_law_315 : decode cL_law 315 = .ok (.iadd, 1) := by decide +kernel
theorem dL_law_316 : decode cL_law 316 = .ok (.iaload, 1) := by decide +kernel
theorem dL_law_317 : decode cL_law 317 = .ok (.invokevirtual 29, 3) := by decide +kernel
theorem dL_law_320 : decode cL_law 320 = .ok (.if_icmp .eq 1257, 3) := by decide +kernel
theorem dL_law_323 : decode cL_law 323 = .ok (.iconst 0, 1) := by decide +kernel
theorem dL_law_324 : decode cL_law 324 = .ok (.ireturn, 1) := by decide +kernel
theorem dL_law_325 : decode cL_law 325 = .ok (.aload_n 1, 1) := by decide +kernel
theorem dL_law_326 : decode cL_law 326 = .ok (.aload_n 0, 1) := by decide +kernel
theorem dL_law_327 : decode cL_law 327 = .ok (.iload_n 3, 1) := by decide +kernel
theorem dL_law_328 : decode cL_law 328 = .ok (.iconst 1, 1) := by decide +kernel
theorem dL_law_329 : decode cL_law 329 = .ok (.iadd, 1) := by decide +kernel
theorem dL_law_330 : decode cL_law 330 = .ok (.iaload, 1) := by decide +kernel
theorem dL_law_331 : decode cL_law 331 = .ok (.invokevirtual 30, 3) := by decide +kernel
theorem dL_law_334 : decode cL_law 334 = .ok (.aload_n 2, 1) := by decide +kernel
theorem dL_law_335 : decode cL_law 335 = .ok (.aload_n 0, 1) := by decide +kernel
theorem dL_law_336 : decode cL_law 336 = .ok (.iload_n 3, 1) := by decide +kernel
theorem dL_law_337 : decode cL_law 337 = .ok (.iconst 1, 1) := by decide +kernel
theorem dL_law_338 : decode cL_law 338 = .ok (.iadd, 1) := by decide +kernel
theorem dL_law_339 : decode cL_law 339 = .ok (.iaload, 1) := by decide +kernel
theorem dL_law_340 : decode cL_law 340 = .ok (.invokevirtual 33, 3) := by decide +kernel
theorem dL_law_343 : decode cL_law 343 = .ok (.if_icmp .eq 1234, 3) := by decide +kernel
theorem dL_law_346 : decode cL_law 346 = .ok (.iconst 0, 1) := by decide +kernel
theorem dL_law_347 : decode cL_law 347 = .ok (.ireturn, 1) := by decide +kernel
theorem dL_law_348 : decode cL_law 348 = .ok (.aload_n 1, 1) := by decide +kernel
theorem dL_law_349 : decode cL_law 349 = .ok (.aload_n 0, 1) := by decide +kernel
theorem dL_law_350 : decode cL_law 350 = .ok (.iload_n 3, 1) := by decide +kernel
theorem dL_law_351 : decode cL_law 351 = .ok (.iconst 1, 1) := by decide +kernel
theorem dL_law_352 : decode cL_law 352 = .ok (.iadd, 1) := by decide +kernel
theorem dL_law_353 : decode cL_law 353 = .ok (.iaload, 1) := by decide +kernel
theorem dL_law_354 : decode cL_law 354 = .ok (.i2l, 1) := by decide +kernel
theorem dL_law_355 : decode cL_law 355 = .ok (.bipush 32, 2) := by decide +kernel
theorem dL_law_357 : decode cL_law 357 = .ok (.lshl, 1) := by decide +kernel
theorem dL_law_358 : decode cL_law 358 = .ok (.aload_n 0, 1) := by decide +kernel
theorem dL_law_359 : decode cL_law 359 = .ok (.iload_n 3, 1) := by decide +kernel
theorem dL_law_360 : decode cL_law 360 = .ok (.iconst 2, 1) := by decide +kernel
theorem dL_law_361 : decode cL_law 361 = .ok (.iadd, 1) := by decide +kernel
theorem dL_law_362 : decode cL_law 362 = .ok (.iaload, 1) := by decide +kernel
theorem dL_law_363 : decode cL_law 363 = .ok (.i2l, 1) := by decide +kernel
theorem dL_law_364 : decode cL_law 364 = .ok (.ldc2_w 13, 3) := by decide +kernel
theorem dL_law_367 : decode cL_law 367 = .ok (.land, 1) := by decide +kernel
theorem dL_law_368 : decode cL_law 368 = .ok (.lor, 1) := by decide +kernel
theorem dL_law_369 : decode cL_law 369 = .ok (.aload_n 0, 1) := by decide +kernel
theorem dL_law_370 : decode cL_law 370 = .ok (.iload_n 3, 1) := by decide +kernel
theorem dL_law_371 : decode cL_law 371 = .ok (.iconst 3, 1) := by decide +kernel
theorem dL_law_372 : decode cL_law 372 = .ok (.iadd, 1) := by decide +kernel
theorem dL_law_373 : decode cL_law 373 = .ok (.iaload, 1) := by decide +kernel
theorem dL_law_374 : decode cL_law 374 = .ok (.invokevirtual 34, 3) := by decide +kernel
theorem dL_law_377 : decode cL_law 377 = .ok (.aload_n 2, 1) := by decide +kernel
theorem dL_law_378 : decode cL_law 378 = .ok (.aload_n 0, 1) := by decide +kernel
theorem dL_law_379 : decode cL_law 379 = .ok (.iload_n 3, 1) := by decide +kernel
theorem dL_law_380 : decode cL_law 380 = .ok (.iconst 1, 1) := by decide +kernel
theorem dL_law_381 : decode cL_law 381 = .ok (.iadd, 1) := by decide +kernel
theorem dL_law_382 : decode cL_law 382 = .ok (.iaload, 1) := by decide +kernel
theorem dL_law_383 : decode cL_law 383 = .ok (.i2l, 1) := by decide +kernel
theorem dL_law_384 : decode cL_law 384 = .ok (.bipush 32, 2) := by decide +kernel
theorem dL_law_386 : decode cL_law 386 = .ok (.lshl, 1) := by decide +kernel
theorem dL_law_387 : decode cL_law 387 = .ok (.aload_n 0, 1) := by decide +kernel
theorem dL_law_388 : decode cL_law 388 = .ok (.iload_n 3, 1) := by decide +kernel
theorem dL_law_389 : decode cL_law 389 = .ok (.iconst 2, 1) := by decide +kernel
theorem dL_law_390 : decode cL_law 390 = .ok (.iadd, 1) := by decide +kernel
theorem dL_law_391 : decode cL_law 391 = .ok (.iaload, 1) := by decide +kernel
theorem dL_law_392 : decode cL_law 392 = .ok (.i2l, 1) := by decide +kernel
theorem dL_law_393 : decode cL_law 393 = .ok (.ldc2_w 13, 3) := by decide +kernel
theorem dL_law_396 : decode cL_law 396 = .ok (.land, 1) := by decide +kernel
theorem dL_law_397 : decode cL_law 397 = .ok (.lor, 1) := by decide +kernel
theorem dL_law_398 : decode cL_law 398 = .ok (.aload_n 0, 1) := by decide +kernel
theorem dL_law_399 : decode cL_law 399 = .ok (.iload_n 3, 1) := by decide +kernel
theorem dL_law_400 : decode cL_law 400 = .ok (.iconst 3, 1) := by decide +kernel
theorem dL_law_401 : decode cL_law 401 = .ok (.iadd, 1) := by decide +kernel
theorem dL_law_402 : decode cL_law 402 = .ok (.iaload, 1) := by decide +kernel
theorem dL_law_403 : decode cL_law 403 = .ok (.invokevirtual 38, 3) := by decide +kernel
theorem dL_law_406 : decode cL_law 406 = .ok (.if_icmp .eq 1171, 3) := by decide +kernel
theorem dL_law_409 : decode cL_law 409 = .ok (.iconst 0, 1) := by decide +kernel
theorem dL_law_410 : decode cL_law 410 = .ok (.ireturn, 1) := by decide +kernel
theorem dL_law_411 : decode cL_law 411 = .ok (.aload_n 1, 1) := by decide +kernel
theorem dL_law_412 : decode cL_law 412 = .ok (.aload_n 0, 1) := by decide +kernel
theorem dL_law_413 : decode cL_law 413 = .ok (.iload_n 3, 1) := by decide +kernel
theorem dL_law_414 : decode cL_law 414 = .ok (.iconst 1, 1) := by decide +kernel
theorem dL_law_415 : decode cL_law 415 = .ok (.iadd, 1) := by decide +kernel
theorem dL_law_416 : decode cL_law 416 = .ok (.iaload, 1) := by decide +kernel
theorem dL_law_417 : decode cL_law 417 = .ok (.invokevirtual 39, 3) := by decide +kernel
theorem dL_law_420 : decode cL_law 420 = .ok (.aload_n 2, 1) := by decide +kernel
theorem dL_law_421 : decode cL_law 421 = .ok (.aload_n 0, 1) := by decide +kernel
theorem dL_law_422 : decode cL_law 422 = .ok (.iload_n 3, 1) := by decide +kernel
theorem dL_law_423 : decode cL_law 423 = .ok (.iconst 1, 1) := by decide +kernel
theorem dL_law_424 : decode cL_law 424 = .ok (.iadd, 1) := by decide +kernel
theorem dL_law_425 : decode cL_law 425 = .ok (.iaload, 1) := by decide +kernel
theorem dL_law_426 : decode cL_law 426 = .ok (.invokevirtual 42, 3) := by decide +kernel
theorem dL_law_429 : decode cL_law 429 = .ok (.if_icmp .eq 1148, 3) := by decide +kernel
theorem dL_law_432 : decode cL_law 432 = .ok (.iconst 0, 1) := by decide +kernel
theorem dL_law_433 : decode cL_law 433 = .ok (.ireturn, 1) := by decide +kernel
theorem dL_law_434 : decode cL_law 434 = .ok (.aload_n 1, 1) := by decide +kernel
theorem dL_law_435 : decode cL_law 435 = .ok (.aload_n 0, 1) := by decide +kernel
theorem dL_law_436 : decode cL_law 436 = .ok (.iload_n 3, 1) := by decide +kernel
theorem dL_law_437 : decode cL_law 437 = .ok (.iconst 1, 1) := by decide +kernel
theorem dL_law_438 : decode cL_law 438 = .ok (.iadd, 1) := by decide +kernel
theorem dL_law_439 : decode cL_law 439 = .ok (.iaload, 1) := by decide +kernel
theorem dL_law_440 : decode cL_law 440 = .ok (.invokevirtual 43, 3) := by decide +kernel
theorem dL_law_443 : decode cL_law 443 = .ok (.aload_n 2, 1) := by decide +kernel
theorem dL_law_444 : decode cL_law 444 = .ok (.aload_n 0, 1) := by decide +kernel
theorem dL_law_445 : decode cL_law 445 = .ok (.iload_n 3, 1) := by decide +kernel
theorem dL_law_446 : decode cL_law 446 = .ok (.iconst 1, 1) := by decide +kernel
theorem dL_law_447 : decode cL_law 447 = .ok (.iadd, 1) := by decide +kernel
theorem dL_law_448 : decode cL_law 448 = .ok (.iaload, 1) := by decide +kernel
theorem dL_law_449 : decode cL_law 449 = .ok (.invokevirtual 46, 3) := by decide +kernel
theorem dL_law_452 : decode cL_law 452 = .ok (.if_icmp .eq 1125, 3) := by decide +kernel
theorem dL_law_455 : decode cL_law 455 = .ok (.iconst 0, 1) := by decide +kernel
theorem dL_law_456 : decode cL_law 456 = .ok (.ireturn, 1) := by decide +kernel
theorem dL_law_457 : decode cL_law 457 = .ok (.aload_n 1, 1) := by decide +kernel
theorem dL_law_458 : decode cL_law 458 = .ok (.aload_n 0, 1) := by decide +kernel
theorem dL_law_459 : decode cL_law 459 = .ok (.iload_n 3, 1) := by decide +kernel
theorem dL_law_460 : decode cL_law 460 = .ok (.iconst 1, 1) := by decide +kernel
theorem dL_law_461 : decode cL_law 461 = .ok (.iadd, 1) := by decide +kernel
theorem dL_law_462 : decode cL_law 462 = .ok (.iaload, 1) := by decide +kernel
theorem dL_law_463 : decode cL_law 463 = .ok (.aload_n 0, 1) := by decide +kernel
theorem dL_law_464 : decode cL_law 464 = .ok (.iload_n 3, 1) := by decide +kernel
theorem dL_law_465 : decode cL_law 465 = .ok (.iconst 2, 1) := by decide +kernel
theorem dL_law_466 : decode cL_law 466 = .ok (.iadd, 1) := by decide +kernel
theorem dL_law_467 : decode cL_law 467 = .ok (.iaload, 1) := by decide +kernel
theorem dL_law_468 : decode cL_law 468 = .ok (.invokevirtual 47, 3) := by decide +kernel
theorem dL_law_471 : decode cL_law 471 = .ok (.aload_n 2, 1) := by decide +kernel
theorem dL_law_472 : decode cL_law 472 = .ok (.aload_n 0, 1) := by decide +kernel
theorem dL_law_473 : decode cL_law 473 = .ok (.iload_n 3, 1) := by decide +kernel
theorem dL_law_474 : decode cL_law 474 = .ok (.iconst 1, 1) := by decide +kernel
theorem dL_law_475 : decode cL_law 475 = .ok (.iadd, 1) := by decide +kernel
theorem dL_law_476 : decode cL_law 476 = .ok (.iaload, 1) := by decide +kernel
theorem dL_law_477 : decode cL_law 477 = .ok (.aload_n 0, 1) := by decide +kernel
theorem dL_law_478 : decode cL_law 478 = .ok (.iload_n 3, 1) := by decide +kernel
theorem dL_law_479 : decode cL_law 479 = .ok (.iconst 2, 1) := by decide +kernel
theorem dL_law_480 : decode cL_law 480 = .ok (.iadd, 1) := by decide +kernel
theorem dL_law_481 : decode cL_law 481 = .ok (.iaload, 1) := by decide +kernel
theorem dL_law_482 : decode cL_law 482 = .ok (.invokevirtual 51, 3) := by decide +kernel
theorem dL_law_485 : decode cL_law 485 = .ok (.if_icmp .eq 1092, 3) := by decide +kernel
theorem dL_law_488 : decode cL_law 488 = .ok (.iconst 0, 1) := by decide +kernel
theorem dL_law_489 : decode cL_law 489 = .ok (.ireturn, 1) := by decide +kernel
theorem dL_law_490 : decode cL_law 490 = .ok (.aload_n 1, 1) := by decide +kernel
theorem dL_law_491 : decode cL_law 491 = .ok (.aload_n 0, 1) := by decide +kernel
theorem dL_law_492 : decode cL_law 492 = .ok (.iload_n 3, 1) := by decide +kernel
theorem dL_law_493 : decode cL_law 493 = .ok (.iconst 1, 1) := by decide +kernel
theorem dL_law_494 : decode cL_law 494 = .ok (.iadd, 1) := by decide +kernel
theorem dL_law_495 : decode cL_law 495 = .ok (.iaload, 1) := by decide +kernel
theorem dL_law_496 : decode cL_law 496 = .ok (.aload_n 0, 1) := by decide +kernel
theorem dL_law_497 : decode cL_law 497 = .ok (.iload_n 3, 1) := by decide +kernel
theorem dL_law_498 : decode cL_law 498 = .ok (.iconst 2, 1) := by decide +kernel
theorem dL_law_499 : decode cL_law 499 = .ok (.iadd, 1) := by decide +kernel
theorem dL_law_500 : decode cL_law 500 = .ok (.iaload, 1) := by decide +kernel
theorem dL_law_501 : decode cL_law 501 = .ok (.aload_n 0, 1) := by decide +kernel
theorem dL_law_502 : decode cL_law 502 = .ok (.iload_n 3, 1) := by decide +kernel
theorem dL_law_503 : decode cL_law 503 = .ok (.iconst 3, 1) := by decide +kernel
theorem dL_law_504 : decode cL_law 504 = .ok (.iadd, 1) := by decide +kernel
theorem dL_law_505 : decode cL_law 505 = .ok (.iaload, 1) := by decide +kernel
theorem dL_law_506 : decode cL_law 506 = .ok (.aload_n 0, 1) := by decide +kernel
theorem dL_law_507 : decode cL_law 507 = .ok (.iload_n 3, 1) := by decide +kernel
theorem dL_law_508 : decode cL_law 508 = .ok (.iconst 4, 1) := by decide +kernel
theorem dL_law_509 : decode cL_law 509 = .ok (.iadd, 1) := by decide +kernel
theorem dL_law_510 : decode cL_law 510 = .ok (.iaload, 1) := by decide +kernel
theorem dL_law_511 : decode cL_law 511 = .ok (.invokevirtual 52, 3) := by decide +kernel
theorem dL_law_514 : decode cL_law 514 = .ok (.aload_n 2, 1) := by decide +kernel
theorem dL_law_515 : decode cL_law 515 = .ok (.aload_n 0, 1) := by decide +kernel
theorem dL_law_516 : decode cL_law 516 = .ok (.iload_n 3, 1) := by decide +kernel
theorem dL_law_517 : decode cL_law 517 = .ok (.iconst 1, 1) := by decide +kernel
theorem dL_law_518 : decode cL_law 518 = .ok (.iadd, 1) := by decide +kernel
theorem dL_law_519 : decode cL_law 519 = .ok (.iaload, 1) := by decide +kernel
theorem dL_law_520 : decode cL_law 520 = .ok (.aload_n 0, 1) := by decide +kernel
theorem dL_law_521 : decode cL_law 521 = .ok (.iload_n 3, 1) := by decide +kernel
theorem dL_law_522 : decode cL_law 522 = .ok (.iconst 2, 1) := by decide +kernel
theorem dL_law_523 : decode cL_law 523 = .ok (.iadd, 1) := by decide +kernel
theorem dL_law_524 : decode cL_law 524 = .ok (.iaload, 1) := by decide +kernel
theorem dL_law_525 : decode cL_law 525 = .ok (.aload_n 0, 1) := by decide +kernel
theorem dL_law_526 : decode cL_law 526 = .ok (.iload_n 3, 1) := by decide +kernel
theorem dL_law_527 : decode cL_law 527 = .ok (.iconst 3, 1) := by decide +kernel
theorem dL_law_528 : decode cL_law 528 = .ok (.iadd, 1) := by decide +kernel
theorem dL_law_529 : decode cL_law 529 = .ok (.iaload, 1) := by decide +kernel
theorem dL_law_530 : decode cL_law 530 = .ok (.aload_n 0, 1) := by decide +kernel
theorem dL_law_531 : decode cL_law 531 = .ok (.iload_n 3, 1) := by decide +kernel
theorem dL_law_532 : decode cL_law 532 = .ok (.iconst 4, 1) := by decide +kernel
theorem dL_law_533 : decode cL_law 533 = .ok (.iadd, 1) := by decide +kernel
theorem dL_law_534 : decode cL_law 534 = .ok (.iaload, 1) := by decide +kernel
theorem dL_law_535 : decode cL_law 535 = .ok (.invokevirtual 56, 3) := by decide +kernel
theorem dL_law_538 : decode cL_law 538 = .ok (.if_icmp .eq 1039, 3) := by decide +kernel
theorem dL_law_541 : decode cL_law 541 = .ok (.iconst 0, 1) := by decide +kernel
theorem dL_law_542 : decode cL_law 542 = .ok (.ireturn, 1) := by decide +kernel
theorem dL_law_543 : decode cL_law 543 = .ok (.aload_n 1, 1) := by decide +kernel
theorem dL_law_544 : decode cL_law 544 = .ok (.aload_n 0, 1) := by decide +kernel
theorem dL_law_545 : decode cL_law 545 = .ok (.iload_n 3, 1) := by decide +kernel
theorem dL_law_546 : decode cL_law 546 = .ok (.iconst 1, 1) := by decide +kernel
theorem dL_law_547 : decode cL_law 547 = .ok (.iadd, 1) := by decide +kernel
theorem dL_law_548 : decode cL_law 548 = .ok (.iaload, 1) := by decide +kernel
theorem dL_law_549 : decode cL_law 549 = .ok (.aload_n 0, 1) := by decide +kernel
theorem dL_law_550 : decode cL_law 550 = .ok (.iload_n 3, 1) := by decide +kernel
theorem dL_law_551 : decode cL_law 551 = .ok (.iconst 2, 1) := by decide +kernel
theorem dL_law_552 : decode cL_law 552 = .ok (.iadd, 1) := by decide +kernel
theorem dL_law_553 : decode cL_law 553 = .ok (.iaload, 1) := by decide +kernel
theorem dL_law_554 : decode cL_law 554 = .ok (.invokevirtual 57, 3) := by decide +kernel
theorem dL_law_557 : decode cL_law 557 = .ok (.aload_n 2, 1) := by decide +kernel
theorem dL_law_558 : decode cL_law 558 = .ok (.aload_n 0, 1) := by decide +kernel
theorem dL_law_559 : decode cL_law 559 = .ok (.iload_n 3, 1) := by decide +kernel
theorem dL_law_560 : decode cL_law 560 = .ok (.iconst 1, 1) := by decide +kernel
theorem dL_law_561 : decode cL_law 561 = .ok (.iadd, 1) := by decide +kernel
theorem dL_law_562 : decode cL_law 562 = .ok (.iaload, 1) := by decide +kernel
theorem dL_law_563 : decode cL_law 563 = .ok (.aload_n 0, 1) := by decide +kernel
theorem dL_law_564 : decode cL_law 564 = .ok (.iload_n 3, 1) := by decide +kernel
theorem dL_law_565 : decode cL_law 565 = .ok (.iconst 2, 1) := by decide +kernel
theorem dL_law_566 : decode cL_law 566 = .ok (.iadd, 1) := by decide +kernel
theorem dL_law_567 : decode cL_law 567 = .ok (.iaload, 1) := by decide +kernel
theorem dL_law_568 : decode cL_law 568 = .ok (.invokevirtual 60, 3) := by decide +kernel
theorem dL_law_571 : decode cL_law 571 = .ok (.if_icmp .eq 1006, 3) := by decide +kernel
theorem dL_law_574 : decode cL_law 574 = .ok (.iconst 0, 1) := by decide +kernel
theorem dL_law_575 : decode cL_law 575 = .ok (.ireturn, 1) := by decide +kernel
theorem dL_law_576 : decode cL_law 576 = .ok (.aload_n 1, 1) := by decide +kernel
theorem dL_law_577 : decode cL_law 577 = .ok (.aload_n 0, 1) := by decide +kernel
theorem dL_law_578 : decode cL_law 578 = .ok (.iload_n 3, 1) := by decide +kernel
theorem dL_law_579 : decode cL_law 579 = .ok (.iconst 1, 1) := by decide +kernel
theorem dL_law_580 : decode cL_law 580 = .ok (.iadd, 1) := by decide +kernel
theorem dL_law_581 : decode cL_law 581 = .ok (.iaload, 1) := by decide +kernel
theorem dL_law_582 : decode cL_law 582 = .ok (.aload_n 0, 1) := by decide +kernel
theorem dL_law_583 : decode cL_law 583 = .ok (.iload_n 3, 1) := by decide +kernel
theorem dL_law_584 : decode cL_law 584 = .ok (.iconst 2, 1) := by decide +kernel
theorem dL_law_585 : decode cL_law 585 = .ok (.iadd, 1) := by decide +kernel
theorem dL_law_586 : decode cL_law 586 = .ok (.iaload, 1) := by decide +kernel
theorem dL_law_587 : decode cL_law 587 = .ok (.invokevirtual 61, 3) := by decide +kernel
theorem dL_law_590 : decode cL_law 590 = .ok (.aload_n 2, 1) := by decide +kernel
theorem dL_law_591 : decode cL_law 591 = .ok (.aload_n 0, 1) := by decide +kernel
theorem dL_law_592 : decode cL_law 592 = .ok (.iload_n 3, 1) := by decide +kernel
theorem dL_law_593 : decode cL_law 593 = .ok (.iconst 1, 1) := by decide +kernel
theorem dL_law_594 : decode cL_law 594 = .ok (.iadd, 1) := by decide +kernel
theorem dL_law_595 : decode cL_law 595 = .ok (.iaload, 1) := by decide +kernel
theorem dL_law_596 : decode cL_law 596 = .ok (.aload_n 0, 1) := by decide +kernel
theorem dL_law_597 : decode cL_law 597 = .ok (.iload_n 3, 1) := by decide +kernel
theorem dL_law_598 : decode cL_law 598 = .ok (.iconst 2, 1) := by decide +kernel
theorem dL_law_599 : decode cL_law 599 = .ok (.iadd, 1) := by decide +kernel
theorem dL_law_600 : decode cL_law 600 = .ok (.iaload, 1) := by decide +kernel
theorem dL_law_601 : decode cL_law 601 = .ok (.invokevirtual 64, 3) := by decide +kernel
theorem dL_law_604 : decode cL_law 604 = .ok (.if_icmp .eq 973, 3) := by decide +kernel
theorem dL_law_607 : decode cL_law 607 = .ok (.iconst 0, 1) := by decide +kernel
theorem dL_law_608 : decode cL_law 608 = .ok (.ireturn, 1) := by decide +kernel
theorem dL_law_609 : decode cL_law 609 = .ok (.aload_n 1, 1) := by decide +kernel
theorem dL_law_610 : decode cL_law 610 = .ok (.aload_n 0, 1) := by decide +kernel
theorem dL_law_611 : decode cL_law 611 = .ok (.iload_n 3, 1) := by decide +kernel
theorem dL_law_612 : decode cL_law 612 = .ok (.iconst 1, 1) := by decide +kernel
theorem dL_law_613 : decode cL_law 613 = .ok (.iadd, 1) := by decide +kernel
theorem dL_law_614 : decode cL_law 614 = .ok (.iaload, 1) := by decide +kernel
theorem dL_law_615 : decode cL_law 615 = .ok (.aload_n 0, 1) := by decide +kernel
theorem dL_law_616 : decode cL_law 616 = .ok (.iload_n 3, 1) := by decide +kernel
theorem dL_law_617 : decode cL_law 617 = .ok (.iconst 2, 1) := by decide +kernel
theorem dL_law_618 : decode cL_law 618 = .ok (.iadd, 1) := by decide +kernel
theorem dL_law_619 : decode cL_law 619 = .ok (.iaload, 1) := by decide +kernel
theorem dL_law_620 : decode cL_law 620 = .ok (.aload_n 0, 1) := by decide +kernel
theorem dL_law_621 : decode cL_law 621 = .ok (.iload_n 3, 1) := by decide +kernel
theorem dL_law_622 : decode cL_law 622 = .ok (.iconst 3, 1) := by decide +kernel
theorem dL_law_623 : decode cL_law 623 = .ok (.iadd, 1) := by decide +kernel
theorem dL_law_624 : decode cL_law 624 = .ok (.iaload, 1) := by decide +kernel
theorem dL_law_625 : decode cL_law 625 = .ok (.invokevirtual 65, 3) := by decide +kernel
theorem dL_law_628 : decode cL_law 628 = .ok (.aload_n 2, 1) := by decide +kernel
theorem dL_law_629 : decode cL_law 629 = .ok (.aload_n 0, 1) := by decide +kernel
theorem dL_law_630 : decode cL_law 630 = .ok (.iload_n 3, 1) := by decide +kernel
theorem dL_law_631 : decode cL_law 631 = .ok (.iconst 1, 1) := by decide +kernel
theorem dL_law_632 : decode cL_law 632 = .ok (.iadd, 1) := by decide +kernel
theorem dL_law_633 : decode cL_law 633 = .ok (.iaload, 1) := by decide +kernel
theorem dL_law_634 : decode cL_law 634 = .ok (.aload_n 0, 1) := by decide +kernel
theorem dL_law_635 : decode cL_law 635 = .ok (.iload_n 3, 1) := by decide +kernel
theorem dL_law_636 : decode cL_law 636 = .ok (.iconst 2, 1) := by decide +kernel
theorem dL_law_637 : decode cL_law 637 = .ok (.iadd, 1) := by decide +kernel
theorem dL_law_638 : decode cL_law 638 = .ok (.iaload, 1) := by decide +kernel
theorem dL_law_639 : decode cL_law 639 = .ok (.aload_n 0, 1) := by decide +kernel
theorem dL_law_640 : decode cL_law 640 = .ok (.iload_n 3, 1) := by decide +kernel
theorem dL_law_641 : decode cL_law 641 = .ok (.iconst 3, 1) := by decide +kernel
theorem dL_law_642 : decode cL_law 642 = .ok (.iadd, 1) := by decide +kernel
theorem dL_law_643 : decode cL_law 643 = .ok (.iaload, 1) := by decide +kernel
theorem dL_law_644 : decode cL_law 644 = .ok (.invokevirtual 68, 3) := by decide +kernel
theorem dL_law_647 : decode cL_law 647 = .ok (.if_icmp .eq 930, 3) := by decide +kernel
theorem dL_law_650 : decode cL_law 650 = .ok (.iconst 0, 1) := by decide +kernel
theorem dL_law_651 : decode cL_law 651 = .ok (.ireturn, 1) := by decide +kernel
theorem dL_law_652 : decode cL_law 652 = .ok (.aload_n 1, 1) := by decide +kernel
theorem dL_law_653 : decode cL_law 653 = .ok (.aload_n 0, 1) := by decide +kernel
theorem dL_law_654 : decode cL_law 654 = .ok (.iload_n 3, 1) := by decide +kernel
theorem dL_law_655 : decode cL_law 655 = .ok (.iconst 1, 1) := by decide +kernel
theorem dL_law_656 : decode cL_law 656 = .ok (.iadd, 1) := by decide +kernel
theorem dL_law_657 : decode cL_law 657 = .ok (.iaload, 1) := by decide +kernel
theorem dL_law_658 : decode cL_law 658 = .ok (.aload_n 0, 1) := by decide +kernel
theorem dL_law_659 : decode cL_law 659 = .ok (.iload_n 3, 1) := by decide +kernel
theorem dL_law_660 : decode cL_law 660 = .ok (.iconst 2, 1) := by decide +kernel
theorem dL_law_661 : decode cL_law 661 = .ok (.iadd, 1) := by decide +kernel
theorem dL_law_662 : decode cL_law 662 = .ok (.iaload, 1) := by decide +kernel
theorem dL_law_663 : decode cL_law 663 = .ok (.aload_n 0, 1) := by decide +kernel
theorem dL_law_664 : decode cL_law 664 = .ok (.iload_n 3, 1) := by decide +kernel
theorem dL_law_665 : decode cL_law 665 = .ok (.iconst 3, 1) := by decide +kernel
theorem dL_law_666 : decode cL_law 666 = .ok (.iadd, 1) := by decide +kernel
theorem dL_law_667 : decode cL_law 667 = .ok (.iaload, 1) := by decide +kernel
theorem dL_law_668 : decode cL_law 668 = .ok (.invokevirtual 69, 3) := by decide +kernel
theorem dL_law_671 : decode cL_law 671 = .ok (.aload_n 2, 1) := by decide +kernel
theorem dL_law_672 : decode cL_law 672 = .ok (.aload_n 0, 1) := by decide +kernel
theorem dL_law_673 : decode cL_law 673 = .ok (.iload_n 3, 1) := by decide +kernel
theorem dL_law_674 : decode cL_law 674 = .ok (.iconst 1, 1) := by decide +kernel
theorem dL_law_675 : decode cL_law 675 = .ok (.iadd, 1) := by decide +kernel
theorem dL_law_676 : decode cL_law 676 = .ok (.iaload, 1) := by decide +kernel
theorem dL_law_677 : decode cL_law 677 = .ok (.aload_n 0, 1) := by decide +kernel
theorem dL_law_678 : decode cL_law 678 = .ok (.iload_n 3, 1) := by decide +kernel
theorem dL_law_679 : decode cL_law 679 = .ok (.iconst 2, 1) := by decide +kernel
theorem dL_law_680 : decode cL_law 680 = .ok (.iadd, 1) := by decide +kernel
theorem dL_law_681 : decode cL_law 681 = .ok (.iaload, 1) := by decide +kernel
theorem dL_law_682 : decode cL_law 682 = .ok (.aload_n 0, 1) := by decide +kernel
theorem dL_law_683 : decode cL_law 683 = .ok (.iload_n 3, 1) := by decide +kernel
theorem dL_law_684 : decode cL_law 684 = .ok (.iconst 3, 1) := by decide +kernel
theorem dL_law_685 : decode cL_law 685 = .ok (.iadd, 1) := by decide +kernel
theorem dL_law_686 : decode cL_law 686 = .ok (.iaload, 1) := by decide +kernel
theorem dL_law_687 : decode cL_law 687 = .ok (.invokevirtual 72, 3) := by decide +kernel
theorem dL_law_690 : decode cL_law 690 = .ok (.if_icmp .eq 887, 3) := by decide +kernel
theorem dL_law_693 : decode cL_law 693 = .ok (.iconst 0, 1) := by decide +kernel
theorem dL_law_694 : decode cL_law 694 = .ok (.ireturn, 1) := by decide +kernel
theorem dL_law_695 : decode cL_law 695 = .ok (.aload_n 1, 1) := by decide +kernel
theorem dL_law_696 : decode cL_law 696 = .ok (.aload_n 0, 1) := by decide +kernel
theorem dL_law_697 : decode cL_law 697 = .ok (.iload_n 3, 1) := by decide +kernel
theorem dL_law_698 : decode cL_law 698 = .ok (.iconst 1, 1) := by decide +kernel
theorem dL_law_699 : decode cL_law 699 = .ok (.iadd, 1) := by decide +kernel
theorem dL_law_700 : decode cL_law 700 = .ok (.iaload, 1) := by decide +kernel
theorem dL_law_701 : decode cL_law 701 = .ok (.aload_n 0, 1) := by decide +kernel
theorem dL_law_702 : decode cL_law 702 = .ok (.iload_n 3, 1) := by decide +kernel
theorem dL_law_703 : decode cL_law 703 = .ok (.iconst 2, 1) := by decide +kernel
theorem dL_law_704 : decode cL_law 704 = .ok (.iadd, 1) := by decide +kernel
theorem dL_law_705 : decode cL_law 705 = .ok (.iaload, 1) := by decide +kernel
theorem dL_law_706 : decode cL_law 706 = .ok (.invokevirtual 73, 3) := by decide +kernel
theorem dL_law_709 : decode cL_law 709 = .ok (.aload_n 2, 1) := by decide +kernel
theorem dL_law_710 : decode cL_law 710 = .ok (.aload_n 0, 1) := by decide +kernel
theorem dL_law_711 : decode cL_law 711 = .ok (.iload_n 3, 1) := by decide +kernel
theorem dL_law_712 : decode cL_law 712 = .ok (.iconst 1, 1) := by decide +kernel
theorem dL_law_713 : decode cL_law 713 = .ok (.iadd, 1) := by decide +kernel
theorem dL_law_714 : decode cL_law 714 = .ok (.iaload, 1) := by decide +kernel
theorem dL_law_715 : decode cL_law 715 = .ok (.aload_n 0, 1) := by decide +kernel
theorem dL_law_716 : decode cL_law 716 = .ok (.iload_n 3, 1) := by decide +kernel
theorem dL_law_717 : decode cL_law 717 = .ok (.iconst 2, 1) := by decide +kernel
theorem dL_law_718 : decode cL_law 718 = .ok (.iadd, 1) := by decide +kernel
theorem dL_law_719 : decode cL_law 719 = .ok (.iaload, 1) := by decide +kernel
theorem dL_law_720 : decode cL_law 720 = .ok (.invokevirtual 76, 3) := by decide +kernel
theorem dL_law_723 : decode cL_law 723 = .ok (.if_icmp .eq 854, 3) := by decide +kernel
theorem dL_law_726 : decode cL_law 726 = .ok (.iconst 0, 1) := by decide +kernel
theorem dL_law_727 : decode cL_law 727 = .ok (.ireturn, 1) := by decide +kernel
theorem dL_law_728 : decode cL_law 728 = .ok (.aload_n 1, 1) := by decide +kernel
theorem dL_law_729 : decode cL_law 729 = .ok (.aload_n 0, 1) := by decide +kernel
theorem dL_law_730 : decode cL_law 730 = .ok (.iload_n 3, 1) := by decide +kernel
theorem dL_law_731 : decode cL_law 731 = .ok (.iconst 1, 1) := by decide +kernel
theorem dL_law_732 : decode cL_law 732 = .ok (.iadd, 1) := by decide +kernel
theorem dL_law_733 : decode cL_law 733 = .ok (.iaload, 1) := by decide +kernel
theorem dL_law_734 : decode cL_law 734 = .ok (.aload_n 0, 1) := by decide +kernel
theorem dL_law_735 : decode cL_law 735 = .ok (.iload_n 3, 1) := by decide +kernel
theorem dL_law_736 : decode cL_law 736 = .ok (.iconst 2, 1) := by decide +kernel
theorem dL_law_737 : decode cL_law 737 = .ok (.iadd, 1) := by decide +kernel
theorem dL_law_738 : decode cL_law 738 = .ok (.iaload, 1) := by decide +kernel
theorem dL_law_739 : decode cL_law 739 = .ok (.aload_n 0, 1) := by decide +kernel
theorem dL_law_740 : decode cL_law 740 = .ok (.iload_n 3, 1) := by decide +kernel
theorem dL_law_741 : decode cL_law 741 = .ok (.iconst 3, 1) := by decide +kernel
theorem dL_law_742 : decode cL_law 742 = .ok (.iadd, 1) := by decide +kernel
theorem dL_law_743 : decode cL_law 743 = .ok (.iaload, 1) := by decide +kernel
theorem dL_law_744 : decode cL_law 744 = .ok (.invokevirtual 77, 3) := by decide +kernel
theorem dL_law_747 : decode cL_law 747 = .ok (.aload_n 2, 1) := by decide +kernel
theorem dL_law_748 : decode cL_law 748 = .ok (.aload_n 0, 1) := by decide +kernel
theorem dL_law_749 : decode cL_law 749 = .ok (.iload_n 3, 1) := by decide +kernel
theorem dL_law_750 : decode cL_law 750 = .ok (.iconst 1, 1) := by decide +kernel
theorem dL_law_751 : decode cL_law 751 = .ok (.iadd, 1) := by decide +kernel
theorem dL_law_752 : decode cL_law 752 = .ok (.iaload, 1) := by decide +kernel
theorem dL_law_753 : decode cL_law 753 = .ok (.aload_n 0, 1) := by decide +kernel
theorem dL_law_754 : decode cL_law 754 = .ok (.iload_n 3, 1) := by decide +kernel
theorem dL_law_755 : decode cL_law 755 = .ok (.iconst 2, 1) := by decide +kernel
theorem dL_law_756 : decode cL_law 756 = .ok (.iadd, 1) := by decide +kernel
theorem dL_law_757 : decode cL_law 757 = .ok (.iaload, 1) := by decide +kernel
theorem dL_law_758 : decode cL_law 758 = .ok (.aload_n 0, 1) := by decide +kernel
theorem dL_law_759 : decode cL_law 759 = .ok (.iload_n 3, 1) := by decide +kernel
theorem dL_law_760 : decode cL_law 760 = .ok (.iconst 3, 1) := by decide +kernel
theorem dL_law_761 : decode cL_law 761 = .ok (.iadd, 1) := by decide +kernel
theorem dL_law_762 : decode cL_law 762 = .ok (.iaload, 1) := by decide +kernel
theorem dL_law_763 : decode cL_law 763 = .ok (.invokevirtual 80, 3) := by decide +kernel
theorem dL_law_766 : decode cL_law 766 = .ok (.if_icmp .eq 811, 3) := by decide +kernel
theorem dL_law_769 : decode cL_law 769 = .ok (.iconst 0, 1) := by decide +kernel
theorem dL_law_770 : decode cL_law 770 = .ok (.ireturn, 1) := by decide +kernel
theorem dL_law_771 : decode cL_law 771 = .ok (.aload_n 1, 1) := by decide +kernel
theorem dL_law_772 : decode cL_law 772 = .ok (.aload_n 0, 1) := by decide +kernel
theorem dL_law_773 : decode cL_law 773 = .ok (.iload_n 3, 1) := by decide +kernel
theorem dL_law_774 : decode cL_law 774 = .ok (.iconst 1, 1) := by decide +kernel
theorem dL_law_775 : decode cL_law 775 = .ok (.iadd, 1) := by decide +kernel
theorem dL_law_776 : decode cL_law 776 = .ok (.iaload, 1) := by decide +kernel
theorem dL_law_777 : decode cL_law 777 = .ok (.aload_n 0, 1) := by decide +kernel
theorem dL_law_778 : decode cL_law 778 = .ok (.iload_n 3, 1) := by decide +kernel
theorem dL_law_779 : decode cL_law 779 = .ok (.iconst 2, 1) := by decide +kernel
theorem dL_law_780 : decode cL_law 780 = .ok (.iadd, 1) := by decide +kernel
theorem dL_law_781 : decode cL_law 781 = .ok (.iaload, 1) := by decide +kernel
theorem dL_law_782 : decode cL_law 782 = .ok (.aload_n 0, 1) := by decide +kernel
theorem dL_law_783 : decode cL_law 783 = .ok (.iload_n 3, 1) := by decide +kernel
theorem dL_law_784 : decode cL_law 784 = .ok (.iconst 3, 1) := by decide +kernel
theorem dL_law_785 : decode cL_law 785 = .ok (.iadd, 1) := by decide +kernel
theorem dL_law_786 : decode cL_law 786 = .ok (.iaload, 1) := by decide +kernel
theorem dL_law_787 : decode cL_law 787 = .ok (.aload_n 0, 1) := by decide +kernel
theorem dL_law_788 : decode cL_law 788 = .ok (.iload_n 3, 1) := by decide +kernel
theorem dL_law_789 : decode cL_law 789 = .ok (.iconst 4, 1) := by decide +kernel
theorem dL_law_790 : decode cL_law 790 = .ok (.iadd, 1) := by decide +kernel
theorem dL_law_791 : decode cL_law 791 = .ok (.iaload, 1) := by decide +kernel
theorem dL_law_792 : decode cL_law 792 = .ok (.invokevirtual 81, 3) := by decide +kernel
theorem dL_law_795 : decode cL_law 795 = .ok (.aload_n 2, 1) := by decide +kernel
theorem dL_law_796 : decode cL_law 796 = .ok (.aload_n 0, 1) := by decide +kernel
theorem dL_law_797 : decode cL_law 797 = .ok (.iload_n 3, 1) := by decide +kernel
theorem dL_law_798 : decode cL_law 798 = .ok (.iconst 1, 1) := by decide +kernel
theorem dL_law_799 : decode cL_law 799 = .ok (.iadd, 1) := by decide +kernel
theorem dL_law_800 : decode cL_law 800 = .ok (.iaload, 1) := by decide +kernel
theorem dL_law_801 : decode cL_law 801 = .ok (.aload_n 0, 1) := by decide +kernel
theorem dL_law_802 : decode cL_law 802 = .ok (.iload_n 3, 1) := by decide +kernel
theorem dL_law_803 : decode cL_law 803 = .ok (.iconst 2, 1) := by decide +kernel
theorem dL_law_804 : decode cL_law 804 = .ok (.iadd, 1) := by decide +kernel
theorem dL_law_805 : decode cL_law 805 = .ok (.iaload, 1) := by decide +kernel
theorem dL_law_806 : decode cL_law 806 = .ok (.aload_n 0, 1) := by decide +kernel
theorem dL_law_807 : decode cL_law 807 = .ok (.iload_n 3, 1) := by decide +kernel
theorem dL_law_808 : decode cL_law 808 = .ok (.iconst 3, 1) := by decide +kernel
theorem dL_law_809 : decode cL_law 809 = .ok (.iadd, 1) := by decide +kernel
theorem dL_law_810 : decode cL_law 810 = .ok (.iaload, 1) := by decide +kernel
theorem dL_law_811 : decode cL_law 811 = .ok (.aload_n 0, 1) := by decide +kernel
theorem dL_law_812 : decode cL_law 812 = .ok (.iload_n 3, 1) := by decide +kernel
theorem dL_law_813 : decode cL_law 813 = .ok (.iconst 4, 1) := by decide +kernel
theorem dL_law_814 : decode cL_law 814 = .ok (.iadd, 1) := by decide +kernel
theorem dL_law_815 : decode cL_law 815 = .ok (.iaload, 1) := by decide +kernel
theorem dL_law_816 : decode cL_law 816 = .ok (.invokevirtual 84, 3) := by decide +kernel
theorem dL_law_819 : decode cL_law 819 = .ok (.if_icmp .eq 758, 3) := by decide +kernel
theorem dL_law_822 : decode cL_law 822 = .ok (.iconst 0, 1) := by decide +kernel
theorem dL_law_823 : decode cL_law 823 = .ok (.ireturn, 1) := by decide +kernel
theorem dL_law_824 : decode cL_law 824 = .ok (.aload_n 1, 1) := by decide +kernel
theorem dL_law_825 : decode cL_law 825 = .ok (.aload_n 0, 1) := by decide +kernel
theorem dL_law_826 : decode cL_law 826 = .ok (.iload_n 3, 1) := by decide +kernel
theorem dL_law_827 : decode cL_law 827 = .ok (.iconst 1, 1) := by decide +kernel
theorem dL_law_828 : decode cL_law 828 = .ok (.iadd, 1) := by decide +kernel
theorem dL_law_829 : decode cL_law 829 = .ok (.iaload, 1) := by decide +kernel
theorem dL_law_830 : decode cL_law 830 = .ok (.invokevirtual 85, 3) := by decide +kernel
theorem dL_law_833 : decode cL_law 833 = .ok (.aload_n 2, 1) := by decide +kernel
theorem dL_law_834 : decode cL_law 834 = .ok (.aload_n 0, 1) := by decide +kernel
theorem dL_law_835 : decode cL_law 835 = .ok (.iload_n 3, 1) := by decide +kernel
theorem dL_law_836 : decode cL_law 836 = .ok (.iconst 1, 1) := by decide +kernel
theorem dL_law_837 : decode cL_law 837 = .ok (.iadd, 1) := by decide +kernel
theorem dL_law_838 : decode cL_law 838 = .ok (.iaload, 1) := by decide +kernel
theorem dL_law_839 : decode cL_law 839 = .ok (.invokevirtual 88, 3) := by decide +kernel
theorem dL_law_842 : decode cL_law 842 = .ok (.if_icmp .eq 735, 3) := by decide +kernel
theorem dL_law_845 : decode cL_law 845 = .ok (.iconst 0, 1) := by decide +kernel
theorem dL_law_846 : decode cL_law 846 = .ok (.ireturn, 1) := by decide +kernel
theorem dL_law_847 : decode cL_law 847 = .ok (.aload_n 1, 1) := by decide +kernel
theorem dL_law_848 : decode cL_law 848 = .ok (.aload_n 0, 1) := by decide +kernel
theorem dL_law_849 : decode cL_law 849 = .ok (.iload_n 3, 1) := by decide +kernel
theorem dL_law_850 : decode cL_law 850 = .ok (.iconst 1, 1) := by decide +kernel
theorem dL_law_851 : decode cL_law 851 = .ok (.iadd, 1) := by decide +kernel
theorem dL_law_852 : decode cL_law 852 = .ok (.iaload, 1) := by decide +kernel
theorem dL_law_853 : decode cL_law 853 = .ok (.aload_n 0, 1) := by decide +kernel
theorem dL_law_854 : decode cL_law 854 = .ok (.iload_n 3, 1) := by decide +kernel
theorem dL_law_855 : decode cL_law 855 = .ok (.iconst 2, 1) := by decide +kernel
theorem dL_law_856 : decode cL_law 856 = .ok (.iadd, 1) := by decide +kernel
theorem dL_law_857 : decode cL_law 857 = .ok (.iaload, 1) := by decide +kernel
theorem dL_law_858 : decode cL_law 858 = .ok (.invokevirtual 89, 3) := by decide +kernel
theorem dL_law_861 : decode cL_law 861 = .ok (.aload_n 2, 1) := by decide +kernel
theorem dL_law_862 : decode cL_law 862 = .ok (.aload_n 0, 1) := by decide +kernel
theorem dL_law_863 : decode cL_law 863 = .ok (.iload_n 3, 1) := by decide +kernel
theorem dL_law_864 : decode cL_law 864 = .ok (.iconst 1, 1) := by decide +kernel
theorem dL_law_865 : decode cL_law 865 = .ok (.iadd, 1) := by decide +kernel
theorem dL_law_866 : decode cL_law 866 = .ok (.iaload, 1) := by decide +kernel
theorem dL_law_867 : decode cL_law 867 = .ok (.aload_n 0, 1) := by decide +kernel
theorem dL_law_868 : decode cL_law 868 = .ok (.iload_n 3, 1) := by decide +kernel
theorem dL_law_869 : decode cL_law 869 = .ok (.iconst 2, 1) := by decide +kernel
theorem dL_law_870 : decode cL_law 870 = .ok (.iadd, 1) := by decide +kernel
theorem dL_law_871 : decode cL_law 871 = .ok (.iaload, 1) := by decide +kernel
theorem dL_law_872 : decode cL_law 872 = .ok (.invokevirtual 92, 3) := by decide +kernel
theorem dL_law_875 : decode cL_law 875 = .ok (.if_icmp .eq 702, 3) := by decide +kernel
theorem dL_law_878 : decode cL_law 878 = .ok (.iconst 0, 1) := by decide +kernel
theorem dL_law_879 : decode cL_law 879 = .ok (.ireturn, 1) := by decide +kernel
theorem dL_law_880 : decode cL_law 880 = .ok (.aload_n 1, 1) := by decide +kernel
theorem dL_law_881 : decode cL_law 881 = .ok (.aload_n 0, 1) := by decide +kernel
theorem dL_law_882 : decode cL_law 882 = .ok (.iload_n 3, 1) := by decide +kernel
theorem dL_law_883 : decode cL_law 883 = .ok (.iconst 1, 1) := by decide +kernel
theorem dL_law_884 : decode cL_law 884 = .ok (.iadd, 1) := by decide +kernel
theorem dL_law_885 : decode cL_law 885 = .ok (.iaload, 1) := by decide +kernel
theorem dL_law_886 : decode cL_law 886 = .ok (.aload_n 0, 1) := by decide +kernel
theorem dL_law_887 : decode cL_law 887 = .ok (.iload_n 3, 1) := by decide +kernel
theorem dL_law_888 : decode cL_law 888 = .ok (.iconst 2, 1) := by decide +kernel
theorem dL_law_889 : decode cL_law 889 = .ok (.iadd, 1) := by decide +kernel
theorem dL_law_890 : decode cL_law 890 = .ok (.iaload, 1) := by decide +kernel
theorem dL_law_891 : decode cL_law 891 = .ok (.aload_n 0, 1) := by decide +kernel
theorem dL_law_892 : decode cL_law 892 = .ok (.iload_n 3, 1) := by decide +kernel
theorem dL_law_893 : decode cL_law 893 = .ok (.iconst 3, 1) := by decide +kernel
theorem dL_law_894 : decode cL_law 894 = .ok (.iadd, 1) := by decide +kernel
theorem dL_law_895 : decode cL_law 895 = .ok (.iaload, 1) := by decide +kernel
theorem dL_law_896 : decode cL_law 896 = .ok (.aload_n 0, 1) := by decide +kernel
theorem dL_law_897 : decode cL_law 897 = .ok (.iload_n 3, 1) := by decide +kernel
theorem dL_law_898 : decode cL_law 898 = .ok (.iconst 4, 1) := by decide +kernel
theorem dL_law_899 : decode cL_law 899 = .ok (.iadd, 1) := by decide +kernel
theorem dL_law_900 : decode cL_law 900 = .ok (.iaload, 1) := by decide +kernel
theorem dL_law_901 : decode cL_law 901 = .ok (.invokevirtual 93, 3) := by decide +kernel
theorem dL_law_904 : decode cL_law 904 = .ok (.aload_n 2, 1) := by decide +kernel
theorem dL_law_905 : decode cL_law 905 = .ok (.aload_n 0, 1) := by decide +kernel
theorem dL_law_906 : decode cL_law 906 = .ok (.iload_n 3, 1) := by decide +kernel
theorem dL_law_907 : decode cL_law 907 = .ok (.iconst 1, 1) := by decide +kernel
theorem dL_law_908 : decode cL_law 908 = .ok (.iadd, 1) := by decide +kernel
theorem dL_law_909 : decode cL_law 909 = .ok (.iaload, 1) := by decide +kernel
theorem dL_law_910 : decode cL_law 910 = .ok (.aload_n 0, 1) := by decide +kernel
theorem dL_law_911 : decode cL_law 911 = .ok (.iload_n 3, 1) := by decide +kernel
theorem dL_law_912 : decode cL_law 912 = .ok (.iconst 2, 1) := by decide +kernel
theorem dL_law_913 : decode cL_law 913 = .ok (.iadd, 1) := by decide +kernel
theorem dL_law_914 : decode cL_law 914 = .ok (.iaload, 1) := by decide +kernel
theorem dL_law_915 : decode cL_law 915 = .ok (.aload_n 0, 1) := by decide +kernel
theorem dL_law_916 : decode cL_law 916 = .ok (.iload_n 3, 1) := by decide +kernel
theorem dL_law_917 : decode cL_law 917 = .ok (.iconst 3, 1) := by decide +kernel
theorem dL_law_918 : decode cL_law 918 = .ok (.iadd, 1) := by decide +kernel
theorem dL_law_919 : decode cL_law 919 = .ok (.iaload, 1) := by decide +kernel
theorem dL_law_920 : decode cL_law 920 = .ok (.aload_n 0, 1) := by decide +kernel
theorem dL_law_921 : decode cL_law 921 = .ok (.iload_n 3, 1) := by decide +kernel
theorem dL_law_922 : decode cL_law 922 = .ok (.iconst 4, 1) := by decide +kernel
theorem dL_law_923 : decode cL_law 923 = .ok (.iadd, 1) := by decide +kernel
theorem dL_law_924 : decode cL_law 924 = .ok (.iaload, 1) := by decide +kernel
theorem dL_law_925 : decode cL_law 925 = .ok (.invokevirtual 96, 3) := by decide +kernel
theorem dL_law_928 : decode cL_law 928 = .ok (.if_icmp .eq 649, 3) := by decide +kernel
theorem dL_law_931 : decode cL_law 931 = .ok (.iconst 0, 1) := by decide +kernel
theorem dL_law_932 : decode cL_law 932 = .ok (.ireturn, 1) := by decide +kernel
theorem dL_law_933 : decode cL_law 933 = .ok (.aload_n 1, 1) := by decide +kernel
theorem dL_law_934 : decode cL_law 934 = .ok (.aload_n 0, 1) := by decide +kernel
theorem dL_law_935 : decode cL_law 935 = .ok (.iload_n 3, 1) := by decide +kernel
theorem dL_law_936 : decode cL_law 936 = .ok (.iconst 1, 1) := by decide +kernel
theorem dL_law_937 : decode cL_law 937 = .ok (.iadd, 1) := by decide +kernel
theorem dL_law_938 : decode cL_law 938 = .ok (.iaload, 1) := by decide +kernel
theorem dL_law_939 : decode cL_law 939 = .ok (.aload_n 0, 1) := by decide +kernel
theorem dL_law_940 : decode cL_law 940 = .ok (.iload_n 3, 1) := by decide +kernel
theorem dL_law_941 : decode cL_law 941 = .ok (.iconst 2, 1) := by decide +kernel
theorem dL_law_942 : decode cL_law 942 = .ok (.iadd, 1) := by decide +kernel
theorem dL_law_943 : decode cL_law 943 = .ok (.iaload, 1) := by decide +kernel
theorem dL_law_944 : decode cL_law 944 = .ok (.aload_n 0, 1) := by decide +kernel
theorem dL_law_945 : decode cL_law 945 = .ok (.iload_n 3, 1) := by decide +kernel
theorem dL_law_946 : decode cL_law 946 = .ok (.iconst 3, 1) := by decide +kernel
theorem dL_law_947 : decode cL_law 947 = .ok (.iadd, 1) := by decide +kernel
theorem dL_law_948 : decode cL_law 948 = .ok (.iaload, 1) := by decide +kernel
theorem dL_law_949 : decode cL_law 949 = .ok (.invokevirtual 97, 3) := by decide +kernel
theorem dL_law_952 : decode cL_law 952 = .ok (.aload_n 2, 1) := by decide +kernel
theorem dL_law_953 : decode cL_law 953 = .ok (.aload_n 0, 1) := by decide +kernel
theorem dL_law_954 : decode cL_law 954 = .ok (.iload_n 3, 1) := by decide +kernel
theorem dL_law_955 : decode cL_law 955 = .ok (.iconst 1, 1) := by decide +kernel
theorem dL_law_956 : decode cL_law 956 = .ok (.iadd, 1) := by decide +kernel
theorem dL_law_957 : decode cL_law 957 = .ok (.iaload, 1) := by decide +kernel
theorem dL_law_958 : decode cL_law 958 = .ok (.aload_n 0, 1) := by decide +kernel
theorem dL_law_959 : decode cL_law 959 = .ok (.iload_n 3, 1) := by decide +kernel
theorem dL_law_960 : decode cL_law 960 = .ok (.iconst 2, 1) := by decide +kernel
theorem dL_law_961 : decode cL_law 961 = .ok (.iadd, 1) := by decide +kernel
theorem dL_law_962 : decode cL_law 962 = .ok (.iaload, 1) := by decide +kernel
theorem dL_law_963 : decode cL_law 963 = .ok (.aload_n 0, 1) := by decide +kernel
theorem dL_law_964 : decode cL_law 964 = .ok (.iload_n 3, 1) := by decide +kernel
theorem dL_law_965 : decode cL_law 965 = .ok (.iconst 3, 1) := by decide +kernel
theorem dL_law_966 : decode cL_law 966 = .ok (.iadd, 1) := by decide +kernel
theorem dL_law_967 : decode cL_law 967 = .ok (.iaload, 1) := by decide +kernel
theorem dL_law_968 : decode cL_law 968 = .ok (.invokevirtual 100, 3) := by decide +kernel
theorem dL_law_971 : decode cL_law 971 = .ok (.if_icmp .eq 606, 3) := by decide +kernel
theorem dL_law_974 : decode cL_law 974 = .ok (.iconst 0, 1) := by decide +kernel
theorem dL_law_975 : decode cL_law 975 = .ok (.ireturn, 1) := by decide +kernel
theorem dL_law_976 : decode cL_law 976 = .ok (.aload_n 1, 1) := by decide +kernel
theorem dL_law_977 : decode cL_law 977 = .ok (.aload_n 0, 1) := by decide +kernel
theorem dL_law_978 : decode cL_law 978 = .ok (.iload_n 3, 1) := by decide +kernel
theorem dL_law_979 : decode cL_law 979 = .ok (.iconst 1, 1) := by decide +kernel
theorem dL_law_980 : decode cL_law 980 = .ok (.iadd, 1) := by decide +kernel
theorem dL_law_981 : decode cL_law 981 = .ok (.iaload, 1) := by decide +kernel
theorem dL_law_982 : decode cL_law 982 = .ok (.aload_n 0, 1) := by decide +kernel
theorem dL_law_983 : decode cL_law 983 = .ok (.iload_n 3, 1) := by decide +kernel
theorem dL_law_984 : decode cL_law 984 = .ok (.iconst 2, 1) := by decide +kernel
theorem dL_law_985 : decode cL_law 985 = .ok (.iadd, 1) := by decide +kernel
theorem dL_law_986 : decode cL_law 986 = .ok (.iaload, 1) := by decide +kernel
theorem dL_law_987 : decode cL_law 987 = .ok (.aload_n 0, 1) := by decide +kernel
theorem dL_law_988 : decode cL_law 988 = .ok (.iload_n 3, 1) := by decide +kernel
theorem dL_law_989 : decode cL_law 989 = .ok (.iconst 3, 1) := by decide +kernel
theorem dL_law_990 : decode cL_law 990 = .ok (.iadd, 1) := by decide +kernel
theorem dL_law_991 : decode cL_law 991 = .ok (.iaload, 1) := by decide +kernel
theorem dL_law_992 : decode cL_law 992 = .ok (.aload_n 0, 1) := by decide +kernel
theorem dL_law_993 : decode cL_law 993 = .ok (.iload_n 3, 1) := by decide +kernel
theorem dL_law_994 : decode cL_law 994 = .ok (.iconst 4, 1) := by decide +kernel
theorem dL_law_995 : decode cL_law 995 = .ok (.iadd, 1) := by decide +kernel
theorem dL_law_996 : decode cL_law 996 = .ok (.iaload, 1) := by decide +kernel
theorem dL_law_997 : decode cL_law 997 = .ok (.invokevirtual 101, 3) := by decide +kernel
theorem dL_law_1000 : decode cL_law 1000 = .ok (.aload_n 2, 1) := by decide +kernel
theorem dL_law_1001 : decode cL_law 1001 = .ok (.aload_n 0, 1) := by decide +kernel
theorem dL_law_1002 : decode cL_law 1002 = .ok (.iload_n 3, 1) := by decide +kernel
theorem dL_law_1003 : decode cL_law 1003 = .ok (.iconst 1, 1) := by decide +kernel
theorem dL_law_1004 : decode cL_law 1004 = .ok (.iadd, 1) := by decide +kernel
theorem dL_law_1005 : decode cL_law 1005 = .ok (.iaload, 1) := by decide +kernel
theorem dL_law_1006 : decode cL_law 1006 = .ok (.aload_n 0, 1) := by decide +kernel
theorem dL_law_1007 : decode cL_law 1007 = .ok (.iload_n 3, 1) := by decide +kernel
theorem dL_law_1008 : decode cL_law 1008 = .ok (.iconst 2, 1) := by decide +kernel
theorem dL_law_1009 : decode cL_law 1009 = .ok (.iadd, 1) := by decide +kernel
theorem dL_law_1010 : decode cL_law 1010 = .ok (.iaload, 1) := by decide +kernel
theorem dL_law_1011 : decode cL_law 1011 = .ok (.aload_n 0, 1) := by decide +kernel
theorem dL_law_1012 : decode cL_law 1012 = .ok (.iload_n 3, 1) := by decide +kernel
theorem dL_law_1013 : decode cL_law 1013 = .ok (.iconst 3, 1) := by decide +kernel
theorem dL_law_1014 : decode cL_law 1014 = .ok (.iadd, 1) := by decide +kernel
theorem dL_law_1015 : decode cL_law 1015 = .ok (.iaload, 1) := by decide +kernel
theorem dL_law_1016 : decode cL_law 1016 = .ok (.aload_n 0, 1) := by decide +kernel
theorem dL_law_1017 : decode cL_law 1017 = .ok (.iload_n 3, 1) := by decide +kernel
theorem dL_law_1018 : decode cL_law 1018 = .ok (.iconst 4, 1) := by decide +kernel
theorem dL_law_1019 : decode cL_law 1019 = .ok (.iadd, 1) := by decide +kernel
theorem dL_law_1020 : decode cL_law 1020 = .ok (.iaload, 1) := by decide +kernel
theorem dL_law_1021 : decode cL_law 1021 = .ok (.invokevirtual 104, 3) := by decide +kernel
theorem dL_law_1024 : decode cL_law 1024 = .ok (.if_icmp .eq 553, 3) := by decide +kernel
theorem dL_law_1027 : decode cL_law 1027 = .ok (.iconst 0, 1) := by decide +kernel
theorem dL_law_1028 : decode cL_law 1028 = .ok (.ireturn, 1) := by decide +kernel
theorem dL_law_1029 : decode cL_law 1029 = .ok (.aload_n 1, 1) := by decide +kernel
theorem dL_law_1030 : decode cL_law 1030 = .ok (.aload_n 0, 1) := by decide +kernel
theorem dL_law_1031 : decode cL_law 1031 = .ok (.iload_n 3, 1) := by decide +kernel
theorem dL_law_1032 : decode cL_law 1032 = .ok (.iconst 1, 1) := by decide +kernel
theorem dL_law_1033 : decode cL_law 1033 = .ok (.iadd, 1) := by decide +kernel
theorem dL_law_1034 : decode cL_law 1034 = .ok (.iaload, 1) := by decide +kernel
theorem dL_law_1035 : decode cL_law 1035 = .ok (.aload_n 0, 1) := by decide +kernel
theorem dL_law_1036 : decode cL_law 1036 = .ok (.iload_n 3, 1) := by decide +kernel
theorem dL_law_1037 : decode cL_law 1037 = .ok (.iconst 2, 1) := by decide +kernel
theorem dL_law_1038 : decode cL_law 1038 = .ok (.iadd, 1) := by decide +kernel
theorem dL_law_1039 : decode cL_law 1039 = .ok (.iaload, 1) := by decide +kernel
theorem dL_law_1040 : decode cL_law 1040 = .ok (.invokevirtual 105, 3) := by decide +kernel
theorem dL_law_1043 : decode cL_law 1043 = .ok (.aload_n 2, 1) := by decide +kernel
theorem dL_law_1044 : decode cL_law 1044 = .ok (.aload_n 0, 1) := by decide +kernel
theorem dL_law_1045 : decode cL_law 1045 = .ok (.iload_n 3, 1) := by decide +kernel
theorem dL_law_1046 : decode cL_law 1046 = .ok (.iconst 1, 1) := by decide +kernel
theorem dL_law_1047 : decode cL_law 1047 = .ok (.iadd, 1) := by decide +kernel
theorem dL_law_1048 : decode cL_law 1048 = .ok (.iaload, 1) := by decide +kernel
theorem dL_law_1049 : decode cL_law 1049 = .ok (.aload_n 0, 1) := by decide +kernel
theorem dL_law_1050 : decode cL_law 1050 = .ok (.iload_n 3, 1) := by decide +kernel
theorem dL_law_1051 : decode cL_law 1051 = .ok (.iconst 2, 1) := by decide +kernel
theorem dL_law_1052 : decode cL_law 1052 = .ok (.iadd, 1) := by decide +kernel
theorem dL_law_1053 : decode cL_law 1053 = .ok (.iaload, 1) := by decide +kernel
theorem dL_law_1054 : decode cL_law 1054 = .ok (.invokevirtual 108, 3) := by decide +kernel
theorem dL_law_1057 : decode cL_law 1057 = .ok (.if_icmp .eq 520, 3) := by decide +kernel
theorem dL_law_1060 : decode cL_law 1060 = .ok (.iconst 0, 1) := by decide +kernel
theorem dL_law_1061 : decode cL_law 1061 = .ok (.ireturn, 1) := by decide +kernel
theorem dL_law_1062 : decode cL_law 1062 = .ok (.aload_n 1, 1) := by decide +kernel
theorem dL_law_1063 : decode cL_law 1063 = .ok (.aload_n 0, 1) := by decide +kernel
theorem dL_law_1064 : decode cL_law 1064 = .ok (.iload_n 3, 1) := by decide +kernel
theorem dL_law_1065 : decode cL_law 1065 = .ok (.iconst 1, 1) := by decide +kernel
theorem dL_law_1066 : decode cL_law 1066 = .ok (.iadd, 1) := by decide +kernel
theorem dL_law_1067 : decode cL_law 1067 = .ok (.iaload, 1) := by decide +kernel
theorem dL_law_1068 : decode cL_law 1068 = .ok (.aload_n 0, 1) := by decide +kernel
theorem dL_law_1069 : decode cL_law 1069 = .ok (.iload_n 3, 1) := by decide +kernel
theorem dL_law_1070 : decode cL_law 1070 = .ok (.iconst 2, 1) := by decide +kernel
theorem dL_law_1071 : decode cL_law 1071 = .ok (.iadd, 1) := by decide +kernel
theorem dL_law_1072 : decode cL_law 1072 = .ok (.iaload, 1) := by decide +kernel
theorem dL_law_1073 : decode cL_law 1073 = .ok (.invokevirtual 109, 3) := by decide +kernel
theorem dL_law_1076 : decode cL_law 1076 = .ok (.aload_n 2, 1) := by decide +kernel
theorem dL_law_1077 : decode cL_law 1077 = .ok (.aload_n 0, 1) := by decide +kernel
theorem dL_law_1078 : decode cL_law 1078 = .ok (.iload_n 3, 1) := by decide +kernel
theorem dL_law_1079 : decode cL_law 1079 = .ok (.iconst 1, 1) := by decide +kernel
theorem dL_law_1080 : decode cL_law 1080 = .ok (.iadd, 1) := by decide +kernel
theorem dL_law_1081 : decode cL_law 1081 = .ok (.iaload, 1) := by decide +kernel
theorem dL_law_1082 : decode cL_law 1082 = .ok (.aload_n 0, 1) := by decide +kernel
theorem dL_law_1083 : decode cL_law 1083 = .ok (.iload_n 3, 1) := by decide +kernel
theorem dL_law_1084 : decode cL_law 1084 = .ok (.iconst 2, 1) := by decide +kernel
theorem dL_law_1085 : decode cL_law 1085 = .ok (.iadd, 1) := by decide +kernel
theorem dL_law_1086 : decode cL_law 1086 = .ok (.iaload, 1) := by decide +kernel
theorem dL_law_1087 : decode cL_law 1087 = .ok (.invokevirtual 112, 3) := by decide +kernel
theorem dL_law_1090 : decode cL_law 1090 = .ok (.if_icmp .eq 487, 3) := by decide +kernel
theorem dL_law_1093 : decode cL_law 1093 = .ok (.iconst 0, 1) := by decide +kernel
theorem dL_law_1094 : decode cL_law 1094 = .ok (.ireturn, 1) := by decide +kernel
theorem dL_law_1095 : decode cL_law 1095 = .ok (.aload_n 1, 1) := by decide +kernel
theorem dL_law_1096 : decode cL_law 1096 = .ok (.aload_n 0, 1) := by decide +kernel
theorem dL_law_1097 : decode cL_law 1097 = .ok (.iload_n 3, 1) := by decide +kernel
theorem dL_law_1098 : decode cL_law 1098 = .ok (.iconst 1, 1) := by decide +kernel
theorem dL_law_1099 : decode cL_law 1099 = .ok (.iadd, 1) := by decide +kernel
theorem dL_law_1100 : decode cL_law 1100 = .ok (.iaload, 1) := by decide +kernel
theorem dL_law_1101 : decode cL_law 1101 = .ok (.aload_n 0, 1) := by decide +kernel
theorem dL_law_1102 : decode cL_law 1102 = .ok (.iload_n 3, 1) := by decide +kernel
theorem dL_law_1103 : decode cL_law 1103 = .ok (.iconst 2, 1) := by decide +kernel
theorem dL_law_1104 : decode cL_law 1104 = .ok (.iadd, 1) := by decide +kernel
theorem dL_law_1105 : decode cL_law 1105 = .ok (.iaload, 1) := by decide +kernel
theorem dL_law_1106 : decode cL_law 1106 = .ok (.invokevirtual 113, 3) := by decide +kernel
theorem dL_law_1109 : decode cL_law 1109 = .ok (.aload_n 2, 1) := by decide +kernel
theorem dL_law_1110 : decode cL_law 1110 = .ok (.aload_n 0, 1) := by decide +kernel
theorem dL_law_1111 : decode cL_law 1111 = .ok (.iload_n 3, 1) := by decide +kernel
theorem dL_law_1112 : decode cL_law 1112 = .ok (.iconst 1, 1) := by decide +kernel
theorem dL_law_1113 : decode cL_law 1113 = .ok (.iadd, 1) := by decide +kernel
theorem dL_law_1114 : decode cL_law 1114 = .ok (.iaload, 1) := by decide +kernel
theorem dL_law_1115 : decode cL_law 1115 = .ok (.aload_n 0, 1) := by decide +kernel
theorem dL_law_1116 : decode cL_law 1116 = .ok (.iload_n 3, 1) := by decide +kernel
theorem dL_law_1117 : decode cL_law 1117 = .ok (.iconst 2, 1) := by decide +kernel
theorem dL_law_1118 : decode cL_law 1118 = .ok (.iadd, 1) := by decide +kernel
theorem dL_law_1119 : decode cL_law 1119 = .ok (.iaload, 1) := by decide +kernel
theorem dL_law_1120 : decode cL_law 1120 = .ok (.invokevirtual 116, 3) := by decide +kernel
theorem dL_law_1123 : decode cL_law 1123 = .ok (.if_icmp .eq 454, 3) := by decide +kernel
theorem dL_law_1126 : decode cL_law 1126 = .ok (.iconst 0, 1) := by decide +kernel
theorem dL_law_1127 : decode cL_law 1127 = .ok (.ireturn, 1) := by decide +kernel
theorem dL_law_1128 : decode cL_law 1128 = .ok (.aload_n 1, 1) := by decide +kernel
theorem dL_law_1129 : decode cL_law 1129 = .ok (.aload_n 0, 1) := by decide +kernel
theorem dL_law_1130 : decode cL_law 1130 = .ok (.iload_n 3, 1) := by decide +kernel
theorem dL_law_1131 : decode cL_law 1131 = .ok (.iconst 1, 1) := by decide +kernel
theorem dL_law_1132 : decode cL_law 1132 = .ok (.iadd, 1) := by decide +kernel
theorem dL_law_1133 : decode cL_law 1133 = .ok (.iaload, 1) := by decide +kernel
theorem dL_law_1134 : decode cL_law 1134 = .ok (.invokevirtual 117, 3) := by decide +kernel
theorem dL_law_1137 : decode cL_law 1137 = .ok (.aload_n 2, 1) := by decide +kernel
theorem dL_law_1138 : decode cL_law 1138 = .ok (.aload_n 0, 1) := by decide +kernel
theorem dL_law_1139 : decode cL_law 1139 = .ok (.iload_n 3, 1) := by decide +kernel
theorem dL_law_1140 : decode cL_law 1140 = .ok (.iconst 1, 1) := by decide +kernel
theorem dL_law_1141 : decode cL_law 1141 = .ok (.iadd, 1) := by decide +kernel
theorem dL_law_1142 : decode cL_law 1142 = .ok (.iaload, 1) := by decide +kernel
theorem dL_law_1143 : decode cL_law 1143 = .ok (.invokevirtual 120, 3) := by decide +kernel
theorem dL_law_1146 : decode cL_law 1146 = .ok (.if_icmp .eq 431, 3) := by decide +kernel
theorem dL_law_1149 : decode cL_law 1149 = .ok (.iconst 0, 1) := by decide +kernel
theorem dL_law_1150 : decode cL_law 1150 = .ok (.ireturn, 1) := by decide +kernel
theorem dL_law_1151 : decode cL_law 1151 = .ok (.aload_n 1, 1) := by decide +kernel
theorem dL_law_1152 : decode cL_law 1152 = .ok (.aload_n 0, 1) := by decide +kernel
theorem dL_law_1153 : decode cL_law 1153 = .ok (.iload_n 3, 1) := by decide +kernel
theorem dL_law_1154 : decode cL_law 1154 = .ok (.iconst 1, 1) := by decide +kernel
theorem dL_law_1155 : decode cL_law 1155 = .ok (.iadd, 1) := by decide +kernel
theorem dL_law_1156 : decode cL_law 1156 = .ok (.iaload, 1) := by decide +kernel
theorem dL_law_1157 : decode cL_law 1157 = .ok (.aload_n 0, 1) := by decide +kernel
theorem dL_law_1158 : decode cL_law 1158 = .ok (.iload_n 3, 1) := by decide +kernel
theorem dL_law_1159 : decode cL_law 1159 = .ok (.iconst 2, 1) := by decide +kernel
theorem dL_law_1160 : decode cL_law 1160 = .ok (.iadd, 1) := by decide +kernel
theorem dL_law_1161 : decode cL_law 1161 = .ok (.iaload, 1) := by decide +kernel
theorem dL_law_1162 : decode cL_law 1162 = .ok (.invokevirtual 121, 3) := by decide +kernel
theorem dL_law_1165 : decode cL_law 1165 = .ok (.aload_n 2, 1) := by decide +kernel
theorem dL_law_1166 : decode cL_law 1166 = .ok (.aload_n 0, 1) := by decide +kernel
theorem dL_law_1167 : decode cL_law 1167 = .ok (.iload_n 3, 1) := by decide +kernel
theorem dL_law_1168 : decode cL_law 1168 = .ok (.iconst 1, 1) := by decide +kernel
theorem dL_law_1169 : decode cL_law 1169 = .ok (.iadd, 1) := by decide +kernel
theorem dL_law_1170 : decode cL_law 1170 = .ok (.iaload, 1) := by decide +kernel
theorem dL_law_1171 : decode cL_law 1171 = .ok (.aload_n 0, 1) := by decide +kernel
theorem dL_law_1172 : decode cL_law 1172 = .ok (.iload_n 3, 1) := by decide +kernel
theorem dL_law_1173 : decode cL_law 1173 = .ok (.iconst 2, 1) := by decide +kernel
theorem dL_law_1174 : decode cL_law 1174 = .ok (.iadd, 1) := by decide +kernel
theorem dL_law_1175 : decode cL_law 1175 = .ok (.iaload, 1) := by decide +kernel
theorem dL_law_1176 : decode cL_law 1176 = .ok (.invokevirtual 124, 3) := by decide +kernel
theorem dL_law_1179 : decode cL_law 1179 = .ok (.if_icmp .eq 398, 3) := by decide +kernel
theorem dL_law_1182 : decode cL_law 1182 = .ok (.iconst 0, 1) := by decide +kernel
theorem dL_law_1183 : decode cL_law 1183 = .ok (.ireturn, 1) := by decide +kernel
theorem dL_law_1184 : decode cL_law 1184 = .ok (.aload_n 1, 1) := by decide +kernel
theorem dL_law_1185 : decode cL_law 1185 = .ok (.aload_n 0, 1) := by decide +kernel
theorem dL_law_1186 : decode cL_law 1186 = .ok (.iload_n 3, 1) := by decide +kernel
theorem dL_law_1187 : decode cL_law 1187 = .ok (.iconst 1, 1) := by decide +kernel
theorem dL_law_1188 : decode cL_law 1188 = .ok (.iadd, 1) := by decide +kernel
theorem dL_law_1189 : decode cL_law 1189 = .ok (.iaload, 1) := by decide +kernel
theorem dL_law_1190 : decode cL_law 1190 = .ok (.aload_n 0, 1) := by decide +kernel
theorem dL_law_1191 : decode cL_law 1191 = .ok (.iload_n 3, 1) := by decide +kernel
theorem dL_law_1192 : decode cL_law 1192 = .ok (.iconst 2, 1) := by decide +kernel
theorem dL_law_1193 : decode cL_law 1193 = .ok (.iadd, 1) := by decide +kernel
theorem dL_law_1194 : decode cL_law 1194 = .ok (.iaload, 1) := by decide +kernel
theorem dL_law_1195 : decode cL_law 1195 = .ok (.invokevirtual 125, 3) := by decide +kernel
theorem dL_law_1198 : decode cL_law 1198 = .ok (.aload_n 2, 1) := by decide +kernel
theorem dL_law_1199 : decode cL_law 1199 = .ok (.aload_n 0, 1) := by decide +kernel
theorem dL_law_1200 : decode cL_law 1200 = .ok (.iload_n 3, 1) := by decide +kernel
theorem dL_law_1201 : decode cL_law 1201 = .ok (.iconst 1, 1) := by decide +kernel
theorem dL_law_1202 : decode cL_law 1202 = .ok (.iadd, 1) := by decide +kernel
theorem dL_law_1203 : decode cL_law 1203 = .ok (.iaload, 1) := by decide +kernel
theorem dL_law_1204 : decode cL_law 1204 = .ok (.aload_n 0, 1) := by decide +kernel
theorem dL_law_1205 : decode cL_law 1205 = .ok (.iload_n 3, 1) := by decide +kernel
theorem dL_law_1206 : decode cL_law 1206 = .ok (.iconst 2, 1) := by decide +kernel
theorem dL_law_1207 : decode cL_law 1207 = .ok (.iadd, 1) := by decide +kernel
theorem dL_law_1208 : decode cL_law 1208 = .ok (.iaload, 1) := by decide +kernel
theorem dL_law_1209 : decode cL_law 1209 = .ok (.invokevirtual 128, 3) := by decide +kernel
theorem dL_law_1212 : decode cL_law 1212 = .ok (.if_icmp .eq 365, 3) := by decide +kernel
theorem dL_law_1215 : decode cL_law 1215 = .ok (.iconst 0, 1) := by decide +kernel
theorem dL_law_1216 : decode cL_law 1216 = .ok (.ireturn, 1) := by decide +kernel
theorem dL_law_1217 : decode cL_law 1217 = .ok (.aload_n 1, 1) := by decide +kernel
theorem dL_law_1218 : decode cL_law 1218 = .ok (.aload_n 0, 1) := by decide +kernel
theorem dL_law_1219 : decode cL_law 1219 = .ok (.iload_n 3, 1) := by decide +kernel
theorem dL_law_1220 : decode cL_law 1220 = .ok (.iconst 1, 1) := by decide +kernel
theorem dL_law_1221 : decode cL_law 1221 = .ok (.iadd, 1) := by decide +kernel
theorem dL_law_1222 : decode cL_law 1222 = .ok (.iaload, 1) := by decide +kernel
theorem dL_law_1223 : decode cL_law 1223 = .ok (.aload_n 0, 1) := by decide +kernel
theorem dL_law_1224 : decode cL_law 1224 = .ok (.iload_n 3, 1) := by decide +kernel
theorem dL_law_1225 : decode cL_law 1225 = .ok (.iconst 2, 1) := by decide +kernel
theorem dL_law_1226 : decode cL_law 1226 = .ok (.iadd, 1) := by decide +kernel
theorem dL_law_1227 : decode cL_law 1227 = .ok (.iaload, 1) := by decide +kernel
theorem dL_law_1228 : decode cL_law 1228 = .ok (.invokevirtual 129, 3) := by decide +kernel
theorem dL_law_1231 : decode cL_law 1231 = .ok (.aload_n 2, 1) := by decide +kernel
theorem dL_law_1232 : decode cL_law 1232 = .ok (.aload_n 0, 1) := by decide +kernel
theorem dL_law_1233 : decode cL_law 1233 = .ok (.iload_n 3, 1) := by decide +kernel
theorem dL_law_1234 : decode cL_law 1234 = .ok (.iconst 1, 1) := by decide +kernel
theorem dL_law_1235 : decode cL_law 1235 = .ok (.iadd, 1) := by decide +kernel
theorem dL_law_1236 : decode cL_law 1236 = .ok (.iaload, 1) := by decide +kernel
theorem dL_law_1237 : decode cL_law 1237 = .ok (.aload_n 0, 1) := by decide +kernel
theorem dL_law_1238 : decode cL_law 1238 = .ok (.iload_n 3, 1) := by decide +kernel
theorem dL_law_1239 : decode cL_law 1239 = .ok (.iconst 2, 1) := by decide +kernel
theorem dL_law_1240 : decode cL_law 1240 = .ok (.iadd, 1) := by decide +kernel
theorem dL_law_1241 : decode cL_law 1241 = .ok (.iaload, 1) := by decide +kernel
theorem dL_law_1242 : decode cL_law 1242 = .ok (.invokevirtual 132, 3) := by decide +kernel
theorem dL_law_1245 : decode cL_law 1245 = .ok (.if_icmp .eq 332, 3) := by decide +kernel
theorem dL_law_1248 : decode cL_law 1248 = .ok (.iconst 0, 1) := by decide +kernel
theorem dL_law_1249 : decode cL_law 1249 = .ok (.ireturn, 1) := by decide +kernel
theorem dL_law_1250 : decode cL_law 1250 = .ok (.aload_n 1, 1) := by decide +kernel
theorem dL_law_1251 : decode cL_law 1251 = .ok (.aload_n 0, 1) := by decide +kernel
theorem dL_law_1252 : decode cL_law 1252 = .ok (.iload_n 3, 1) := by decide +kernel
theorem dL_law_1253 : decode cL_law 1253 = .ok (.iconst 1, 1) := by decide +kernel
theorem dL_law_1254 : decode cL_law 1254 = .ok (.iadd, 1) := by decide +kernel
theorem dL_law_1255 : decode cL_law 1255 = .ok (.iaload, 1) := by decide +kernel
theorem dL_law_1256 : decode cL_law 1256 = .ok (.invokevirtual 133, 3) := by decide +kernel
theorem dL_law_1259 : decode cL_law 1259 = .ok (.aload_n 2, 1) := by decide +kernel
theorem dL_law_1260 : decode cL_law 1260 = .ok (.aload_n 0, 1) := by decide +kernel
theorem dL_law_1261 : decode cL_law 1261 = .ok (.iload_n 3, 1) := by decide +kernel
theorem dL_law_1262 : decode cL_law 1262 = .ok (.iconst 1, 1) := by decide +kernel
theorem dL_law_1263 : decode cL_law 1263 = .ok (.iadd, 1) := by decide +kernel
theorem dL_law_1264 : decode cL_law 1264 = .ok (.iaload, 1) := by decide +kernel
theorem dL_law_1265 : decode cL_law 1265 = .ok (.invokevirtual 136, 3) := by decide +kernel
theorem dL_law_1268 : decode cL_law 1268 = .ok (.if_icmp .eq 309, 3) := by decide +kernel
theorem dL_law_1271 : decode cL_law 1271 = .ok (.iconst 0, 1) := by decide +kernel
theorem dL_law_1272 : decode cL_law 1272 = .ok (.ireturn, 1) := by decide +kernel
theorem dL_law_1273 : decode cL_law 1273 = .ok (.aload_n 1, 1) := by decide +kernel
theorem dL_law_1274 : decode cL_law 1274 = .ok (.invokevirtual 137, 3) := by decide +kernel
theorem dL_law_1277 : decode cL_law 1277 = .ok (.aload_n 2, 1) := by decide +kernel
theorem dL_law_1278 : decode cL_law 1278 = .ok (.invokevirtual 141, 3) := by decide +kernel
theorem dL_law_1281 : decode cL_law 1281 = .ok (.if_icmp .eq 296, 3) := by decide +kernel
theorem dL_law_1284 : decode cL_law 1284 = .ok (.iconst 0, 1) := by decide +kernel
theorem dL_law_1285 : decode cL_law 1285 = .ok (.ireturn, 1) := by decide +kernel
theorem dL_law_1286 : decode cL_law 1286 = .ok (.aload_n 1, 1) := by decide +kernel
theorem dL_law_1287 : decode cL_law 1287 = .ok (.invokevirtual 142, 3) := by decide +kernel
theorem dL_law_1290 : decode cL_law 1290 = .ok (.aload_n 2, 1) := by decide +kernel
theorem dL_law_1291 : decode cL_law 1291 = .ok (.invokevirtual 145, 3) := by decide +kernel
theorem dL_law_1294 : decode cL_law 1294 = .ok (.if_icmp .eq 283, 3) := by decide +kernel
theorem dL_law_1297 : decode cL_law 1297 = .ok (.iconst 0, 1) := by decide +kernel
theorem dL_law_1298 : decode cL_law 1298 = .ok (.ireturn, 1) := by decide +kernel
theorem dL_law_1299 : decode cL_law 1299 = .ok (.aload_n 1, 1) := by decide +kernel
theorem dL_law_1300 : decode cL_law 1300 = .ok (.invokevirtual 146, 3) := by decide +kernel
theorem dL_law_1303 : decode cL_law 1303 = .ok (.aload_n 2, 1) := by decide +kernel
theorem dL_law_1304 : decode cL_law 1304 = .ok (.invokevirtual 149, 3) := by decide +kernel
theorem dL_law_1307 : decode cL_law 1307 = .ok (.if_icmp .eq 270, 3) := by decide +kernel
theorem dL_law_1310 : decode cL_law 1310 = .ok (.iconst 0, 1) := by decide +kernel
theorem dL_law_1311 : decode cL_law 1311 = .ok (.ireturn, 1) := by decide +kernel
theorem dL_law_1312 : decode cL_law 1312 = .ok (.aload_n 1, 1) := by decide +kernel
theorem dL_law_1313 : decode cL_law 1313 = .ok (.aload_n 0, 1) := by decide +kernel
theorem dL_law_1314 : decode cL_law 1314 = .ok (.iload_n 3, 1) := by decide +kernel
theorem dL_law_1315 : decode cL_law 1315 = .ok (.iconst 1, 1) := by decide +kernel
theorem dL_law_1316 : decode cL_law 1316 = .ok (.iadd, 1) := by decide +kernel
theorem dL_law_1317 : decode cL_law 1317 = .ok (.iaload, 1) := by decide +kernel
theorem dL_law_1318 : decode cL_law 1318 = .ok (.aload_n 0, 1) := by decide +kernel
theorem dL_law_1319 : decode cL_law 1319 = .ok (.iload_n 3, 1) := by decide +kernel
theorem dL_law_1320 : decode cL_law 1320 = .ok (.iconst 2, 1) := by decide +kernel
theorem dL_law_1321 : decode cL_law 1321 = .ok (.iadd, 1) := by decide +kernel
theorem dL_law_1322 : decode cL_law 1322 = .ok (.iaload, 1) := by decide +kernel
theorem dL_law_1323 : decode cL_law 1323 = .ok (.aload_n 0, 1) := by decide +kernel
theorem dL_law_1324 : decode cL_law 1324 = .ok (.iload_n 3, 1) := by decide +kernel
theorem dL_law_1325 : decode cL_law 1325 = .ok (.iconst 3, 1) := by decide +kernel
theorem dL_law_1326 : decode cL_law 1326 = .ok (.iadd, 1) := by decide +kernel
theorem dL_law_1327 : decode cL_law 1327 = .ok (.iaload, 1) := by decide +kernel
theorem dL_law_1328 : decode cL_law 1328 = .ok (.aload_n 0, 1) := by decide +kernel
theorem dL_law_1329 : decode cL_law 1329 = .ok (.iload_n 3, 1) := by decide +kernel
theorem dL_law_1330 : decode cL_law 1330 = .ok (.iconst 4, 1) := by decide +kernel
theorem dL_law_1331 : decode cL_law 1331 = .ok (.iadd, 1) := by decide +kernel
theorem dL_law_1332 : decode cL_law 1332 = .ok (.iaload, 1) := by decide +kernel
theorem dL_law_1333 : decode cL_law 1333 = .ok (.aload_n 0, 1) := by decide +kernel
theorem dL_law_1334 : decode cL_law 1334 = .ok (.iload_n 3, 1) := by decide +kernel
theorem dL_law_1335 : decode cL_law 1335 = .ok (.iconst 5, 1) := by decide +kernel
theorem dL_law_1336 : decode cL_law 1336 = .ok (.iadd, 1) := by decide +kernel
theorem dL_law_1337 : decode cL_law 1337 = .ok (.iaload, 1) := by decide +kernel
theorem dL_law_1338 : decode cL_law 1338 = .ok (.invokevirtual 150, 3) := by decide +kernel
theorem dL_law_1341 : decode cL_law 1341 = .ok (.aload_n 2, 1) := by decide +kernel
theorem dL_law_1342 : decode cL_law 1342 = .ok (.aload_n 0, 1) := by decide +kernel
theorem dL_law_1343 : decode cL_law 1343 = .ok (.iload_n 3, 1) := by decide +kernel
theorem dL_law_1344 : decode cL_law 1344 = .ok (.iconst 1, 1) := by decide +kernel
theorem dL_law_1345 : decode cL_law 1345 = .ok (.iadd, 1) := by decide +kernel
theorem dL_law_1346 : decode cL_law 1346 = .ok (.iaload, 1) := by decide +kernel
theorem dL_law_1347 : decode cL_law 1347 = .ok (.aload_n 0, 1) := by decide +kernel
theorem dL_law_1348 : decode cL_law 1348 = .ok (.iload_n 3, 1) := by decide +kernel
theorem dL_law_1349 : decode cL_law 1349 = .ok (.iconst 2, 1) := by decide +kernel
theorem dL_law_1350 : decode cL_law 1350 = .ok (.iadd, 1) := by decide +kernel
theorem dL_law_1351 : decode cL_law 1351 = .ok (.iaload, 1) := by decide +kernel
theorem dL_law_1352 : decode cL_law 1352 = .ok (.aload_n 0, 1) := by decide +kernel
theorem dL_law_1353 : decode cL_law 1353 = .ok (.iload_n 3, 1) := by decide +kernel
theorem dL_law_1354 : decode cL_law 1354 = .ok (.iconst 3, 1) := by decide +kernel
theorem dL_law_1355 : decode cL_law 1355 = .ok (.iadd, 1) := by decide +kernel
theorem dL_law_1356 : decode cL_law 1356 = .ok (.iaload, 1) := by decide +kernel
theorem dL_law_1357 : decode cL_law 1357 = .ok (.aload_n 0, 1) := by decide +kernel
theorem dL_law_1358 : decode cL_law 1358 = .ok (.iload_n 3, 1) := by decide +kernel
theorem dL_law_1359 : decode cL_law 1359 = .ok (.iconst 4, 1) := by decide +kernel
theorem dL_law_1360 : decode cL_law 1360 = .ok (.iadd, 1) := by decide +kernel
theorem dL_law_1361 : decode cL_law 1361 = .ok (.iaload, 1) := by decide +kernel
theorem dL_law_1362 : decode cL_law 1362 = .ok (.aload_n 0, 1) := by decide +kernel
theorem dL_law_1363 : decode cL_law 1363 = .ok (.iload_n 3, 1) := by decide +kernel
theorem dL_law_1364 : decode cL_law 1364 = .ok (.iconst 5, 1) := by decide +kernel
theorem dL_law_1365 : decode cL_law 1365 = .ok (.iadd, 1) := by decide +kernel
theorem dL_law_1366 : decode cL_law 1366 = .ok (.iaload, 1) := by decide +kernel
theorem dL_law_1367 : decode cL_law 1367 = .ok (.invokevirtual 154, 3) := by decide +kernel
theorem dL_law_1370 : decode cL_law 1370 = .ok (.if_icmp .eq 207, 3) := by decide +kernel
theorem dL_law_1373 : decode cL_law 1373 = .ok (.iconst 0, 1) := by decide +kernel
theorem dL_law_1374 : decode cL_law 1374 = .ok (.ireturn, 1) := by decide +kernel
theorem dL_law_1375 : decode cL_law 1375 = .ok (.aload_n 1, 1) := by decide +kernel
theorem dL_law_1376 : decode cL_law 1376 = .ok (.aload_n 0, 1) := by decide +kernel
theorem dL_law_1377 : decode cL_law 1377 = .ok (.iload_n 3, 1) := by decide +kernel
theorem dL_law_1378 : decode cL_law 1378 = .ok (.iconst 1, 1) := by decide +kernel
theorem dL_law_1379 : decode cL_law 1379 = .ok (.iadd, 1) := by decide +kernel
theorem dL_law_1380 : decode cL_law 1380 = .ok (.iaload, 1) := by decide +kernel
theorem dL_law_1381 : decode cL_law 1381 = .ok (.aload_n 0, 1) := by decide +kernel
theorem dL_law_1382 : decode cL_law 1382 = .ok (.iload_n 3, 1) := by decide +kernel
theorem dL_law_1383 : decode cL_law 1383 = .ok (.iconst 2, 1) := by decide +kernel
theorem dL_law_1384 : decode cL_law 1384 = .ok (.iadd, 1) := by decide +kernel
theorem dL_law_1385 : decode cL_law 1385 = .ok (.iaload, 1) := by decide +kernel
theorem dL_law_1386 : decode cL_law 1386 = .ok (.aload_n 0, 1) := by decide +kernel
theorem dL_law_1387 : decode cL_law 1387 = .ok (.iload_n 3, 1) := by decide +kernel
theorem dL_law_1388 : decode cL_law 1388 = .ok (.iconst 3, 1) := by decide +kernel
theorem dL_law_1389 : decode cL_law 1389 = .ok (.iadd, 1) := by decide +kernel
theorem dL_law_1390 : decode cL_law 1390 = .ok (.iaload, 1) := by decide +kernel
theorem dL_law_1391 : decode cL_law 1391 = .ok (.invokevirtual 155, 3) := by decide +kernel
theorem dL_law_1394 : decode cL_law 1394 = .ok (.aload_n 2, 1) := by decide +kernel
theorem dL_law_1395 : decode cL_law 1395 = .ok (.aload_n 0, 1) := by decide +kernel
theorem dL_law_1396 : decode cL_law 1396 = .ok (.iload_n 3, 1) := by decide +kernel
theorem dL_law_1397 : decode cL_law 1397 = .ok (.iconst 1, 1) := by decide +kernel
theorem dL_law_1398 : decode cL_law 1398 = .ok (.iadd, 1) := by decide +kernel
theorem dL_law_1399 : decode cL_law 1399 = .ok (.iaload, 1) := by decide +kernel
theorem dL_law_1400 : decode cL_law 1400 = .ok (.aload_n 0, 1) := by decide +kernel
theorem dL_law_1401 : decode cL_law 1401 = .ok (.iload_n 3, 1) := by decide +kernel
theorem dL_law_1402 : decode cL_law 1402 = .ok (.iconst 2, 1) := by decide +kernel
theorem dL_law_1403 : decode cL_law 1403 = .ok (.iadd, 1) := by decide +kernel
theorem dL_law_1404 : decode cL_law 1404 = .ok (.iaload, 1) := by decide +kernel
theorem dL_law_1405 : decode cL_law 1405 = .ok (.aload_n 0, 1) := by decide +kernel
theorem dL_law_1406 : decode cL_law 1406 = .ok (.iload_n 3, 1) := by decide +kernel
theorem dL_law_1407 : decode cL_law 1407 = .ok (.iconst 3, 1) := by decide +kernel
theorem dL_law_1408 : decode cL_law 1408 = .ok (.iadd, 1) := by decide +kernel
theorem dL_law_1409 : decode cL_law 1409 = .ok (.iaload, 1) := by decide +kernel
theorem dL_law_1410 : decode cL_law 1410 = .ok (.invokevirtual 158, 3) := by decide +kernel
theorem dL_law_1413 : decode cL_law 1413 = .ok (.if_icmp .eq 164, 3) := by decide +kernel
theorem dL_law_1416 : decode cL_law 1416 = .ok (.iconst 0, 1) := by decide +kernel
theorem dL_law_1417 : decode cL_law 1417 = .ok (.ireturn, 1) := by decide +kernel
theorem dL_law_1418 : decode cL_law 1418 = .ok (.aload_n 1, 1) := by decide +kernel
theorem dL_law_1419 : decode cL_law 1419 = .ok (.aload_n 0, 1) := by decide +kernel
theorem dL_law_1420 : decode cL_law 1420 = .ok (.iload_n 3, 1) := by decide +kernel
theorem dL_law_1421 : decode cL_law 1421 = .ok (.iconst 1, 1) := by decide +kernel
theorem dL_law_1422 : decode cL_law 1422 = .ok (.iadd, 1) := by decide +kernel
theorem dL_law_1423 : decode cL_law 1423 = .ok (.iaload, 1) := by decide +kernel
theorem dL_law_1424 : decode cL_law 1424 = .ok (.invokevirtual 159, 3) := by decide +kernel
theorem dL_law_1427 : decode cL_law 1427 = .ok (.aload_n 2, 1) := by decide +kernel
theorem dL_law_1428 : decode cL_law 1428 = .ok (.aload_n 0, 1) := by decide +kernel
theorem dL_law_1429 : decode cL_law 1429 = .ok (.iload_n 3, 1) := by decide +kernel
theorem dL_law_1430 : decode cL_law 1430 = .ok (.iconst 1, 1) := by decide +kernel
theorem dL_law_1431 : decode cL_law 1431 = .ok (.iadd, 1) := by decide +kernel
theorem dL_law_1432 : decode cL_law 1432 = .ok (.iaload, 1) := by decide +kernel
theorem dL_law_1433 : decode cL_law 1433 = .ok (.invokevirtual 162, 3) := by decide +kernel
theorem dL_law_1436 : decode cL_law 1436 = .ok (.if_icmp .eq 141, 3) := by decide +kernel
theorem dL_law_1439 : decode cL_law 1439 = .ok (.iconst 0, 1) := by decide +kernel
theorem dL_law_1440 : decode cL_law 1440 = .ok (.ireturn, 1) := by decide +kernel
theorem dL_law_1441 : decode cL_law 1441 = .ok (.aload_n 1, 1) := by decide +kernel
theorem dL_law_1442 : decode cL_law 1442 = .ok (.aload_n 0, 1) := by decide +kernel
theorem dL_law_1443 : decode cL_law 1443 = .ok (.iload_n 3, 1) := by decide +kernel
theorem dL_law_1444 : decode cL_law 1444 = .ok (.iconst 1, 1) := by decide +kernel
theorem dL_law_1445 : decode cL_law 1445 = .ok (.iadd, 1) := by decide +kernel
theorem dL_law_1446 : decode cL_law 1446 = .ok (.iaload, 1) := by decide +kernel
theorem dL_law_1447 : decode cL_law 1447 = .ok (.aload_n 0, 1) := by decide +kernel
theorem dL_law_1448 : decode cL_law 1448 = .ok (.iload_n 3, 1) := by decide +kernel
theorem dL_law_1449 : decode cL_law 1449 = .ok (.iconst 2, 1) := by decide +kernel
theorem dL_law_1450 : decode cL_law 1450 = .ok (.iadd, 1) := by decide +kernel
theorem dL_law_1451 : decode cL_law 1451 = .ok (.iaload, 1) := by decide +kernel
theorem dL_law_1452 : decode cL_law 1452 = .ok (.aload_n 0, 1) := by decide +kernel
theorem dL_law_1453 : decode cL_law 1453 = .ok (.iload_n 3, 1) := by decide +kernel
theorem dL_law_1454 : decode cL_law 1454 = .ok (.iconst 3, 1) := by decide +kernel
theorem dL_law_1455 : decode cL_law 1455 = .ok (.iadd, 1) := by decide +kernel
theorem dL_law_1456 : decode cL_law 1456 = .ok (.iaload, 1) := by decide +kernel
theorem dL_law_1457 : decode cL_law 1457 = .ok (.aload_n 0, 1) := by decide +kernel
theorem dL_law_1458 : decode cL_law 1458 = .ok (.iload_n 3, 1) := by decide +kernel
theorem dL_law_1459 : decode cL_law 1459 = .ok (.iconst 4, 1) := by decide +kernel
theorem dL_law_1460 : decode cL_law 1460 = .ok (.iadd, 1) := by decide +kernel
theorem dL_law_1461 : decode cL_law 1461 = .ok (.iaload, 1) := by decide +kernel
theorem dL_law_1462 : decode cL_law 1462 = .ok (.i2l, 1) := by decide +kernel
theorem dL_law_1463 : decode cL_law 1463 = .ok (.bipush 32, 2) := by decide +kernel
theorem dL_law_1465 : decode cL_law 1465 = .ok (.lshl, 1) := by decide +kernel
theorem dL_law_1466 : decode cL_law 1466 = .ok (.aload_n 0, 1) := by decide +kernel
theorem dL_law_1467 : decode cL_law 1467 = .ok (.iload_n 3, 1) := by decide +kernel
theorem dL_law_1468 : decode cL_law 1468 = .ok (.iconst 5, 1) := by decide +kernel
theorem dL_law_1469 : decode cL_law 1469 = .ok (.iadd, 1) := by decide +kernel
theorem dL_law_1470 : decode cL_law 1470 = .ok (.iaload, 1) := by decide +kernel
theorem dL_law_1471 : decode cL_law 1471 = .ok (.i2l, 1) := by decide +kernel
theorem dL_law_1472 : decode cL_law 1472 = .ok (.ldc2_w 13, 3) := by decide +kernel
theorem dL_law_1475 : decode cL_law 1475 = .ok (.land, 1) := by decide +kernel
theorem dL_law_1476 : decode cL_law 1476 = .ok (.lor, 1) := by decide +kernel
theorem dL_law_1477 : decode cL_law 1477 = .ok (.invokevirtual 163, 3) := by decide +kernel
theorem dL_law_1480 : decode cL_law 1480 = .ok (.aload_n 2, 1) := by decide +kernel
theorem dL_law_1481 : decode cL_law 1481 = .ok (.aload_n 0, 1) := by decide +kernel
theorem dL_law_1482 : decode cL_law 1482 = .ok (.iload_n 3, 1) := by decide +kernel
theorem dL_law_1483 : decode cL_law 1483 = .ok (.iconst 1, 1) := by decide +kernel
theorem dL_law_1484 : decode cL_law 1484 = .ok (.iadd, 1) := by decide +kernel
theorem dL_law_1485 : decode cL_law 1485 = .ok (.iaload, 1) := by decide +kernel
theorem dL_law_1486 : decode cL_law 1486 = .ok (.aload_n 0, 1) := by decide +kernel
theorem dL_law_1487 : decode cL_law 1487 = .ok (.iload_n 3, 1) := by decide +kernel
theorem dL_law_1488 : decode cL_law 1488 = .ok (.iconst 2, 1) := by decide +kernel
theorem dL_law_1489 : decode cL_law 1489 = .ok (.iadd, 1) := by decide +kernel
theorem dL_law_1490 : decode cL_law 1490 = .ok (.iaload, 1) := by decide +kernel
theorem dL_law_1491 : decode cL_law 1491 = .ok (.aload_n 0, 1) := by decide +kernel
theorem dL_law_1492 : decode cL_law 1492 = .ok (.iload_n 3, 1) := by decide +kernel
theorem dL_law_1493 : decode cL_law 1493 = .ok (.iconst 3, 1) := by decide +kernel
theorem dL_law_1494 : decode cL_law 1494 = .ok (.iadd, 1) := by decide +kernel
theorem dL_law_1495 : decode cL_law 1495 = .ok (.iaload, 1) := by decide +kernel
theorem dL_law_1496 : decode cL_law 1496 = .ok (.aload_n 0, 1) := by decide +kernel
theorem dL_law_1497 : decode cL_law 1497 = .ok (.iload_n 3, 1) := by decide +kernel
theorem dL_law_1498 : decode cL_law 1498 = .ok (.iconst 4, 1) := by decide +kernel
theorem dL_law_1499 : decode cL_law 1499 = .ok (.iadd, 1) := by decide +kernel
theorem dL_law_1500 : decode cL_law 1500 = .ok (.iaload, 1) := by decide +kernel
theorem dL_law_1501 : decode cL_law 1501 = .ok (.i2l, 1) := by decide +kernel
theorem dL_law_1502 : decode cL_law 1502 = .ok (.bipush 32, 2) := by decide +kernel
theorem dL_law_1504 : decode cL_law 1504 = .ok (.lshl, 1) := by decide +kernel
theorem dL_law_1505 : decode cL_law 1505 = .ok (.aload_n 0, 1) := by decide +kernel
theorem dL_law_1506 : decode cL_law 1506 = .ok (.iload_n 3, 1) := by decide +kernel
theorem dL_law_1507 : decode cL_law 1507 = .ok (.iconst 5, 1) := by decide +kernel
theorem dL_law_1508 : decode cL_law 1508 = .ok (.iadd, 1) := by decide +kernel
theorem dL_law_1509 : decode cL_law 1509 = .ok (.iaload, 1) := by decide +kernel
theorem dL_law_1510 : decode cL_law 1510 = .ok (.i2l, 1) := by decide +kernel
theorem dL_law_1511 : decode cL_law 1511 = .ok (.ldc2_w 13, 3) := by decide +kernel
theorem dL_law_1514 : decode cL_law 1514 = .ok (.land, 1) := by decide +kernel
theorem dL_law_1515 : decode cL_law 1515 = .ok (.lor, 1) := by decide +kernel
theorem dL_law_1516 : decode cL_law 1516 = .ok (.invokevirtual 167, 3) := by decide +kernel
theorem dL_law_1519 : decode cL_law 1519 = .ok (.if_icmp .eq 58, 3) := by decide +kernel
theorem dL_law_1522 : decode cL_law 1522 = .ok (.iconst 0, 1) := by decide +kernel
theorem dL_law_1523 : decode cL_law 1523 = .ok (.ireturn, 1) := by decide +kernel
theorem dL_law_1524 : decode cL_law 1524 = .ok (.aload_n 1, 1) := by decide +kernel
theorem dL_law_1525 : decode cL_law 1525 = .ok (.aload_n 0, 1) := by decide +kernel
theorem dL_law_1526 : decode cL_law 1526 = .ok (.iload_n 3, 1) := by decide +kernel
theorem dL_law_1527 : decode cL_law 1527 = .ok (.iconst 1, 1) := by decide +kernel
theorem dL_law_1528 : decode cL_law 1528 = .ok (.iadd, 1) := by decide +kernel
theorem dL_law_1529 : decode cL_law 1529 = .ok (.iaload, 1) := by decide +kernel
theorem dL_law_1530 : decode cL_law 1530 = .ok (.aload_n 0, 1) := by decide +kernel
theorem dL_law_1531 : decode cL_law 1531 = .ok (.iload_n 3, 1) := by decide +kernel
theorem dL_law_1532 : decode cL_law 1532 = .ok (.iconst 2, 1) := by decide +kernel
theorem dL_law_1533 : decode cL_law 1533 = .ok (.iadd, 1) := by decide +kernel
theorem dL_law_1534 : decode cL_law 1534 = .ok (.iaload, 1) := by decide +kernel
theorem dL_law_1535 : decode cL_law 1535 = .ok (.aload_n 0, 1) := by decide +kernel
theorem dL_law_1536 : decode cL_law 1536 = .ok (.iload_n 3, 1) := by decide +kernel
theorem dL_law_1537 : decode cL_law 1537 = .ok (.iconst 3, 1) := by decide +kernel
theorem dL_law_1538 : decode cL_law 1538 = .ok (.iadd, 1) := by decide +kernel
theorem dL_law_1539 : decode cL_law 1539 = .ok (.iaload, 1) := by decide +kernel
theorem dL_law_1540 : decode cL_law 1540 = .ok (.aload_n 0, 1) := by decide +kernel
theorem dL_law_1541 : decode cL_law 1541 = .ok (.iload_n 3, 1) := by decide +kernel
theorem dL_law_1542 : decode cL_law 1542 = .ok (.iconst 4, 1) := by decide +kernel
theorem dL_law_1543 : decode cL_law 1543 = .ok (.iadd, 1) := by decide +kernel
theorem dL_law_1544 : decode cL_law 1544 = .ok (.iaload, 1) := by decide +kernel
theorem dL_law_1545 : decode cL_law 1545 = .ok (.invokevirtual 168, 3) := by decide +kernel
theorem dL_law_1548 : decode cL_law 1548 = .ok (.aload_n 2, 1) := by decide +kernel
theorem dL_law_1549 : decode cL_law 1549 = .ok (.aload_n 0, 1) := by decide +kernel
theorem dL_law_1550 : decode cL_law 1550 = .ok (.iload_n 3, 1) := by decide +kernel
theorem dL_law_1551 : decode cL_law 1551 = .ok (.iconst 1, 1) := by decide +kernel
theorem dL_law_1552 : decode cL_law 1552 = .ok (.iadd, 1) := by decide +kernel
theorem dL_law_1553 : decode cL_law 1553 = .ok (.iaload, 1) := by decide +kernel
theorem dL_law_1554 : decode cL_law 1554 = .ok (.aload_n 0, 1) := by decide +kernel
theorem dL_law_1555 : decode cL_law 1555 = .ok (.iload_n 3, 1) := by decide +kernel
theorem dL_law_1556 : decode cL_law 1556 = .ok (.iconst 2, 1) := by decide +kernel
theorem dL_law_1557 : decode cL_law 1557 = .ok (.iadd, 1) := by decide +kernel
theorem dL_law_1558 : decode cL_law 1558 = .ok (.iaload, 1) := by decide +kernel
theorem dL_law_1559 : decode cL_law 1559 = .ok (.aload_n 0, 1) := by decide +kernel
theorem dL_law_1560 : decode cL_law 1560 = .ok (.iload_n 3, 1) := by decide +kernel
theorem dL_law_1561 : decode cL_law 1561 = .ok (.iconst 3, 1) := by decide +kernel
theorem dL_law_1562 : decode cL_law 1562 = .ok (.iadd, 1) := by decide +kernel
theorem dL_law_1563 : decode cL_law 1563 = .ok (.iaload, 1) := by decide +kernel
theorem dL_law_1564 : decode cL_law 1564 = .ok (.aload_n 0, 1) := by decide +kernel
theorem dL_law_1565 : decode cL_law 1565 = .ok (.iload_n 3, 1) := by decide +kernel
theorem dL_law_1566 : decode cL_law 1566 = .ok (.iconst 4, 1) := by decide +kernel
theorem dL_law_1567 : decode cL_law 1567 = .ok (.iadd, 1) := by decide +kernel
theorem dL_law_1568 : decode cL_law 1568 = .ok (.iaload, 1) := by decide +kernel
theorem dL_law_1569 : decode cL_law 1569 = .ok (.invokevirtual 171, 3) := by decide +kernel
theorem dL_law_1572 : decode cL_law 1572 = .ok (.if_icmp .eq 5, 3) := by decide +kernel
theorem dL_law_1575 : decode cL_law 1575 = .ok (.iconst 0, 1) := by decide +kernel
theorem dL_law_1576 : decode cL_law 1576 = .ok (.ireturn, 1) := by decide +kernel
theorem dL_law_1577 : decode cL_law 1577 = .ok (.iinc 3 6, 3) := by decide +kernel
theorem dL_law_1580 : decode cL_law 1580 = .ok (.goto (-1562), 3) := by decide +kernel
theorem dL_law_1583 : decode cL_law 1583 = .ok (.iconst 1, 1) := by decide +kernel
theorem dL_law_1584 : decode cL_law 1584 = .ok (.ireturn, 1) := by decide +kernel
