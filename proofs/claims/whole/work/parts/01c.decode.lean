theorem dX9_root_80 : decode cX9_root 80 = .ok (.iconst 1, 1) := by decide +kernel
theorem dX9_root_81 : decode cX9_root 81 = .ok (.goto 4, 3) := by decide +kernel
theorem dX9_root_84 : decode cX9_root 84 = .ok (.iconst 0, 1) := by decide +kernel
theorem dX9_root_85 : decode cX9_root 85 = .ok (.istore 5, 2) := by decide +kernel
theorem dX9_root_87 : decode cX9_root 87 = .ok (.aload_n 0, 1) := by decide +kernel
theorem dX9_root_88 : decode cX9_root 88 = .ok (.iload_n 2, 1) := by decide +kernel
theorem dX9_root_89 : decode cX9_root 89 = .ok (.aload_n 0, 1) := by decide +kernel
theorem dX9_root_90 : decode cX9_root 90 = .ok (.getfield 66, 3) := by decide +kernel
theorem dX9_root_93 : decode cX9_root 93 = .ok (.invokevirtual 83, 3) := by decide +kernel
theorem dX9_root_96 : decode cX9_root 96 = .ok (.pop, 1) := by decide +kernel
theorem dX9_root_97 : decode cX9_root 97 = .ok (.iload 5, 2) := by decide +kernel
theorem dX9_root_99 : decode cX9_root 99 = .ok (.ireturn, 1) := by decide +kernel
theorem dX9_order_0 : decode cX9_order 0 = .ok (.iload_n 1, 1) := by decide +kernel
theorem dX9_order_1 : decode cX9_order 1 = .ok (.invokestatic 75, 3) := by decide +kernel
theorem dX9_order_4 : decode cX9_order 4 = .ok (.ifCond .eq 10, 3) := by decide +kernel
theorem dX9_order_7 : decode cX9_order 7 = .ok (.iload_n 2, 1) := by decide +kernel
theorem dX9_order_8 : decode cX9_order 8 = .ok (.invokestatic 75, 3) := by decide +kernel
theorem dX9_order_11 : decode cX9_order 11 = .ok (.ifCond .ne 5, 3) := by decide +kernel
theorem dX9_order_14 : decode cX9_order 14 = .ok (.iconst (-1), 1) := by decide +kernel
theorem dX9_order_15 : decode cX9_order 15 = .ok (.ireturn, 1) := by decide +kernel
theorem dX9_order_16 : decode cX9_order 16 = .ok (.aload_n 0, 1) := by decide +kernel
theorem dX9_order_17 : decode cX9_order 17 = .ok (.iload_n 1, 1) := by decide +kernel
theorem dX9_order_18 : decode cX9_order 18 = .ok (.iload_n 2, 1) := by decide +kernel
theorem dX9_order_19 : decode cX9_order 19 = .ok (.invokevirtual 128, 3) := by decide +kernel
theorem dX9_order_22 : decode cX9_order 22 = .ok (.istore_n 3, 1) := by decide +kernel
theorem dX9_order_23 : decode cX9_order 23 = .ok (.iload_n 3, 1) := by decide +kernel
theorem dX9_order_24 : decode cX9_order 24 = .ok (.ifCond .eq 5, 3) := by decide +kernel
theorem dX9_order_27 : decode cX9_order 27 = .ok (.iload_n 3, 1) := by decide +kernel
theorem dX9_order_28 : decode cX9_order 28 = .ok (.ireturn, 1) := by decide +kernel
theorem dX9_order_29 : decode cX9_order 29 = .ok (.aload_n 0, 1) := by decide +kernel
theorem dX9_order_30 : decode cX9_order 30 = .ok (.getfield 11, 3) := by decide +kernel
theorem dX9_order_33 : decode cX9_order 33 = .ok (.iload_n 1, 1) := by decide +kernel
theorem dX9_order_34 : decode cX9_order 34 = .ok (.aaload, 1) := by decide +kernel
theorem dX9_order_35 : decode cX9_order 35 = .ok (.getfield 117, 3) := by decide +kernel
theorem dX9_order_38 : decode cX9_order 38 = .ok (.aload_n 0, 1) := by decide +kernel
theorem dX9_order_39 : decode cX9_order 39 = .ok (.getfield 11, 3) := by decide +kernel
theorem dX9_order_42 : decode cX9_order 42 = .ok (.iload_n 2, 1) := by decide +kernel
theorem dX9_order_43 : decode cX9_order 43 = .ok (.aaload, 1) := by decide +kernel
theorem dX9_order_44 : decode cX9_order 44 = .ok (.getfield 117, 3) := by decide +kernel
theorem dX9_order_47 : decode cX9_order 47 = .ok (.invokevirtual 132, 3) := by decide +kernel
theorem dX9_order_50 : decode cX9_order 50 = .ok (.istore 4, 2) := by decide +kernel
theorem dX9_order_52 : decode cX9_order 52 = .ok (.iload 4, 2) := by decide +kernel
theorem dX9_order_54 : decode cX9_order 54 = .ok (.ifCond .le 7, 3) := by decide +kernel
theorem dX9_order_57 : decode cX9_order 57 = .ok (.iconst 1, 1) := by decide +kernel
theorem dX9_order_58 : decode cX9_order 58 = .ok (.goto 13, 3) := by decide +kernel
theorem dX9_order_61 : decode cX9_order 61 = .ok (.iload 4, 2) := by decide +kernel
theorem dX9_order_63 : decode cX9_order 63 = .ok (.ifCond .ne 7, 3) := by decide +kernel
theorem dX9_order_66 : decode cX9_order 66 = .ok (.iconst 0, 1) := by decide +kernel
theorem dX9_order_67 : decode cX9_order 67 = .ok (.goto 4, 3) := by decide +kernel
theorem dX9_order_70 : decode cX9_order 70 = .ok (.iconst 2, 1) := by decide +kernel
theorem dX9_order_71 : decode cX9_order 71 = .ok (.ireturn, 1) := by decide +kernel
theorem dX9_nth_0 : decode cX9_nth 0 = .ok (.iload_n 1, 1) := by decide +kernel
theorem dX9_nth_1 : decode cX9_nth 1 = .ok (.invokestatic 75, 3) := by decide +kernel
theorem dX9_nth_4 : decode cX9_nth 4 = .ok (.ifCond .eq 17, 3) := by decide +kernel
theorem dX9_nth_7 : decode cX9_nth 7 = .ok (.iload_n 2, 1) := by decide +kernel
theorem dX9_nth_8 : decode cX9_nth 8 = .ok (.invokestatic 75, 3) := by decide +kernel
theorem dX9_nth_11 : decode cX9_nth 11 = .ok (.ifCond .eq 10, 3) := by decide +kernel
theorem dX9_nth_14 : decode cX9_nth 14 = .ok (.iload_n 3, 1) := by decide +kernel
theorem dX9_nth_15 : decode cX9_nth 15 = .ok (.invokestatic 75, 3) := by decide +kernel
theorem dX9_nth_18 : decode cX9_nth 18 = .ok (.ifCond .ne 5, 3) := by decide +kernel
theorem dX9_nth_21 : decode cX9_nth 21 = .ok (.iconst (-1), 1) := by decide +kernel
theorem dX9_nth_22 : decode cX9_nth 22 = .ok (.ireturn, 1) := by decide +kernel
theorem dX9_nth_23 : decode cX9_nth 23 = .ok (.aload_n 0, 1) := by decide +kernel
theorem dX9_nth_24 : decode cX9_nth 24 = .ok (.iload_n 1, 1) := by decide +kernel
theorem dX9_nth_25 : decode cX9_nth 25 = .ok (.iload_n 2, 1) := by decide +kernel
theorem dX9_nth_26 : decode cX9_nth 26 = .ok (.invokevirtual 151, 3) := by decide +kernel
theorem dX9_nth_29 : decode cX9_nth 29 = .ok (.istore 4, 2) := by decide +kernel
theorem dX9_nth_31 : decode cX9_nth 31 = .ok (.iload 4, 2) := by decide +kernel
theorem dX9_nth_33 : decode cX9_nth 33 = .ok (.ifCond .eq 6, 3) := by decide +kernel
theorem dX9_nth_36 : decode cX9_nth 36 = .ok (.iload 4, 2) := by decide +kernel
theorem dX9_nth_38 : decode cX9_nth 38 = .ok (.ireturn, 1) := by decide +kernel
theorem dX9_nth_39 : decode cX9_nth 39 = .ok (.aload_n 0, 1) := by decide +kernel
theorem dX9_nth_40 : decode cX9_nth 40 = .ok (.getfield 11, 3) := by decide +kernel
theorem dX9_nth_43 : decode cX9_nth 43 = .ok (.iload_n 1, 1) := by decide +kernel
theorem dX9_nth_44 : decode cX9_nth 44 = .ok (.aaload, 1) := by decide +kernel
theorem dX9_nth_45 : decode cX9_nth 45 = .ok (.astore 5, 2) := by decide +kernel
theorem dX9_nth_47 : decode cX9_nth 47 = .ok (.aload_n 0, 1) := by decide +kernel
theorem dX9_nth_48 : decode cX9_nth 48 = .ok (.getfield 43, 3) := by decide +kernel
theorem dX9_nth_51 : decode cX9_nth 51 = .ok (.aload 5, 2) := by decide +kernel
theorem dX9_nth_53 : decode cX9_nth 53 = .ok (.invokevirtual 154, 3) := by decide +kernel
theorem dX9_nth_56 : decode cX9_nth 56 = .ok (.aload 5, 2) := by decide +kernel
theorem dX9_nth_58 : decode cX9_nth 58 = .ok (.getfield 157, 3) := by decide +kernel
theorem dX9_nth_61 : decode cX9_nth 61 = .ok (.aload_n 0, 1) := by decide +kernel
theorem dX9_nth_62 : decode cX9_nth 62 = .ok (.getfield 11, 3) := by decide +kernel
theorem dX9_nth_65 : decode cX9_nth 65 = .ok (.iload_n 2, 1) := by decide +kernel
theorem dX9_nth_66 : decode cX9_nth 66 = .ok (.aaload, 1) := by decide +kernel
theorem dX9_nth_67 : decode cX9_nth 67 = .ok (.getfield 117, 3) := by decide +kernel
theorem dX9_nth_70 : decode cX9_nth 70 = .ok (.aload_n 0, 1) := by decide +kernel
theorem dX9_nth_71 : decode cX9_nth 71 = .ok (.getfield 66, 3) := by decide +kernel
theorem dX9_nth_74 : decode cX9_nth 74 = .ok (.invokevirtual 160, 3) := by decide +kernel
theorem dX9_nth_77 : decode cX9_nth 77 = .ok (.ifCond .ne 6, 3) := by decide +kernel
theorem dX9_nth_80 : decode cX9_nth 80 = .ok (.bipush (-3), 2) := by decide +kernel
theorem dX9_nth_82 : decode cX9_nth 82 = .ok (.ireturn, 1) := by decide +kernel
theorem dX9_nth_83 : decode cX9_nth 83 = .ok (.aload_n 0, 1) := by decide +kernel
theorem dX9_nth_84 : decode cX9_nth 84 = .ok (.iload_n 3, 1) := by decide +kernel
theorem dX9_nth_85 : decode cX9_nth 85 = .ok (.aload_n 0, 1) := by decide +kernel
theorem dX9_nth_86 : decode cX9_nth 86 = .ok (.getfield 66, 3) := by decide +kernel
theorem dX9_nth_89 : decode cX9_nth 89 = .ok (.invokevirtual 83, 3) := by decide +kernel
theorem dX9_nth_92 : decode cX9_nth 92 = .ok (.ireturn, 1) := by decide +kernel
theorem dX9_which_0 : decode cX9_which 0 = .ok (.iload_n 1, 1) := by decide +kernel
theorem dX9_which_1 : decode cX9_which 1 = .ok (.invokestatic 75, 3) := by decide +kernel
theorem dX9_which_4 : decode cX9_which 4 = .ok (.ifCond .eq 17, 3) := by decide +kernel
theorem dX9_which_7 : decode cX9_which 7 = .ok (.iload_n 2, 1) := by decide +kernel
theorem dX9_which_8 : decode cX9_which 8 = .ok (.invokestatic 75, 3) := by decide +kernel
theorem dX9_which_11 : decode cX9_which 11 = .ok (.ifCond .eq 10, 3) := by decide +kernel
theorem dX9_which_14 : decode cX9_which 14 = .ok (.iload_n 3, 1) := by decide +kernel
theorem dX9_which_15 : decode cX9_which 15 = .ok (.invokestatic 75, 3) := by decide +kernel
theorem dX9_which_18 : decode cX9_which 18 = .ok (.ifCond .ne 5, 3) := by decide +kernel
theorem dX9_which_21 : decode cX9_which 21 = .ok (.iconst (-1), 1) := by decide +kernel
theorem dX9_which_22 : decode cX9_which 22 = .ok (.ireturn, 1) := by decide +kernel
theorem dX9_which_23 : decode cX9_which 23 = .ok (.aload_n 0, 1) := by decide +kernel
theorem dX9_which_24 : decode cX9_which 24 = .ok (.iload_n 1, 1) := by decide +kernel
theorem dX9_which_25 : decode cX9_which 25 = .ok (.iload_n 2, 1) := by decide +kernel
theorem dX9_which_26 : decode cX9_which 26 = .ok (.invokevirtual 151, 3) := by decide +kernel
theorem dX9_which_29 : decode cX9_which 29 = .ok (.istore 4, 2) := by decide +kernel
theorem dX9_which_31 : decode cX9_which 31 = .ok (.iload 4, 2) := by decide +kernel
theorem dX9_which_33 : decode cX9_which 33 = .ok (.ifCond .eq 6, 3) := by decide +kernel
theorem dX9_which_36 : decode cX9_which 36 = .ok (.iload 4, 2) := by decide +kernel
theorem dX9_which_38 : decode cX9_which 38 = .ok (.ireturn, 1) := by decide +kernel
theorem dX9_which_39 : decode cX9_which 39 = .ok (.aload_n 0, 1) := by decide +kernel
theorem dX9_which_40 : decode cX9_which 40 = .ok (.getfield 11, 3) := by decide +kernel
theorem dX9_which_43 : decode cX9_which 43 = .ok (.iload_n 1, 1) := by decide +kernel
theorem dX9_which_44 : decode cX9_which 44 = .ok (.aaload, 1) := by decide +kernel
theorem dX9_which_45 : decode cX9_which 45 = .ok (.astore 5, 2) := by decide +kernel
theorem dX9_which_47 : decode cX9_which 47 = .ok (.aload_n 0, 1) := by decide +kernel
theorem dX9_which_48 : decode cX9_which 48 = .ok (.getfield 43, 3) := by decide +kernel
theorem dX9_which_51 : decode cX9_which 51 = .ok (.aload 5, 2) := by decide +kernel
theorem dX9_which_53 : decode cX9_which 53 = .ok (.invokevirtual 154, 3) := by decide +kernel
theorem dX9_which_56 : decode cX9_which 56 = .ok (.aload 5, 2) := by decide +kernel
theorem dX9_which_58 : decode cX9_which 58 = .ok (.getfield 157, 3) := by decide +kernel
theorem dX9_which_61 : decode cX9_which 61 = .ok (.aload_n 0, 1) := by decide +kernel
theorem dX9_which_62 : decode cX9_which 62 = .ok (.getfield 11, 3) := by decide +kernel
theorem dX9_which_65 : decode cX9_which 65 = .ok (.iload_n 2, 1) := by decide +kernel
theorem dX9_which_66 : decode cX9_which 66 = .ok (.aaload, 1) := by decide +kernel
theorem dX9_which_67 : decode cX9_which 67 = .ok (.getfield 117, 3) := by decide +kernel
theorem dX9_which_70 : decode cX9_which 70 = .ok (.aload_n 0, 1) := by decide +kernel
theorem dX9_which_71 : decode cX9_which 71 = .ok (.getfield 66, 3) := by decide +kernel
theorem dX9_which_74 : decode cX9_which 74 = .ok (.invokevirtual 164, 3) := by decide +kernel
theorem dX9_which_77 : decode cX9_which 77 = .ok (.ifCond .ne 5, 3) := by decide +kernel
theorem dX9_which_80 : decode cX9_which 80 = .ok (.iconst 0, 1) := by decide +kernel
theorem dX9_which_81 : decode cX9_which 81 = .ok (.ireturn, 1) := by decide +kernel
theorem dX9_which_82 : decode cX9_which 82 = .ok (.aload_n 0, 1) := by decide +kernel
theorem dX9_which_83 : decode cX9_which 83 = .ok (.iload_n 3, 1) := by decide +kernel
theorem dX9_which_84 : decode cX9_which 84 = .ok (.aload_n 0, 1) := by decide +kernel
theorem dX9_which_85 : decode cX9_which 85 = .ok (.getfield 66, 3) := by decide +kernel
theorem dX9_which_88 : decode cX9_which 88 = .ok (.invokevirtual 83, 3) := by decide +kernel
theorem dX9_which_91 : decode cX9_which 91 = .ok (.pop, 1) := by decide +kernel
theorem dX9_which_92 : decode cX9_which 92 = .ok (.iconst 1, 1) := by decide +kernel
theorem dX9_which_93 : decode cX9_which 93 = .ok (.ireturn, 1) := by decide +kernel
theorem dX9_both_0 : decode cX9_both 0 = .ok (.iload_n 1, 1) := by decide +kernel
theorem dX9_both_1 : decode cX9_both 1 = .ok (.ifCond .lt 17, 3) := by decide +kernel
theorem dX9_both_4 : decode cX9_both 4 = .ok (.iload_n 1, 1) := by decide +kernel
theorem dX9_both_5 : decode cX9_both 5 = .ok (.sipush 200, 3) := by decide +kernel
theorem dX9_both_8 : decode cX9_both 8 = .ok (.if_icmp .gt 10, 3) := by decide +kernel
theorem dX9_both_11 : decode cX9_both 11 = .ok (.iload_n 2, 1) := by decide +kernel
theorem dX9_both_12 : decode cX9_both 12 = .ok (.invokestatic 75, 3) := by decide +kernel
theorem dX9_both_15 : decode cX9_both 15 = .ok (.ifCond .ne 5, 3) := by decide +kernel
theorem dX9_both_18 : decode cX9_both 18 = .ok (.iconst (-1), 1) := by decide +kernel
theorem dX9_both_19 : decode cX9_both 19 = .ok (.ireturn, 1) := by decide +kernel
theorem dX9_both_20 : decode cX9_both 20 = .ok (.aload_n 0, 1) := by decide +kernel
theorem dX9_both_21 : decode cX9_both 21 = .ok (.getfield 59, 3) := by decide +kernel
theorem dX9_both_24 : decode cX9_both 24 = .ok (.iload_n 1, 1) := by decide +kernel
theorem dX9_both_25 : decode cX9_both 25 = .ok (.iconst 0, 1) := by decide +kernel
theorem dX9_both_26 : decode cX9_both 26 = .ok (.aload_n 0, 1) := by decide +kernel
theorem dX9_both_27 : decode cX9_both 27 = .ok (.getfield 70, 3) := by decide +kernel
theorem dX9_both_30 : decode cX9_both 30 = .ok (.invokevirtual 167, 3) := by decide +kernel
theorem dX9_both_33 : decode cX9_both 33 = .ok (.aload_n 0, 1) := by decide +kernel
theorem dX9_both_34 : decode cX9_both 34 = .ok (.getfield 66, 3) := by decide +kernel
theorem dX9_both_37 : decode cX9_both 37 = .ok (.aload_n 0, 1) := by decide +kernel
theorem dX9_both_38 : decode cX9_both 38 = .ok (.getfield 70, 3) := by decide +kernel
theorem dX9_both_41 : decode cX9_both 41 = .ok (.aload_n 0, 1) := by decide +kernel
theorem dX9_both_42 : decode cX9_both 42 = .ok (.getfield 70, 3) := by decide +kernel
theorem dX9_both_45 : decode cX9_both 45 = .ok (.invokevirtual 147, 3) := by decide +kernel
theorem dX9_both_48 : decode cX9_both 48 = .ok (.aload_n 0, 1) := by decide +kernel
theorem dX9_both_49 : decode cX9_both 49 = .ok (.iload_n 2, 1) := by decide +kernel
theorem dX9_both_50 : decode cX9_both 50 = .ok (.aload_n 0, 1) := by decide +kernel
theorem dX9_both_51 : decode cX9_both 51 = .ok (.getfield 66, 3) := by decide +kernel
theorem dX9_both_54 : decode cX9_both 54 = .ok (.invokevirtual 83, 3) := by decide +kernel
theorem dX9_both_57 : decode cX9_both 57 = .ok (.ireturn, 1) := by decide +kernel
theorem dX9_side_0 : decode cX9_side 0 = .ok (.iload_n 1, 1) := by decide +kernel
theorem dX9_side_1 : decode cX9_side 1 = .ok (.ifCond .lt 26, 3) := by decide +kernel
theorem dX9_side_4 : decode cX9_side 4 = .ok (.iload_n 1, 1) := by decide +kernel
theorem dX9_side_5 : decode cX9_side 5 = .ok (.sipush 200, 3) := by decide +kernel
theorem dX9_side_8 : decode cX9_side 8 = .ok (.if_icmp .gt 19, 3) := by decide +kernel
theorem dX9_side_11 : decode cX9_side 11 = .ok (.iload_n 2, 1) := by decide +kernel
theorem dX9_side_12 : decode cX9_side 12 = .ok (.ifCond .lt 15, 3) := by decide +kernel
theorem dX9_side_15 : decode cX9_side 15 = .ok (.iload_n 2, 1) := by decide +kernel
theorem dX9_side_16 : decode cX9_side 16 = .ok (.iconst 1, 1) := by decide +kernel
theorem dX9_side_17 : decode cX9_side 17 = .ok (.if_icmp .gt 10, 3) := by decide +kernel
theorem dX9_side_20 : decode cX9_side 20 = .ok (.iload_n 3, 1) := by decide +kernel
theorem dX9_side_21 : decode cX9_side 21 = .ok (.invokestatic 75, 3) := by decide +kernel
theorem dX9_side_24 : decode cX9_side 24 = .ok (.ifCond .ne 5, 3) := by decide +kernel
theorem dX9_side_27 : decode cX9_side 27 = .ok (.iconst (-1), 1) := by decide +kernel
theorem dX9_side_28 : decode cX9_side 28 = .ok (.ireturn, 1) := by decide +kernel
theorem dX9_side_29 : decode cX9_side 29 = .ok (.aload_n 0, 1) := by decide +kernel
theorem dX9_side_30 : decode cX9_side 30 = .ok (.getfield 59, 3) := by decide +kernel
theorem dX9_side_33 : decode cX9_side 33 = .ok (.iload_n 1, 1) := by decide +kernel
theorem dX9_side_34 : decode cX9_side 34 = .ok (.iconst 2, 1) := by decide +kernel
theorem dX9_side_35 : decode cX9_side 35 = .ok (.iload_n 2, 1) := by decide +kernel
theorem dX9_side_36 : decode cX9_side 36 = .ok (.imul, 1) := by decide +kernel
theorem dX9_side_37 : decode cX9_side 37 = .ok (.aload_n 0, 1) := by decide +kernel
theorem dX9_side_38 : decode cX9_side 38 = .ok (.getfield 66, 3) := by decide +kernel
theorem dX9_side_41 : decode cX9_side 41 = .ok (.invokevirtual 167, 3) := by decide +kernel
theorem dX9_side_44 : decode cX9_side 44 = .ok (.aload_n 0, 1) := by decide +kernel
theorem dX9_side_45 : decode cX9_side 45 = .ok (.iload_n 3, 1) := by decide +kernel
theorem dX9_side_46 : decode cX9_side 46 = .ok (.aload_n 0, 1) := by decide +kernel
theorem dX9_side_47 : decode cX9_side 47 = .ok (.getfield 66, 3) := by decide +kernel
theorem dX9_side_50 : decode cX9_side 50 = .ok (.invokevirtual 83, 3) := by decide +kernel
theorem dX9_side_53 : decode cX9_side 53 = .ok (.ireturn, 1) := by decide +kernel
theorem dX9_one_0 : decode cX9_one 0 = .ok (.iload_n 1, 1) := by decide +kernel
theorem dX9_one_1 : decode cX9_one 1 = .ok (.invokestatic 171, 3) := by decide +kernel
theorem dX9_one_4 : decode cX9_one 4 = .ok (.ifCond .eq 23, 3) := by decide +kernel
theorem dX9_one_7 : decode cX9_one 7 = .ok (.iload_n 2, 1) := by decide +kernel
theorem dX9_one_8 : decode cX9_one 8 = .ok (.iconst 1, 1) := by decide +kernel
theorem dX9_one_9 : decode cX9_one 9 = .ok (.if_icmp .lt 18, 3) := by decide +kernel
theorem dX9_one_12 : decode cX9_one 12 = .ok (.iload_n 2, 1) := by decide +kernel
theorem dX9_one_13 : decode cX9_one 13 = .ok (.bipush 99, 2) := by decide +kernel
theorem dX9_one_15 : decode cX9_one 15 = .ok (.if_icmp .gt 12, 3) := by decide +kernel
theorem dX9_one_18 : decode cX9_one 18 = .ok (.iload_n 3, 1) := by decide +kernel
theorem dX9_one_19 : decode cX9_one 19 = .ok (.iload 4, 2) := by decide +kernel
theorem dX9_one_21 : decode cX9_one 21 = .ok (.invokestatic 174, 3) := by decide +kernel
theorem dX9_one_24 : decode cX9_one 24 = .ok (.ifCond .ne 5, 3) := by decide +kernel
theorem dX9_one_27 : decode cX9_one 27 = .ok (.iconst (-1), 1) := by decide +kernel
theorem dX9_one_28 : decode cX9_one 28 = .ok (.ireturn, 1) := by decide +kernel
theorem dX9_one_29 : decode cX9_one 29 = .ok (.aload_n 0, 1) := by decide +kernel
theorem dX9_one_30 : decode cX9_one 30 = .ok (.getfield 59, 3) := by decide +kernel
theorem dX9_one_33 : decode cX9_one 33 = .ok (.iload_n 1, 1) := by decide +kernel
theorem dX9_one_34 : decode cX9_one 34 = .ok (.iload_n 2, 1) := by decide +kernel
theorem dX9_one_35 : decode cX9_one 35 = .ok (.invokevirtual 178, 3) := by decide +kernel
theorem dX9_one_38 : decode cX9_one 38 = .ok (.ifCond .ne 6, 3) := by decide +kernel
theorem dX9_one_41 : decode cX9_one 41 = .ok (.bipush (-3), 2) := by decide +kernel
theorem dX9_one_43 : decode cX9_one 43 = .ok (.ireturn, 1) := by decide +kernel
theorem dX9_one_44 : decode cX9_one 44 = .ok (.aload_n 0, 1) := by decide +kernel
theorem dX9_one_45 : decode cX9_one 45 = .ok (.iload 4, 2) := by decide +kernel
theorem dX9_one_47 : decode cX9_one 47 = .ok (.aload_n 0, 1) := by decide +kernel
theorem dX9_one_48 : decode cX9_one 48 = .ok (.getfield 59, 3) := by decide +kernel
theorem dX9_one_51 : decode cX9_one 51 = .ok (.getfield 181, 3) := by decide +kernel
theorem dX9_one_54 : decode cX9_one 54 = .ok (.invokevirtual 83, 3) := by decide +kernel
theorem dX9_one_57 : decode cX9_one 57 = .ok (.pop, 1) := by decide +kernel
theorem dX9_one_58 : decode cX9_one 58 = .ok (.aload_n 0, 1) := by decide +kernel
theorem dX9_one_59 : decode cX9_one 59 = .ok (.iload_n 3, 1) := by decide +kernel
theorem dX9_one_60 : decode cX9_one 60 = .ok (.aload_n 0, 1) := by decide +kernel
theorem dX9_one_61 : decode cX9_one 61 = .ok (.getfield 59, 3) := by decide +kernel
theorem dX9_one_64 : decode cX9_one 64 = .ok (.getfield 184, 3) := by decide +kernel
theorem dX9_one_67 : decode cX9_one 67 = .ok (.invokevirtual 83, 3) := by decide +kernel
theorem dX9_one_70 : decode cX9_one 70 = .ok (.ireturn, 1) := by decide +kernel
theorem dX9_less_0 : decode cX9_less 0 = .ok (.iload_n 1, 1) := by decide +kernel
theorem dX9_less_1 : decode cX9_less 1 = .ok (.invokestatic 171, 3) := by decide +kernel
theorem dX9_less_4 : decode cX9_less 4 = .ok (.ifCond .ne 5, 3) := by decide +kernel
theorem dX9_less_7 : decode cX9_less 7 = .ok (.iconst (-1), 1) := by decide +kernel
theorem dX9_less_8 : decode cX9_less 8 = .ok (.ireturn, 1) := by decide +kernel
theorem dX9_less_9 : decode cX9_less 9 = .ok (.aload_n 0, 1) := by decide +kernel
theorem dX9_less_10 : decode cX9_less 10 = .ok (.getfield 50, 3) := by decide +kernel
theorem dX9_less_13 : decode cX9_less 13 = .ok (.iload_n 1, 1) := by decide +kernel
theorem dX9_less_14 : decode cX9_less 14 = .ok (.invokevirtual 187, 3) := by decide +kernel
theorem dX9_less_17 : decode cX9_less 17 = .ok (.iconst 2, 1) := by decide +kernel
theorem dX9_less_18 : decode cX9_less 18 = .ok (.irem, 1) := by decide +kernel
theorem dX9_less_19 : decode cX9_less 19 = .ok (.ireturn, 1) := by decide +kernel
theorem dX9_round_0 : decode cX9_round 0 = .ok (.iload_n 1, 1) := by decide +kernel
theorem dX9_round_1 : decode cX9_round 1 = .ok (.invokestatic 171, 3) := by decide +kernel
theorem dX9_round_4 : decode cX9_round 4 = .ok (.ifCond .eq 15, 3) := by decide +kernel
theorem dX9_round_7 : decode cX9_round 7 = .ok (.iload_n 2, 1) := by decide +kernel
theorem dX9_round_8 : decode cX9_round 8 = .ok (.iconst (-1), 1) := by decide +kernel
theorem dX9_round_9 : decode cX9_round 9 = .ok (.if_icmp .lt 10, 3) := by decide +kernel
theorem dX9_round_12 : decode cX9_round 12 = .ok (.iload_n 2, 1) := by decide +kernel
theorem dX9_round_13 : decode cX9_round 13 = .ok (.sipush 9999, 3) := by decide +kernel
theorem dX9_round_16 : decode cX9_round 16 = .ok (.if_icmp .le 5, 3) := by decide +kernel
theorem dX9_round_19 : decode cX9_round 19 = .ok (.iconst (-1), 1) := by decide +kernel
theorem dX9_round_20 : decode cX9_round 20 = .ok (.ireturn, 1) := by decide +kernel
theorem dX9_round_21 : decode cX9_round 21 = .ok (.iload_n 2, 1) := by decide +kernel
theorem dX9_round_22 : decode cX9_round 22 = .ok (.iconst (-1), 1) := by decide +kernel
theorem dX9_round_23 : decode cX9_round 23 = .ok (.if_icmp .ne 14, 3) := by decide +kernel
theorem dX9_round_26 : decode cX9_round 26 = .ok (.aload_n 0, 1) := by decide +kernel
theorem dX9_round_27 : decode cX9_round 27 = .ok (.getfield 50, 3) := by decide +kernel
theorem dX9_round_30 : decode cX9_round 30 = .ok (.iload_n 1, 1) := by decide +kernel
theorem dX9_round_31 : decode cX9_round 31 = .ok (.invokevirtual 187, 3) := by decide +kernel
theorem dX9_round_34 : decode cX9_round 34 = .ok (.goto 12, 3) := by decide +kernel
theorem dX9_round_37 : decode cX9_round 37 = .ok (.aload_n 0, 1) := by decide +kernel
theorem dX9_round_38 : decode cX9_round 38 = .ok (.getfield 50, 3) := by decide +kernel
theorem dX9_round_41 : decode cX9_round 41 = .ok (.iload_n 1, 1) := by decide +kernel
theorem dX9_round_42 : decode cX9_round 42 = .ok (.iload_n 2, 1) := by decide +kernel
theorem dX9_round_43 : decode cX9_round 43 = .ok (.invokevirtual 190, 3) := by decide +kernel
theorem dX9_round_46 : decode cX9_round 46 = .ok (.ireturn, 1) := by decide +kernel
theorem dX9_near_0 : decode cX9_near 0 = .ok (.iload_n 1, 1) := by decide +kernel
theorem dX9_near_1 : decode cX9_near 1 = .ok (.invokestatic 171, 3) := by decide +kernel
theorem dX9_near_4 : decode cX9_near 4 = .ok (.ifCond .eq 23, 3) := by decide +kernel
theorem dX9_near_7 : decode cX9_near 7 = .ok (.iload_n 2, 1) := by decide +kernel
theorem dX9_near_8 : decode cX9_near 8 = .ok (.ifCond .lt 19, 3) := by decide +kernel
theorem dX9_near_11 : decode cX9_near 11 = .ok (.iload_n 2, 1) := by decide +kernel
theorem dX9_near_12 : decode cX9_near 12 = .ok (.sipush 200, 3) := by decide +kernel
theorem dX9_near_15 : decode cX9_near 15 = .ok (.if_icmp .gt 12, 3) := by decide +kernel
theorem dX9_near_18 : decode cX9_near 18 = .ok (.iload_n 3, 1) := by decide +kernel
theorem dX9_near_19 : decode cX9_near 19 = .ok (.iload 4, 2) := by decide +kernel
theorem dX9_near_21 : decode cX9_near 21 = .ok (.invokestatic 174, 3) := by decide +kernel
theorem dX9_near_24 : decode cX9_near 24 = .ok (.ifCond .ne 5, 3) := by decide +kernel
theorem dX9_near_27 : decode cX9_near 27 = .ok (.iconst (-1), 1) := by decide +kernel
theorem dX9_near_28 : decode cX9_near 28 = .ok (.ireturn, 1) := by decide +kernel
theorem dX9_near_29 : decode cX9_near 29 = .ok (.aload_n 0, 1) := by decide +kernel
theorem dX9_near_30 : decode cX9_near 30 = .ok (.getfield 59, 3) := by decide +kernel
theorem dX9_near_33 : decode cX9_near 33 = .ok (.iload_n 1, 1) := by decide +kernel
theorem dX9_near_34 : decode cX9_near 34 = .ok (.iload_n 2, 1) := by decide +kernel
theorem dX9_near_35 : decode cX9_near 35 = .ok (.invokevirtual 192, 3) := by decide +kernel
theorem dX9_near_38 : decode cX9_near 38 = .ok (.ifCond .ne 6, 3) := by decide +kernel
theorem dX9_near_41 : decode cX9_near 41 = .ok (.bipush (-3), 2) := by decide +kernel
theorem dX9_near_43 : decode cX9_near 43 = .ok (.ireturn, 1) := by decide +kernel
theorem dX9_near_44 : decode cX9_near 44 = .ok (.aload_n 0, 1) := by decide +kernel
theorem dX9_near_45 : decode cX9_near 45 = .ok (.iload 4, 2) := by decide +kernel
theorem dX9_near_47 : decode cX9_near 47 = .ok (.aload_n 0, 1) := by decide +kernel
theorem dX9_near_48 : decode cX9_near 48 = .ok (.getfield 59, 3) := by decide +kernel
theorem dX9_near_51 : decode cX9_near 51 = .ok (.getfield 181, 3) := by decide +kernel
theorem dX9_near_54 : decode cX9_near 54 = .ok (.invokevirtual 83, 3) := by decide +kernel
theorem dX9_near_57 : decode cX9_near 57 = .ok (.pop, 1) := by decide +kernel
theorem dX9_near_58 : decode cX9_near 58 = .ok (.aload_n 0, 1) := by decide +kernel
theorem dX9_near_59 : decode cX9_near 59 = .ok (.iload_n 3, 1) := by decide +kernel
theorem dX9_near_60 : decode cX9_near 60 = .ok (.aload_n 0, 1) := by decide +kernel
theorem dX9_near_61 : decode cX9_near 61 = .ok (.getfield 59, 3) := by decide +kernel
theorem dX9_near_64 : decode cX9_near 64 = .ok (.getfield 184, 3) := by decide +kernel
theorem dX9_near_67 : decode cX9_near 67 = .ok (.invokevirtual 83, 3) := by decide +kernel
theorem dX9_near_70 : decode cX9_near 70 = .ok (.ireturn, 1) := by decide +kernel
theorem dX9_off_0 : decode cX9_off 0 = .ok (.iload_n 1, 1) := by decide +kernel
theorem dX9_off_1 : decode cX9_off 1 = .ok (.invokestatic 171, 3) := by decide +kernel
theorem dX9_off_4 : decode cX9_off 4 = .ok (.ifCond .eq 27, 3) := by decide +kernel
theorem dX9_off_7 : decode cX9_off 7 = .ok (.iload_n 2, 1) := by decide +kernel
theorem dX9_off_8 : decode cX9_off 8 = .ok (.bipush (-99), 2) := by decide +kernel
theorem dX9_off_10 : decode cX9_off 10 = .ok (.if_icmp .lt 21, 3) := by decide +kernel
theorem dX9_off_13 : decode cX9_off 13 = .ok (.iload_n 2, 1) := by decide +kernel
theorem dX9_off_14 : decode cX9_off 14 = .ok (.bipush 99, 2) := by decide +kernel
theorem dX9_off_16 : decode cX9_off 16 = .ok (.if_icmp .gt 15, 3) := by decide +kernel
theorem dX9_off_19 : decode cX9_off 19 = .ok (.iload_n 3, 1) := by decide +kernel
theorem dX9_off_20 : decode cX9_off 20 = .ok (.iconst (-1), 1) := by decide +kernel
theorem dX9_off_21 : decode cX9_off 21 = .ok (.if_icmp .lt 10, 3) := by decide +kernel
theorem dX9_off_24 : decode cX9_off 24 = .ok (.iload_n 3, 1) := by decide +kernel
theorem dX9_off_25 : decode cX9_off 25 = .ok (.sipush 9999, 3) := by decide +kernel
theorem dX9_off_28 : decode cX9_off 28 = .ok (.if_icmp .le 5, 3) := by decide +kernel
theorem dX9_off_31 : decode cX9_off 31 = .ok (.iconst (-1), 1) := by decide +kernel
theorem dX9_off_32 : decode cX9_off 32 = .ok (.ireturn, 1) := by decide +kernel
theorem dX9_off_33 : decode cX9_off 33 = .ok (.iload_n 1, 1) := by decide +kernel
theorem dX9_off_34 : decode cX9_off 34 = .ok (.iload_n 2, 1) := by decide +kernel
theorem dX9_off_35 : decode cX9_off 35 = .ok (.iload_n 3, 1) := by decide +kernel
theorem dX9_off_36 : decode cX9_off 36 = .ok (.invokestatic 195, 3) := by decide +kernel
theorem dX9_off_39 : decode cX9_off 39 = .ok (.ireturn, 1) := by decide +kernel
theorem dX9_best_0 : decode cX9_best 0 = .ok (.iload_n 1, 1) := by decide +kernel
theorem dX9_best_1 : decode cX9_best 1 = .ok (.ifCond .lt 20, 3) := by decide +kernel
theorem dX9_best_4 : decode cX9_best 4 = .ok (.iload_n 1, 1) := by decide +kernel
theorem dX9_best_5 : decode cX9_best 5 = .ok (.ldc 201, 2) := by decide +kernel
theorem dX9_best_7 : decode cX9_best 7 = .ok (.if_icmp .gt 14, 3) := by decide +kernel
theorem dX9_best_10 : decode cX9_best 10 = .ok (.iload_n 2, 1) := by decide +kernel
theorem dX9_best_11 : decode cX9_best 11 = .ok (.iconst 1, 1) := by decide +kernel
theorem dX9_best_12 : decode cX9_best 12 = .ok (.if_icmp .lt 9, 3) := by decide +kernel
theorem dX9_best_15 : decode cX9_best 15 = .ok (.iload_n 2, 1) := by decide +kernel
theorem dX9_best_16 : decode cX9_best 16 = .ok (.ldc 201, 2) := by decide +kernel
theorem dX9_best_18 : decode cX9_best 18 = .ok (.if_icmp .le 5, 3) := by decide +kernel
theorem dX9_best_21 : decode cX9_best 21 = .ok (.iconst (-1), 1) := by decide +kernel
theorem dX9_best_22 : decode cX9_best 22 = .ok (.ireturn, 1) := by decide +kernel
theorem dX9_best_23 : decode cX9_best 23 = .ok (.iload_n 3, 1) := by decide +kernel
theorem dX9_best_24 : decode cX9_best 24 = .ok (.iconst 1, 1) := by decide +kernel
theorem dX9_best_25 : decode cX9_best 25 = .ok (.if_icmp .lt 21, 3) := by decide +kernel
theorem dX9_best_28 : decode cX9_best 28 = .ok (.iload_n 3, 1) := by decide +kernel
theorem dX9_best_29 : decode cX9_best 29 = .ok (.sipush 999, 3) := by decide +kernel
theorem dX9_best_32 : decode cX9_best 32 = .ok (.if_icmp .gt 14, 3) := by decide +kernel
theorem dX9_best_35 : decode cX9_best 35 = .ok (.iload 4, 2) := by decide +kernel
theorem dX9_best_37 : decode cX9_best 37 = .ok (.ifCond .lt 9, 3) := by decide +kernel
theorem dX9_best_40 : decode cX9_best 40 = .ok (.iload 4, 2) := by decide +kernel
theorem dX9_best_42 : decode cX9_best 42 = .ok (.iconst 1, 1) := by decide +kernel
theorem dX9_best_43 : decode cX9_best 43 = .ok (.if_icmp .le 5, 3) := by decide +kernel
theorem dX9_best_46 : decode cX9_best 46 = .ok (.iconst (-1), 1) := by decide +kernel
theorem dX9_best_47 : decode cX9_best 47 = .ok (.ireturn, 1) := by decide +kernel
theorem dX9_best_48 : decode cX9_best 48 = .ok (.iload_n 1, 1) := by decide +kernel
theorem dX9_best_49 : decode cX9_best 49 = .ok (.i2l, 1) := by decide +kernel
theorem dX9_best_50 : decode cX9_best 50 = .ok (.iload_n 2, 1) := by decide +kernel
theorem dX9_best_51 : decode cX9_best 51 = .ok (.i2l, 1) := by decide +kernel
theorem dX9_best_52 : decode cX9_best 52 = .ok (.iload_n 3, 1) := by decide +kernel
theorem dX9_best_53 : decode cX9_best 53 = .ok (.iload 4, 2) := by decide +kernel
theorem dX9_best_55 : decode cX9_best 55 = .ok (.invokestatic 202, 3) := by decide +kernel
theorem dX9_best_58 : decode cX9_best 58 = .ok (.ireturn, 1) := by decide +kernel
theorem dX9_two_0 : decode cX9_two 0 = .ok (.iload_n 1, 1) := by decide +kernel
theorem dX9_two_1 : decode cX9_two 1 = .ok (.ifCond .lt 14, 3) := by decide +kernel
theorem dX9_two_4 : decode cX9_two 4 = .ok (.iload_n 1, 1) := by decide +kernel
theorem dX9_two_5 : decode cX9_two 5 = .ok (.ldc 206, 2) := by decide +kernel
theorem dX9_two_7 : decode cX9_two 7 = .ok (.if_icmp .gt 8, 3) := by decide +kernel
theorem dX9_two_10 : decode cX9_two 10 = .ok (.iload_n 2, 1) := by decide +kernel
theorem dX9_two_11 : decode cX9_two 11 = .ok (.iconst (-1), 1) := by decide +kernel
theorem dX9_two_12 : decode cX9_two 12 = .ok (.if_icmp .ge 5, 3) := by decide +kernel
theorem dX9_two_15 : decode cX9_two 15 = .ok (.iconst (-1), 1) := by decide +kernel
theorem dX9_two_16 : decode cX9_two 16 = .ok (.ireturn, 1) := by decide +kernel
theorem dX9_two_17 : decode cX9_two 17 = .ok (.iload_n 1, 1) := by decide +kernel
theorem dX9_two_18 : decode cX9_two 18 = .ok (.i2l, 1) := by decide +kernel
theorem dX9_two_19 : decode cX9_two 19 = .ok (.iload_n 2, 1) := by decide +kernel
theorem dX9_two_20 : decode cX9_two 20 = .ok (.invokestatic 207, 3) := by decide +kernel
theorem dX9_two_23 : decode cX9_two 23 = .ok (.ireturn, 1) := by decide +kernel
theorem dX9_three_0 : decode cX9_three 0 = .ok (.iload_n 1, 1) := by decide +kernel
theorem dX9_three_1 : decode cX9_three 1 = .ok (.ifCond .lt 18, 3) := by decide +kernel
theorem dX9_three_4 : decode cX9_three 4 = .ok (.iload_n 1, 1) := by decide +kernel
theorem dX9_three_5 : decode cX9_three 5 = .ok (.ldc 211, 2) := by decide +kernel
theorem dX9_three_7 : decode cX9_three 7 = .ok (.if_icmp .gt 12, 3) := by decide +kernel
theorem dX9_three_10 : decode cX9_three 10 = .ok (.iload_n 2, 1) := by decide +kernel
theorem dX9_three_11 : decode cX9_three 11 = .ok (.ifCond .lt 8, 3) := by decide +kernel
theorem dX9_three_14 : decode cX9_three 14 = .ok (.iload_n 2, 1) := by decide +kernel
theorem dX9_three_15 : decode cX9_three 15 = .ok (.iconst 2, 1) := by decide +kernel
theorem dX9_three_16 : decode cX9_three 16 = .ok (.if_icmp .le 5, 3) := by decide +kernel
theorem dX9_three_19 : decode cX9_three 19 = .ok (.iconst (-1), 1) := by decide +kernel
theorem dX9_three_20 : decode cX9_three 20 = .ok (.ireturn, 1) := by decide +kernel
theorem dX9_three_21 : decode cX9_three 21 = .ok (.iload_n 1, 1) := by decide +kernel
theorem dX9_three_22 : decode cX9_three 22 = .ok (.i2l, 1) := by decide +kernel
theorem dX9_three_23 : decode cX9_three 23 = .ok (.iload_n 2, 1) := by decide +kernel
theorem dX9_three_24 : decode cX9_three 24 = .ok (.invokestatic 212, 3) := by decide +kernel
theorem dX9_three_27 : decode cX9_three 27 = .ok (.ireturn, 1) := by decide +kernel
theorem dX9_four_0 : decode cX9_four 0 = .ok (.iload_n 1, 1) := by decide +kernel
theorem dX9_four_1 : decode cX9_four 1 = .ok (.ifCond .lt 18, 3) := by decide +kernel
theorem dX9_four_4 : decode cX9_four 4 = .ok (.iload_n 1, 1) := by decide +kernel
theorem dX9_four_5 : decode cX9_four 5 = .ok (.ldc 211, 2) := by decide +kernel
theorem dX9_four_7 : decode cX9_four 7 = .ok (.if_icmp .gt 12, 3) := by decide +kernel
theorem dX9_four_10 : decode cX9_four 10 = .ok (.iload_n 2, 1) := by decide +kernel
theorem dX9_four_11 : decode cX9_four 11 = .ok (.ifCond .lt 8, 3) := by decide +kernel
theorem dX9_four_14 : decode cX9_four 14 = .ok (.iload_n 2, 1) := by decide +kernel
theorem dX9_four_15 : decode cX9_four 15 = .ok (.iconst 3, 1) := by decide +kernel
theorem dX9_four_16 : decode cX9_four 16 = .ok (.if_icmp .le 5, 3) := by decide +kernel
theorem dX9_four_19 : decode cX9_four 19 = .ok (.iconst (-1), 1) := by decide +kernel
theorem dX9_four_20 : decode cX9_four 20 = .ok (.ireturn, 1) := by decide +kernel
theorem dX9_four_21 : decode cX9_four 21 = .ok (.iload_n 1, 1) := by decide +kernel
theorem dX9_four_22 : decode cX9_four 22 = .ok (.i2l, 1) := by decide +kernel
theorem dX9_four_23 : decode cX9_four 23 = .ok (.iload_n 2, 1) := by decide +kernel
theorem dX9_four_24 : decode cX9_four 24 = .ok (.invokestatic 215, 3) := by decide +kernel
theorem dX9_four_27 : decode cX9_four 27 = .ok (.ireturn, 1) := by decide +kernel
theorem dX9_fewest_0 : decode cX9_fewest 0 = .ok (.iload_n 1, 1) := by decide +kernel
theorem dX9_fewest_1 : decode cX9_fewest 1 = .ok (.ifCond .lt 9, 3) := by decide +kernel
theorem dX9_fewest_4 : decode cX9_fewest 4 = .ok (.iload_n 1, 1) := by decide +kernel
theorem dX9_fewest_5 : decode cX9_fewest 5 = .ok (.ldc 206, 2) := by decide +kernel
theorem dX9_fewest_7 : decode cX9_fewest 7 = .ok (.if_icmp .le 5, 3) := by decide +kernel
theorem dX9_fewest_10 : decode cX9_fewest 10 = .ok (.iconst (-1), 1) := by decide +kernel
theorem dX9_fewest_11 : decode cX9_fewest 11 = .ok (.ireturn, 1) := by decide +kernel
theorem dX9_fewest_12 : decode cX9_fewest 12 = .ok (.iload_n 1, 1) := by decide +kernel
theorem dX9_fewest_13 : decode cX9_fewest 13 = .ok (.i2l, 1) := by decide +kernel
theorem dX9_fewest_14 : decode cX9_fewest 14 = .ok (.invokestatic 218, 3) := by decide +kernel
theorem dX9_fewest_17 : decode cX9_fewest 17 = .ok (.ireturn, 1) := by decide +kernel
theorem dX9_wall_0 : decode cX9_wall 0 = .ok (.iload_n 1, 1) := by decide +kernel
theorem dX9_wall_1 : decode cX9_wall 1 = .ok (.iconst 1, 1) := by decide +kernel
theorem dX9_wall_2 : decode cX9_wall 2 = .ok (.if_icmp .lt 15, 3) := by decide +kernel
theorem dX9_wall_5 : decode cX9_wall 5 = .ok (.iload_n 1, 1) := by decide +kernel
theorem dX9_wall_6 : decode cX9_wall 6 = .ok (.sipush 999, 3) := by decide +kernel
theorem dX9_wall_9 : decode cX9_wall 9 = .ok (.if_icmp .gt 8, 3) := by decide +kernel
theorem dX9_wall_12 : decode cX9_wall 12 = .ok (.iload_n 2, 1) := by decide +kernel
theorem dX9_wall_13 : decode cX9_wall 13 = .ok (.iconst (-1), 1) := by decide +kernel
theorem dX9_wall_14 : decode cX9_wall 14 = .ok (.if_icmp .ge 5, 3) := by decide +kernel
theorem dX9_wall_17 : decode cX9_wall 17 = .ok (.iconst (-1), 1) := by decide +kernel
theorem dX9_wall_18 : decode cX9_wall 18 = .ok (.ireturn, 1) := by decide +kernel
theorem dX9_wall_19 : decode cX9_wall 19 = .ok (.iload_n 1, 1) := by decide +kernel
theorem dX9_wall_20 : decode cX9_wall 20 = .ok (.i2l, 1) := by decide +kernel
theorem dX9_wall_21 : decode cX9_wall 21 = .ok (.iload_n 2, 1) := by decide +kernel
theorem dX9_wall_22 : decode cX9_wall 22 = .ok (.invokestatic 222, 3) := by decide +kernel
theorem dX9_wall_25 : decode cX9_wall 25 = .ok (.ireturn, 1) := by decide +kernel
theorem dX9_flat_0 : decode cX9_flat 0 = .ok (.iload_n 1, 1) := by decide +kernel
theorem dX9_flat_1 : decode cX9_flat 1 = .ok (.iconst 3, 1) := by decide +kernel
theorem dX9_flat_2 : decode cX9_flat 2 = .ok (.if_icmp .lt 14, 3) := by decide +kernel
theorem dX9_flat_5 : decode cX9_flat 5 = .ok (.iload_n 1, 1) := by decide +kernel
theorem dX9_flat_6 : decode cX9_flat 6 = .ok (.bipush 99, 2) := by decide +kernel
theorem dX9_flat_8 : decode cX9_flat 8 = .ok (.if_icmp .gt 8, 3) := by decide +kernel
theorem dX9_flat_11 : decode cX9_flat 11 = .ok (.iload_n 2, 1) := by decide +kernel
theorem dX9_flat_12 : decode cX9_flat 12 = .ok (.iconst (-1), 1) := by decide +kernel
theorem dX9_flat_13 : decode cX9_flat 13 = .ok (.if_icmp .ge 5, 3) := by decide +kernel
theorem dX9_flat_16 : decode cX9_flat 16 = .ok (.iconst (-1), 1) := by decide +kernel
theorem dX9_flat_17 : decode cX9_flat 17 = .ok (.ireturn, 1) := by decide +kernel
theorem dX9_flat_18 : decode cX9_flat 18 = .ok (.iload_n 1, 1) := by decide +kernel
theorem dX9_flat_19 : decode cX9_flat 19 = .ok (.i2l, 1) := by decide +kernel
theorem dX9_flat_20 : decode cX9_flat 20 = .ok (.iload_n 2, 1) := by decide +kernel
theorem dX9_flat_21 : decode cX9_flat 21 = .ok (.invokestatic 225, 3) := by decide +kernel
theorem dX9_flat_24 : decode cX9_flat 24 = .ok (.ireturn, 1) := by decide +kernel
theorem dX9_corners_0 : decode cX9_corners 0 = .ok (.iload_n 1, 1) := by decide +kernel
theorem dX9_corners_1 : decode cX9_corners 1 = .ok (.iconst 1, 1) := by decide +kernel
theorem dX9_corners_2 : decode cX9_corners 2 = .ok (.if_icmp .lt 15, 3) := by decide +kernel
theorem dX9_corners_5 : decode cX9_corners 5 = .ok (.iload_n 1, 1) := by decide +kernel
theorem dX9_corners_6 : decode cX9_corners 6 = .ok (.sipush 500, 3) := by decide +kernel
theorem dX9_corners_9 : decode cX9_corners 9 = .ok (.if_icmp .gt 8, 3) := by decide +kernel
theorem dX9_corners_12 : decode cX9_corners 12 = .ok (.iload_n 2, 1) := by decide +kernel
theorem dX9_corners_13 : decode cX9_corners 13 = .ok (.iconst (-1), 1) := by decide +kernel
theorem dX9_corners_14 : decode cX9_corners 14 = .ok (.if_icmp .ge 5, 3) := by decide +kernel
theorem dX9_corners_17 : decode cX9_corners 17 = .ok (.iconst (-1), 1) := by decide +kernel
theorem dX9_corners_18 : decode cX9_corners 18 = .ok (.ireturn, 1) := by decide +kernel
theorem dX9_corners_19 : decode cX9_corners 19 = .ok (.iload_n 1, 1) := by decide +kernel
theorem dX9_corners_20 : decode cX9_corners 20 = .ok (.iload_n 2, 1) := by decide +kernel
theorem dX9_corners_21 : decode cX9_corners 21 = .ok (.invokestatic 228, 3) := by decide +kernel
theorem dX9_corners_24 : decode cX9_corners 24 = .ok (.ireturn, 1) := by decide +kernel
theorem dX9_string_0 : decode cX9_string 0 = .ok (.iload_n 1, 1) := by decide +kernel
theorem dX9_string_1 : decode cX9_string 1 = .ok (.iconst 1, 1) := by decide +kernel
theorem dX9_string_2 : decode cX9_string 2 = .ok (.if_icmp .lt 9, 3) := by decide +kernel
theorem dX9_string_5 : decode cX9_string 5 = .ok (.iload_n 1, 1) := by decide +kernel
theorem dX9_string_6 : decode cX9_string 6 = .ok (.ldc 231, 2) := by decide +kernel
theorem dX9_string_8 : decode cX9_string 8 = .ok (.if_icmp .le 5, 3) := by decide +kernel
theorem dX9_string_11 : decode cX9_string 11 = .ok (.iconst (-1), 1) := by decide +kernel
theorem dX9_string_12 : decode cX9_string 12 = .ok (.ireturn, 1) := by decide +kernel
theorem dX9_string_13 : decode cX9_string 13 = .ok (.iload_n 1, 1) := by decide +kernel
theorem dX9_string_14 : decode cX9_string 14 = .ok (.i2l, 1) := by decide +kernel
theorem dX9_string_15 : decode cX9_string 15 = .ok (.invokestatic 232, 3) := by decide +kernel
theorem dX9_string_18 : decode cX9_string 18 = .ok (.ireturn, 1) := by decide +kernel
theorem dX9_claims_0 : decode cX9_claims 0 = .ok (.aload_n 0, 1) := by decide +kernel
theorem dX9_claims_1 : decode cX9_claims 1 = .ok (.invokevirtual 235, 3) := by decide +kernel
theorem dX9_claims_4 : decode cX9_claims 4 = .ok (.istore_n 1, 1) := by decide +kernel
theorem dX9_claims_5 : decode cX9_claims 5 = .ok (.aload_n 0, 1) := by decide +kernel
theorem dX9_claims_6 : decode cX9_claims 6 = .ok (.getfield 27, 3) := by decide +kernel
theorem dX9_claims_9 : decode cX9_claims 9 = .ok (.iconst 0, 1) := by decide +kernel
theorem dX9_claims_10 : decode cX9_claims 10 = .ok (.putfield 102, 3) := by decide +kernel
theorem dX9_claims_13 : decode cX9_claims 13 = .ok (.iload_n 1, 1) := by decide +kernel
theorem dX9_claims_14 : decode cX9_claims 14 = .ok (.ireturn, 1) := by decide +kernel
theorem dX9_image_0 : decode cX9_image 0 = .ok (.iconst 0, 1) := by decide +kernel
theorem dX9_image_1 : decode cX9_image 1 = .ok (.istore_n 1, 1) := by decide +kernel
theorem dX9_image_2 : decode cX9_image 2 = .ok (.iload_n 1, 1) := by decide +kernel
theorem dX9_image_3 : decode cX9_image 3 = .ok (.bipush 8, 2) := by decide +kernel
theorem dX9_image_5 : decode cX9_image 5 = .ok (.if_icmp .ge 24, 3) := by decide +kernel
theorem dX9_image_8 : decode cX9_image 8 = .ok (.aload_n 0, 1) := by decide +kernel
theorem dX9_image_9 : decode cX9_image 9 = .ok (.getfield 15, 3) := by decide +kernel
theorem dX9_image_12 : decode cX9_image 12 = .ok (.iload_n 1, 1) := by decide +kernel
theorem dX9_image_13 : decode cX9_image 13 = .ok (.aaload, 1) := by decide +kernel
theorem dX9_image_14 : decode cX9_image 14 = .ok (.aload_n 0, 1) := by decide +kernel
theorem dX9_image_15 : decode cX9_image 15 = .ok (.getfield 11, 3) := by decide +kernel
theorem dX9_image_18 : decode cX9_image 18 = .ok (.iload_n 1, 1) := by decide +kernel
theorem dX9_image_19 : decode cX9_image 19 = .ok (.aaload, 1) := by decide +kernel
theorem dX9_image_20 : decode cX9_image 20 = .ok (.invokevirtual 238, 3) := by decide +kernel
theorem dX9_image_23 : decode cX9_image 23 = .ok (.iinc 1 1, 3) := by decide +kernel
theorem dX9_image_26 : decode cX9_image 26 = .ok (.goto (-24), 3) := by decide +kernel
theorem dX9_image_29 : decode cX9_image 29 = .ok (.aload_n 0, 1) := by decide +kernel
theorem dX9_image_30 : decode cX9_image 30 = .ok (.iconst 1, 1) := by decide +kernel
theorem dX9_image_31 : decode cX9_image 31 = .ok (.putfield 242, 3) := by decide +kernel
theorem dX9_image_34 : decode cX9_image 34 = .ok (.iconst 1, 1) := by decide +kernel
theorem dX9_image_35 : decode cX9_image 35 = .ok (.ireturn, 1) := by decide +kernel
theorem dX9_restore_0 : decode cX9_restore 0 = .ok (.aload_n 0, 1) := by decide +kernel
theorem dX9_restore_1 : decode cX9_restore 1 = .ok (.getfield 242, 3) := by decide +kernel
theorem dX9_restore_4 : decode cX9_restore 4 = .ok (.ifCond .ne 6, 3) := by decide +kernel
theorem dX9_restore_7 : decode cX9_restore 7 = .ok (.bipush (-4), 2) := by decide +kernel
theorem dX9_restore_9 : decode cX9_restore 9 = .ok (.ireturn, 1) := by decide +kernel
theorem dX9_restore_10 : decode cX9_restore 10 = .ok (.iconst 0, 1) := by decide +kernel
theorem dX9_restore_11 : decode cX9_restore 11 = .ok (.istore_n 1, 1) := by decide +kernel
theorem dX9_restore_12 : decode cX9_restore 12 = .ok (.iload_n 1, 1) := by decide +kernel
theorem dX9_restore_13 : decode cX9_restore 13 = .ok (.bipush 8, 2) := by decide +kernel
theorem dX9_restore_15 : decode cX9_restore 15 = .ok (.if_icmp .ge 24, 3) := by decide +kernel
theorem dX9_restore_18 : decode cX9_restore 18 = .ok (.aload_n 0, 1) := by decide +kernel
theorem dX9_restore_19 : decode cX9_restore 19 = .ok (.getfield 11, 3) := by decide +kernel
theorem dX9_restore_22 : decode cX9_restore 22 = .ok (.iload_n 1, 1) := by decide +kernel
theorem dX9_restore_23 : decode cX9_restore 23 = .ok (.aaload, 1) := by decide +kernel
theorem dX9_restore_24 : decode cX9_restore 24 = .ok (.aload_n 0, 1) := by decide +kernel
theorem dX9_restore_25 : decode cX9_restore 25 = .ok (.getfield 15, 3) := by decide +kernel
theorem dX9_restore_28 : decode cX9_restore 28 = .ok (.iload_n 1, 1) := by decide +kernel
theorem dX9_restore_29 : decode cX9_restore 29 = .ok (.aaload, 1) := by decide +kernel
theorem dX9_restore_30 : decode cX9_restore 30 = .ok (.invokevirtual 238, 3) := by decide +kernel
theorem dX9_restore_33 : decode cX9_restore 33 = .ok (.iinc 1 1, 3) := by decide +kernel
theorem dX9_restore_36 : decode cX9_restore 36 = .ok (.goto (-24), 3) := by decide +kernel
theorem dX9_restore_39 : decode cX9_restore 39 = .ok (.iconst 1, 1) := by decide +kernel
theorem dX9_restore_40 : decode cX9_restore 40 = .ok (.ireturn, 1) := by decide +kernel
theorem dX9_heap_0 : decode cX9_heap 0 = .ok (.iload_n 1, 1) := by decide +kernel
theorem dX9_heap_1 : decode cX9_heap 1 = .ok (.invokestatic 246, 3) := by decide +kernel
theorem dX9_heap_4 : decode cX9_heap 4 = .ok (.ifCond .eq 31, 3) := by decide +kernel
theorem dX9_heap_7 : decode cX9_heap 7 = .ok (.iload_n 2, 1) := by decide +kernel
theorem dX9_heap_8 : decode cX9_heap 8 = .ok (.invokestatic 249, 3) := by decide +kernel
theorem dX9_heap_11 : decode cX9_heap 11 = .ok (.ifCond .eq 24, 3) := by decide +kernel
theorem dX9_heap_14 : decode cX9_heap 14 = .ok (.iload 4, 2) := by decide +kernel
theorem dX9_heap_16 : decode cX9_heap 16 = .ok (.iconst 1, 1) := by decide +kernel
theorem dX9_heap_17 : decode cX9_heap 17 = .ok (.if_icmp .lt 18, 3) := by decide +kernel
theorem dX9_heap_20 : decode cX9_heap 20 = .ok (.iload 4, 2) := by decide +kernel
theorem dX9_heap_22 : decode cX9_heap 22 = .ok (.bipush 24, 2) := by decide +kernel
theorem dX9_heap_24 : decode cX9_heap 24 = .ok (.if_icmp .gt 11, 3) := by decide +kernel
theorem dX9_heap_27 : decode cX9_heap 27 = .ok (.iload 5, 2) := by decide +kernel
theorem dX9_heap_29 : decode cX9_heap 29 = .ok (.invokestatic 75, 3) := by decide +kernel
theorem dX9_heap_32 : decode cX9_heap 32 = .ok (.ifCond .ne 5, 3) := by decide +kernel
theorem dX9_heap_35 : decode cX9_heap 35 = .ok (.iconst (-1), 1) := by decide +kernel
theorem dX9_heap_36 : decode cX9_heap 36 = .ok (.ireturn, 1) := by decide +kernel
theorem dX9_heap_37 : decode cX9_heap 37 = .ok (.aload_n 0, 1) := by decide +kernel
theorem dX9_heap_38 : decode cX9_heap 38 = .ok (.getfield 20, 3) := by decide +kernel
theorem dX9_heap_41 : decode cX9_heap 41 = .ok (.iload_n 1, 1) := by decide +kernel
theorem dX9_heap_42 : decode cX9_heap 42 = .ok (.aaload, 1) := by decide +kernel
theorem dX9_heap_43 : decode cX9_heap 43 = .ok (.iload_n 2, 1) := by decide +kernel
theorem dX9_heap_44 : decode cX9_heap 44 = .ok (.iload_n 3, 1) := by decide +kernel
theorem dX9_heap_45 : decode cX9_heap 45 = .ok (.iload 4, 2) := by decide +kernel
theorem dX9_heap_47 : decode cX9_heap 47 = .ok (.invokevirtual 252, 3) := by decide +kernel
theorem dX9_heap_50 : decode cX9_heap 50 = .ok (.istore 6, 2) := by decide +kernel
theorem dX9_heap_52 : decode cX9_heap 52 = .ok (.iload 6, 2) := by decide +kernel
theorem dX9_heap_54 : decode cX9_heap 54 = .ok (.ifCond .eq 6, 3) := by decide +kernel
theorem dX9_heap_57 : decode cX9_heap 57 = .ok (.iload 6, 2) := by decide +kernel
theorem dX9_heap_59 : decode cX9_heap 59 = .ok (.ireturn, 1) := by decide +kernel
theorem dX9_heap_60 : decode cX9_heap 60 = .ok (.aload_n 0, 1) := by decide +kernel
theorem dX9_heap_61 : decode cX9_heap 61 = .ok (.getfield 66, 3) := by decide +kernel
theorem dX9_heap_64 : decode cX9_heap 64 = .ok (.lconst 0, 1) := by decide +kernel
theorem dX9_heap_65 : decode cX9_heap 65 = .ok (.invokevirtual 79, 3) := by decide +kernel
theorem dX9_heap_68 : decode cX9_heap 68 = .ok (.iconst 0, 1) := by decide +kernel
theorem dX9_heap_69 : decode cX9_heap 69 = .ok (.istore 7, 2) := by decide +kernel
theorem dX9_heap_71 : decode cX9_heap 71 = .ok (.iload 7, 2) := by decide +kernel
theorem dX9_heap_73 : decode cX9_heap 73 = .ok (.iload 4, 2) := by decide +kernel
theorem dX9_heap_75 : decode cX9_heap 75 = .ok (.if_icmp .ge 54, 3) := by decide +kernel
theorem dX9_heap_78 : decode cX9_heap 78 = .ok (.aload_n 0, 1) := by decide +kernel
theorem dX9_heap_79 : decode cX9_heap 79 = .ok (.getfield 20, 3) := by decide +kernel
theorem dX9_heap_82 : decode cX9_heap 82 = .ok (.iload_n 1, 1) := by decide +kernel
theorem dX9_heap_83 : decode cX9_heap 83 = .ok (.aaload, 1) := by decide +kernel
theorem dX9_heap_84 : decode cX9_heap 84 = .ok (.iload_n 3, 1) := by decide +kernel
theorem dX9_heap_85 : decode cX9_heap 85 = .ok (.iload 7, 2) := by decide +kernel
theorem dX9_heap_87 : decode cX9_heap 87 = .ok (.iadd, 1) := by decide +kernel
theorem dX9_heap_88 : decode cX9_heap 88 = .ok (.invokevirtual 255, 3) := by decide +kernel
theorem dX9_heap_91 : decode cX9_heap 91 = .ok (.lstore 8, 2) := by decide +kernel
theorem dX9_heap_93 : decode cX9_heap 93 = .ok (.lload 8, 2) := by decide +kernel
theorem dX9_heap_95 : decode cX9_heap 95 = .ok (.lconst 0, 1) := by decide +kernel
theorem dX9_heap_96 : decode cX9_heap 96 = .ok (.lcmp, 1) := by decide +kernel
theorem dX9_heap_97 : decode cX9_heap 97 = .ok (.ifCond .ge 6, 3) := by decide +kernel
theorem dX9_heap_100 : decode cX9_heap 100 = .ok (.bipush (-2), 2) := by decide +kernel
theorem dX9_heap_102 : decode cX9_heap 102 = .ok (.ireturn, 1) := by decide +kernel
theorem dX9_heap_103 : decode cX9_heap 103 = .ok (.aload_n 0, 1) := by decide +kernel
theorem dX9_heap_104 : decode cX9_heap 104 = .ok (.getfield 70, 3) := by decide +kernel
theorem dX9_heap_107 : decode cX9_heap 107 = .ok (.lload 8, 2) := by decide +kernel
theorem dX9_heap_109 : decode cX9_heap 109 = .ok (.invokevirtual 79, 3) := by decide +kernel
theorem dX9_heap_112 : decode cX9_heap 112 = .ok (.aload_n 0, 1) := by decide +kernel
theorem dX9_heap_113 : decode cX9_heap 113 = .ok (.getfield 66, 3) := by decide +kernel
theorem dX9_heap_116 : decode cX9_heap 116 = .ok (.aload_n 0, 1) := by decide +kernel
theorem dX9_heap_117 : decode cX9_heap 117 = .ok (.getfield 70, 3) := by decide +kernel
theorem dX9_heap_120 : decode cX9_heap 120 = .ok (.invokevirtual 258, 3) := by decide +kernel
theorem dX9_heap_123 : decode cX9_heap 123 = .ok (.iinc 7 1, 3) := by decide +kernel
theorem dX9_heap_126 : decode cX9_heap 126 = .ok (.goto (-55), 3) := by decide +kernel
theorem dX9_heap_129 : decode cX9_heap 129 = .ok (.aload_n 0, 1) := by decide +kernel
theorem dX9_heap_130 : decode cX9_heap 130 = .ok (.iload 5, 2) := by decide +kernel
theorem dX9_heap_132 : decode cX9_heap 132 = .ok (.aload_n 0, 1) := by decide +kernel
theorem dX9_heap_133 : decode cX9_heap 133 = .ok (.getfield 66, 3) := by decide +kernel
theorem dX9_heap_136 : decode cX9_heap 136 = .ok (.invokevirtual 83, 3) := by decide +kernel
theorem dX9_heap_139 : decode cX9_heap 139 = .ok (.ireturn, 1) := by decide +kernel
theorem dX9_sheet_0 : decode cX9_sheet 0 = .ok (.iload_n 1, 1) := by decide +kernel
theorem dX9_sheet_1 : decode cX9_sheet 1 = .ok (.invokestatic 246, 3) := by decide +kernel
theorem dX9_sheet_4 : decode cX9_sheet 4 = .ok (.ifCond .eq 16, 3) := by decide +kernel
theorem dX9_sheet_7 : decode cX9_sheet 7 = .ok (.iload_n 2, 1) := by decide +kernel
theorem dX9_sheet_8 : decode cX9_sheet 8 = .ok (.invokestatic 249, 3) := by decide +kernel
theorem dX9_sheet_11 : decode cX9_sheet 11 = .ok (.ifCond .eq 9, 3) := by decide +kernel
theorem dX9_sheet_14 : decode cX9_sheet 14 = .ok (.iload_n 3, 1) := by decide +kernel
theorem dX9_sheet_15 : decode cX9_sheet 15 = .ok (.bipush 24, 2) := by decide +kernel
theorem dX9_sheet_17 : decode cX9_sheet 17 = .ok (.if_icmp .le 5, 3) := by decide +kernel
theorem dX9_sheet_20 : decode cX9_sheet 20 = .ok (.iconst (-1), 1) := by decide +kernel
theorem dX9_sheet_21 : decode cX9_sheet 21 = .ok (.ireturn, 1) := by decide +kernel
theorem dX9_sheet_22 : decode cX9_sheet 22 = .ok (.iload_n 3, 1) := by decide +kernel
theorem dX9_sheet_23 : decode cX9_sheet 23 = .ok (.ifCond .ge 6, 3) := by decide +kernel
theorem dX9_sheet_26 : decode cX9_sheet 26 = .ok (.bipush (-14), 2) := by decide +kernel
theorem dX9_sheet_28 : decode cX9_sheet 28 = .ok (.ireturn, 1) := by decide +kernel
theorem dX9_sheet_29 : decode cX9_sheet 29 = .ok (.aload_n 0, 1) := by decide +kernel
theorem dX9_sheet_30 : decode cX9_sheet 30 = .ok (.getfield 20, 3) := by decide +kernel
theorem dX9_sheet_33 : decode cX9_sheet 33 = .ok (.iload_n 1, 1) := by decide +kernel
theorem dX9_sheet_34 : decode cX9_sheet 34 = .ok (.aaload, 1) := by decide +kernel
theorem dX9_sheet_35 : decode cX9_sheet 35 = .ok (.iload_n 2, 1) := by decide +kernel
theorem dX9_sheet_36 : decode cX9_sheet 36 = .ok (.iload_n 3, 1) := by decide +kernel
theorem dX9_sheet_37 : decode cX9_sheet 37 = .ok (.invokevirtual 262, 3) := by decide +kernel
theorem dX9_sheet_40 : decode cX9_sheet 40 = .ok (.iload_n 3, 1) := by decide +kernel
theorem dX9_sheet_41 : decode cX9_sheet 41 = .ok (.ireturn, 1) := by decide +kernel
theorem dX9_drop_0 : decode cX9_drop 0 = .ok (.iload_n 1, 1) := by decide +kernel
theorem dX9_drop_1 : decode cX9_drop 1 = .ok (.invokestatic 246, 3) := by decide +kernel
theorem dX9_drop_4 : decode cX9_drop 4 = .ok (.ifCond .ne 5, 3) := by decide +kernel
theorem dX9_drop_7 : decode cX9_drop 7 = .ok (.iconst (-1), 1) := by decide +kernel
theorem dX9_drop_8 : decode cX9_drop 8 = .ok (.ireturn, 1) := by decide +kernel
theorem dX9_drop_9 : decode cX9_drop 9 = .ok (.aload_n 0, 1) := by decide +kernel
theorem dX9_drop_10 : decode cX9_drop 10 = .ok (.getfield 20, 3) := by decide +kernel
theorem dX9_drop_13 : decode cX9_drop 13 = .ok (.iload_n 1, 1) := by decide +kernel
theorem dX9_drop_14 : decode cX9_drop 14 = .ok (.aaload, 1) := by decide +kernel
theorem dX9_drop_15 : decode cX9_drop 15 = .ok (.getfield 265, 3) := by decide +kernel
theorem dX9_drop_18 : decode cX9_drop 18 = .ok (.istore_n 2, 1) := by decide +kernel
theorem dX9_drop_19 : decode cX9_drop 19 = .ok (.iload_n 2, 1) := by decide +kernel
theorem dX9_drop_20 : decode cX9_drop 20 = .ok (.ifCond .ge 6, 3) := by decide +kernel
theorem dX9_drop_23 : decode cX9_drop 23 = .ok (.bipush (-11), 2) := by decide +kernel
theorem dX9_drop_25 : decode cX9_drop 25 = .ok (.ireturn, 1) := by decide +kernel
theorem dX9_drop_26 : decode cX9_drop 26 = .ok (.aload_n 0, 1) := by decide +kernel
theorem dX9_drop_27 : decode cX9_drop 27 = .ok (.getfield 20, 3) := by decide +kernel
theorem dX9_drop_30 : decode cX9_drop 30 = .ok (.iload_n 1, 1) := by decide +kernel
theorem dX9_drop_31 : decode cX9_drop 31 = .ok (.aaload, 1) := by decide +kernel
theorem dX9_drop_32 : decode cX9_drop 32 = .ok (.iconst (-1), 1) := by decide +kernel
theorem dX9_drop_33 : decode cX9_drop 33 = .ok (.putfield 265, 3) := by decide +kernel
theorem dX9_drop_36 : decode cX9_drop 36 = .ok (.iload_n 2, 1) := by decide +kernel
theorem dX9_drop_37 : decode cX9_drop 37 = .ok (.ireturn, 1) := by decide +kernel
theorem dX9_item_0 : decode cX9_item 0 = .ok (.iload_n 1, 1) := by decide +kernel
theorem dX9_item_1 : decode cX9_item 1 = .ok (.invokestatic 246, 3) := by decide +kernel
theorem dX9_item_4 : decode cX9_item 4 = .ok (.ifCond .eq 10, 3) := by decide +kernel
theorem dX9_item_7 : decode cX9_item 7 = .ok (.iload_n 2, 1) := by decide +kernel
theorem dX9_item_8 : decode cX9_item 8 = .ok (.invokestatic 249, 3) := by decide +kernel
theorem dX9_item_11 : decode cX9_item 11 = .ok (.ifCond .ne 5, 3) := by decide +kernel
theorem dX9_item_14 : decode cX9_item 14 = .ok (.iconst (-1), 1) := by decide +kernel
theorem dX9_item_15 : decode cX9_item 15 = .ok (.ireturn, 1) := by decide +kernel
theorem dX9_item_16 : decode cX9_item 16 = .ok (.aload_n 0, 1) := by decide +kernel
theorem dX9_item_17 : decode cX9_item 17 = .ok (.getfield 20, 3) := by decide +kernel
theorem dX9_item_20 : decode cX9_item 20 = .ok (.iload_n 1, 1) := by decide +kernel
theorem dX9_item_21 : decode cX9_item 21 = .ok (.aaload, 1) := by decide +kernel
theorem dX9_item_22 : decode cX9_item 22 = .ok (.iload_n 2, 1) := by decide +kernel
theorem dX9_item_23 : decode cX9_item 23 = .ok (.iload_n 3, 1) := by decide +kernel
theorem dX9_item_24 : decode cX9_item 24 = .ok (.iconst 1, 1) := by decide +kernel
theorem dX9_item_25 : decode cX9_item 25 = .ok (.invokevirtual 252, 3) := by decide +kernel
theorem dX9_item_28 : decode cX9_item 28 = .ok (.istore 6, 2) := by decide +kernel
theorem dX9_item_30 : decode cX9_item 30 = .ok (.iload 6, 2) := by decide +kernel
theorem dX9_item_32 : decode cX9_item 32 = .ok (.ifCond .eq 6, 3) := by decide +kernel
theorem dX9_item_35 : decode cX9_item 35 = .ok (.iload 6, 2) := by decide +kernel
theorem dX9_item_37 : decode cX9_item 37 = .ok (.ireturn, 1) := by decide +kernel
theorem dX9_item_38 : decode cX9_item 38 = .ok (.aload_n 0, 1) := by decide +kernel
theorem dX9_item_39 : decode cX9_item 39 = .ok (.getfield 20, 3) := by decide +kernel
theorem dX9_item_42 : decode cX9_item 42 = .ok (.iload_n 1, 1) := by decide +kernel
theorem dX9_item_43 : decode cX9_item 43 = .ok (.aaload, 1) := by decide +kernel
theorem dX9_item_44 : decode cX9_item 44 = .ok (.iload_n 3, 1) := by decide +kernel
theorem dX9_item_45 : decode cX9_item 45 = .ok (.lload 4, 2) := by decide +kernel
theorem dX9_item_47 : decode cX9_item 47 = .ok (.invokevirtual 266, 3) := by decide +kernel
theorem dX9_item_50 : decode cX9_item 50 = .ok (.iconst 1, 1) := by decide +kernel
theorem dX9_item_51 : decode cX9_item 51 = .ok (.ireturn, 1) := by decide +kernel
theorem dX9_film_0 : decode cX9_film 0 = .ok (.iload_n 1, 1) := by decide +kernel
theorem dX9_film_1 : decode cX9_film 1 = .ok (.invokestatic 75, 3) := by decide +kernel
theorem dX9_film_4 : decode cX9_film 4 = .ok (.ifCond .eq 17, 3) := by decide +kernel
theorem dX9_film_7 : decode cX9_film 7 = .ok (.iload_n 2, 1) := by decide +kernel
theorem dX9_film_8 : decode cX9_film 8 = .ok (.invokestatic 246, 3) := by decide +kernel
theorem dX9_film_11 : decode cX9_film 11 = .ok (.ifCond .eq 10, 3) := by decide +kernel
theorem dX9_film_14 : decode cX9_film 14 = .ok (.iload_n 3, 1) := by decide +kernel
theorem dX9_film_15 : decode cX9_film 15 = .ok (.invokestatic 249, 3) := by decide +kernel
theorem dX9_film_18 : decode cX9_film 18 = .ok (.ifCond .ne 5, 3) := by decide +kernel
theorem dX9_film_21 : decode cX9_film 21 = .ok (.iconst (-1), 1) := by decide +kernel
theorem dX9_film_22 : decode cX9_film 22 = .ok (.ireturn, 1) := by decide +kernel
theorem dX9_film_23 : decode cX9_film 23 = .ok (.aload_n 0, 1) := by decide +kernel
theorem dX9_film_24 : decode cX9_film 24 = .ok (.iload_n 1, 1) := by decide +kernel
theorem dX9_film_25 : decode cX9_film 25 = .ok (.invokevirtual 113, 3) := by decide +kernel
theorem dX9_film_28 : decode cX9_film 28 = .ok (.istore 5, 2) := by decide +kernel
theorem dX9_film_30 : decode cX9_film 30 = .ok (.iload 5, 2) := by decide +kernel
theorem dX9_film_32 : decode cX9_film 32 = .ok (.ifCond .eq 6, 3) := by decide +kernel
theorem dX9_film_35 : decode cX9_film 35 = .ok (.iload 5, 2) := by decide +kernel
theorem dX9_film_37 : decode cX9_film 37 = .ok (.ireturn, 1) := by decide +kernel
theorem dX9_film_38 : decode cX9_film 38 = .ok (.aload_n 0, 1) := by decide +kernel
theorem dX9_film_39 : decode cX9_film 39 = .ok (.getfield 11, 3) := by decide +kernel
theorem dX9_film_42 : decode cX9_film 42 = .ok (.iload_n 1, 1) := by decide +kernel
theorem dX9_film_43 : decode cX9_film 43 = .ok (.aaload, 1) := by decide +kernel
theorem dX9_film_44 : decode cX9_film 44 = .ok (.getfield 117, 3) := by decide +kernel
theorem dX9_film_47 : decode cX9_film 47 = .ok (.astore 6, 2) := by decide +kernel
theorem dX9_film_49 : decode cX9_film 49 = .ok (.iconst 1, 1) := by decide +kernel
theorem dX9_film_50 : decode cX9_film 50 = .ok (.aload 6, 2) := by decide +kernel
theorem dX9_film_52 : decode cX9_film 52 = .ok (.getfield 136, 3) := by decide +kernel
theorem dX9_film_55 : decode cX9_film 55 = .ok (.invokestatic 270, 3) := by decide +kernel
theorem dX9_film_58 : decode cX9_film 58 = .ok (.istore 7, 2) := by decide +kernel
theorem dX9_film_60 : decode cX9_film 60 = .ok (.aload_n 0, 1) := by decide +kernel
theorem dX9_film_61 : decode cX9_film 61 = .ok (.getfield 20, 3) := by decide +kernel
theorem dX9_film_64 : decode cX9_film 64 = .ok (.iload_n 2, 1) := by decide +kernel
theorem dX9_film_65 : decode cX9_film 65 = .ok (.aaload, 1) := by decide +kernel
theorem dX9_film_66 : decode cX9_film 66 = .ok (.iload_n 3, 1) := by decide +kernel
theorem dX9_film_67 : decode cX9_film 67 = .ok (.iload 4, 2) := by decide +kernel
theorem dX9_film_69 : decode cX9_film 69 = .ok (.iload 7, 2) := by decide +kernel
theorem dX9_film_71 : decode cX9_film 71 = .ok (.invokevirtual 252, 3) := by decide +kernel
theorem dX9_film_74 : decode cX9_film 74 = .ok (.istore 5, 2) := by decide +kernel
theorem dX9_film_76 : decode cX9_film 76 = .ok (.iload 5, 2) := by decide +kernel
theorem dX9_film_78 : decode cX9_film 78 = .ok (.ifCond .eq 6, 3) := by decide +kernel
theorem dX9_film_81 : decode cX9_film 81 = .ok (.iload 5, 2) := by decide +kernel
theorem dX9_film_83 : decode cX9_film 83 = .ok (.ireturn, 1) := by decide +kernel
theorem dX9_film_84 : decode cX9_film 84 = .ok (.iconst 0, 1) := by decide +kernel
theorem dX9_film_85 : decode cX9_film 85 = .ok (.istore 8, 2) := by decide +kernel
theorem dX9_film_87 : decode cX9_film 87 = .ok (.iload 8, 2) := by decide +kernel
theorem dX9_film_89 : decode cX9_film 89 = .ok (.iload 7, 2) := by decide +kernel
theorem dX9_film_91 : decode cX9_film 91 = .ok (.if_icmp .ge 30, 3) := by decide +kernel
theorem dX9_film_94 : decode cX9_film 94 = .ok (.aload_n 0, 1) := by decide +kernel
theorem dX9_film_95 : decode cX9_film 95 = .ok (.getfield 20, 3) := by decide +kernel
theorem dX9_film_98 : decode cX9_film 98 = .ok (.iload_n 2, 1) := by decide +kernel
theorem dX9_film_99 : decode cX9_film 99 = .ok (.aaload, 1) := by decide +kernel
theorem dX9_film_100 : decode cX9_film 100 = .ok (.iload 4, 2) := by decide +kernel
theorem dX9_film_102 : decode cX9_film 102 = .ok (.iload 8, 2) := by decide +kernel
theorem dX9_film_104 : decode cX9_film 104 = .ok (.iadd, 1) := by decide +kernel
theorem dX9_film_105 : decode cX9_film 105 = .ok (.aload 6, 2) := by decide +kernel
theorem dX9_film_107 : decode cX9_film 107 = .ok (.iload 8, 2) := by decide +kernel
theorem dX9_film_109 : decode cX9_film 109 = .ok (.invokevirtual 124, 3) := by decide +kernel
theorem dX9_film_112 : decode cX9_film 112 = .ok (.invokevirtual 266, 3) := by decide +kernel
theorem dX9_film_115 : decode cX9_film 115 = .ok (.iinc 8 1, 3) := by decide +kernel
theorem dX9_film_118 : decode cX9_film 118 = .ok (.goto (-31), 3) := by decide +kernel
theorem dX9_film_121 : decode cX9_film 121 = .ok (.iload 7, 2) := by decide +kernel
theorem dX9_film_123 : decode cX9_film 123 = .ok (.ireturn, 1) := by decide +kernel
theorem dX9_isPlace_0 : decode cX9_isPlace 0 = .ok (.iload_n 0, 1) := by decide +kernel
theorem dX9_isPlace_1 : decode cX9_isPlace 1 = .ok (.ifCond .lt 13, 3) := by decide +kernel
theorem dX9_isPlace_4 : decode cX9_isPlace 4 = .ok (.iload_n 0, 1) := by decide +kernel
theorem dX9_isPlace_5 : decode cX9_isPlace 5 = .ok (.bipush 8, 2) := by decide +kernel
theorem dX9_isPlace_7 : decode cX9_isPlace 7 = .ok (.if_icmp .ge 7, 3) := by decide +kernel
theorem dX9_isPlace_10 : decode cX9_isPlace 10 = .ok (.iconst 1, 1) := by decide +kernel
theorem dX9_isPlace_11 : decode cX9_isPlace 11 = .ok (.goto 4, 3) := by decide +kernel
theorem dX9_isPlace_14 : decode cX9_isPlace 14 = .ok (.iconst 0, 1) := by decide +kernel
theorem dX9_isPlace_15 : decode cX9_isPlace 15 = .ok (.ireturn, 1) := by decide +kernel
theorem dX9_arePair_0 : decode cX9_arePair 0 = .ok (.iload_n 0, 1) := by decide +kernel
theorem dX9_arePair_1 : decode cX9_arePair 1 = .ok (.invokestatic 75, 3) := by decide +kernel
theorem dX9_arePair_4 : decode cX9_arePair 4 = .ok (.ifCond .eq 19, 3) := by decide +kernel
theorem dX9_arePair_7 : decode cX9_arePair 7 = .ok (.iload_n 1, 1) := by decide +kernel
theorem dX9_arePair_8 : decode cX9_arePair 8 = .ok (.invokestatic 75, 3) := by decide +kernel
theorem dX9_arePair_11 : decode cX9_arePair 11 = .ok (.ifCond .eq 12, 3) := by decide +kernel
theorem dX9_arePair_14 : decode cX9_arePair 14 = .ok (.iload_n 0, 1) := by decide +kernel
theorem dX9_arePair_15 : decode cX9_arePair 15 = .ok (.iload_n 1, 1) := by decide +kernel
theorem dX9_arePair_16 : decode cX9_arePair 16 = .ok (.if_icmp .eq 7, 3) := by decide +kernel
theorem dX9_arePair_19 : decode cX9_arePair 19 = .ok (.iconst 1, 1) := by decide +kernel
theorem dX9_arePair_20 : decode cX9_arePair 20 = .ok (.goto 4, 3) := by decide +kernel
theorem dX9_arePair_23 : decode cX9_arePair 23 = .ok (.iconst 0, 1) := by decide +kernel
theorem dX9_arePair_24 : decode cX9_arePair 24 = .ok (.ireturn, 1) := by decide +kernel
theorem dX9_isSheet_0 : decode cX9_isSheet 0 = .ok (.iload_n 0, 1) := by decide +kernel
theorem dX9_isSheet_1 : decode cX9_isSheet 1 = .ok (.ifCond .lt 12, 3) := by decide +kernel
theorem dX9_isSheet_4 : decode cX9_isSheet 4 = .ok (.iload_n 0, 1) := by decide +kernel
theorem dX9_isSheet_5 : decode cX9_isSheet 5 = .ok (.iconst 4, 1) := by decide +kernel
theorem dX9_isSheet_6 : decode cX9_isSheet 6 = .ok (.if_icmp .ge 7, 3) := by decide +kernel
theorem dX9_isSheet_9 : decode cX9_isSheet 9 = .ok (.iconst 1, 1) := by decide +kernel
theorem dX9_isSheet_10 : decode cX9_isSheet 10 = .ok (.goto 4, 3) := by decide +kernel
theorem dX9_isSheet_13 : decode cX9_isSheet 13 = .ok (.iconst 0, 1) := by decide +kernel
theorem dX9_isSheet_14 : decode cX9_isSheet 14 = .ok (.ireturn, 1) := by decide +kernel
theorem dX9_isLane_0 : decode cX9_isLane 0 = .ok (.iload_n 0, 1) := by decide +kernel
theorem dX9_isLane_1 : decode cX9_isLane 1 = .ok (.ifCond .lt 12, 3) := by decide +kernel
theorem dX9_isLane_4 : decode cX9_isLane 4 = .ok (.iload_n 0, 1) := by decide +kernel
theorem dX9_isLane_5 : decode cX9_isLane 5 = .ok (.iconst 2, 1) := by decide +kernel
theorem dX9_isLane_6 : decode cX9_isLane 6 = .ok (.if_icmp .gt 7, 3) := by decide +kernel
theorem dX9_isLane_9 : decode cX9_isLane 9 = .ok (.iconst 1, 1) := by decide +kernel
theorem dX9_isLane_10 : decode cX9_isLane 10 = .ok (.goto 4, 3) := by decide +kernel
theorem dX9_isLane_13 : decode cX9_isLane 13 = .ok (.iconst 0, 1) := by decide +kernel
theorem dX9_isLane_14 : decode cX9_isLane 14 = .ok (.ireturn, 1) := by decide +kernel
theorem dX9_isRootless_0 : decode cX9_isRootless 0 = .ok (.iload_n 0, 1) := by decide +kernel
theorem dX9_isRootless_1 : decode cX9_isRootless 1 = .ok (.iconst 2, 1) := by decide +kernel
theorem dX9_isRootless_2 : decode cX9_isRootless 2 = .ok (.if_icmp .lt 22, 3) := by decide +kernel
theorem dX9_isRootless_5 : decode cX9_isRootless 5 = .ok (.iload_n 0, 1) := by decide +kernel
theorem dX9_isRootless_6 : decode cX9_isRootless 6 = .ok (.sipush 9999, 3) := by decide +kernel
theorem dX9_isRootless_9 : decode cX9_isRootless 9 = .ok (.if_icmp .gt 15, 3) := by decide +kernel
theorem dX9_isRootless_12 : decode cX9_isRootless 12 = .ok (.iload_n 0, 1) := by decide +kernel
theorem dX9_isRootless_13 : decode cX9_isRootless 13 = .ok (.i2l, 1) := by decide +kernel
theorem dX9_isRootless_14 : decode cX9_isRootless 14 = .ok (.invokestatic 275, 3) := by decide +kernel
theorem dX9_isRootless_17 : decode cX9_isRootless 17 = .ok (.ifCond .ne 7, 3) := by decide +kernel
theorem dX9_isRootless_20 : decode cX9_isRootless 20 = .ok (.iconst 1, 1) := by decide +kernel
theorem dX9_isRootless_21 : decode cX9_isRootless 21 = .ok (.goto 4, 3) := by decide +kernel
theorem dX9_isRootless_24 : decode cX9_isRootless 24 = .ok (.iconst 0, 1) := by decide +kernel
theorem dX9_isRootless_25 : decode cX9_isRootless 25 = .ok (.ireturn, 1) := by decide +kernel
theorem dX9_numberFault_0 : decode cX9_numberFault 0 = .ok (.aload_n 0, 1) := by decide +kernel
theorem dX9_numberFault_1 : decode cX9_numberFault 1 = .ok (.getfield 11, 3) := by decide +kernel
theorem dX9_numberFault_4 : decode cX9_numberFault 4 = .ok (.iload_n 1, 1) := by decide +kernel
theorem dX9_numberFault_5 : decode cX9_numberFault 5 = .ok (.aaload, 1) := by decide +kernel
theorem dX9_numberFault_6 : decode cX9_numberFault 6 = .ok (.getfield 91, 3) := by decide +kernel
theorem dX9_numberFault_9 : decode cX9_numberFault 9 = .ok (.istore_n 2, 1) := by decide +kernel
theorem dX9_numberFault_10 : decode cX9_numberFault 10 = .ok (.iload_n 2, 1) := by decide +kernel
theorem dX9_numberFault_11 : decode cX9_numberFault 11 = .ok (.ifCond .ne 8, 3) := by decide +kernel
theorem dX9_numberFault_14 : decode cX9_numberFault 14 = .ok (.bipush (-11), 2) := by decide +kernel
theorem dX9_numberFault_16 : decode cX9_numberFault 16 = .ok (.goto 14, 3) := by decide +kernel
theorem dX9_numberFault_19 : decode cX9_numberFault 19 = .ok (.iload_n 2, 1) := by decide +kernel
theorem dX9_numberFault_20 : decode cX9_numberFault 20 = .ok (.iconst 1, 1) := by decide +kernel
theorem dX9_numberFault_21 : decode cX9_numberFault 21 = .ok (.if_icmp .eq 8, 3) := by decide +kernel
theorem dX9_numberFault_24 : decode cX9_numberFault 24 = .ok (.bipush (-12), 2) := by decide +kernel
theorem dX9_numberFault_26 : decode cX9_numberFault 26 = .ok (.goto 4, 3) := by decide +kernel
theorem dX9_numberFault_29 : decode cX9_numberFault 29 = .ok (.iconst 0, 1) := by decide +kernel
theorem dX9_numberFault_30 : decode cX9_numberFault 30 = .ok (.ireturn, 1) := by decide +kernel
theorem dX9_shapeFault_0 : decode cX9_shapeFault 0 = .ok (.aload_n 0, 1) := by decide +kernel
theorem dX9_shapeFault_1 : decode cX9_shapeFault 1 = .ok (.getfield 11, 3) := by decide +kernel
theorem dX9_shapeFault_4 : decode cX9_shapeFault 4 = .ok (.iload_n 1, 1) := by decide +kernel
theorem dX9_shapeFault_5 : decode cX9_shapeFault 5 = .ok (.aaload, 1) := by decide +kernel
theorem dX9_shapeFault_6 : decode cX9_shapeFault 6 = .ok (.getfield 91, 3) := by decide +kernel
theorem dX9_shapeFault_9 : decode cX9_shapeFault 9 = .ok (.istore_n 2, 1) := by decide +kernel
theorem dX9_shapeFault_10 : decode cX9_shapeFault 10 = .ok (.iload_n 2, 1) := by decide +kernel
theorem dX9_shapeFault_11 : decode cX9_shapeFault 11 = .ok (.ifCond .ne 8, 3) := by decide +kernel
theorem dX9_shapeFault_14 : decode cX9_shapeFault 14 = .ok (.bipush (-11), 2) := by decide +kernel
theorem dX9_shapeFault_16 : decode cX9_shapeFault 16 = .ok (.goto 14, 3) := by decide +kernel
theorem dX9_shapeFault_19 : decode cX9_shapeFault 19 = .ok (.iload_n 2, 1) := by decide +kernel
theorem dX9_shapeFault_20 : decode cX9_shapeFault 20 = .ok (.iconst 1, 1) := by decide +kernel
theorem dX9_shapeFault_21 : decode cX9_shapeFault 21 = .ok (.if_icmp .ne 8, 3) := by decide +kernel
theorem dX9_shapeFault_24 : decode cX9_shapeFault 24 = .ok (.bipush (-12), 2) := by decide +kernel
theorem dX9_shapeFault_26 : decode cX9_shapeFault 26 = .ok (.goto 4, 3) := by decide +kernel
theorem dX9_shapeFault_29 : decode cX9_shapeFault 29 = .ok (.iconst 0, 1) := by decide +kernel
theorem dX9_shapeFault_30 : decode cX9_shapeFault 30 = .ok (.ireturn, 1) := by decide +kernel
theorem dX9_numbersFault_0 : decode cX9_numbersFault 0 = .ok (.aload_n 0, 1) := by decide +kernel
theorem dX9_numbersFault_1 : decode cX9_numbersFault 1 = .ok (.iload_n 1, 1) := by decide +kernel
theorem dX9_numbersFault_2 : decode cX9_numbersFault 2 = .ok (.invokevirtual 113, 3) := by decide +kernel
theorem dX9_numbersFault_5 : decode cX9_numbersFault 5 = .ok (.istore_n 3, 1) := by decide +kernel
theorem dX9_numbersFault_6 : decode cX9_numbersFault 6 = .ok (.iload_n 3, 1) := by decide +kernel
theorem dX9_numbersFault_7 : decode cX9_numbersFault 7 = .ok (.ifCond .eq 7, 3) := by decide +kernel
theorem dX9_numbersFault_10 : decode cX9_numbersFault 10 = .ok (.iload_n 3, 1) := by decide +kernel
theorem dX9_numbersFault_11 : decode cX9_numbersFault 11 = .ok (.goto 8, 3) := by decide +kernel
theorem dX9_numbersFault_14 : decode cX9_numbersFault 14 = .ok (.aload_n 0, 1) := by decide +kernel
theorem dX9_numbersFault_15 : decode cX9_numbersFault 15 = .ok (.iload_n 2, 1) := by decide +kernel
theorem dX9_numbersFault_16 : decode cX9_numbersFault 16 = .ok (.invokevirtual 113, 3) := by decide +kernel
theorem dX9_numbersFault_19 : decode cX9_numbersFault 19 = .ok (.ireturn, 1) := by decide +kernel
theorem dX9_shapeAndNumberFault_0 : decode cX9_shapeAndNumberFault 0 = .ok (.aload_n 0, 1) := by decide +kernel
theorem dX9_shapeAndNumberFault_1 : decode cX9_shapeAndNumberFault 1 = .ok (.iload_n 1, 1) := by decide +kernel
theorem dX9_shapeAndNumberFault_2 : decode cX9_shapeAndNumberFault 2 = .ok (.invokevirtual 279, 3) := by decide +kernel
theorem dX9_shapeAndNumberFault_5 : decode cX9_shapeAndNumberFault 5 = .ok (.istore_n 3, 1) := by decide +kernel
theorem dX9_shapeAndNumberFault_6 : decode cX9_shapeAndNumberFault 6 = .ok (.iload_n 3, 1) := by decide +kernel
theorem dX9_shapeAndNumberFault_7 : decode cX9_shapeAndNumberFault 7 = .ok (.ifCond .eq 7, 3) := by decide +kernel
theorem dX9_shapeAndNumberFault_10 : decode cX9_shapeAndNumberFault 10 = .ok (.iload_n 3, 1) := by decide +kernel
theorem dX9_shapeAndNumberFault_11 : decode cX9_shapeAndNumberFault 11 = .ok (.goto 8, 3) := by decide +kernel
theorem dX9_shapeAndNumberFault_14 : decode cX9_shapeAndNumberFault 14 = .ok (.aload_n 0, 1) := by decide +kernel
theorem dX9_shapeAndNumberFault_15 : decode cX9_shapeAndNumberFault 15 = .ok (.iload_n 2, 1) := by decide +kernel
theorem dX9_shapeAndNumberFault_16 : decode cX9_shapeAndNumberFault 16 = .ok (.invokevirtual 113, 3) := by decide +kernel
theorem dX9_shapeAndNumberFault_19 : decode cX9_shapeAndNumberFault 19 = .ok (.ireturn, 1) := by decide +kernel
theorem dX9_land_0 : decode cX9_land 0 = .ok (.aload_n 2, 1) := by decide +kernel
theorem dX9_land_1 : decode cX9_land 1 = .ok (.getfield 136, 3) := by decide +kernel
theorem dX9_land_4 : decode cX9_land 4 = .ok (.bipush 24, 2) := by decide +kernel
theorem dX9_land_6 : decode cX9_land 6 = .ok (.if_icmp .le 6, 3) := by decide +kernel
theorem dX9_land_9 : decode cX9_land 9 = .ok (.bipush (-3), 2) := by decide +kernel
theorem dX9_land_11 : decode cX9_land 11 = .ok (.ireturn, 1) := by decide +kernel
theorem dX9_land_12 : decode cX9_land 12 = .ok (.aload_n 0, 1) := by decide +kernel
theorem dX9_land_13 : decode cX9_land 13 = .ok (.getfield 11, 3) := by decide +kernel
theorem dX9_land_16 : decode cX9_land 16 = .ok (.iload_n 1, 1) := by decide +kernel
theorem dX9_land_17 : decode cX9_land 17 = .ok (.aaload, 1) := by decide +kernel
theorem dX9_land_18 : decode cX9_land 18 = .ok (.aload_n 2, 1) := by decide +kernel
theorem dX9_land_19 : decode cX9_land 19 = .ok (.invokevirtual 282, 3) := by decide +kernel
theorem dX9_land_22 : decode cX9_land 22 = .ok (.aload_n 2, 1) := by decide +kernel
theorem dX9_land_23 : decode cX9_land 23 = .ok (.invokevirtual 120, 3) := by decide +kernel
theorem dX9_land_26 : decode cX9_land 26 = .ok (.ireturn, 1) := by decide +kernel
theorem dX9_combine_0 : decode cX9_combine 0 = .ok (.iload_n 1, 1) := by decide +kernel
theorem dX9_combine_1 : decode cX9_combine 1 = .ok (.iconst 2, 1) := by decide +kernel
theorem dX9_combine_2 : decode cX9_combine 2 = .ok (.if_icmp .ne 15, 3) := by decide +kernel
theorem dX9_combine_5 : decode cX9_combine 5 = .ok (.aload_n 0, 1) := by decide +kernel
theorem dX9_combine_6 : decode cX9_combine 6 = .ok (.getfield 66, 3) := by decide +kernel
theorem dX9_combine_9 : decode cX9_combine 9 = .ok (.aload_n 2, 1) := by decide +kernel
theorem dX9_combine_10 : decode cX9_combine 10 = .ok (.aload_n 3, 1) := by decide +kernel
theorem dX9_combine_11 : decode cX9_combine 11 = .ok (.invokevirtual 147, 3) := by decide +kernel
theorem dX9_combine_14 : decode cX9_combine 14 = .ok (.goto 80, 3) := by decide +kernel
theorem dX9_combine_17 : decode cX9_combine 17 = .ok (.iload_n 1, 1) := by decide +kernel
theorem dX9_combine_18 : decode cX9_combine 18 = .ok (.iconst 3, 1) := by decide +kernel
theorem dX9_combine_19 : decode cX9_combine 19 = .ok (.if_icmp .lt 44, 3) := by decide +kernel
theorem dX9_combine_22 : decode cX9_combine 22 = .ok (.aload_n 0, 1) := by decide +kernel
theorem dX9_combine_23 : decode cX9_combine 23 = .ok (.getfield 34, 3) := by decide +kernel
theorem dX9_combine_26 : decode cX9_combine 26 = .ok (.aload_n 2, 1) := by decide +kernel
theorem dX9_combine_27 : decode cX9_combine 27 = .ok (.aload_n 3, 1) := by decide +kernel
theorem dX9_combine_28 : decode cX9_combine 28 = .ok (.invokevirtual 285, 3) := by decide +kernel
theorem dX9_combine_31 : decode cX9_combine 31 = .ok (.aload_n 0, 1) := by decide +kernel
theorem dX9_combine_32 : decode cX9_combine 32 = .ok (.getfield 66, 3) := by decide +kernel
theorem dX9_combine_35 : decode cX9_combine 35 = .ok (.iload_n 1, 1) := by decide +kernel
theorem dX9_combine_36 : decode cX9_combine 36 = .ok (.iconst 3, 1) := by decide +kernel
theorem dX9_combine_37 : decode cX9_combine 37 = .ok (.if_icmp .ne 13, 3) := by decide +kernel
theorem dX9_combine_40 : decode cX9_combine 40 = .ok (.aload_n 0, 1) := by decide +kernel
theorem dX9_combine_41 : decode cX9_combine 41 = .ok (.getfield 34, 3) := by decide +kernel
theorem dX9_combine_44 : decode cX9_combine 44 = .ok (.getfield 288, 3) := by decide +kernel
theorem dX9_combine_47 : decode cX9_combine 47 = .ok (.goto 10, 3) := by decide +kernel
theorem dX9_combine_50 : decode cX9_combine 50 = .ok (.aload_n 0, 1) := by decide +kernel
theorem dX9_combine_51 : decode cX9_combine 51 = .ok (.getfield 34, 3) := by decide +kernel
theorem dX9_combine_54 : decode cX9_combine 54 = .ok (.getfield 291, 3) := by decide +kernel
theorem dX9_combine_57 : decode cX9_combine 57 = .ok (.invokevirtual 294, 3) := by decide +kernel
theorem dX9_combine_60 : decode cX9_combine 60 = .ok (.goto 34, 3) := by decide +kernel
theorem dX9_combine_63 : decode cX9_combine 63 = .ok (.aload_n 0, 1) := by decide +kernel
theorem dX9_combine_64 : decode cX9_combine 64 = .ok (.getfield 66, 3) := by decide +kernel
theorem dX9_combine_67 : decode cX9_combine 67 = .ok (.aload_n 2, 1) := by decide +kernel
theorem dX9_combine_68 : decode cX9_combine 68 = .ok (.invokevirtual 294, 3) := by decide +kernel
theorem dX9_combine_71 : decode cX9_combine 71 = .ok (.iload_n 1, 1) := by decide +kernel
theorem dX9_combine_72 : decode cX9_combine 72 = .ok (.ifCond .ne 14, 3) := by decide +kernel
theorem dX9_combine_75 : decode cX9_combine 75 = .ok (.aload_n 0, 1) := by decide +kernel
theorem dX9_combine_76 : decode cX9_combine 76 = .ok (.getfield 66, 3) := by decide +kernel
theorem dX9_combine_79 : decode cX9_combine 79 = .ok (.aload_n 3, 1) := by decide +kernel
theorem dX9_combine_80 : decode cX9_combine 80 = .ok (.invokevirtual 258, 3) := by decide +kernel
theorem dX9_combine_83 : decode cX9_combine 83 = .ok (.goto 11, 3) := by decide +kernel
theorem dX9_combine_86 : decode cX9_combine 86 = .ok (.aload_n 0, 1) := by decide +kernel
theorem dX9_combine_87 : decode cX9_combine 87 = .ok (.getfield 66, 3) := by decide +kernel
theorem dX9_combine_90 : decode cX9_combine 90 = .ok (.aload_n 3, 1) := by decide +kernel
theorem dX9_combine_91 : decode cX9_combine 91 = .ok (.invokevirtual 296, 3) := by decide +kernel
theorem dX9_combine_94 : decode cX9_combine 94 = .ok (.return_, 1) := by decide +kernel
theorem dX9_judgeAll_0 : decode cX9_judgeAll 0 = .ok (.bipush (-4), 2) := by decide +kernel
theorem dX9_judgeAll_2 : decode cX9_judgeAll 2 = .ok (.istore_n 1, 1) := by decide +kernel
theorem dX9_judgeAll_3 : decode cX9_judgeAll 3 = .ok (.aload_n 0, 1) := by decide +kernel
theorem dX9_judgeAll_4 : decode cX9_judgeAll 4 = .ok (.getfield 27, 3) := by decide +kernel
theorem dX9_judgeAll_7 : decode cX9_judgeAll 7 = .ok (.iconst 0, 1) := by decide +kernel
theorem dX9_judgeAll_8 : decode cX9_judgeAll 8 = .ok (.putfield 299, 3) := by decide +kernel
theorem dX9_judgeAll_11 : decode cX9_judgeAll 11 = .ok (.iconst 0, 1) := by decide +kernel
theorem dX9_judgeAll_12 : decode cX9_judgeAll 12 = .ok (.istore_n 2, 1) := by decide +kernel
theorem dX9_judgeAll_13 : decode cX9_judgeAll 13 = .ok (.iload_n 2, 1) := by decide +kernel
theorem dX9_judgeAll_14 : decode cX9_judgeAll 14 = .ok (.bipush 8, 2) := by decide +kernel
theorem dX9_judgeAll_16 : decode cX9_judgeAll 16 = .ok (.if_icmp .ge 76, 3) := by decide +kernel
theorem dX9_judgeAll_19 : decode cX9_judgeAll 19 = .ok (.aload_n 0, 1) := by decide +kernel
theorem dX9_judgeAll_20 : decode cX9_judgeAll 20 = .ok (.getfield 27, 3) := by decide +kernel
theorem dX9_judgeAll_23 : decode cX9_judgeAll 23 = .ok (.invokevirtual 302, 3) := by decide +kernel
theorem dX9_judgeAll_26 : decode cX9_judgeAll 26 = .ok (.istore_n 3, 1) := by decide +kernel
theorem dX9_judgeAll_27 : decode cX9_judgeAll 27 = .ok (.iload_n 3, 1) := by decide +kernel
theorem dX9_judgeAll_28 : decode cX9_judgeAll 28 = .ok (.ifCond .eq 5, 3) := by decide +kernel
theorem dX9_judgeAll_31 : decode cX9_judgeAll 31 = .ok (.iload_n 3, 1) := by decide +kernel
theorem dX9_judgeAll_32 : decode cX9_judgeAll 32 = .ok (.ireturn, 1) := by decide +kernel
theorem dX9_judgeAll_33 : decode cX9_judgeAll 33 = .ok (.iload_n 1, 1) := by decide +kernel
theorem dX9_judgeAll_34 : decode cX9_judgeAll 34 = .ok (.bipush (-4), 2) := by decide +kernel
theorem dX9_judgeAll_36 : decode cX9_judgeAll 36 = .ok (.if_icmp .ne 12, 3) := by decide +kernel
theorem dX9_judgeAll_39 : decode cX9_judgeAll 39 = .ok (.aload_n 0, 1) := by decide +kernel
theorem dX9_judgeAll_40 : decode cX9_judgeAll 40 = .ok (.invokevirtual 305, 3) := by decide +kernel
theorem dX9_judgeAll_43 : decode cX9_judgeAll 43 = .ok (.ifCond .ne 5, 3) := by decide +kernel
theorem dX9_judgeAll_46 : decode cX9_judgeAll 46 = .ok (.iload_n 2, 1) := by decide +kernel
theorem dX9_judgeAll_47 : decode cX9_judgeAll 47 = .ok (.istore_n 1, 1) := by decide +kernel
theorem dX9_judgeAll_48 : decode cX9_judgeAll 48 = .ok (.aload_n 0, 1) := by decide +kernel
theorem dX9_judgeAll_49 : decode cX9_judgeAll 49 = .ok (.getfield 27, 3) := by decide +kernel
theorem dX9_judgeAll_52 : decode cX9_judgeAll 52 = .ok (.invokevirtual 309, 3) := by decide +kernel
theorem dX9_judgeAll_55 : decode cX9_judgeAll 55 = .ok (.ifCond .eq 5, 3) := by decide +kernel
theorem dX9_judgeAll_58 : decode cX9_judgeAll 58 = .ok (.iload_n 1, 1) := by decide +kernel
theorem dX9_judgeAll_59 : decode cX9_judgeAll 59 = .ok (.ireturn, 1) := by decide +kernel
theorem dX9_judgeAll_60 : decode cX9_judgeAll 60 = .ok (.iload_n 2, 1) := by decide +kernel
theorem dX9_judgeAll_61 : decode cX9_judgeAll 61 = .ok (.bipush 7, 2) := by decide +kernel
theorem dX9_judgeAll_63 : decode cX9_judgeAll 63 = .ok (.if_icmp .eq 15, 3) := by decide +kernel
theorem dX9_judgeAll_66 : decode cX9_judgeAll 66 = .ok (.aload_n 0, 1) := by decide +kernel
theorem dX9_judgeAll_67 : decode cX9_judgeAll 67 = .ok (.getfield 27, 3) := by decide +kernel
theorem dX9_judgeAll_70 : decode cX9_judgeAll 70 = .ok (.bipush 44, 2) := by decide +kernel
theorem dX9_judgeAll_72 : decode cX9_judgeAll 72 = .ok (.invokevirtual 312, 3) := by decide +kernel
theorem dX9_judgeAll_75 : decode cX9_judgeAll 75 = .ok (.ifCond .ne 11, 3) := by decide +kernel
theorem dX9_judgeAll_78 : decode cX9_judgeAll 78 = .ok (.aload_n 0, 1) := by decide +kernel
theorem dX9_judgeAll_79 : decode cX9_judgeAll 79 = .ok (.getfield 27, 3) := by decide +kernel
theorem dX9_judgeAll_82 : decode cX9_judgeAll 82 = .ok (.invokevirtual 315, 3) := by decide +kernel
theorem dX9_judgeAll_85 : decode cX9_judgeAll 85 = .ok (.ireturn, 1) := by decide +kernel
theorem dX9_judgeAll_86 : decode cX9_judgeAll 86 = .ok (.iinc 2 1, 3) := by decide +kernel
theorem dX9_judgeAll_89 : decode cX9_judgeAll 89 = .ok (.goto (-76), 3) := by decide +kernel
theorem dX9_judgeAll_92 : decode cX9_judgeAll 92 = .ok (.iload_n 1, 1) := by decide +kernel
theorem dX9_judgeAll_93 : decode cX9_judgeAll 93 = .ok (.ireturn, 1) := by decide +kernel
theorem dX9_isSo_0 : decode cX9_isSo 0 = .ok (.aload_n 0, 1) := by decide +kernel
theorem dX9_isSo_1 : decode cX9_isSo 1 = .ok (.getfield 70, 3) := by decide +kernel
theorem dX9_isSo_4 : decode cX9_isSo 4 = .ok (.aload_n 0, 1) := by decide +kernel
theorem dX9_isSo_5 : decode cX9_isSo 5 = .ok (.getfield 27, 3) := by decide +kernel
theorem dX9_isSo_8 : decode cX9_isSo 8 = .ok (.getfield 318, 3) := by decide +kernel
theorem dX9_isSo_11 : decode cX9_isSo 11 = .ok (.invokevirtual 79, 3) := by decide +kernel
theorem dX9_isSo_14 : decode cX9_isSo 14 = .ok (.aload_n 0, 1) := by decide +kernel
theorem dX9_isSo_15 : decode cX9_isSo 15 = .ok (.getfield 43, 3) := by decide +kernel
theorem dX9_isSo_18 : decode cX9_isSo 18 = .ok (.aload_n 0, 1) := by decide +kernel
theorem dX9_isSo_19 : decode cX9_isSo 19 = .ok (.getfield 27, 3) := by decide +kernel
theorem dX9_isSo_22 : decode cX9_isSo 22 = .ok (.getfield 322, 3) := by decide +kernel
theorem dX9_isSo_25 : decode cX9_isSo 25 = .ok (.aload_n 0, 1) := by decide +kernel
theorem dX9_isSo_26 : decode cX9_isSo 26 = .ok (.getfield 27, 3) := by decide +kernel
theorem dX9_isSo_29 : decode cX9_isSo 29 = .ok (.getfield 324, 3) := by decide +kernel
theorem dX9_isSo_32 : decode cX9_isSo 32 = .ok (.aload_n 0, 1) := by decide +kernel
theorem dX9_isSo_33 : decode cX9_isSo 33 = .ok (.getfield 70, 3) := by decide +kernel
theorem dX9_isSo_36 : decode cX9_isSo 36 = .ok (.aload_n 0, 1) := by decide +kernel
theorem dX9_isSo_37 : decode cX9_isSo 37 = .ok (.getfield 66, 3) := by decide +kernel
theorem dX9_isSo_40 : decode cX9_isSo 40 = .ok (.invokevirtual 160, 3) := by decide +kernel
theorem dX9_isSo_43 : decode cX9_isSo 43 = .ok (.ifCond .ne 5, 3) := by decide +kernel
theorem dX9_isSo_46 : decode cX9_isSo 46 = .ok (.iconst 0, 1) := by decide +kernel
theorem dX9_isSo_47 : decode cX9_isSo 47 = .ok (.ireturn, 1) := by decide +kernel
theorem dX9_isSo_48 : decode cX9_isSo 48 = .ok (.aload_n 0, 1) := by decide +kernel
theorem dX9_isSo_49 : decode cX9_isSo 49 = .ok (.getfield 70, 3) := by decide +kernel
theorem dX9_isSo_52 : decode cX9_isSo 52 = .ok (.aload_n 0, 1) := by decide +kernel
theorem dX9_isSo_53 : decode cX9_isSo 53 = .ok (.getfield 27, 3) := by decide +kernel
theorem dX9_isSo_56 : decode cX9_isSo 56 = .ok (.getfield 325, 3) := by decide +kernel
theorem dX9_isSo_59 : decode cX9_isSo 59 = .ok (.invokevirtual 79, 3) := by decide +kernel
theorem dX9_isSo_62 : decode cX9_isSo 62 = .ok (.aload_n 0, 1) := by decide +kernel
theorem dX9_isSo_63 : decode cX9_isSo 63 = .ok (.getfield 66, 3) := by decide +kernel
theorem dX9_isSo_66 : decode cX9_isSo 66 = .ok (.aload_n 0, 1) := by decide +kernel
theorem dX9_isSo_67 : decode cX9_isSo 67 = .ok (.getfield 70, 3) := by decide +kernel
theorem dX9_isSo_70 : decode cX9_isSo 70 = .ok (.invokevirtual 132, 3) := by decide +kernel
theorem dX9_isSo_73 : decode cX9_isSo 73 = .ok (.ifCond .ne 7, 3) := by decide +kernel
theorem dX9_isSo_76 : decode cX9_isSo 76 = .ok (.iconst 1, 1) := by decide +kernel
theorem dX9_isSo_77 : decode cX9_isSo 77 = .ok (.goto 4, 3) := by decide +kernel
theorem dX9_isSo_80 : decode cX9_isSo 80 = .ok (.iconst 0, 1) := by decide +kernel
theorem dX9_isSo_81 : decode cX9_isSo 81 = .ok (.ireturn, 1) := by decide +kernel
theorem dX10_init_0 : decode cX10_init 0 = .ok (.aload_n 0, 1) := by decide +kernel
theorem dX10_init_1 : decode cX10_init 1 = .ok (.invokespecial 1, 3) := by decide +kernel
theorem dX10_init_4 : decode cX10_init 4 = .ok (.aload_n 0, 1) := by decide +kernel
theorem dX10_init_5 : decode cX10_init 5 = .ok (.sipush 1280, 3) := by decide +kernel
theorem dX10_init_8 : decode cX10_init 8 = .ok (.newarray .int, 2) := by decide +kernel
theorem dX10_init_10 : decode cX10_init 10 = .ok (.putfield 7, 3) := by decide +kernel
theorem dX10_init_13 : decode cX10_init 13 = .ok (.aload_n 0, 1) := by decide +kernel
theorem dX10_init_14 : decode cX10_init 14 = .ok (.bipush 8, 2) := by decide +kernel
theorem dX10_init_16 : decode cX10_init 16 = .ok (.newarray .int, 2) := by decide +kernel
theorem dX10_init_18 : decode cX10_init 18 = .ok (.putfield 13, 3) := by decide +kernel
theorem dX10_init_21 : decode cX10_init 21 = .ok (.aload_n 0, 1) := by decide +kernel
theorem dX10_init_22 : decode cX10_init 22 = .ok (.bipush 8, 2) := by decide +kernel
theorem dX10_init_24 : decode cX10_init 24 = .ok (.newarray .int, 2) := by decide +kernel
theorem dX10_init_26 : decode cX10_init 26 = .ok (.putfield 16, 3) := by decide +kernel
theorem dX10_init_29 : decode cX10_init 29 = .ok (.aload_n 0, 1) := by decide +kernel
theorem dX10_init_30 : decode cX10_init 30 = .ok (.bipush 100, 2) := by decide +kernel
theorem dX10_init_32 : decode cX10_init 32 = .ok (.newarray .int, 2) := by decide +kernel
theorem dX10_init_34 : decode cX10_init 34 = .ok (.putfield 19, 3) := by decide +kernel
theorem dX10_init_37 : decode cX10_init 37 = .ok (.aload_n 0, 1) := by decide +kernel
theorem dX10_init_38 : decode cX10_init 38 = .ok (.bipush 8, 2) := by decide +kernel
theorem dX10_init_40 : decode cX10_init 40 = .ok (.newarray .long, 2) := by decide +kernel
theorem dX10_init_42 : decode cX10_init 42 = .ok (.putfield 22, 3) := by decide +kernel
theorem dX10_init_45 : decode cX10_init 45 = .ok (.aload_n 0, 1) := by decide +kernel
theorem dX10_init_46 : decode cX10_init 46 = .ok (.bipush 8, 2) := by decide +kernel
theorem dX10_init_48 : decode cX10_init 48 = .ok (.newarray .int, 2) := by decide +kernel
theorem dX10_init_50 : decode cX10_init 50 = .ok (.putfield 26, 3) := by decide +kernel
theorem dX10_init_53 : decode cX10_init 53 = .ok (.aload_n 0, 1) := by decide +kernel
theorem dX10_init_54 : decode cX10_init 54 = .ok (.bipush 8, 2) := by decide +kernel
theorem dX10_init_56 : decode cX10_init 56 = .ok (.newarray .int, 2) := by decide +kernel
theorem dX10_init_58 : decode cX10_init 58 = .ok (.putfield 29, 3) := by decide +kernel
theorem dX10_init_61 : decode cX10_init 61 = .ok (.aload_n 0, 1) := by decide +kernel
theorem dX10_init_62 : decode cX10_init 62 = .ok (.bipush 8, 2) := by decide +kernel
theorem dX10_init_64 : decode cX10_init 64 = .ok (.newarray .int, 2) := by decide +kernel
theorem dX10_init_66 : decode cX10_init 66 = .ok (.putfield 32, 3) := by decide +kernel
theorem dX10_init_69 : decode cX10_init 69 = .ok (.aload_n 0, 1) := by decide +kernel
theorem dX10_init_70 : decode cX10_init 70 = .ok (.sipush 656, 3) := by decide +kernel
theorem dX10_init_73 : decode cX10_init 73 = .ok (.newarray .int, 2) := by decide +kernel
theorem dX10_init_75 : decode cX10_init 75 = .ok (.putfield 35, 3) := by decide +kernel
theorem dX10_init_78 : decode cX10_init 78 = .ok (.aload_n 0, 1) := by decide +kernel
theorem dX10_init_79 : decode cX10_init 79 = .ok (.iconst 4, 1) := by decide +kernel
theorem dX10_init_80 : decode cX10_init 80 = .ok (.newarray .int, 2) := by decide +kernel
theorem dX10_init_82 : decode cX10_init 82 = .ok (.putfield 38, 3) := by decide +kernel
theorem dX10_init_85 : decode cX10_init 85 = .ok (.aload_n 0, 1) := by decide +kernel
theorem dX10_init_86 : decode cX10_init 86 = .ok (.iconst 4, 1) := by decide +kernel
theorem dX10_init_87 : decode cX10_init 87 = .ok (.newarray .int, 2) := by decide +kernel
theorem dX10_init_89 : decode cX10_init 89 = .ok (.putfield 41, 3) := by decide +kernel
theorem dX10_init_92 : decode cX10_init 92 = .ok (.aload_n 0, 1) := by decide +kernel
theorem dX10_init_93 : decode cX10_init 93 = .ok (.bipush 96, 2) := by decide +kernel
theorem dX10_init_95 : decode cX10_init 95 = .ok (.newarray .long, 2) := by decide +kernel
theorem dX10_init_97 : decode cX10_init 97 = .ok (.putfield 44, 3) := by decide +kernel
theorem dX10_init_100 : decode cX10_init 100 = .ok (.iconst 0, 1) := by decide +kernel
theorem dX10_init_101 : decode cX10_init 101 = .ok (.istore_n 1, 1) := by decide +kernel
theorem dX10_init_102 : decode cX10_init 102 = .ok (.iload_n 1, 1) := by decide +kernel
theorem dX10_init_103 : decode cX10_init 103 = .ok (.iconst 4, 1) := by decide +kernel
theorem dX10_init_104 : decode cX10_init 104 = .ok (.if_icmp .ge 16, 3) := by decide +kernel
theorem dX10_init_107 : decode cX10_init 107 = .ok (.aload_n 0, 1) := by decide +kernel
theorem dX10_init_108 : decode cX10_init 108 = .ok (.getfield 38, 3) := by decide +kernel
theorem dX10_init_111 : decode cX10_init 111 = .ok (.iload_n 1, 1) := by decide +kernel
theorem dX10_init_112 : decode cX10_init 112 = .ok (.iconst (-1), 1) := by decide +kernel
theorem dX10_init_113 : decode cX10_init 113 = .ok (.iastore, 1) := by decide +kernel
theorem dX10_init_114 : decode cX10_init 114 = .ok (.iinc 1 1, 3) := by decide +kernel
theorem dX10_init_117 : decode cX10_init 117 = .ok (.goto (-15), 3) := by decide +kernel
theorem dX10_init_120 : decode cX10_init 120 = .ok (.return_, 1) := by decide +kernel
theorem dX10_in_0 : decode cX10_in 0 = .ok (.lload_n 0, 1) := by decide +kernel
theorem dX10_in_1 : decode cX10_in 1 = .ok (.lload_n 2, 1) := by decide +kernel
theorem dX10_in_2 : decode cX10_in 2 = .ok (.lcmp, 1) := by decide +kernel
theorem dX10_in_3 : decode cX10_in 3 = .ok (.ifCond .lt 14, 3) := by decide +kernel
theorem dX10_in_6 : decode cX10_in 6 = .ok (.lload_n 0, 1) := by decide +kernel
theorem dX10_in_7 : decode cX10_in 7 = .ok (.lload 4, 2) := by decide +kernel
theorem dX10_in_9 : decode cX10_in 9 = .ok (.lcmp, 1) := by decide +kernel
theorem dX10_in_10 : decode cX10_in 10 = .ok (.ifCond .gt 7, 3) := by decide +kernel
theorem dX10_in_13 : decode cX10_in 13 = .ok (.iconst 1, 1) := by decide +kernel
theorem dX10_in_14 : decode cX10_in 14 = .ok (.goto 4, 3) := by decide +kernel
theorem dX10_in_17 : decode cX10_in 17 = .ok (.iconst 0, 1) := by decide +kernel
theorem dX10_in_18 : decode cX10_in 18 = .ok (.ireturn, 1) := by decide +kernel
theorem dX10_isPlace_0 : decode cX10_isPlace 0 = .ok (.iload_n 0, 1) := by decide +kernel
theorem dX10_isPlace_1 : decode cX10_isPlace 1 = .ok (.i2l, 1) := by decide +kernel
theorem dX10_isPlace_2 : decode cX10_isPlace 2 = .ok (.lconst 0, 1) := by decide +kernel
theorem dX10_isPlace_3 : decode cX10_isPlace 3 = .ok (.ldc2_w 47, 3) := by decide +kernel
theorem dX10_isPlace_6 : decode cX10_isPlace 6 = .ok (.invokestatic 49, 3) := by decide +kernel
theorem dX10_isPlace_9 : decode cX10_isPlace 9 = .ok (.ireturn, 1) := by decide +kernel
theorem dX10_copy_0 : decode cX10_copy 0 = .ok (.iconst 0, 1) := by decide +kernel
theorem dX10_copy_1 : decode cX10_copy 1 = .ok (.istore_n 3, 1) := by decide +kernel
theorem dX10_copy_2 : decode cX10_copy 2 = .ok (.iload_n 3, 1) := by decide +kernel
theorem dX10_copy_3 : decode cX10_copy 3 = .ok (.bipush 80, 2) := by decide +kernel
theorem dX10_copy_5 : decode cX10_copy 5 = .ok (.if_icmp .ge 31, 3) := by decide +kernel
theorem dX10_copy_8 : decode cX10_copy 8 = .ok (.aload_n 0, 1) := by decide +kernel
theorem dX10_copy_9 : decode cX10_copy 9 = .ok (.getfield 7, 3) := by decide +kernel
theorem dX10_copy_12 : decode cX10_copy 12 = .ok (.bipush 80, 2) := by decide +kernel
theorem dX10_copy_14 : decode cX10_copy 14 = .ok (.iload_n 1, 1) := by decide +kernel
theorem dX10_copy_15 : decode cX10_copy 15 = .ok (.imul, 1) := by decide +kernel
theorem dX10_copy_16 : decode cX10_copy 16 = .ok (.iload_n 3, 1) := by decide +kernel
theorem dX10_copy_17 : decode cX10_copy 17 = .ok (.iadd, 1) := by decide +kernel
theorem dX10_copy_18 : decode cX10_copy 18 = .ok (.aload_n 0, 1) := by decide +kernel
theorem dX10_copy_19 : decode cX10_copy 19 = .ok (.getfield 7, 3) := by decide +kernel
theorem dX10_copy_22 : decode cX10_copy 22 = .ok (.bipush 80, 2) := by decide +kernel
theorem dX10_copy_24 : decode cX10_copy 24 = .ok (.iload_n 2, 1) := by decide +kernel
theorem dX10_copy_25 : decode cX10_copy 25 = .ok (.imul, 1) := by decide +kernel
theorem dX10_copy_26 : decode cX10_copy 26 = .ok (.iload_n 3, 1) := by decide +kernel
theorem dX10_copy_27 : decode cX10_copy 27 = .ok (.iadd, 1) := by decide +kernel
theorem dX10_copy_28 : decode cX10_copy 28 = .ok (.iaload, 1) := by decide +kernel
theorem dX10_copy_29 : decode cX10_copy 29 = .ok (.iastore, 1) := by decide +kernel
theorem dX10_copy_30 : decode cX10_copy 30 = .ok (.iinc 3 1, 3) := by decide +kernel
theorem dX10_copy_33 : decode cX10_copy 33 = .ok (.goto (-31), 3) := by decide +kernel
theorem dX10_copy_36 : decode cX10_copy 36 = .ok (.return_, 1) := by decide +kernel
theorem dX10_set_0 : decode cX10_set 0 = .ok (.lload_n 2, 1) := by decide +kernel
theorem dX10_set_1 : decode cX10_set 1 = .ok (.lstore 4, 2) := by decide +kernel
theorem dX10_set_3 : decode cX10_set 3 = .ok (.iconst 0, 1) := by decide +kernel
theorem dX10_set_4 : decode cX10_set 4 = .ok (.istore 6, 2) := by decide +kernel
theorem dX10_set_6 : decode cX10_set 6 = .ok (.iload 6, 2) := by decide +kernel
theorem dX10_set_8 : decode cX10_set 8 = .ok (.bipush 80, 2) := by decide +kernel
theorem dX10_set_10 : decode cX10_set 10 = .ok (.if_icmp .ge 36, 3) := by decide +kernel
theorem dX10_set_13 : decode cX10_set 13 = .ok (.aload_n 0, 1) := by decide +kernel
theorem dX10_set_14 : decode cX10_set 14 = .ok (.getfield 7, 3) := by decide +kernel
theorem dX10_set_17 : decode cX10_set 17 = .ok (.bipush 80, 2) := by decide +kernel
theorem dX10_set_19 : decode cX10_set 19 = .ok (.iload_n 1, 1) := by decide +kernel
theorem dX10_set_20 : decode cX10_set 20 = .ok (.imul, 1) := by decide +kernel
theorem dX10_set_21 : decode cX10_set 21 = .ok (.iload 6, 2) := by decide +kernel
theorem dX10_set_23 : decode cX10_set 23 = .ok (.iadd, 1) := by decide +kernel
theorem dX10_set_24 : decode cX10_set 24 = .ok (.lload 4, 2) := by decide +kernel
theorem dX10_set_26 : decode cX10_set 26 = .ok (.ldc2_w 53, 3) := by decide +kernel
theorem dX10_set_29 : decode cX10_set 29 = .ok (.lrem, 1) := by decide +kernel
theorem dX10_set_30 : decode cX10_set 30 = .ok (.l2i, 1) := by decide +kernel
theorem dX10_set_31 : decode cX10_set 31 = .ok (.iastore, 1) := by decide +kernel
theorem dX10_set_32 : decode cX10_set 32 = .ok (.lload 4, 2) := by decide +kernel
theorem dX10_set_34 : decode cX10_set 34 = .ok (.ldc2_w 53, 3) := by decide +kernel
theorem dX10_set_37 : decode cX10_set 37 = .ok (.ldiv, 1) := by decide +kernel
theorem dX10_set_38 : decode cX10_set 38 = .ok (.lstore 4, 2) := by decide +kernel
theorem dX10_set_40 : decode cX10_set 40 = .ok (.iinc 6 1, 3) := by decide +kernel
theorem dX10_set_43 : decode cX10_set 43 = .ok (.goto (-37), 3) := by decide +kernel
theorem dX10_set_46 : decode cX10_set 46 = .ok (.return_, 1) := by decide +kernel
theorem dX10_sizeOf_0 : decode cX10_sizeOf 0 = .ok (.bipush 80, 2) := by decide +kernel
theorem dX10_sizeOf_2 : decode cX10_sizeOf 2 = .ok (.istore_n 2, 1) := by decide +kernel
theorem dX10_sizeOf_3 : decode cX10_sizeOf 3 = .ok (.iload_n 2, 1) := by decide +kernel
theorem dX10_sizeOf_4 : decode cX10_sizeOf 4 = .ok (.ifCond .le 25, 3) := by decide +kernel
theorem dX10_sizeOf_7 : decode cX10_sizeOf 7 = .ok (.aload_n 0, 1) := by decide +kernel
theorem dX10_sizeOf_8 : decode cX10_sizeOf 8 = .ok (.getfield 7, 3) := by decide +kernel
theorem dX10_sizeOf_11 : decode cX10_sizeOf 11 = .ok (.bipush 80, 2) := by decide +kernel
theorem dX10_sizeOf_13 : decode cX10_sizeOf 13 = .ok (.iload_n 1, 1) := by decide +kernel
theorem dX10_sizeOf_14 : decode cX10_sizeOf 14 = .ok (.imul, 1) := by decide +kernel
theorem dX10_sizeOf_15 : decode cX10_sizeOf 15 = .ok (.iload_n 2, 1) := by decide +kernel
theorem dX10_sizeOf_16 : decode cX10_sizeOf 16 = .ok (.iadd, 1) := by decide +kernel
theorem dX10_sizeOf_17 : decode cX10_sizeOf 17 = .ok (.iconst 1, 1) := by decide +kernel
theorem dX10_sizeOf_18 : decode cX10_sizeOf 18 = .ok (.isub, 1) := by decide +kernel
theorem dX10_sizeOf_19 : decode cX10_sizeOf 19 = .ok (.iaload, 1) := by decide +kernel
theorem dX10_sizeOf_20 : decode cX10_sizeOf 20 = .ok (.ifCond .ne 9, 3) := by decide +kernel
theorem dX10_sizeOf_23 : decode cX10_sizeOf 23 = .ok (.iinc 2 (-1), 3) := by decide +kernel
theorem dX10_sizeOf_26 : decode cX10_sizeOf 26 = .ok (.goto (-23), 3) := by decide +kernel
theorem dX10_sizeOf_29 : decode cX10_sizeOf 29 = .ok (.iload_n 2, 1) := by decide +kernel
theorem dX10_sizeOf_30 : decode cX10_sizeOf 30 = .ok (.ireturn, 1) := by decide +kernel
theorem dX10_compare_0 : decode cX10_compare 0 = .ok (.bipush 79, 2) := by decide +kernel
theorem dX10_compare_2 : decode cX10_compare 2 = .ok (.istore_n 3, 1) := by decide +kernel
theorem dX10_compare_3 : decode cX10_compare 3 = .ok (.iload_n 3, 1) := by decide +kernel
theorem dX10_compare_4 : decode cX10_compare 4 = .ok (.ifCond .le 34, 3) := by decide +kernel
theorem dX10_compare_7 : decode cX10_compare 7 = .ok (.aload_n 0, 1) := by decide +kernel
theorem dX10_compare_8 : decode cX10_compare 8 = .ok (.getfield 7, 3) := by decide +kernel
theorem dX10_compare_11 : decode cX10_compare 11 = .ok (.bipush 80, 2) := by decide +kernel
theorem dX10_compare_13 : decode cX10_compare 13 = .ok (.iload_n 1, 1) := by decide +kernel
theorem dX10_compare_14 : decode cX10_compare 14 = .ok (.imul, 1) := by decide +kernel
theorem dX10_compare_15 : decode cX10_compare 15 = .ok (.iload_n 3, 1) := by decide +kernel
theorem dX10_compare_16 : decode cX10_compare 16 = .ok (.iadd, 1) := by decide +kernel
theorem dX10_compare_17 : decode cX10_compare 17 = .ok (.iaload, 1) := by decide +kernel
theorem dX10_compare_18 : decode cX10_compare 18 = .ok (.aload_n 0, 1) := by decide +kernel
theorem dX10_compare_19 : decode cX10_compare 19 = .ok (.getfield 7, 3) := by decide +kernel
theorem dX10_compare_22 : decode cX10_compare 22 = .ok (.bipush 80, 2) := by decide +kernel
theorem dX10_compare_24 : decode cX10_compare 24 = .ok (.iload_n 2, 1) := by decide +kernel
theorem dX10_compare_25 : decode cX10_compare 25 = .ok (.imul, 1) := by decide +kernel
theorem dX10_compare_26 : decode cX10_compare 26 = .ok (.iload_n 3, 1) := by decide +kernel
theorem dX10_compare_27 : decode cX10_compare 27 = .ok (.iadd, 1) := by decide +kernel
theorem dX10_compare_28 : decode cX10_compare 28 = .ok (.iaload, 1) := by decide +kernel
theorem dX10_compare_29 : decode cX10_compare 29 = .ok (.if_icmp .ne 9, 3) := by decide +kernel
theorem dX10_compare_32 : decode cX10_compare 32 = .ok (.iinc 3 (-1), 3) := by decide +kernel
theorem dX10_compare_35 : decode cX10_compare 35 = .ok (.goto (-32), 3) := by decide +kernel
theorem dX10_compare_38 : decode cX10_compare 38 = .ok (.aload_n 0, 1) := by decide +kernel
theorem dX10_compare_39 : decode cX10_compare 39 = .ok (.getfield 7, 3) := by decide +kernel
theorem dX10_compare_42 : decode cX10_compare 42 = .ok (.bipush 80, 2) := by decide +kernel
theorem dX10_compare_44 : decode cX10_compare 44 = .ok (.iload_n 1, 1) := by decide +kernel
theorem dX10_compare_45 : decode cX10_compare 45 = .ok (.imul, 1) := by decide +kernel
theorem dX10_compare_46 : decode cX10_compare 46 = .ok (.iload_n 3, 1) := by decide +kernel
theorem dX10_compare_47 : decode cX10_compare 47 = .ok (.iadd, 1) := by decide +kernel
theorem dX10_compare_48 : decode cX10_compare 48 = .ok (.iaload, 1) := by decide +kernel
theorem dX10_compare_49 : decode cX10_compare 49 = .ok (.istore 4, 2) := by decide +kernel
theorem dX10_compare_51 : decode cX10_compare 51 = .ok (.aload_n 0, 1) := by decide +kernel
theorem dX10_compare_52 : decode cX10_compare 52 = .ok (.getfield 7, 3) := by decide +kernel
theorem dX10_compare_55 : decode cX10_compare 55 = .ok (.bipush 80, 2) := by decide +kernel
theorem dX10_compare_57 : decode cX10_compare 57 = .ok (.iload_n 2, 1) := by decide +kernel
theorem dX10_compare_58 : decode cX10_compare 58 = .ok (.imul, 1) := by decide +kernel
theorem dX10_compare_59 : decode cX10_compare 59 = .ok (.iload_n 3, 1) := by decide +kernel
theorem dX10_compare_60 : decode cX10_compare 60 = .ok (.iadd, 1) := by decide +kernel
theorem dX10_compare_61 : decode cX10_compare 61 = .ok (.iaload, 1) := by decide +kernel
theorem dX10_compare_62 : decode cX10_compare 62 = .ok (.istore 5, 2) := by decide +kernel
theorem dX10_compare_64 : decode cX10_compare 64 = .ok (.iload 4, 2) := by decide +kernel
theorem dX10_compare_66 : decode cX10_compare 66 = .ok (.iload 5, 2) := by decide +kernel
theorem dX10_compare_68 : decode cX10_compare 68 = .ok (.if_icmp .le 7, 3) := by decide +kernel
theorem dX10_compare_71 : decode cX10_compare 71 = .ok (.iconst 1, 1) := by decide +kernel
theorem dX10_compare_72 : decode cX10_compare 72 = .ok (.goto 15, 3) := by decide +kernel
theorem dX10_compare_75 : decode cX10_compare 75 = .ok (.iload 4, 2) := by decide +kernel
theorem dX10_compare_77 : decode cX10_compare 77 = .ok (.iload 5, 2) := by decide +kernel
theorem dX10_compare_79 : decode cX10_compare 79 = .ok (.if_icmp .ge 7, 3) := by decide +kernel
theorem dX10_compare_82 : decode cX10_compare 82 = .ok (.iconst (-1), 1) := by decide +kernel
theorem dX10_compare_83 : decode cX10_compare 83 = .ok (.goto 4, 3) := by decide +kernel
theorem dX10_compare_86 : decode cX10_compare 86 = .ok (.iconst 0, 1) := by decide +kernel
theorem dX10_compare_87 : decode cX10_compare 87 = .ok (.ireturn, 1) := by decide +kernel
theorem dX10_add_0 : decode cX10_add 0 = .ok (.lconst 0, 1) := by decide +kernel
theorem dX10_add_1 : decode cX10_add 1 = .ok (.lstore 4, 2) := by decide +kernel
theorem dX10_add_3 : decode cX10_add 3 = .ok (.iconst 0, 1) := by decide +kernel
theorem dX10_add_4 : decode cX10_add 4 = .ok (.istore 6, 2) := by decide +kernel
theorem dX10_add_6 : decode cX10_add 6 = .ok (.iload 6, 2) := by decide +kernel
theorem dX10_add_8 : decode cX10_add 8 = .ok (.bipush 80, 2) := by decide +kernel
theorem dX10_add_10 : decode cX10_add 10 = .ok (.if_icmp .ge 68, 3) := by decide +kernel
theorem dX10_add_13 : decode cX10_add 13 = .ok (.lload 4, 2) := by decide +kernel
theorem dX10_add_15 : decode cX10_add 15 = .ok (.aload_n 0, 1) := by decide +kernel
theorem dX10_add_16 : decode cX10_add 16 = .ok (.getfield 7, 3) := by decide +kernel
theorem dX10_add_19 : decode cX10_add 19 = .ok (.bipush 80, 2) := by decide +kernel
theorem dX10_add_21 : decode cX10_add 21 = .ok (.iload_n 2, 1) := by decide +kernel
theorem dX10_add_22 : decode cX10_add 22 = .ok (.imul, 1) := by decide +kernel
theorem dX10_add_23 : decode cX10_add 23 = .ok (.iload 6, 2) := by decide +kernel
theorem dX10_add_25 : decode cX10_add 25 = .ok (.iadd, 1) := by decide +kernel
theorem dX10_add_26 : decode cX10_add 26 = .ok (.iaload, 1) := by decide +kernel
theorem dX10_add_27 : decode cX10_add 27 = .ok (.i2l, 1) := by decide +kernel
theorem dX10_add_28 : decode cX10_add 28 = .ok (.aload_n 0, 1) := by decide +kernel
theorem dX10_add_29 : decode cX10_add 29 = .ok (.getfield 7, 3) := by decide +kernel
theorem dX10_add_32 : decode cX10_add 32 = .ok (.bipush 80, 2) := by decide +kernel
theorem dX10_add_34 : decode cX10_add 34 = .ok (.iload_n 3, 1) := by decide +kernel
theorem dX10_add_35 : decode cX10_add 35 = .ok (.imul, 1) := by decide +kernel
theorem dX10_add_36 : decode cX10_add 36 = .ok (.iload 6, 2) := by decide +kernel
theorem dX10_add_38 : decode cX10_add 38 = .ok (.iadd, 1) := by decide +kernel
theorem dX10_add_39 : decode cX10_add 39 = .ok (.iaload, 1) := by decide +kernel
theorem dX10_add_40 : decode cX10_add 40 = .ok (.i2l, 1) := by decide +kernel
theorem dX10_add_41 : decode cX10_add 41 = .ok (.ladd, 1) := by decide +kernel
theorem dX10_add_42 : decode cX10_add 42 = .ok (.ladd, 1) := by decide +kernel
theorem dX10_add_43 : decode cX10_add 43 = .ok (.lstore 4, 2) := by decide +kernel
theorem dX10_add_45 : decode cX10_add 45 = .ok (.aload_n 0, 1) := by decide +kernel
theorem dX10_add_46 : decode cX10_add 46 = .ok (.getfield 7, 3) := by decide +kernel
theorem dX10_add_49 : decode cX10_add 49 = .ok (.bipush 80, 2) := by decide +kernel
theorem dX10_add_51 : decode cX10_add 51 = .ok (.iload_n 1, 1) := by decide +kernel
theorem dX10_add_52 : decode cX10_add 52 = .ok (.imul, 1) := by decide +kernel
theorem dX10_add_53 : decode cX10_add 53 = .ok (.iload 6, 2) := by decide +kernel
theorem dX10_add_55 : decode cX10_add 55 = .ok (.iadd, 1) := by decide +kernel
theorem dX10_add_56 : decode cX10_add 56 = .ok (.lload 4, 2) := by decide +kernel
theorem dX10_add_58 : decode cX10_add 58 = .ok (.ldc2_w 53, 3) := by decide +kernel
theorem dX10_add_61 : decode cX10_add 61 = .ok (.lrem, 1) := by decide +kernel
theorem dX10_add_62 : decode cX10_add 62 = .ok (.l2i, 1) := by decide +kernel
theorem dX10_add_63 : decode cX10_add 63 = .ok (.iastore, 1) := by decide +kernel
theorem dX10_add_64 : decode cX10_add 64 = .ok (.lload 4, 2) := by decide +kernel
theorem dX10_add_66 : decode cX10_add 66 = .ok (.ldc2_w 53, 3) := by decide +kernel
theorem dX10_add_69 : decode cX10_add 69 = .ok (.ldiv, 1) := by decide +kernel
theorem dX10_add_70 : decode cX10_add 70 = .ok (.lstore 4, 2) := by decide +kernel
theorem dX10_add_72 : decode cX10_add 72 = .ok (.iinc 6 1, 3) := by decide +kernel
theorem dX10_add_75 : decode cX10_add 75 = .ok (.goto (-69), 3) := by decide +kernel
theorem dX10_add_78 : decode cX10_add 78 = .ok (.return_, 1) := by decide +kernel
theorem dX10_subtract_0 : decode cX10_subtract 0 = .ok (.iconst 0, 1) := by decide +kernel
theorem dX10_subtract_1 : decode cX10_subtract 1 = .ok (.istore 4, 2) := by decide +kernel
theorem dX10_subtract_3 : decode cX10_subtract 3 = .ok (.iconst 0, 1) := by decide +kernel
theorem dX10_subtract_4 : decode cX10_subtract 4 = .ok (.istore 5, 2) := by decide +kernel
theorem dX10_subtract_6 : decode cX10_subtract 6 = .ok (.iload 5, 2) := by decide +kernel
theorem dX10_subtract_8 : decode cX10_subtract 8 = .ok (.bipush 80, 2) := by decide +kernel
theorem dX10_subtract_10 : decode cX10_subtract 10 = .ok (.if_icmp .ge 78, 3) := by decide +kernel
theorem dX10_subtract_13 : decode cX10_subtract 13 = .ok (.aload_n 0, 1) := by decide +kernel
theorem dX10_subtract_14 : decode cX10_subtract 14 = .ok (.getfield 7, 3) := by decide +kernel
theorem dX10_subtract_17 : decode cX10_subtract 17 = .ok (.bipush 80, 2) := by decide +kernel
theorem dX10_subtract_19 : decode cX10_subtract 19 = .ok (.iload_n 2, 1) := by decide +kernel
theorem dX10_subtract_20 : decode cX10_subtract 20 = .ok (.imul, 1) := by decide +kernel
theorem dX10_subtract_21 : decode cX10_subtract 21 = .ok (.iload 5, 2) := by decide +kernel
theorem dX10_subtract_23 : decode cX10_subtract 23 = .ok (.iadd, 1) := by decide +kernel
theorem dX10_subtract_24 : decode cX10_subtract 24 = .ok (.iaload, 1) := by decide +kernel
theorem dX10_subtract_25 : decode cX10_subtract 25 = .ok (.aload_n 0, 1) := by decide +kernel
theorem dX10_subtract_26 : decode cX10_subtract 26 = .ok (.getfield 7, 3) := by decide +kernel
theorem dX10_subtract_29 : decode cX10_subtract 29 = .ok (.bipush 80, 2) := by decide +kernel
theorem dX10_subtract_31 : decode cX10_subtract 31 = .ok (.iload_n 3, 1) := by decide +kernel
theorem dX10_subtract_32 : decode cX10_subtract 32 = .ok (.imul, 1) := by decide +kernel
theorem dX10_subtract_33 : decode cX10_subtract 33 = .ok (.iload 5, 2) := by decide +kernel
theorem dX10_subtract_35 : decode cX10_subtract 35 = .ok (.iadd, 1) := by decide +kernel
theorem dX10_subtract_36 : decode cX10_subtract 36 = .ok (.iaload, 1) := by decide +kernel
theorem dX10_subtract_37 : decode cX10_subtract 37 = .ok (.isub, 1) := by decide +kernel
theorem dX10_subtract_38 : decode cX10_subtract 38 = .ok (.iload 4, 2) := by decide +kernel
theorem dX10_subtract_40 : decode cX10_subtract 40 = .ok (.isub, 1) := by decide +kernel
theorem dX10_subtract_41 : decode cX10_subtract 41 = .ok (.istore 6, 2) := by decide +kernel
theorem dX10_subtract_43 : decode cX10_subtract 43 = .ok (.iload 6, 2) := by decide +kernel
theorem dX10_subtract_45 : decode cX10_subtract 45 = .ok (.ifCond .ge 7, 3) := by decide +kernel
theorem dX10_subtract_48 : decode cX10_subtract 48 = .ok (.iconst 1, 1) := by decide +kernel
theorem dX10_subtract_49 : decode cX10_subtract 49 = .ok (.goto 4, 3) := by decide +kernel
theorem dX10_subtract_52 : decode cX10_subtract 52 = .ok (.iconst 0, 1) := by decide +kernel
theorem dX10_subtract_53 : decode cX10_subtract 53 = .ok (.istore 4, 2) := by decide +kernel
theorem dX10_subtract_55 : decode cX10_subtract 55 = .ok (.aload_n 0, 1) := by decide +kernel
theorem dX10_subtract_56 : decode cX10_subtract 56 = .ok (.getfield 7, 3) := by decide +kernel
theorem dX10_subtract_59 : decode cX10_subtract 59 = .ok (.bipush 80, 2) := by decide +kernel
theorem dX10_subtract_61 : decode cX10_subtract 61 = .ok (.iload_n 1, 1) := by decide +kernel
theorem dX10_subtract_62 : decode cX10_subtract 62 = .ok (.imul, 1) := by decide +kernel
theorem dX10_subtract_63 : decode cX10_subtract 63 = .ok (.iload 5, 2) := by decide +kernel
theorem dX10_subtract_65 : decode cX10_subtract 65 = .ok (.iadd, 1) := by decide +kernel
theorem dX10_subtract_66 : decode cX10_subtract 66 = .ok (.iload 6, 2) := by decide +kernel
theorem dX10_subtract_68 : decode cX10_subtract 68 = .ok (.ifCond .ge 11, 3) := by decide +kernel
theorem dX10_subtract_71 : decode cX10_subtract 71 = .ok (.iload 6, 2) := by decide +kernel
theorem dX10_subtract_73 : decode cX10_subtract 73 = .ok (.ldc 55, 2) := by decide +kernel
theorem dX10_subtract_75 : decode cX10_subtract 75 = .ok (.iadd, 1) := by decide +kernel
theorem dX10_subtract_76 : decode cX10_subtract 76 = .ok (.goto 5, 3) := by decide +kernel
theorem dX10_subtract_79 : decode cX10_subtract 79 = .ok (.iload 6, 2) := by decide +kernel
theorem dX10_subtract_81 : decode cX10_subtract 81 = .ok (.iastore, 1) := by decide +kernel
theorem dX10_subtract_82 : decode cX10_subtract 82 = .ok (.iinc 5 1, 3) := by decide +kernel
theorem dX10_subtract_85 : decode cX10_subtract 85 = .ok (.goto (-79), 3) := by decide +kernel
theorem dX10_subtract_88 : decode cX10_subtract 88 = .ok (.return_, 1) := by decide +kernel
theorem dX10_times_0 : decode cX10_times 0 = .ok (.lload 5, 2) := by decide +kernel
theorem dX10_times_2 : decode cX10_times 2 = .ok (.lstore 7, 2) := by decide +kernel
theorem dX10_times_4 : decode cX10_times 4 = .ok (.iconst 0, 1) := by decide +kernel
theorem dX10_times_5 : decode cX10_times 5 = .ok (.istore 9, 2) := by decide +kernel
theorem dX10_times_7 : decode cX10_times 7 = .ok (.iload 9, 2) := by decide +kernel
theorem dX10_times_9 : decode cX10_times 9 = .ok (.bipush 80, 2) := by decide +kernel
theorem dX10_times_11 : decode cX10_times 11 = .ok (.if_icmp .ge 56, 3) := by decide +kernel
theorem dX10_times_14 : decode cX10_times 14 = .ok (.lload 7, 2) := by decide +kernel
theorem dX10_times_16 : decode cX10_times 16 = .ok (.lload_n 3, 1) := by decide +kernel
theorem dX10_times_17 : decode cX10_times 17 = .ok (.aload_n 0, 1) := by decide +kernel
theorem dX10_times_18 : decode cX10_times 18 = .ok (.getfield 7, 3) := by decide +kernel
theorem dX10_times_21 : decode cX10_times 21 = .ok (.bipush 80, 2) := by decide +kernel
theorem dX10_times_23 : decode cX10_times 23 = .ok (.iload_n 2, 1) := by decide +kernel
theorem dX10_times_24 : decode cX10_times 24 = .ok (.imul, 1) := by decide +kernel
theorem dX10_times_25 : decode cX10_times 25 = .ok (.iload 9, 2) := by decide +kernel
theorem dX10_times_27 : decode cX10_times 27 = .ok (.iadd, 1) := by decide +kernel
theorem dX10_times_28 : decode cX10_times 28 = .ok (.iaload, 1) := by decide +kernel
theorem dX10_times_29 : decode cX10_times 29 = .ok (.i2l, 1) := by decide +kernel
theorem dX10_times_30 : decode cX10_times 30 = .ok (.lmul, 1) := by decide +kernel
theorem dX10_times_31 : decode cX10_times 31 = .ok (.ladd, 1) := by decide +kernel
theorem dX10_times_32 : decode cX10_times 32 = .ok (.lstore 7, 2) := by decide +kernel
theorem dX10_times_34 : decode cX10_times 34 = .ok (.aload_n 0, 1) := by decide +kernel
theorem dX10_times_35 : decode cX10_times 35 = .ok (.getfield 7, 3) := by decide +kernel
theorem dX10_times_38 : decode cX10_times 38 = .ok (.bipush 80, 2) := by decide +kernel
theorem dX10_times_40 : decode cX10_times 40 = .ok (.iload_n 1, 1) := by decide +kernel
theorem dX10_times_41 : decode cX10_times 41 = .ok (.imul, 1) := by decide +kernel
theorem dX10_times_42 : decode cX10_times 42 = .ok (.iload 9, 2) := by decide +kernel
theorem dX10_times_44 : decode cX10_times 44 = .ok (.iadd, 1) := by decide +kernel
theorem dX10_times_45 : decode cX10_times 45 = .ok (.lload 7, 2) := by decide +kernel
theorem dX10_times_47 : decode cX10_times 47 = .ok (.ldc2_w 53, 3) := by decide +kernel
theorem dX10_times_50 : decode cX10_times 50 = .ok (.lrem, 1) := by decide +kernel
theorem dX10_times_51 : decode cX10_times 51 = .ok (.l2i, 1) := by decide +kernel
theorem dX10_times_52 : decode cX10_times 52 = .ok (.iastore, 1) := by decide +kernel
theorem dX10_times_53 : decode cX10_times 53 = .ok (.lload 7, 2) := by decide +kernel
theorem dX10_times_55 : decode cX10_times 55 = .ok (.ldc2_w 53, 3) := by decide +kernel
theorem dX10_times_58 : decode cX10_times 58 = .ok (.ldiv, 1) := by decide +kernel
theorem dX10_times_59 : decode cX10_times 59 = .ok (.lstore 7, 2) := by decide +kernel
theorem dX10_times_61 : decode cX10_times 61 = .ok (.iinc 9 1, 3) := by decide +kernel
theorem dX10_times_64 : decode cX10_times 64 = .ok (.goto (-57), 3) := by decide +kernel
theorem dX10_times_67 : decode cX10_times 67 = .ok (.return_, 1) := by decide +kernel
theorem dX10_divide_0 : decode cX10_divide 0 = .ok (.lconst 0, 1) := by decide +kernel
theorem dX10_divide_1 : decode cX10_divide 1 = .ok (.lstore 5, 2) := by decide +kernel
theorem dX10_divide_3 : decode cX10_divide 3 = .ok (.bipush 79, 2) := by decide +kernel
theorem dX10_divide_5 : decode cX10_divide 5 = .ok (.istore 7, 2) := by decide +kernel
theorem dX10_divide_7 : decode cX10_divide 7 = .ok (.iload 7, 2) := by decide +kernel
theorem dX10_divide_9 : decode cX10_divide 9 = .ok (.ifCond .lt 54, 3) := by decide +kernel
theorem dX10_divide_12 : decode cX10_divide 12 = .ok (.lload 5, 2) := by decide +kernel
theorem dX10_divide_14 : decode cX10_divide 14 = .ok (.ldc2_w 53, 3) := by decide +kernel
theorem dX10_divide_17 : decode cX10_divide 17 = .ok (.lmul, 1) := by decide +kernel
theorem dX10_divide_18 : decode cX10_divide 18 = .ok (.aload_n 0, 1) := by decide +kernel
theorem dX10_divide_19 : decode cX10_divide 19 = .ok (.getfield 7, 3) := by decide +kernel
theorem dX10_divide_22 : decode cX10_divide 22 = .ok (.bipush 80, 2) := by decide +kernel
theorem dX10_divide_24 : decode cX10_divide 24 = .ok (.iload_n 2, 1) := by decide +kernel
theorem dX10_divide_25 : decode cX10_divide 25 = .ok (.imul, 1) := by decide +kernel
theorem dX10_divide_26 : decode cX10_divide 26 = .ok (.iload 7, 2) := by decide +kernel
theorem dX10_divide_28 : decode cX10_divide 28 = .ok (.iadd, 1) := by decide +kernel
theorem dX10_divide_29 : decode cX10_divide 29 = .ok (.iaload, 1) := by decide +kernel
theorem dX10_divide_30 : decode cX10_divide 30 = .ok (.i2l, 1) := by decide +kernel
theorem dX10_divide_31 : decode cX10_divide 31 = .ok (.ladd, 1) := by decide +kernel
theorem dX10_divide_32 : decode cX10_divide 32 = .ok (.lstore 5, 2) := by decide +kernel
theorem dX10_divide_34 : decode cX10_divide 34 = .ok (.aload_n 0, 1) := by decide +kernel
theorem dX10_divide_35 : decode cX10_divide 35 = .ok (.getfield 7, 3) := by decide +kernel
theorem dX10_divide_38 : decode cX10_divide 38 = .ok (.bipush 80, 2) := by decide +kernel
theorem dX10_divide_40 : decode cX10_divide 40 = .ok (.iload_n 1, 1) := by decide +kernel
theorem dX10_divide_41 : decode cX10_divide 41 = .ok (.imul, 1) := by decide +kernel
theorem dX10_divide_42 : decode cX10_divide 42 = .ok (.iload 7, 2) := by decide +kernel
theorem dX10_divide_44 : decode cX10_divide 44 = .ok (.iadd, 1) := by decide +kernel
theorem dX10_divide_45 : decode cX10_divide 45 = .ok (.lload 5, 2) := by decide +kernel
theorem dX10_divide_47 : decode cX10_divide 47 = .ok (.lload_n 3, 1) := by decide +kernel
theorem dX10_divide_48 : decode cX10_divide 48 = .ok (.ldiv, 1) := by decide +kernel
theorem dX10_divide_49 : decode cX10_divide 49 = .ok (.l2i, 1) := by decide +kernel
theorem dX10_divide_50 : decode cX10_divide 50 = .ok (.iastore, 1) := by decide +kernel
theorem dX10_divide_51 : decode cX10_divide 51 = .ok (.lload 5, 2) := by decide +kernel
theorem dX10_divide_53 : decode cX10_divide 53 = .ok (.lload_n 3, 1) := by decide +kernel
theorem dX10_divide_54 : decode cX10_divide 54 = .ok (.lrem, 1) := by decide +kernel
theorem dX10_divide_55 : decode cX10_divide 55 = .ok (.lstore 5, 2) := by decide +kernel
theorem dX10_divide_57 : decode cX10_divide 57 = .ok (.iinc 7 (-1), 3) := by decide +kernel
theorem dX10_divide_60 : decode cX10_divide 60 = .ok (.goto (-53), 3) := by decide +kernel
theorem dX10_divide_63 : decode cX10_divide 63 = .ok (.lload 5, 2) := by decide +kernel
theorem dX10_divide_65 : decode cX10_divide 65 = .ok (.lreturn, 1) := by decide +kernel
theorem dX10_multiply_0 : decode cX10_multiply 0 = .ok (.aload_n 0, 1) := by decide +kernel
theorem dX10_multiply_1 : decode cX10_multiply 1 = .ok (.iload_n 2, 1) := by decide +kernel
theorem dX10_multiply_2 : decode cX10_multiply 2 = .ok (.invokevirtual 56, 3) := by decide +kernel
theorem dX10_multiply_5 : decode cX10_multiply 5 = .ok (.istore 4, 2) := by decide +kernel
theorem dX10_multiply_7 : decode cX10_multiply 7 = .ok (.aload_n 0, 1) := by decide +kernel
theorem dX10_multiply_8 : decode cX10_multiply 8 = .ok (.iload_n 3, 1) := by decide +kernel
theorem dX10_multiply_9 : decode cX10_multiply 9 = .ok (.invokevirtual 56, 3) := by decide +kernel
theorem dX10_multiply_12 : decode cX10_multiply 12 = .ok (.istore 5, 2) := by decide +kernel
theorem dX10_multiply_14 : decode cX10_multiply 14 = .ok (.iconst 0, 1) := by decide +kernel
theorem dX10_multiply_15 : decode cX10_multiply 15 = .ok (.istore 6, 2) := by decide +kernel
theorem dX10_multiply_17 : decode cX10_multiply 17 = .ok (.iload 6, 2) := by decide +kernel
theorem dX10_multiply_19 : decode cX10_multiply 19 = .ok (.bipush 80, 2) := by decide +kernel
theorem dX10_multiply_21 : decode cX10_multiply 21 = .ok (.if_icmp .ge 22, 3) := by decide +kernel
theorem dX10_multiply_24 : decode cX10_multiply 24 = .ok (.aload_n 0, 1) := by decide +kernel
theorem dX10_multiply_25 : decode cX10_multiply 25 = .ok (.getfield 7, 3) := by decide +kernel
theorem dX10_multiply_28 : decode cX10_multiply 28 = .ok (.bipush 80, 2) := by decide +kernel
theorem dX10_multiply_30 : decode cX10_multiply 30 = .ok (.iload_n 1, 1) := by decide +kernel
theorem dX10_multiply_31 : decode cX10_multiply 31 = .ok (.imul, 1) := by decide +kernel
theorem dX10_multiply_32 : decode cX10_multiply 32 = .ok (.iload 6, 2) := by decide +kernel
theorem dX10_multiply_34 : decode cX10_multiply 34 = .ok (.iadd, 1) := by decide +kernel
theorem dX10_multiply_35 : decode cX10_multiply 35 = .ok (.iconst 0, 1) := by decide +kernel
theorem dX10_multiply_36 : decode cX10_multiply 36 = .ok (.iastore, 1) := by decide +kernel
theorem dX10_multiply_37 : decode cX10_multiply 37 = .ok (.iinc 6 1, 3) := by decide +kernel
theorem dX10_multiply_40 : decode cX10_multiply 40 = .ok (.goto (-23), 3) := by decide +kernel
theorem dX10_multiply_43 : decode cX10_multiply 43 = .ok (.iconst 0, 1) := by decide +kernel
theorem dX10_multiply_44 : decode cX10_multiply 44 = .ok (.istore 6, 2) := by decide +kernel
theorem dX10_multiply_46 : decode cX10_multiply 46 = .ok (.iload 6, 2) := by decide +kernel
theorem dX10_multiply_48 : decode cX10_multiply 48 = .ok (.iload 4, 2) := by decide +kernel
theorem dX10_multiply_50 : decode cX10_multiply 50 = .ok (.if_icmp .ge 135, 3) := by decide +kernel
theorem dX10_multiply_53 : decode cX10_multiply 53 = .ok (.lconst 0, 1) := by decide +kernel
theorem dX10_multiply_54 : decode cX10_multiply 54 = .ok (.lstore 7, 2) := by decide +kernel
theorem dX10_multiply_56 : decode cX10_multiply 56 = .ok (.iconst 0, 1) := by decide +kernel
theorem dX10_multiply_57 : decode cX10_multiply 57 = .ok (.istore 9, 2) := by decide +kernel
theorem dX10_multiply_59 : decode cX10_multiply 59 = .ok (.iload 6, 2) := by decide +kernel
theorem dX10_multiply_61 : decode cX10_multiply 61 = .ok (.iload 9, 2) := by decide +kernel
theorem dX10_multiply_63 : decode cX10_multiply 63 = .ok (.iadd, 1) := by decide +kernel
theorem dX10_multiply_64 : decode cX10_multiply 64 = .ok (.bipush 80, 2) := by decide +kernel
theorem dX10_multiply_66 : decode cX10_multiply 66 = .ok (.if_icmp .ge 113, 3) := by decide +kernel
theorem dX10_multiply_69 : decode cX10_multiply 69 = .ok (.iload 9, 2) := by decide +kernel
theorem dX10_multiply_71 : decode cX10_multiply 71 = .ok (.iload 5, 2) := by decide +kernel
theorem dX10_multiply_73 : decode cX10_multiply 73 = .ok (.if_icmp .lt 10, 3) := by decide +kernel
theorem dX10_multiply_76 : decode cX10_multiply 76 = .ok (.lload 7, 2) := by decide +kernel
theorem dX10_multiply_78 : decode cX10_multiply 78 = .ok (.lconst 0, 1) := by decide +kernel
theorem dX10_multiply_79 : decode cX10_multiply 79 = .ok (.lcmp, 1) := by decide +kernel
theorem dX10_multiply_80 : decode cX10_multiply 80 = .ok (.ifCond .le 99, 3) := by decide +kernel
theorem dX10_multiply_83 : decode cX10_multiply 83 = .ok (.lload 7, 2) := by decide +kernel
theorem dX10_multiply_85 : decode cX10_multiply 85 = .ok (.aload_n 0, 1) := by decide +kernel
theorem dX10_multiply_86 : decode cX10_multiply 86 = .ok (.getfield 7, 3) := by decide +kernel
theorem dX10_multiply_89 : decode cX10_multiply 89 = .ok (.bipush 80, 2) := by decide +kernel
theorem dX10_multiply_91 : decode cX10_multiply 91 = .ok (.iload_n 1, 1) := by decide +kernel
theorem dX10_multiply_92 : decode cX10_multiply 92 = .ok (.imul, 1) := by decide +kernel
theorem dX10_multiply_93 : decode cX10_multiply 93 = .ok (.iload 6, 2) := by decide +kernel
theorem dX10_multiply_95 : decode cX10_multiply 95 = .ok (.iadd, 1) := by decide +kernel
theorem dX10_multiply_96 : decode cX10_multiply 96 = .ok (.iload 9, 2) := by decide +kernel
theorem dX10_multiply_98 : decode cX10_multiply 98 = .ok (.iadd, 1) := by decide +kernel
theorem dX10_multiply_99 : decode cX10_multiply 99 = .ok (.iaload, 1) := by decide +kernel
theorem dX10_multiply_100 : decode cX10_multiply 100 = .ok (.i2l, 1) := by decide +kernel
theorem dX10_multiply_101 : decode cX10_multiply 101 = .ok (.iload 9, 2) := by decide +kernel
theorem dX10_multiply_103 : decode cX10_multiply 103 = .ok (.iload 5, 2) := by decide +kernel
theorem dX10_multiply_105 : decode cX10_multiply 105 = .ok (.if_icmp .ge 33, 3) := by decide +kernel
theorem dX10_multiply_108 : decode cX10_multiply 108 = .ok (.aload_n 0, 1) := by decide +kernel
theorem dX10_multiply_109 : decode cX10_multiply 109 = .ok (.getfield 7, 3) := by decide +kernel
theorem dX10_multiply_112 : decode cX10_multiply 112 = .ok (.bipush 80, 2) := by decide +kernel
theorem dX10_multiply_114 : decode cX10_multiply 114 = .ok (.iload_n 2, 1) := by decide +kernel
theorem dX10_multiply_115 : decode cX10_multiply 115 = .ok (.imul, 1) := by decide +kernel
theorem dX10_multiply_116 : decode cX10_multiply 116 = .ok (.iload 6, 2) := by decide +kernel
theorem dX10_multiply_118 : decode cX10_multiply 118 = .ok (.iadd, 1) := by decide +kernel
theorem dX10_multiply_119 : decode cX10_multiply 119 = .ok (.iaload, 1) := by decide +kernel
theorem dX10_multiply_120 : decode cX10_multiply 120 = .ok (.i2l, 1) := by decide +kernel
theorem dX10_multiply_121 : decode cX10_multiply 121 = .ok (.aload_n 0, 1) := by decide +kernel
theorem dX10_multiply_122 : decode cX10_multiply 122 = .ok (.getfield 7, 3) := by decide +kernel
theorem dX10_multiply_125 : decode cX10_multiply 125 = .ok (.bipush 80, 2) := by decide +kernel
theorem dX10_multiply_127 : decode cX10_multiply 127 = .ok (.iload_n 3, 1) := by decide +kernel
theorem dX10_multiply_128 : decode cX10_multiply 128 = .ok (.imul, 1) := by decide +kernel
theorem dX10_multiply_129 : decode cX10_multiply 129 = .ok (.iload 9, 2) := by decide +kernel
theorem dX10_multiply_131 : decode cX10_multiply 131 = .ok (.iadd, 1) := by decide +kernel
theorem dX10_multiply_132 : decode cX10_multiply 132 = .ok (.iaload, 1) := by decide +kernel
theorem dX10_multiply_133 : decode cX10_multiply 133 = .ok (.i2l, 1) := by decide +kernel
theorem dX10_multiply_134 : decode cX10_multiply 134 = .ok (.lmul, 1) := by decide +kernel
theorem dX10_multiply_135 : decode cX10_multiply 135 = .ok (.goto 4, 3) := by decide +kernel
theorem dX10_multiply_138 : decode cX10_multiply 138 = .ok (.lconst 0, 1) := by decide +kernel
theorem dX10_multiply_139 : decode cX10_multiply 139 = .ok (.ladd, 1) := by decide +kernel
theorem dX10_multiply_140 : decode cX10_multiply 140 = .ok (.ladd, 1) := by decide +kernel
theorem dX10_multiply_141 : decode cX10_multiply 141 = .ok (.lstore 7, 2) := by decide +kernel
theorem dX10_multiply_143 : decode cX10_multiply 143 = .ok (.aload_n 0, 1) := by decide +kernel
theorem dX10_multiply_144 : decode cX10_multiply 144 = .ok (.getfield 7, 3) := by decide +kernel
theorem dX10_multiply_147 : decode cX10_multiply 147 = .ok (.bipush 80, 2) := by decide +kernel
theorem dX10_multiply_149 : decode cX10_multiply 149 = .ok (.iload_n 1, 1) := by decide +kernel
theorem dX10_multiply_150 : decode cX10_multiply 150 = .ok (.imul, 1) := by decide +kernel
theorem dX10_multiply_151 : decode cX10_multiply 151 = .ok (.iload 6, 2) := by decide +kernel
theorem dX10_multiply_153 : decode cX10_multiply 153 = .ok (.iadd, 1) := by decide +kernel
theorem dX10_multiply_154 : decode cX10_multiply 154 = .ok (.iload 9, 2) := by decide +kernel
theorem dX10_multiply_156 : decode cX10_multiply 156 = .ok (.iadd, 1) := by decide +kernel
theorem dX10_multiply_157 : decode cX10_multiply 157 = .ok (.lload 7, 2) := by decide +kernel
theorem dX10_multiply_159 : decode cX10_multiply 159 = .ok (.ldc2_w 53, 3) := by decide +kernel
theorem dX10_multiply_162 : decode cX10_multiply 162 = .ok (.lrem, 1) := by decide +kernel
theorem dX10_multiply_163 : decode cX10_multiply 163 = .ok (.l2i, 1) := by decide +kernel
theorem dX10_multiply_164 : decode cX10_multiply 164 = .ok (.iastore, 1) := by decide +kernel
theorem dX10_multiply_165 : decode cX10_multiply 165 = .ok (.lload 7, 2) := by decide +kernel
theorem dX10_multiply_167 : decode cX10_multiply 167 = .ok (.ldc2_w 53, 3) := by decide +kernel
theorem dX10_multiply_170 : decode cX10_multiply 170 = .ok (.ldiv, 1) := by decide +kernel
theorem dX10_multiply_171 : decode cX10_multiply 171 = .ok (.lstore 7, 2) := by decide +kernel
theorem dX10_multiply_173 : decode cX10_multiply 173 = .ok (.iinc 9 1, 3) := by decide +kernel
theorem dX10_multiply_176 : decode cX10_multiply 176 = .ok (.goto (-117), 3) := by decide +kernel
theorem dX10_multiply_179 : decode cX10_multiply 179 = .ok (.iinc 6 1, 3) := by decide +kernel
theorem dX10_multiply_182 : decode cX10_multiply 182 = .ok (.goto (-136), 3) := by decide +kernel
theorem dX10_multiply_185 : decode cX10_multiply 185 = .ok (.return_, 1) := by decide +kernel
theorem dX10_shift_0 : decode cX10_shift 0 = .ok (.bipush 79, 2) := by decide +kernel
theorem dX10_shift_2 : decode cX10_shift 2 = .ok (.istore_n 3, 1) := by decide +kernel
theorem dX10_shift_3 : decode cX10_shift 3 = .ok (.iload_n 3, 1) := by decide +kernel
theorem dX10_shift_4 : decode cX10_shift 4 = .ok (.ifCond .le 33, 3) := by decide +kernel
theorem dX10_shift_7 : decode cX10_shift 7 = .ok (.aload_n 0, 1) := by decide +kernel
theorem dX10_shift_8 : decode cX10_shift 8 = .ok (.getfield 7, 3) := by decide +kernel
theorem dX10_shift_11 : decode cX10_shift 11 = .ok (.bipush 80, 2) := by decide +kernel
theorem dX10_shift_13 : decode cX10_shift 13 = .ok (.iload_n 1, 1) := by decide +kernel
theorem dX10_shift_14 : decode cX10_shift 14 = .ok (.imul, 1) := by decide +kernel
theorem dX10_shift_15 : decode cX10_shift 15 = .ok (.iload_n 3, 1) := by decide +kernel
theorem dX10_shift_16 : decode cX10_shift 16 = .ok (.iadd, 1) := by decide +kernel
theorem dX10_shift_17 : decode cX10_shift 17 = .ok (.aload_n 0, 1) := by decide +kernel
theorem dX10_shift_18 : decode cX10_shift 18 = .ok (.getfield 7, 3) := by decide +kernel
theorem dX10_shift_21 : decode cX10_shift 21 = .ok (.bipush 80, 2) := by decide +kernel
theorem dX10_shift_23 : decode cX10_shift 23 = .ok (.iload_n 1, 1) := by decide +kernel
theorem dX10_shift_24 : decode cX10_shift 24 = .ok (.imul, 1) := by decide +kernel
theorem dX10_shift_25 : decode cX10_shift 25 = .ok (.iload_n 3, 1) := by decide +kernel
theorem dX10_shift_26 : decode cX10_shift 26 = .ok (.iadd, 1) := by decide +kernel
theorem dX10_shift_27 : decode cX10_shift 27 = .ok (.iconst 1, 1) := by decide +kernel
theorem dX10_shift_28 : decode cX10_shift 28 = .ok (.isub, 1) := by decide +kernel
theorem dX10_shift_29 : decode cX10_shift 29 = .ok (.iaload, 1) := by decide +kernel
theorem dX10_shift_30 : decode cX10_shift 30 = .ok (.iastore, 1) := by decide +kernel
theorem dX10_shift_31 : decode cX10_shift 31 = .ok (.iinc 3 (-1), 3) := by decide +kernel
theorem dX10_shift_34 : decode cX10_shift 34 = .ok (.goto (-31), 3) := by decide +kernel
theorem dX10_shift_37 : decode cX10_shift 37 = .ok (.aload_n 0, 1) := by decide +kernel
theorem dX10_shift_38 : decode cX10_shift 38 = .ok (.getfield 7, 3) := by decide +kernel
theorem dX10_shift_41 : decode cX10_shift 41 = .ok (.bipush 80, 2) := by decide +kernel
theorem dX10_shift_43 : decode cX10_shift 43 = .ok (.iload_n 1, 1) := by decide +kernel
theorem dX10_shift_44 : decode cX10_shift 44 = .ok (.imul, 1) := by decide +kernel
theorem dX10_shift_45 : decode cX10_shift 45 = .ok (.iload_n 2, 1) := by decide +kernel
theorem dX10_shift_46 : decode cX10_shift 46 = .ok (.iastore, 1) := by decide +kernel
theorem dX10_shift_47 : decode cX10_shift 47 = .ok (.return_, 1) := by decide +kernel
theorem dX10_divideBy_0 : decode cX10_divideBy 0 = .ok (.aload_n 0, 1) := by decide +kernel
theorem dX10_divideBy_1 : decode cX10_divideBy 1 = .ok (.bipush 14, 2) := by decide +kernel
theorem dX10_divideBy_3 : decode cX10_divideBy 3 = .ok (.lconst 0, 1) := by decide +kernel
theorem dX10_divideBy_4 : decode cX10_divideBy 4 = .ok (.invokevirtual 60, 3) := by decide +kernel
theorem dX10_divideBy_7 : decode cX10_divideBy 7 = .ok (.aload_n 0, 1) := by decide +kernel
theorem dX10_divideBy_8 : decode cX10_divideBy 8 = .ok (.bipush 13, 2) := by decide +kernel
theorem dX10_divideBy_10 : decode cX10_divideBy 10 = .ok (.lconst 0, 1) := by decide +kernel
theorem dX10_divideBy_11 : decode cX10_divideBy 11 = .ok (.invokevirtual 60, 3) := by decide +kernel
theorem dX10_divideBy_14 : decode cX10_divideBy 14 = .ok (.aload_n 0, 1) := by decide +kernel
theorem dX10_divideBy_15 : decode cX10_divideBy 15 = .ok (.iload_n 2, 1) := by decide +kernel
theorem dX10_divideBy_16 : decode cX10_divideBy 16 = .ok (.invokevirtual 56, 3) := by decide +kernel
theorem dX10_divideBy_19 : decode cX10_divideBy 19 = .ok (.iconst 1, 1) := by decide +kernel
theorem dX10_divideBy_20 : decode cX10_divideBy 20 = .ok (.isub, 1) := by decide +kernel
theorem dX10_divideBy_21 : decode cX10_divideBy 21 = .ok (.istore 4, 2) := by decide +kernel
theorem dX10_divideBy_23 : decode cX10_divideBy 23 = .ok (.iload 4, 2) := by decide +kernel
theorem dX10_divideBy_25 : decode cX10_divideBy 25 = .ok (.ifCond .lt 127, 3) := by decide +kernel
theorem dX10_divideBy_28 : decode cX10_divideBy 28 = .ok (.aload_n 0, 1) := by decide +kernel
theorem dX10_divideBy_29 : decode cX10_divideBy 29 = .ok (.bipush 14, 2) := by decide +kernel
theorem dX10_divideBy_31 : decode cX10_divideBy 31 = .ok (.aload_n 0, 1) := by decide +kernel
theorem dX10_divideBy_32 : decode cX10_divideBy 32 = .ok (.getfield 7, 3) := by decide +kernel
theorem dX10_divideBy_35 : decode cX10_divideBy 35 = .ok (.bipush 80, 2) := by decide +kernel
theorem dX10_divideBy_37 : decode cX10_divideBy 37 = .ok (.iload_n 2, 1) := by decide +kernel
theorem dX10_divideBy_38 : decode cX10_divideBy 38 = .ok (.imul, 1) := by decide +kernel
theorem dX10_divideBy_39 : decode cX10_divideBy 39 = .ok (.iload 4, 2) := by decide +kernel
theorem dX10_divideBy_41 : decode cX10_divideBy 41 = .ok (.iadd, 1) := by decide +kernel
theorem dX10_divideBy_42 : decode cX10_divideBy 42 = .ok (.iaload, 1) := by decide +kernel
theorem dX10_divideBy_43 : decode cX10_divideBy 43 = .ok (.invokevirtual 64, 3) := by decide +kernel
theorem dX10_divideBy_46 : decode cX10_divideBy 46 = .ok (.iconst 0, 1) := by decide +kernel
theorem dX10_divideBy_47 : decode cX10_divideBy 47 = .ok (.istore 5, 2) := by decide +kernel
theorem dX10_divideBy_49 : decode cX10_divideBy 49 = .ok (.ldc 68, 2) := by decide +kernel
theorem dX10_divideBy_51 : decode cX10_divideBy 51 = .ok (.istore 6, 2) := by decide +kernel
theorem dX10_divideBy_53 : decode cX10_divideBy 53 = .ok (.iload 5, 2) := by decide +kernel
theorem dX10_divideBy_55 : decode cX10_divideBy 55 = .ok (.iload 6, 2) := by decide +kernel
theorem dX10_divideBy_57 : decode cX10_divideBy 57 = .ok (.if_icmp .ge 55, 3) := by decide +kernel
theorem dX10_divideBy_60 : decode cX10_divideBy 60 = .ok (.iload 5, 2) := by decide +kernel
theorem dX10_divideBy_62 : decode cX10_divideBy 62 = .ok (.iload 6, 2) := by decide +kernel
theorem dX10_divideBy_64 : decode cX10_divideBy 64 = .ok (.iload 5, 2) := by decide +kernel
theorem dX10_divideBy_66 : decode cX10_divideBy 66 = .ok (.isub, 1) := by decide +kernel
theorem dX10_divideBy_67 : decode cX10_divideBy 67 = .ok (.iconst 1, 1) := by decide +kernel
theorem dX10_divideBy_68 : decode cX10_divideBy 68 = .ok (.iadd, 1) := by decide +kernel
theorem dX10_divideBy_69 : decode cX10_divideBy 69 = .ok (.iconst 2, 1) := by decide +kernel
theorem dX10_divideBy_70 : decode cX10_divideBy 70 = .ok (.idiv, 1) := by decide +kernel
theorem dX10_divideBy_71 : decode cX10_divideBy 71 = .ok (.iadd, 1) := by decide +kernel
theorem dX10_divideBy_72 : decode cX10_divideBy 72 = .ok (.istore 7, 2) := by decide +kernel
theorem dX10_divideBy_74 : decode cX10_divideBy 74 = .ok (.aload_n 0, 1) := by decide +kernel
theorem dX10_divideBy_75 : decode cX10_divideBy 75 = .ok (.bipush 15, 2) := by decide +kernel
theorem dX10_divideBy_77 : decode cX10_divideBy 77 = .ok (.iload_n 3, 1) := by decide +kernel
theorem dX10_divideBy_78 : decode cX10_divideBy 78 = .ok (.iload 7, 2) := by decide +kernel
theorem dX10_divideBy_80 : decode cX10_divideBy 80 = .ok (.i2l, 1) := by decide +kernel
theorem dX10_divideBy_81 : decode cX10_divideBy 81 = .ok (.lconst 0, 1) := by decide +kernel
theorem dX10_divideBy_82 : decode cX10_divideBy 82 = .ok (.invokevirtual 69, 3) := by decide +kernel
theorem dX10_divideBy_85 : decode cX10_divideBy 85 = .ok (.aload_n 0, 1) := by decide +kernel
theorem dX10_divideBy_86 : decode cX10_divideBy 86 = .ok (.bipush 15, 2) := by decide +kernel
theorem dX10_divideBy_88 : decode cX10_divideBy 88 = .ok (.bipush 14, 2) := by decide +kernel
theorem dX10_divideBy_90 : decode cX10_divideBy 90 = .ok (.invokevirtual 73, 3) := by decide +kernel
theorem dX10_divideBy_93 : decode cX10_divideBy 93 = .ok (.ifCond .gt 10, 3) := by decide +kernel
theorem dX10_divideBy_96 : decode cX10_divideBy 96 = .ok (.iload 7, 2) := by decide +kernel
theorem dX10_divideBy_98 : decode cX10_divideBy 98 = .ok (.istore 5, 2) := by decide +kernel
theorem dX10_divideBy_100 : decode cX10_divideBy 100 = .ok (.goto 9, 3) := by decide +kernel
theorem dX10_divideBy_103 : decode cX10_divideBy 103 = .ok (.iload 7, 2) := by decide +kernel
theorem dX10_divideBy_105 : decode cX10_divideBy 105 = .ok (.iconst 1, 1) := by decide +kernel
theorem dX10_divideBy_106 : decode cX10_divideBy 106 = .ok (.isub, 1) := by decide +kernel
theorem dX10_divideBy_107 : decode cX10_divideBy 107 = .ok (.istore 6, 2) := by decide +kernel
theorem dX10_divideBy_109 : decode cX10_divideBy 109 = .ok (.goto (-56), 3) := by decide +kernel
theorem dX10_divideBy_112 : decode cX10_divideBy 112 = .ok (.aload_n 0, 1) := by decide +kernel
theorem dX10_divideBy_113 : decode cX10_divideBy 113 = .ok (.bipush 15, 2) := by decide +kernel
theorem dX10_divideBy_115 : decode cX10_divideBy 115 = .ok (.iload_n 3, 1) := by decide +kernel
theorem dX10_divideBy_116 : decode cX10_divideBy 116 = .ok (.iload 5, 2) := by decide +kernel
theorem dX10_divideBy_118 : decode cX10_divideBy 118 = .ok (.i2l, 1) := by decide +kernel
theorem dX10_divideBy_119 : decode cX10_divideBy 119 = .ok (.lconst 0, 1) := by decide +kernel
theorem dX10_divideBy_120 : decode cX10_divideBy 120 = .ok (.invokevirtual 69, 3) := by decide +kernel
theorem dX10_divideBy_123 : decode cX10_divideBy 123 = .ok (.aload_n 0, 1) := by decide +kernel
theorem dX10_divideBy_124 : decode cX10_divideBy 124 = .ok (.bipush 14, 2) := by decide +kernel
theorem dX10_divideBy_126 : decode cX10_divideBy 126 = .ok (.bipush 14, 2) := by decide +kernel
theorem dX10_divideBy_128 : decode cX10_divideBy 128 = .ok (.bipush 15, 2) := by decide +kernel
theorem dX10_divideBy_130 : decode cX10_divideBy 130 = .ok (.invokevirtual 77, 3) := by decide +kernel
theorem dX10_divideBy_133 : decode cX10_divideBy 133 = .ok (.aload_n 0, 1) := by decide +kernel
theorem dX10_divideBy_134 : decode cX10_divideBy 134 = .ok (.getfield 7, 3) := by decide +kernel
theorem dX10_divideBy_137 : decode cX10_divideBy 137 = .ok (.sipush 1040, 3) := by decide +kernel
theorem dX10_divideBy_140 : decode cX10_divideBy 140 = .ok (.iload 4, 2) := by decide +kernel
theorem dX10_divideBy_142 : decode cX10_divideBy 142 = .ok (.iadd, 1) := by decide +kernel
theorem dX10_divideBy_143 : decode cX10_divideBy 143 = .ok (.iload 5, 2) := by decide +kernel
theorem dX10_divideBy_145 : decode cX10_divideBy 145 = .ok (.iastore, 1) := by decide +kernel
theorem dX10_divideBy_146 : decode cX10_divideBy 146 = .ok (.iinc 4 (-1), 3) := by decide +kernel
theorem dX10_divideBy_149 : decode cX10_divideBy 149 = .ok (.goto (-126), 3) := by decide +kernel
theorem dX10_divideBy_152 : decode cX10_divideBy 152 = .ok (.aload_n 0, 1) := by decide +kernel
theorem dX10_divideBy_153 : decode cX10_divideBy 153 = .ok (.iload_n 1, 1) := by decide +kernel
theorem dX10_divideBy_154 : decode cX10_divideBy 154 = .ok (.bipush 13, 2) := by decide +kernel
theorem dX10_divideBy_156 : decode cX10_divideBy 156 = .ok (.invokevirtual 81, 3) := by decide +kernel
theorem dX10_divideBy_159 : decode cX10_divideBy 159 = .ok (.return_, 1) := by decide +kernel
theorem dX10_rootOf_0 : decode cX10_rootOf 0 = .ok (.aload_n 0, 1) := by decide +kernel
theorem dX10_rootOf_1 : decode cX10_rootOf 1 = .ok (.iload_n 1, 1) := by decide +kernel
theorem dX10_rootOf_2 : decode cX10_rootOf 2 = .ok (.lconst 0, 1) := by decide +kernel
theorem dX10_rootOf_3 : decode cX10_rootOf 3 = .ok (.invokevirtual 60, 3) := by decide +kernel
theorem dX10_rootOf_6 : decode cX10_rootOf 6 = .ok (.aload_n 0, 1) := by decide +kernel
theorem dX10_rootOf_7 : decode cX10_rootOf 7 = .ok (.iload_n 2, 1) := by decide +kernel
theorem dX10_rootOf_8 : decode cX10_rootOf 8 = .ok (.invokevirtual 56, 3) := by decide +kernel
theorem dX10_rootOf_11 : decode cX10_rootOf 11 = .ok (.iconst 1, 1) := by decide +kernel
theorem dX10_rootOf_12 : decode cX10_rootOf 12 = .ok (.iadd, 1) := by decide +kernel
theorem dX10_rootOf_13 : decode cX10_rootOf 13 = .ok (.iconst 2, 1) := by decide +kernel
theorem dX10_rootOf_14 : decode cX10_rootOf 14 = .ok (.idiv, 1) := by decide +kernel
theorem dX10_rootOf_15 : decode cX10_rootOf 15 = .ok (.istore_n 3, 1) := by decide +kernel
theorem dX10_rootOf_16 : decode cX10_rootOf 16 = .ok (.iload_n 3, 1) := by decide +kernel
theorem dX10_rootOf_17 : decode cX10_rootOf 17 = .ok (.ifCond .lt 97, 3) := by decide +kernel
theorem dX10_rootOf_20 : decode cX10_rootOf 20 = .ok (.iconst 0, 1) := by decide +kernel
theorem dX10_rootOf_21 : decode cX10_rootOf 21 = .ok (.istore 4, 2) := by decide +kernel
theorem dX10_rootOf_23 : decode cX10_rootOf 23 = .ok (.ldc 68, 2) := by decide +kernel
theorem dX10_rootOf_25 : decode cX10_rootOf 25 = .ok (.istore 5, 2) := by decide +kernel
theorem dX10_rootOf_27 : decode cX10_rootOf 27 = .ok (.iload 4, 2) := by decide +kernel
theorem dX10_rootOf_29 : decode cX10_rootOf 29 = .ok (.iload 5, 2) := by decide +kernel
theorem dX10_rootOf_31 : decode cX10_rootOf 31 = .ok (.if_icmp .ge 64, 3) := by decide +kernel
theorem dX10_rootOf_34 : decode cX10_rootOf 34 = .ok (.iload 4, 2) := by decide +kernel
theorem dX10_rootOf_36 : decode cX10_rootOf 36 = .ok (.iload 5, 2) := by decide +kernel
theorem dX10_rootOf_38 : decode cX10_rootOf 38 = .ok (.iload 4, 2) := by decide +kernel
theorem dX10_rootOf_40 : decode cX10_rootOf 40 = .ok (.isub, 1) := by decide +kernel
theorem dX10_rootOf_41 : decode cX10_rootOf 41 = .ok (.iconst 1, 1) := by decide +kernel
theorem dX10_rootOf_42 : decode cX10_rootOf 42 = .ok (.iadd, 1) := by decide +kernel
theorem dX10_rootOf_43 : decode cX10_rootOf 43 = .ok (.iconst 2, 1) := by decide +kernel
theorem dX10_rootOf_44 : decode cX10_rootOf 44 = .ok (.idiv, 1) := by decide +kernel
theorem dX10_rootOf_45 : decode cX10_rootOf 45 = .ok (.iadd, 1) := by decide +kernel
theorem dX10_rootOf_46 : decode cX10_rootOf 46 = .ok (.istore 6, 2) := by decide +kernel
theorem dX10_rootOf_48 : decode cX10_rootOf 48 = .ok (.aload_n 0, 1) := by decide +kernel
theorem dX10_rootOf_49 : decode cX10_rootOf 49 = .ok (.getfield 7, 3) := by decide +kernel
theorem dX10_rootOf_52 : decode cX10_rootOf 52 = .ok (.bipush 80, 2) := by decide +kernel
theorem dX10_rootOf_54 : decode cX10_rootOf 54 = .ok (.iload_n 1, 1) := by decide +kernel
theorem dX10_rootOf_55 : decode cX10_rootOf 55 = .ok (.imul, 1) := by decide +kernel
theorem dX10_rootOf_56 : decode cX10_rootOf 56 = .ok (.iload_n 3, 1) := by decide +kernel
theorem dX10_rootOf_57 : decode cX10_rootOf 57 = .ok (.iadd, 1) := by decide +kernel
theorem dX10_rootOf_58 : decode cX10_rootOf 58 = .ok (.iload 6, 2) := by decide +kernel
theorem dX10_rootOf_60 : decode cX10_rootOf 60 = .ok (.iastore, 1) := by decide +kernel
theorem dX10_rootOf_61 : decode cX10_rootOf 61 = .ok (.aload_n 0, 1) := by decide +kernel
theorem dX10_rootOf_62 : decode cX10_rootOf 62 = .ok (.bipush 15, 2) := by decide +kernel
theorem dX10_rootOf_64 : decode cX10_rootOf 64 = .ok (.iload_n 1, 1) := by decide +kernel
theorem dX10_rootOf_65 : decode cX10_rootOf 65 = .ok (.iload_n 1, 1) := by decide +kernel
theorem dX10_rootOf_66 : decode cX10_rootOf 66 = .ok (.invokevirtual 84, 3) := by decide +kernel
theorem dX10_rootOf_69 : decode cX10_rootOf 69 = .ok (.aload_n 0, 1) := by decide +kernel
theorem dX10_rootOf_70 : decode cX10_rootOf 70 = .ok (.bipush 15, 2) := by decide +kernel
theorem dX10_rootOf_72 : decode cX10_rootOf 72 = .ok (.iload_n 2, 1) := by decide +kernel
theorem dX10_rootOf_73 : decode cX10_rootOf 73 = .ok (.invokevirtual 73, 3) := by decide +kernel
theorem dX10_rootOf_76 : decode cX10_rootOf 76 = .ok (.ifCond .gt 10, 3) := by decide +kernel
theorem dX10_rootOf_79 : decode cX10_rootOf 79 = .ok (.iload 6, 2) := by decide +kernel
theorem dX10_rootOf_81 : decode cX10_rootOf 81 = .ok (.istore 4, 2) := by decide +kernel
theorem dX10_rootOf_83 : decode cX10_rootOf 83 = .ok (.goto 9, 3) := by decide +kernel
theorem dX10_rootOf_86 : decode cX10_rootOf 86 = .ok (.iload 6, 2) := by decide +kernel
theorem dX10_rootOf_88 : decode cX10_rootOf 88 = .ok (.iconst 1, 1) := by decide +kernel
theorem dX10_rootOf_89 : decode cX10_rootOf 89 = .ok (.isub, 1) := by decide +kernel
theorem dX10_rootOf_90 : decode cX10_rootOf 90 = .ok (.istore 5, 2) := by decide +kernel
theorem dX10_rootOf_92 : decode cX10_rootOf 92 = .ok (.goto (-65), 3) := by decide +kernel
theorem dX10_rootOf_95 : decode cX10_rootOf 95 = .ok (.aload_n 0, 1) := by decide +kernel
theorem dX10_rootOf_96 : decode cX10_rootOf 96 = .ok (.getfield 7, 3) := by decide +kernel
theorem dX10_rootOf_99 : decode cX10_rootOf 99 = .ok (.bipush 80, 2) := by decide +kernel
theorem dX10_rootOf_101 : decode cX10_rootOf 101 = .ok (.iload_n 1, 1) := by decide +kernel
theorem dX10_rootOf_102 : decode cX10_rootOf 102 = .ok (.imul, 1) := by decide +kernel
theorem dX10_rootOf_103 : decode cX10_rootOf 103 = .ok (.iload_n 3, 1) := by decide +kernel
theorem dX10_rootOf_104 : decode cX10_rootOf 104 = .ok (.iadd, 1) := by decide +kernel
theorem dX10_rootOf_105 : decode cX10_rootOf 105 = .ok (.iload 4, 2) := by decide +kernel
theorem dX10_rootOf_107 : decode cX10_rootOf 107 = .ok (.iastore, 1) := by decide +kernel
theorem dX10_rootOf_108 : decode cX10_rootOf 108 = .ok (.iinc 3 (-1), 3) := by decide +kernel
theorem dX10_rootOf_111 : decode cX10_rootOf 111 = .ok (.goto (-95), 3) := by decide +kernel
theorem dX10_rootOf_114 : decode cX10_rootOf 114 = .ok (.aload_n 0, 1) := by decide +kernel
theorem dX10_rootOf_115 : decode cX10_rootOf 115 = .ok (.bipush 15, 2) := by decide +kernel
theorem dX10_rootOf_117 : decode cX10_rootOf 117 = .ok (.iload_n 1, 1) := by decide +kernel
theorem dX10_rootOf_118 : decode cX10_rootOf 118 = .ok (.iload_n 1, 1) := by decide +kernel
theorem dX10_rootOf_119 : decode cX10_rootOf 119 = .ok (.invokevirtual 84, 3) := by decide +kernel
theorem dX10_rootOf_122 : decode cX10_rootOf 122 = .ok (.aload_n 0, 1) := by decide +kernel
theorem dX10_rootOf_123 : decode cX10_rootOf 123 = .ok (.bipush 15, 2) := by decide +kernel
theorem dX10_rootOf_125 : decode cX10_rootOf 125 = .ok (.iload_n 2, 1) := by decide +kernel
theorem dX10_rootOf_126 : decode cX10_rootOf 126 = .ok (.invokevirtual 73, 3) := by decide +kernel
theorem dX10_rootOf_129 : decode cX10_rootOf 129 = .ok (.ifCond .ne 7, 3) := by decide +kernel
theorem dX10_rootOf_132 : decode cX10_rootOf 132 = .ok (.iconst 1, 1) := by decide +kernel
theorem dX10_rootOf_133 : decode cX10_rootOf 133 = .ok (.goto 4, 3) := by decide +kernel
theorem dX10_rootOf_136 : decode cX10_rootOf 136 = .ok (.iconst 0, 1) := by decide +kernel
theorem dX10_rootOf_137 : decode cX10_rootOf 137 = .ok (.ireturn, 1) := by decide +kernel
theorem dX10_figuresOf_0 : decode cX10_figuresOf 0 = .ok (.aload_n 0, 1) := by decide +kernel
theorem dX10_figuresOf_1 : decode cX10_figuresOf 1 = .ok (.iload_n 1, 1) := by decide +kernel
theorem dX10_figuresOf_2 : decode cX10_figuresOf 2 = .ok (.invokevirtual 56, 3) := by decide +kernel
theorem dX10_figuresOf_5 : decode cX10_figuresOf 5 = .ok (.istore_n 2, 1) := by decide +kernel
theorem dX10_figuresOf_6 : decode cX10_figuresOf 6 = .ok (.iload_n 2, 1) := by decide +kernel
theorem dX10_figuresOf_7 : decode cX10_figuresOf 7 = .ok (.ifCond .ne 5, 3) := by decide +kernel
theorem dX10_figuresOf_10 : decode cX10_figuresOf 10 = .ok (.iconst 1, 1) := by decide +kernel
theorem dX10_figuresOf_11 : decode cX10_figuresOf 11 = .ok (.ireturn, 1) := by decide +kernel
theorem dX10_figuresOf_12 : decode cX10_figuresOf 12 = .ok (.iconst 0, 1) := by decide +kernel
theorem dX10_figuresOf_13 : decode cX10_figuresOf 13 = .ok (.istore_n 3, 1) := by decide +kernel
theorem dX10_figuresOf_14 : decode cX10_figuresOf 14 = .ok (.aload_n 0, 1) := by decide +kernel
theorem dX10_figuresOf_15 : decode cX10_figuresOf 15 = .ok (.getfield 7, 3) := by decide +kernel
theorem dX10_figuresOf_18 : decode cX10_figuresOf 18 = .ok (.bipush 80, 2) := by decide +kernel
theorem dX10_figuresOf_20 : decode cX10_figuresOf 20 = .ok (.iload_n 1, 1) := by decide +kernel
theorem dX10_figuresOf_21 : decode cX10_figuresOf 21 = .ok (.imul, 1) := by decide +kernel
theorem dX10_figuresOf_22 : decode cX10_figuresOf 22 = .ok (.iload_n 2, 1) := by decide +kernel
theorem dX10_figuresOf_23 : decode cX10_figuresOf 23 = .ok (.iadd, 1) := by decide +kernel
theorem dX10_figuresOf_24 : decode cX10_figuresOf 24 = .ok (.iconst 1, 1) := by decide +kernel
theorem dX10_figuresOf_25 : decode cX10_figuresOf 25 = .ok (.isub, 1) := by decide +kernel
theorem dX10_figuresOf_26 : decode cX10_figuresOf 26 = .ok (.iaload, 1) := by decide +kernel
theorem dX10_figuresOf_27 : decode cX10_figuresOf 27 = .ok (.istore 4, 2) := by decide +kernel
theorem dX10_figuresOf_29 : decode cX10_figuresOf 29 = .ok (.iload 4, 2) := by decide +kernel
theorem dX10_figuresOf_31 : decode cX10_figuresOf 31 = .ok (.ifCond .le 16, 3) := by decide +kernel
theorem dX10_figuresOf_34 : decode cX10_figuresOf 34 = .ok (.iinc 3 1, 3) := by decide +kernel
theorem dX10_figuresOf_37 : decode cX10_figuresOf 37 = .ok (.iload 4, 2) := by decide +kernel
theorem dX10_figuresOf_39 : decode cX10_figuresOf 39 = .ok (.bipush 10, 2) := by decide +kernel
theorem dX10_figuresOf_41 : decode cX10_figuresOf 41 = .ok (.idiv, 1) := by decide +kernel
theorem dX10_figuresOf_42 : decode cX10_figuresOf 42 = .ok (.istore 4, 2) := by decide +kernel
theorem dX10_figuresOf_44 : decode cX10_figuresOf 44 = .ok (.goto (-15), 3) := by decide +kernel
theorem dX10_figuresOf_47 : decode cX10_figuresOf 47 = .ok (.bipush 9, 2) := by decide +kernel
theorem dX10_figuresOf_49 : decode cX10_figuresOf 49 = .ok (.iload_n 2, 1) := by decide +kernel
theorem dX10_figuresOf_50 : decode cX10_figuresOf 50 = .ok (.iconst 1, 1) := by decide +kernel
theorem dX10_figuresOf_51 : decode cX10_figuresOf 51 = .ok (.isub, 1) := by decide +kernel
theorem dX10_figuresOf_52 : decode cX10_figuresOf 52 = .ok (.imul, 1) := by decide +kernel
theorem dX10_figuresOf_53 : decode cX10_figuresOf 53 = .ok (.iload_n 3, 1) := by decide +kernel
theorem dX10_figuresOf_54 : decode cX10_figuresOf 54 = .ok (.iadd, 1) := by decide +kernel
theorem dX10_figuresOf_55 : decode cX10_figuresOf 55 = .ok (.ireturn, 1) := by decide +kernel
theorem dX10_isLong_0 : decode cX10_isLong 0 = .ok (.aload_n 0, 1) := by decide +kernel
theorem dX10_isLong_1 : decode cX10_isLong 1 = .ok (.iload_n 1, 1) := by decide +kernel
theorem dX10_isLong_2 : decode cX10_isLong 2 = .ok (.invokevirtual 56, 3) := by decide +kernel
theorem dX10_isLong_5 : decode cX10_isLong 5 = .ok (.bipush 24, 2) := by decide +kernel
theorem dX10_isLong_7 : decode cX10_isLong 7 = .ok (.if_icmp .le 7, 3) := by decide +kernel
theorem dX10_isLong_10 : decode cX10_isLong 10 = .ok (.iconst 1, 1) := by decide +kernel
theorem dX10_isLong_11 : decode cX10_isLong 11 = .ok (.goto 4, 3) := by decide +kernel
theorem dX10_isLong_14 : decode cX10_isLong 14 = .ok (.iconst 0, 1) := by decide +kernel
theorem dX10_isLong_15 : decode cX10_isLong 15 = .ok (.ireturn, 1) := by decide +kernel
theorem dX10_come_0 : decode cX10_come 0 = .ok (.aload_n 0, 1) := by decide +kernel
theorem dX10_come_1 : decode cX10_come 1 = .ok (.iload_n 2, 1) := by decide +kernel
theorem dX10_come_2 : decode cX10_come 2 = .ok (.invokevirtual 87, 3) := by decide +kernel
theorem dX10_come_5 : decode cX10_come 5 = .ok (.ifCond .eq 6, 3) := by decide +kernel
theorem dX10_come_8 : decode cX10_come 8 = .ok (.bipush (-3), 2) := by decide +kernel
theorem dX10_come_10 : decode cX10_come 10 = .ok (.ireturn, 1) := by decide +kernel
theorem dX10_come_11 : decode cX10_come 11 = .ok (.aload_n 0, 1) := by decide +kernel
theorem dX10_come_12 : decode cX10_come 12 = .ok (.iload_n 1, 1) := by decide +kernel
theorem dX10_come_13 : decode cX10_come 13 = .ok (.iload_n 2, 1) := by decide +kernel
theorem dX10_come_14 : decode cX10_come 14 = .ok (.invokevirtual 81, 3) := by decide +kernel
theorem dX10_come_17 : decode cX10_come 17 = .ok (.aload_n 0, 1) := by decide +kernel
theorem dX10_come_18 : decode cX10_come 18 = .ok (.getfield 13, 3) := by decide +kernel
theorem dX10_come_21 : decode cX10_come 21 = .ok (.iload_n 1, 1) := by decide +kernel
theorem dX10_come_22 : decode cX10_come 22 = .ok (.iconst 1, 1) := by decide +kernel
theorem dX10_come_23 : decode cX10_come 23 = .ok (.iastore, 1) := by decide +kernel
theorem dX10_come_24 : decode cX10_come 24 = .ok (.aload_n 0, 1) := by decide +kernel
theorem dX10_come_25 : decode cX10_come 25 = .ok (.iload_n 1, 1) := by decide +kernel
theorem dX10_come_26 : decode cX10_come 26 = .ok (.invokevirtual 91, 3) := by decide +kernel
theorem dX10_come_29 : decode cX10_come 29 = .ok (.ireturn, 1) := by decide +kernel
theorem dX10_lacks_0 : decode cX10_lacks 0 = .ok (.aload_n 0, 1) := by decide +kernel
theorem dX10_lacks_1 : decode cX10_lacks 1 = .ok (.getfield 13, 3) := by decide +kernel
theorem dX10_lacks_4 : decode cX10_lacks 4 = .ok (.iload_n 1, 1) := by decide +kernel
theorem dX10_lacks_5 : decode cX10_lacks 5 = .ok (.iaload, 1) := by decide +kernel
theorem dX10_lacks_6 : decode cX10_lacks 6 = .ok (.ifCond .ne 8, 3) := by decide +kernel
theorem dX10_lacks_9 : decode cX10_lacks 9 = .ok (.bipush (-11), 2) := by decide +kernel
theorem dX10_lacks_11 : decode cX10_lacks 11 = .ok (.goto 28, 3) := by decide +kernel
theorem dX10_lacks_14 : decode cX10_lacks 14 = .ok (.aload_n 0, 1) := by decide +kernel
theorem dX10_lacks_15 : decode cX10_lacks 15 = .ok (.getfield 13, 3) := by decide +kernel
theorem dX10_lacks_18 : decode cX10_lacks 18 = .ok (.iload_n 1, 1) := by decide +kernel
theorem dX10_lacks_19 : decode cX10_lacks 19 = .ok (.iaload, 1) := by decide +kernel
theorem dX10_lacks_20 : decode cX10_lacks 20 = .ok (.iconst 1, 1) := by decide +kernel
theorem dX10_lacks_21 : decode cX10_lacks 21 = .ok (.if_icmp .le 7, 3) := by decide +kernel
theorem dX10_lacks_24 : decode cX10_lacks 24 = .ok (.iconst 1, 1) := by decide +kernel
theorem dX10_lacks_25 : decode cX10_lacks 25 = .ok (.goto 4, 3) := by decide +kernel
theorem dX10_lacks_28 : decode cX10_lacks 28 = .ok (.iconst 0, 1) := by decide +kernel
theorem dX10_lacks_29 : decode cX10_lacks 29 = .ok (.iload_n 2, 1) := by decide +kernel
theorem dX10_lacks_30 : decode cX10_lacks 30 = .ok (.if_icmp .ne 7, 3) := by decide +kernel
theorem dX10_lacks_33 : decode cX10_lacks 33 = .ok (.iconst 0, 1) := by decide +kernel
theorem dX10_lacks_34 : decode cX10_lacks 34 = .ok (.goto 5, 3) := by decide +kernel
theorem dX10_lacks_37 : decode cX10_lacks 37 = .ok (.bipush (-12), 2) := by decide +kernel
theorem dX10_lacks_39 : decode cX10_lacks 39 = .ok (.ireturn, 1) := by decide +kernel
theorem dX10_put_0 : decode cX10_put 0 = .ok (.iload_n 1, 1) := by decide +kernel
theorem dX10_put_1 : decode cX10_put 1 = .ok (.invokestatic 94, 3) := by decide +kernel
theorem dX10_put_4 : decode cX10_put 4 = .ok (.ifCond .eq 9, 3) := by decide +kernel
theorem dX10_put_7 : decode cX10_put 7 = .ok (.lload_n 2, 1) := by decide +kernel
theorem dX10_put_8 : decode cX10_put 8 = .ok (.lconst 0, 1) := by decide +kernel
theorem dX10_put_9 : decode cX10_put 9 = .ok (.lcmp, 1) := by decide +kernel
theorem dX10_put_10 : decode cX10_put 10 = .ok (.ifCond .ge 5, 3) := by decide +kernel
theorem dX10_put_13 : decode cX10_put 13 = .ok (.iconst (-1), 1) := by decide +kernel
theorem dX10_put_14 : decode cX10_put 14 = .ok (.ireturn, 1) := by decide +kernel
theorem dX10_put_15 : decode cX10_put 15 = .ok (.aload_n 0, 1) := by decide +kernel
theorem dX10_put_16 : decode cX10_put 16 = .ok (.iload_n 1, 1) := by decide +kernel
theorem dX10_put_17 : decode cX10_put 17 = .ok (.lload_n 2, 1) := by decide +kernel
theorem dX10_put_18 : decode cX10_put 18 = .ok (.invokevirtual 60, 3) := by decide +kernel
theorem dX10_put_21 : decode cX10_put 21 = .ok (.aload_n 0, 1) := by decide +kernel
theorem dX10_put_22 : decode cX10_put 22 = .ok (.getfield 13, 3) := by decide +kernel
theorem dX10_put_25 : decode cX10_put 25 = .ok (.iload_n 1, 1) := by decide +kernel
theorem dX10_put_26 : decode cX10_put 26 = .ok (.iconst 1, 1) := by decide +kernel
theorem dX10_put_27 : decode cX10_put 27 = .ok (.iastore, 1) := by decide +kernel
theorem dX10_put_28 : decode cX10_put 28 = .ok (.aload_n 0, 1) := by decide +kernel
theorem dX10_put_29 : decode cX10_put 29 = .ok (.iload_n 1, 1) := by decide +kernel
theorem dX10_put_30 : decode cX10_put 30 = .ok (.invokevirtual 91, 3) := by decide +kernel
theorem dX10_put_33 : decode cX10_put 33 = .ok (.ireturn, 1) := by decide +kernel
theorem dX10_shape_0 : decode cX10_shape 0 = .ok (.iload_n 1, 1) := by decide +kernel
theorem dX10_shape_1 : decode cX10_shape 1 = .ok (.invokestatic 94, 3) := by decide +kernel
theorem dX10_shape_4 : decode cX10_shape 4 = .ok (.ifCond .eq 41, 3) := by decide +kernel
theorem dX10_shape_7 : decode cX10_shape 7 = .ok (.iload_n 2, 1) := by decide +kernel
theorem dX10_shape_8 : decode cX10_shape 8 = .ok (.i2l, 1) := by decide +kernel
theorem dX10_shape_9 : decode cX10_shape 9 = .ok (.lconst 0, 1) := by decide +kernel
theorem dX10_shape_10 : decode cX10_shape 10 = .ok (.ldc2_w 97, 3) := by decide +kernel
theorem dX10_shape_13 : decode cX10_shape 13 = .ok (.invokestatic 49, 3) := by decide +kernel
theorem dX10_shape_16 : decode cX10_shape 16 = .ok (.ifCond .eq 29, 3) := by decide +kernel
theorem dX10_shape_19 : decode cX10_shape 19 = .ok (.iload_n 2, 1) := by decide +kernel
theorem dX10_shape_20 : decode cX10_shape 20 = .ok (.iconst 3, 1) := by decide +kernel
theorem dX10_shape_21 : decode cX10_shape 21 = .ok (.if_icmp .ge 10, 3) := by decide +kernel
theorem dX10_shape_24 : decode cX10_shape 24 = .ok (.iload_n 3, 1) := by decide +kernel
theorem dX10_shape_25 : decode cX10_shape 25 = .ok (.ifCond .eq 22, 3) := by decide +kernel
theorem dX10_shape_28 : decode cX10_shape 28 = .ok (.goto 17, 3) := by decide +kernel
theorem dX10_shape_31 : decode cX10_shape 31 = .ok (.iload_n 3, 1) := by decide +kernel
theorem dX10_shape_32 : decode cX10_shape 32 = .ok (.i2l, 1) := by decide +kernel
theorem dX10_shape_33 : decode cX10_shape 33 = .ok (.ldc2_w 99, 3) := by decide +kernel
theorem dX10_shape_36 : decode cX10_shape 36 = .ok (.ldc2_w 101, 3) := by decide +kernel
theorem dX10_shape_39 : decode cX10_shape 39 = .ok (.invokestatic 49, 3) := by decide +kernel
theorem dX10_shape_42 : decode cX10_shape 42 = .ok (.ifCond .ne 5, 3) := by decide +kernel
theorem dX10_shape_45 : decode cX10_shape 45 = .ok (.iconst (-1), 1) := by decide +kernel
theorem dX10_shape_46 : decode cX10_shape 46 = .ok (.ireturn, 1) := by decide +kernel
theorem dX10_shape_47 : decode cX10_shape 47 = .ok (.aload_n 0, 1) := by decide +kernel
theorem dX10_shape_48 : decode cX10_shape 48 = .ok (.getfield 13, 3) := by decide +kernel
theorem dX10_shape_51 : decode cX10_shape 51 = .ok (.iload_n 1, 1) := by decide +kernel
theorem dX10_shape_52 : decode cX10_shape 52 = .ok (.iconst 2, 1) := by decide +kernel
theorem dX10_shape_53 : decode cX10_shape 53 = .ok (.iload_n 2, 1) := by decide +kernel
theorem dX10_shape_54 : decode cX10_shape 54 = .ok (.iadd, 1) := by decide +kernel
theorem dX10_shape_55 : decode cX10_shape 55 = .ok (.iastore, 1) := by decide +kernel
theorem dX10_shape_56 : decode cX10_shape 56 = .ok (.aload_n 0, 1) := by decide +kernel
theorem dX10_shape_57 : decode cX10_shape 57 = .ok (.getfield 16, 3) := by decide +kernel
theorem dX10_shape_60 : decode cX10_shape 60 = .ok (.iload_n 1, 1) := by decide +kernel
theorem dX10_shape_61 : decode cX10_shape 61 = .ok (.iload_n 3, 1) := by decide +kernel
theorem dX10_shape_62 : decode cX10_shape 62 = .ok (.iastore, 1) := by decide +kernel
theorem dX10_shape_63 : decode cX10_shape 63 = .ok (.iconst 1, 1) := by decide +kernel
theorem dX10_shape_64 : decode cX10_shape 64 = .ok (.ireturn, 1) := by decide +kernel
theorem dX10_empty_0 : decode cX10_empty 0 = .ok (.iload_n 1, 1) := by decide +kernel
theorem dX10_empty_1 : decode cX10_empty 1 = .ok (.invokestatic 94, 3) := by decide +kernel
theorem dX10_empty_4 : decode cX10_empty 4 = .ok (.ifCond .ne 5, 3) := by decide +kernel
theorem dX10_empty_7 : decode cX10_empty 7 = .ok (.iconst (-1), 1) := by decide +kernel
theorem dX10_empty_8 : decode cX10_empty 8 = .ok (.ireturn, 1) := by decide +kernel
theorem dX10_empty_9 : decode cX10_empty 9 = .ok (.aload_n 0, 1) := by decide +kernel
theorem dX10_empty_10 : decode cX10_empty 10 = .ok (.getfield 13, 3) := by decide +kernel
theorem dX10_empty_13 : decode cX10_empty 13 = .ok (.iload_n 1, 1) := by decide +kernel
theorem dX10_empty_14 : decode cX10_empty 14 = .ok (.iaload, 1) := by decide +kernel
theorem dX10_empty_15 : decode cX10_empty 15 = .ok (.istore_n 2, 1) := by decide +kernel
theorem dX10_empty_16 : decode cX10_empty 16 = .ok (.aload_n 0, 1) := by decide +kernel
theorem dX10_empty_17 : decode cX10_empty 17 = .ok (.getfield 13, 3) := by decide +kernel
theorem dX10_empty_20 : decode cX10_empty 20 = .ok (.iload_n 1, 1) := by decide +kernel
theorem dX10_empty_21 : decode cX10_empty 21 = .ok (.iconst 0, 1) := by decide +kernel
theorem dX10_empty_22 : decode cX10_empty 22 = .ok (.iastore, 1) := by decide +kernel
theorem dX10_empty_23 : decode cX10_empty 23 = .ok (.iload_n 2, 1) := by decide +kernel
theorem dX10_empty_24 : decode cX10_empty 24 = .ok (.ireturn, 1) := by decide +kernel
theorem dX10_told_0 : decode cX10_told 0 = .ok (.iload_n 1, 1) := by decide +kernel
theorem dX10_told_1 : decode cX10_told 1 = .ok (.invokestatic 94, 3) := by decide +kernel
theorem dX10_told_4 : decode cX10_told 4 = .ok (.ifCond .eq 12, 3) := by decide +kernel
theorem dX10_told_7 : decode cX10_told 7 = .ok (.aload_n 0, 1) := by decide +kernel
theorem dX10_told_8 : decode cX10_told 8 = .ok (.getfield 13, 3) := by decide +kernel
theorem dX10_told_11 : decode cX10_told 11 = .ok (.iload_n 1, 1) := by decide +kernel
theorem dX10_told_12 : decode cX10_told 12 = .ok (.iaload, 1) := by decide +kernel
theorem dX10_told_13 : decode cX10_told 13 = .ok (.goto 4, 3) := by decide +kernel
theorem dX10_told_16 : decode cX10_told 16 = .ok (.iconst (-1), 1) := by decide +kernel
theorem dX10_told_17 : decode cX10_told 17 = .ok (.ireturn, 1) := by decide +kernel
theorem dX10_type_0 : decode cX10_type 0 = .ok (.iload_n 3, 1) := by decide +kernel
theorem dX10_type_1 : decode cX10_type 1 = .ok (.i2l, 1) := by decide +kernel
theorem dX10_type_2 : decode cX10_type 2 = .ok (.lconst 1, 1) := by decide +kernel
theorem dX10_type_3 : decode cX10_type 3 = .ok (.ldc2_w 103, 3) := by decide +kernel
theorem dX10_type_6 : decode cX10_type 6 = .ok (.invokestatic 49, 3) := by decide +kernel
theorem dX10_type_9 : decode cX10_type 9 = .ok (.ifCond .ne 5, 3) := by decide +kernel
theorem dX10_type_12 : decode cX10_type 12 = .ok (.iconst (-1), 1) := by decide +kernel
theorem dX10_type_13 : decode cX10_type 13 = .ok (.ireturn, 1) := by decide +kernel
theorem dX10_type_14 : decode cX10_type 14 = .ok (.iload_n 3, 1) := by decide +kernel
theorem dX10_type_15 : decode cX10_type 15 = .ok (.iconst 1, 1) := by decide +kernel
theorem dX10_type_16 : decode cX10_type 16 = .ok (.isub, 1) := by decide +kernel
theorem dX10_type_17 : decode cX10_type 17 = .ok (.istore 4, 2) := by decide +kernel
theorem dX10_type_19 : decode cX10_type 19 = .ok (.iload 4, 2) := by decide +kernel
theorem dX10_type_21 : decode cX10_type 21 = .ok (.ifCond .lt 34, 3) := by decide +kernel
theorem dX10_type_24 : decode cX10_type 24 = .ok (.lload_n 1, 1) := by decide +kernel
theorem dX10_type_25 : decode cX10_type 25 = .ok (.bipush 8, 2) := by decide +kernel
theorem dX10_type_27 : decode cX10_type 27 = .ok (.iload 4, 2) := by decide +kernel
theorem dX10_type_29 : decode cX10_type 29 = .ok (.imul, 1) := by decide +kernel
theorem dX10_type_30 : decode cX10_type 30 = .ok (.lshr, 1) := by decide +kernel
theorem dX10_type_31 : decode cX10_type 31 = .ok (.ldc2_w 105, 3) := by decide +kernel
theorem dX10_type_34 : decode cX10_type 34 = .ok (.land, 1) := by decide +kernel
theorem dX10_type_35 : decode cX10_type 35 = .ok (.ldc2_w 107, 3) := by decide +kernel
theorem dX10_type_38 : decode cX10_type 38 = .ok (.ldc2_w 109, 3) := by decide +kernel
theorem dX10_type_41 : decode cX10_type 41 = .ok (.invokestatic 49, 3) := by decide +kernel
theorem dX10_type_44 : decode cX10_type 44 = .ok (.ifCond .ne 5, 3) := by decide +kernel
theorem dX10_type_47 : decode cX10_type 47 = .ok (.iconst (-1), 1) := by decide +kernel
theorem dX10_type_48 : decode cX10_type 48 = .ok (.ireturn, 1) := by decide +kernel
theorem dX10_type_49 : decode cX10_type 49 = .ok (.iinc 4 (-1), 3) := by decide +kernel
theorem dX10_type_52 : decode cX10_type 52 = .ok (.goto (-33), 3) := by decide +kernel
theorem dX10_type_55 : decode cX10_type 55 = .ok (.aload_n 0, 1) := by decide +kernel
theorem dX10_type_56 : decode cX10_type 56 = .ok (.getfield 111, 3) := by decide +kernel
theorem dX10_type_59 : decode cX10_type 59 = .ok (.iload_n 3, 1) := by decide +kernel
theorem dX10_type_60 : decode cX10_type 60 = .ok (.iadd, 1) := by decide +kernel
theorem dX10_type_61 : decode cX10_type 61 = .ok (.bipush 100, 2) := by decide +kernel
theorem dX10_type_63 : decode cX10_type 63 = .ok (.if_icmp .le 6, 3) := by decide +kernel
theorem dX10_type_66 : decode cX10_type 66 = .ok (.bipush (-3), 2) := by decide +kernel
theorem dX10_type_68 : decode cX10_type 68 = .ok (.ireturn, 1) := by decide +kernel
theorem dX10_type_69 : decode cX10_type 69 = .ok (.iload_n 3, 1) := by decide +kernel
theorem dX10_type_70 : decode cX10_type 70 = .ok (.iconst 1, 1) := by decide +kernel
theorem dX10_type_71 : decode cX10_type 71 = .ok (.isub, 1) := by decide +kernel
theorem dX10_type_72 : decode cX10_type 72 = .ok (.istore 4, 2) := by decide +kernel
theorem dX10_type_74 : decode cX10_type 74 = .ok (.iload 4, 2) := by decide +kernel
theorem dX10_type_76 : decode cX10_type 76 = .ok (.ifCond .lt 40, 3) := by decide +kernel
theorem dX10_type_79 : decode cX10_type 79 = .ok (.aload_n 0, 1) := by decide +kernel
theorem dX10_type_80 : decode cX10_type 80 = .ok (.getfield 19, 3) := by decide +kernel
theorem dX10_type_83 : decode cX10_type 83 = .ok (.aload_n 0, 1) := by decide +kernel
theorem dX10_type_84 : decode cX10_type 84 = .ok (.getfield 111, 3) := by decide +kernel
theorem dX10_type_87 : decode cX10_type 87 = .ok (.lload_n 1, 1) := by decide +kernel
theorem dX10_type_88 : decode cX10_type 88 = .ok (.bipush 8, 2) := by decide +kernel
theorem dX10_type_90 : decode cX10_type 90 = .ok (.iload 4, 2) := by decide +kernel
theorem dX10_type_92 : decode cX10_type 92 = .ok (.imul, 1) := by decide +kernel
theorem dX10_type_93 : decode cX10_type 93 = .ok (.lshr, 1) := by decide +kernel
theorem dX10_type_94 : decode cX10_type 94 = .ok (.ldc2_w 105, 3) := by decide +kernel
theorem dX10_type_97 : decode cX10_type 97 = .ok (.land, 1) := by decide +kernel
theorem dX10_type_98 : decode cX10_type 98 = .ok (.l2i, 1) := by decide +kernel
theorem dX10_type_99 : decode cX10_type 99 = .ok (.iastore, 1) := by decide +kernel
theorem dX10_type_100 : decode cX10_type 100 = .ok (.aload_n 0, 1) := by decide +kernel
theorem dX10_type_101 : decode cX10_type 101 = .ok (.dup, 1) := by decide +kernel
theorem dX10_type_102 : decode cX10_type 102 = .ok (.getfield 111, 3) := by decide +kernel
theorem dX10_type_105 : decode cX10_type 105 = .ok (.iconst 1, 1) := by decide +kernel
theorem dX10_type_106 : decode cX10_type 106 = .ok (.iadd, 1) := by decide +kernel
theorem dX10_type_107 : decode cX10_type 107 = .ok (.putfield 111, 3) := by decide +kernel
theorem dX10_type_110 : decode cX10_type 110 = .ok (.iinc 4 (-1), 3) := by decide +kernel
theorem dX10_type_113 : decode cX10_type 113 = .ok (.goto (-39), 3) := by decide +kernel
theorem dX10_type_116 : decode cX10_type 116 = .ok (.aload_n 0, 1) := by decide +kernel
theorem dX10_type_117 : decode cX10_type 117 = .ok (.getfield 111, 3) := by decide +kernel
theorem dX10_type_120 : decode cX10_type 120 = .ok (.ireturn, 1) := by decide +kernel
theorem dX10_nextByte_0 : decode cX10_nextByte 0 = .ok (.aload_n 0, 1) := by decide +kernel
theorem dX10_nextByte_1 : decode cX10_nextByte 1 = .ok (.getfield 115, 3) := by decide +kernel
theorem dX10_nextByte_4 : decode cX10_nextByte 4 = .ok (.aload_n 0, 1) := by decide +kernel
theorem dX10_nextByte_5 : decode cX10_nextByte 5 = .ok (.getfield 111, 3) := by decide +kernel
theorem dX10_nextByte_8 : decode cX10_nextByte 8 = .ok (.if_icmp .ge 30, 3) := by decide +kernel
theorem dX10_nextByte_11 : decode cX10_nextByte 11 = .ok (.aload_n 0, 1) := by decide +kernel
theorem dX10_nextByte_12 : decode cX10_nextByte 12 = .ok (.getfield 19, 3) := by decide +kernel
theorem dX10_nextByte_15 : decode cX10_nextByte 15 = .ok (.aload_n 0, 1) := by decide +kernel
theorem dX10_nextByte_16 : decode cX10_nextByte 16 = .ok (.getfield 115, 3) := by decide +kernel
theorem dX10_nextByte_19 : decode cX10_nextByte 19 = .ok (.iaload, 1) := by decide +kernel
theorem dX10_nextByte_20 : decode cX10_nextByte 20 = .ok (.bipush 32, 2) := by decide +kernel
theorem dX10_nextByte_22 : decode cX10_nextByte 22 = .ok (.if_icmp .ne 16, 3) := by decide +kernel
theorem dX10_nextByte_25 : decode cX10_nextByte 25 = .ok (.aload_n 0, 1) := by decide +kernel
theorem dX10_nextByte_26 : decode cX10_nextByte 26 = .ok (.dup, 1) := by decide +kernel
theorem dX10_nextByte_27 : decode cX10_nextByte 27 = .ok (.getfield 115, 3) := by decide +kernel
theorem dX10_nextByte_30 : decode cX10_nextByte 30 = .ok (.iconst 1, 1) := by decide +kernel
theorem dX10_nextByte_31 : decode cX10_nextByte 31 = .ok (.iadd, 1) := by decide +kernel
theorem dX10_nextByte_32 : decode cX10_nextByte 32 = .ok (.putfield 115, 3) := by decide +kernel
theorem dX10_nextByte_35 : decode cX10_nextByte 35 = .ok (.goto (-35), 3) := by decide +kernel
theorem dX10_nextByte_38 : decode cX10_nextByte 38 = .ok (.aload_n 0, 1) := by decide +kernel
theorem dX10_nextByte_39 : decode cX10_nextByte 39 = .ok (.getfield 115, 3) := by decide +kernel
theorem dX10_nextByte_42 : decode cX10_nextByte 42 = .ok (.aload_n 0, 1) := by decide +kernel
theorem dX10_nextByte_43 : decode cX10_nextByte 43 = .ok (.getfield 111, 3) := by decide +kernel
theorem dX10_nextByte_46 : decode cX10_nextByte 46 = .ok (.if_icmp .ge 15, 3) := by decide +kernel
theorem dX10_nextByte_49 : decode cX10_nextByte 49 = .ok (.aload_n 0, 1) := by decide +kernel
theorem dX10_nextByte_50 : decode cX10_nextByte 50 = .ok (.getfield 19, 3) := by decide +kernel
theorem dX10_nextByte_53 : decode cX10_nextByte 53 = .ok (.aload_n 0, 1) := by decide +kernel
theorem dX10_nextByte_54 : decode cX10_nextByte 54 = .ok (.getfield 115, 3) := by decide +kernel
theorem dX10_nextByte_57 : decode cX10_nextByte 57 = .ok (.iaload, 1) := by decide +kernel
theorem dX10_nextByte_58 : decode cX10_nextByte 58 = .ok (.goto 4, 3) := by decide +kernel
theorem dX10_nextByte_61 : decode cX10_nextByte 61 = .ok (.iconst (-1), 1) := by decide +kernel
theorem dX10_nextByte_62 : decode cX10_nextByte 62 = .ok (.ireturn, 1) := by decide +kernel
theorem dX10_number_0 : decode cX10_number 0 = .ok (.iload_n 1, 1) := by decide +kernel
theorem dX10_number_1 : decode cX10_number 1 = .ok (.invokestatic 94, 3) := by decide +kernel
theorem dX10_number_4 : decode cX10_number 4 = .ok (.ifCond .ne 5, 3) := by decide +kernel
theorem dX10_number_7 : decode cX10_number 7 = .ok (.iconst (-1), 1) := by decide +kernel
theorem dX10_number_8 : decode cX10_number 8 = .ok (.ireturn, 1) := by decide +kernel
theorem dX10_number_9 : decode cX10_number 9 = .ok (.aload_n 0, 1) := by decide +kernel
theorem dX10_number_10 : decode cX10_number 10 = .ok (.iconst 0, 1) := by decide +kernel
theorem dX10_number_11 : decode cX10_number 11 = .ok (.putfield 115, 3) := by decide +kernel
theorem dX10_number_14 : decode cX10_number 14 = .ok (.aload_n 0, 1) := by decide +kernel
theorem dX10_number_15 : decode cX10_number 15 = .ok (.bipush 8, 2) := by decide +kernel
theorem dX10_number_17 : decode cX10_number 17 = .ok (.lconst 0, 1) := by decide +kernel
theorem dX10_number_18 : decode cX10_number 18 = .ok (.invokevirtual 60, 3) := by decide +kernel
theorem dX10_number_21 : decode cX10_number 21 = .ok (.iconst 0, 1) := by decide +kernel
theorem dX10_number_22 : decode cX10_number 22 = .ok (.istore_n 2, 1) := by decide +kernel
theorem dX10_number_23 : decode cX10_number 23 = .ok (.iload_n 2, 1) := by decide +kernel
theorem dX10_number_24 : decode cX10_number 24 = .ok (.bipush 80, 2) := by decide +kernel
theorem dX10_number_26 : decode cX10_number 26 = .ok (.if_icmp .ge 55, 3) := by decide +kernel
theorem dX10_number_29 : decode cX10_number 29 = .ok (.aload_n 0, 1) := by decide +kernel
theorem dX10_number_30 : decode cX10_number 30 = .ok (.invokevirtual 118, 3) := by decide +kernel
theorem dX10_number_33 : decode cX10_number 33 = .ok (.i2l, 1) := by decide +kernel
theorem dX10_number_34 : decode cX10_number 34 = .ok (.ldc2_w 122, 3) := by decide +kernel
theorem dX10_number_37 : decode cX10_number 37 = .ok (.ldc2_w 124, 3) := by decide +kernel
theorem dX10_number_40 : decode cX10_number 40 = .ok (.invokestatic 49, 3) := by decide +kernel
theorem dX10_number_43 : decode cX10_number 43 = .ok (.ifCond .eq 38, 3) := by decide +kernel
theorem dX10_number_46 : decode cX10_number 46 = .ok (.aload_n 0, 1) := by decide +kernel
theorem dX10_number_47 : decode cX10_number 47 = .ok (.bipush 8, 2) := by decide +kernel
theorem dX10_number_49 : decode cX10_number 49 = .ok (.bipush 8, 2) := by decide +kernel
theorem dX10_number_51 : decode cX10_number 51 = .ok (.ldc2_w 126, 3) := by decide +kernel
theorem dX10_number_54 : decode cX10_number 54 = .ok (.aload_n 0, 1) := by decide +kernel
theorem dX10_number_55 : decode cX10_number 55 = .ok (.invokevirtual 118, 3) := by decide +kernel
theorem dX10_number_58 : decode cX10_number 58 = .ok (.bipush 48, 2) := by decide +kernel
theorem dX10_number_60 : decode cX10_number 60 = .ok (.isub, 1) := by decide +kernel
theorem dX10_number_61 : decode cX10_number 61 = .ok (.i2l, 1) := by decide +kernel
theorem dX10_number_62 : decode cX10_number 62 = .ok (.invokevirtual 69, 3) := by decide +kernel
theorem dX10_number_65 : decode cX10_number 65 = .ok (.iinc 2 1, 3) := by decide +kernel
theorem dX10_number_68 : decode cX10_number 68 = .ok (.aload_n 0, 1) := by decide +kernel
theorem dX10_number_69 : decode cX10_number 69 = .ok (.dup, 1) := by decide +kernel
theorem dX10_number_70 : decode cX10_number 70 = .ok (.getfield 115, 3) := by decide +kernel
theorem dX10_number_73 : decode cX10_number 73 = .ok (.iconst 1, 1) := by decide +kernel
theorem dX10_number_74 : decode cX10_number 74 = .ok (.iadd, 1) := by decide +kernel
theorem dX10_number_75 : decode cX10_number 75 = .ok (.putfield 115, 3) := by decide +kernel
theorem dX10_number_78 : decode cX10_number 78 = .ok (.goto (-55), 3) := by decide +kernel
theorem dX10_number_81 : decode cX10_number 81 = .ok (.iload_n 2, 1) := by decide +kernel
theorem dX10_number_82 : decode cX10_number 82 = .ok (.ifCond .le 14, 3) := by decide +kernel
theorem dX10_number_85 : decode cX10_number 85 = .ok (.aload_n 0, 1) := by decide +kernel
theorem dX10_number_86 : decode cX10_number 86 = .ok (.invokevirtual 118, 3) := by decide +kernel
theorem dX10_number_89 : decode cX10_number 89 = .ok (.ifCond .ge 7, 3) := by decide +kernel
theorem dX10_number_92 : decode cX10_number 92 = .ok (.iconst 1, 1) := by decide +kernel
theorem dX10_number_93 : decode cX10_number 93 = .ok (.goto 4, 3) := by decide +kernel
theorem dX10_number_96 : decode cX10_number 96 = .ok (.iconst 0, 1) := by decide +kernel
theorem dX10_number_97 : decode cX10_number 97 = .ok (.istore_n 3, 1) := by decide +kernel
theorem dX10_number_98 : decode cX10_number 98 = .ok (.aload_n 0, 1) := by decide +kernel
theorem dX10_number_99 : decode cX10_number 99 = .ok (.iconst 0, 1) := by decide +kernel
theorem dX10_number_100 : decode cX10_number 100 = .ok (.putfield 111, 3) := by decide +kernel
theorem dX10_number_103 : decode cX10_number 103 = .ok (.iload_n 3, 1) := by decide +kernel
theorem dX10_number_104 : decode cX10_number 104 = .ok (.ifCond .eq 13, 3) := by decide +kernel
theorem dX10_number_107 : decode cX10_number 107 = .ok (.aload_n 0, 1) := by decide +kernel
theorem dX10_number_108 : decode cX10_number 108 = .ok (.iload_n 1, 1) := by decide +kernel
theorem dX10_number_109 : decode cX10_number 109 = .ok (.bipush 8, 2) := by decide +kernel
theorem dX10_number_111 : decode cX10_number 111 = .ok (.invokevirtual 128, 3) := by decide +kernel
theorem dX10_number_114 : decode cX10_number 114 = .ok (.goto 10, 3) := by decide +kernel
theorem dX10_number_117 : decode cX10_number 117 = .ok (.bipush (-20), 2) := by decide +kernel
theorem dX10_number_119 : decode cX10_number 119 = .ok (.aload_n 0, 1) := by decide +kernel
theorem dX10_number_120 : decode cX10_number 120 = .ok (.getfield 115, 3) := by decide +kernel
theorem dX10_number_123 : decode cX10_number 123 = .ok (.isub, 1) := by decide +kernel
theorem dX10_number_124 : decode cX10_number 124 = .ok (.ireturn, 1) := by decide +kernel
theorem dX10_readNumber_0 : decode cX10_readNumber 0 = .ok (.aload_n 0, 1) := by decide +kernel
theorem dX10_readNumber_1 : decode cX10_readNumber 1 = .ok (.invokevirtual 118, 3) := by decide +kernel
theorem dX10_readNumber_4 : decode cX10_readNumber 4 = .ok (.pop, 1) := by decide +kernel
theorem dX10_readNumber_5 : decode cX10_readNumber 5 = .ok (.aload_n 0, 1) := by decide +kernel
theorem dX10_readNumber_6 : decode cX10_readNumber 6 = .ok (.getfield 115, 3) := by decide +kernel
theorem dX10_readNumber_9 : decode cX10_readNumber 9 = .ok (.istore 6, 2) := by decide +kernel
theorem dX10_readNumber_11 : decode cX10_readNumber 11 = .ok (.aload_n 0, 1) := by decide +kernel
theorem dX10_readNumber_12 : decode cX10_readNumber 12 = .ok (.lconst 0, 1) := by decide +kernel
theorem dX10_readNumber_13 : decode cX10_readNumber 13 = .ok (.putfield 131, 3) := by decide +kernel
theorem dX10_readNumber_16 : decode cX10_readNumber 16 = .ok (.aload_n 0, 1) := by decide +kernel
theorem dX10_readNumber_17 : decode cX10_readNumber 17 = .ok (.getfield 115, 3) := by decide +kernel
theorem dX10_readNumber_20 : decode cX10_readNumber 20 = .ok (.aload_n 0, 1) := by decide +kernel
theorem dX10_readNumber_21 : decode cX10_readNumber 21 = .ok (.getfield 111, 3) := by decide +kernel
theorem dX10_readNumber_24 : decode cX10_readNumber 24 = .ok (.if_icmp .ge 94, 3) := by decide +kernel
theorem dX10_readNumber_27 : decode cX10_readNumber 27 = .ok (.aload_n 0, 1) := by decide +kernel
theorem dX10_readNumber_28 : decode cX10_readNumber 28 = .ok (.getfield 19, 3) := by decide +kernel
theorem dX10_readNumber_31 : decode cX10_readNumber 31 = .ok (.aload_n 0, 1) := by decide +kernel
theorem dX10_readNumber_32 : decode cX10_readNumber 32 = .ok (.getfield 115, 3) := by decide +kernel
theorem dX10_readNumber_35 : decode cX10_readNumber 35 = .ok (.iaload, 1) := by decide +kernel
theorem dX10_readNumber_36 : decode cX10_readNumber 36 = .ok (.i2l, 1) := by decide +kernel
theorem dX10_readNumber_37 : decode cX10_readNumber 37 = .ok (.ldc2_w 122, 3) := by decide +kernel
theorem dX10_readNumber_40 : decode cX10_readNumber 40 = .ok (.ldc2_w 124, 3) := by decide +kernel
theorem dX10_readNumber_43 : decode cX10_readNumber 43 = .ok (.invokestatic 49, 3) := by decide +kernel
theorem dX10_readNumber_46 : decode cX10_readNumber 46 = .ok (.ifCond .eq 72, 3) := by decide +kernel
theorem dX10_readNumber_49 : decode cX10_readNumber 49 = .ok (.aload_n 0, 1) := by decide +kernel
theorem dX10_readNumber_50 : decode cX10_readNumber 50 = .ok (.getfield 115, 3) := by decide +kernel
theorem dX10_readNumber_53 : decode cX10_readNumber 53 = .ok (.iload 6, 2) := by decide +kernel
theorem dX10_readNumber_55 : decode cX10_readNumber 55 = .ok (.isub, 1) := by decide +kernel
theorem dX10_readNumber_56 : decode cX10_readNumber 56 = .ok (.iload_n 1, 1) := by decide +kernel
theorem dX10_readNumber_57 : decode cX10_readNumber 57 = .ok (.if_icmp .gt 61, 3) := by decide +kernel
theorem dX10_readNumber_60 : decode cX10_readNumber 60 = .ok (.aload_n 0, 1) := by decide +kernel
theorem dX10_readNumber_61 : decode cX10_readNumber 61 = .ok (.aload_n 0, 1) := by decide +kernel
theorem dX10_readNumber_62 : decode cX10_readNumber 62 = .ok (.getfield 115, 3) := by decide +kernel
theorem dX10_readNumber_65 : decode cX10_readNumber 65 = .ok (.iload 6, 2) := by decide +kernel
theorem dX10_readNumber_67 : decode cX10_readNumber 67 = .ok (.isub, 1) := by decide +kernel
theorem dX10_readNumber_68 : decode cX10_readNumber 68 = .ok (.iload_n 1, 1) := by decide +kernel
theorem dX10_readNumber_69 : decode cX10_readNumber 69 = .ok (.if_icmp .ge 29, 3) := by decide +kernel
theorem dX10_readNumber_72 : decode cX10_readNumber 72 = .ok (.ldc2_w 126, 3) := by decide +kernel
theorem dX10_readNumber_75 : decode cX10_readNumber 75 = .ok (.aload_n 0, 1) := by decide +kernel
theorem dX10_readNumber_76 : decode cX10_readNumber 76 = .ok (.getfield 131, 3) := by decide +kernel
theorem dX10_readNumber_79 : decode cX10_readNumber 79 = .ok (.lmul, 1) := by decide +kernel
theorem dX10_readNumber_80 : decode cX10_readNumber 80 = .ok (.aload_n 0, 1) := by decide +kernel
theorem dX10_readNumber_81 : decode cX10_readNumber 81 = .ok (.getfield 19, 3) := by decide +kernel
theorem dX10_readNumber_84 : decode cX10_readNumber 84 = .ok (.aload_n 0, 1) := by decide +kernel
theorem dX10_readNumber_85 : decode cX10_readNumber 85 = .ok (.getfield 115, 3) := by decide +kernel
theorem dX10_readNumber_88 : decode cX10_readNumber 88 = .ok (.iaload, 1) := by decide +kernel
theorem dX10_readNumber_89 : decode cX10_readNumber 89 = .ok (.i2l, 1) := by decide +kernel
theorem dX10_readNumber_90 : decode cX10_readNumber 90 = .ok (.ladd, 1) := by decide +kernel
theorem dX10_readNumber_91 : decode cX10_readNumber 91 = .ok (.ldc2_w 122, 3) := by decide +kernel
theorem dX10_readNumber_94 : decode cX10_readNumber 94 = .ok (.lsub, 1) := by decide +kernel
theorem dX10_readNumber_95 : decode cX10_readNumber 95 = .ok (.goto 7, 3) := by decide +kernel
theorem dX10_readNumber_98 : decode cX10_readNumber 98 = .ok (.aload_n 0, 1) := by decide +kernel
theorem dX10_readNumber_99 : decode cX10_readNumber 99 = .ok (.getfield 131, 3) := by decide +kernel
theorem dX10_readNumber_102 : decode cX10_readNumber 102 = .ok (.putfield 131, 3) := by decide +kernel
theorem dX10_readNumber_105 : decode cX10_readNumber 105 = .ok (.aload_n 0, 1) := by decide +kernel
theorem dX10_readNumber_106 : decode cX10_readNumber 106 = .ok (.dup, 1) := by decide +kernel
theorem dX10_readNumber_107 : decode cX10_readNumber 107 = .ok (.getfield 115, 3) := by decide +kernel
theorem dX10_readNumber_110 : decode cX10_readNumber 110 = .ok (.iconst 1, 1) := by decide +kernel
theorem dX10_readNumber_111 : decode cX10_readNumber 111 = .ok (.iadd, 1) := by decide +kernel
theorem dX10_readNumber_112 : decode cX10_readNumber 112 = .ok (.putfield 115, 3) := by decide +kernel
theorem dX10_readNumber_115 : decode cX10_readNumber 115 = .ok (.goto (-99), 3) := by decide +kernel
theorem dX10_readNumber_118 : decode cX10_readNumber 118 = .ok (.aload_n 0, 1) := by decide +kernel
theorem dX10_readNumber_119 : decode cX10_readNumber 119 = .ok (.getfield 115, 3) := by decide +kernel
theorem dX10_readNumber_122 : decode cX10_readNumber 122 = .ok (.iload 6, 2) := by decide +kernel
theorem dX10_readNumber_124 : decode cX10_readNumber 124 = .ok (.if_icmp .ne 5, 3) := by decide +kernel
theorem dX10_readNumber_127 : decode cX10_readNumber 127 = .ok (.iconst 0, 1) := by decide +kernel
theorem dX10_readNumber_128 : decode cX10_readNumber 128 = .ok (.ireturn, 1) := by decide +kernel
theorem dX10_readNumber_129 : decode cX10_readNumber 129 = .ok (.aload_n 0, 1) := by decide +kernel
theorem dX10_readNumber_130 : decode cX10_readNumber 130 = .ok (.getfield 115, 3) := by decide +kernel
theorem dX10_readNumber_133 : decode cX10_readNumber 133 = .ok (.iload 6, 2) := by decide +kernel
theorem dX10_readNumber_135 : decode cX10_readNumber 135 = .ok (.isub, 1) := by decide +kernel
theorem dX10_readNumber_136 : decode cX10_readNumber 136 = .ok (.iload_n 1, 1) := by decide +kernel
theorem dX10_readNumber_137 : decode cX10_readNumber 137 = .ok (.if_icmp .gt 16, 3) := by decide +kernel
theorem dX10_readNumber_140 : decode cX10_readNumber 140 = .ok (.aload_n 0, 1) := by decide +kernel
theorem dX10_readNumber_141 : decode cX10_readNumber 141 = .ok (.getfield 131, 3) := by decide +kernel
theorem dX10_readNumber_144 : decode cX10_readNumber 144 = .ok (.lload_n 2, 1) := by decide +kernel
theorem dX10_readNumber_145 : decode cX10_readNumber 145 = .ok (.lload 4, 2) := by decide +kernel
theorem dX10_readNumber_147 : decode cX10_readNumber 147 = .ok (.invokestatic 49, 3) := by decide +kernel
theorem dX10_readNumber_150 : decode cX10_readNumber 150 = .ok (.ifCond .ne 11, 3) := by decide +kernel
theorem dX10_readNumber_153 : decode cX10_readNumber 153 = .ok (.aload_n 0, 1) := by decide +kernel
theorem dX10_readNumber_154 : decode cX10_readNumber 154 = .ok (.iload 6, 2) := by decide +kernel
theorem dX10_readNumber_156 : decode cX10_readNumber 156 = .ok (.putfield 115, 3) := by decide +kernel
theorem dX10_readNumber_159 : decode cX10_readNumber 159 = .ok (.iconst 0, 1) := by decide +kernel
theorem dX10_readNumber_160 : decode cX10_readNumber 160 = .ok (.ireturn, 1) := by decide +kernel
theorem dX10_readNumber_161 : decode cX10_readNumber 161 = .ok (.iconst 1, 1) := by decide +kernel
theorem dX10_readNumber_162 : decode cX10_readNumber 162 = .ok (.ireturn, 1) := by decide +kernel
theorem dX10_readByte_0 : decode cX10_readByte 0 = .ok (.aload_n 0, 1) := by decide +kernel
theorem dX10_readByte_1 : decode cX10_readByte 1 = .ok (.invokevirtual 118, 3) := by decide +kernel
theorem dX10_readByte_4 : decode cX10_readByte 4 = .ok (.iload_n 1, 1) := by decide +kernel
theorem dX10_readByte_5 : decode cX10_readByte 5 = .ok (.if_icmp .ne 7, 3) := by decide +kernel
theorem dX10_readByte_8 : decode cX10_readByte 8 = .ok (.iconst 1, 1) := by decide +kernel
theorem dX10_readByte_9 : decode cX10_readByte 9 = .ok (.goto 4, 3) := by decide +kernel
theorem dX10_readByte_12 : decode cX10_readByte 12 = .ok (.iconst 0, 1) := by decide +kernel
theorem dX10_readByte_13 : decode cX10_readByte 13 = .ok (.istore_n 2, 1) := by decide +kernel
theorem dX10_readByte_14 : decode cX10_readByte 14 = .ok (.aload_n 0, 1) := by decide +kernel
theorem dX10_readByte_15 : decode cX10_readByte 15 = .ok (.dup, 1) := by decide +kernel
theorem dX10_readByte_16 : decode cX10_readByte 16 = .ok (.getfield 115, 3) := by decide +kernel
theorem dX10_readByte_19 : decode cX10_readByte 19 = .ok (.iload_n 2, 1) := by decide +kernel
theorem dX10_readByte_20 : decode cX10_readByte 20 = .ok (.ifCond .eq 7, 3) := by decide +kernel
theorem dX10_readByte_23 : decode cX10_readByte 23 = .ok (.iconst 1, 1) := by decide +kernel
theorem dX10_readByte_24 : decode cX10_readByte 24 = .ok (.goto 4, 3) := by decide +kernel
theorem dX10_readByte_27 : decode cX10_readByte 27 = .ok (.iconst 0, 1) := by decide +kernel
theorem dX10_readByte_28 : decode cX10_readByte 28 = .ok (.iadd, 1) := by decide +kernel
theorem dX10_readByte_29 : decode cX10_readByte 29 = .ok (.putfield 115, 3) := by decide +kernel
theorem dX10_readByte_32 : decode cX10_readByte 32 = .ok (.iload_n 2, 1) := by decide +kernel
theorem dX10_readByte_33 : decode cX10_readByte 33 = .ok (.ireturn, 1) := by decide +kernel
theorem dX10_readClaim_0 : decode cX10_readClaim 0 = .ok (.aload_n 0, 1) := by decide +kernel
theorem dX10_readClaim_1 : decode cX10_readClaim 1 = .ok (.bipush 18, 2) := by decide +kernel
theorem dX10_readClaim_3 : decode cX10_readClaim 3 = .ok (.lconst 0, 1) := by decide +kernel
theorem dX10_readClaim_4 : decode cX10_readClaim 4 = .ok (.ldc2_w 135, 3) := by decide +kernel
theorem dX10_readClaim_7 : decode cX10_readClaim 7 = .ok (.invokevirtual 137, 3) := by decide +kernel
theorem dX10_readClaim_10 : decode cX10_readClaim 10 = .ok (.ifCond .eq 11, 3) := by decide +kernel
theorem dX10_readClaim_13 : decode cX10_readClaim 13 = .ok (.aload_n 0, 1) := by decide +kernel
theorem dX10_readClaim_14 : decode cX10_readClaim 14 = .ok (.iload_n 1, 1) := by decide +kernel
theorem dX10_readClaim_15 : decode cX10_readClaim 15 = .ok (.invokevirtual 141, 3) := by decide +kernel
theorem dX10_readClaim_18 : decode cX10_readClaim 18 = .ok (.ifCond .ne 5, 3) := by decide +kernel
theorem dX10_readClaim_21 : decode cX10_readClaim 21 = .ok (.iconst 0, 1) := by decide +kernel
theorem dX10_readClaim_22 : decode cX10_readClaim 22 = .ok (.ireturn, 1) := by decide +kernel
theorem dX10_readClaim_23 : decode cX10_readClaim 23 = .ok (.aload_n 0, 1) := by decide +kernel
theorem dX10_readClaim_24 : decode cX10_readClaim 24 = .ok (.invokevirtual 118, 3) := by decide +kernel
theorem dX10_readClaim_27 : decode cX10_readClaim 27 = .ok (.istore_n 2, 1) := by decide +kernel
theorem dX10_readClaim_28 : decode cX10_readClaim 28 = .ok (.iload_n 2, 1) := by decide +kernel
theorem dX10_readClaim_29 : decode cX10_readClaim 29 = .ok (.bipush 115, 2) := by decide +kernel
theorem dX10_readClaim_31 : decode cX10_readClaim 31 = .ok (.if_icmp .ne 7, 3) := by decide +kernel
theorem dX10_readClaim_34 : decode cX10_readClaim 34 = .ok (.iconst 0, 1) := by decide +kernel
theorem dX10_readClaim_35 : decode cX10_readClaim 35 = .ok (.goto 44, 3) := by decide +kernel
theorem dX10_readClaim_38 : decode cX10_readClaim 38 = .ok (.iload_n 2, 1) := by decide +kernel
theorem dX10_readClaim_39 : decode cX10_readClaim 39 = .ok (.bipush 116, 2) := by decide +kernel
theorem dX10_readClaim_41 : decode cX10_readClaim 41 = .ok (.if_icmp .ne 7, 3) := by decide +kernel
theorem dX10_readClaim_44 : decode cX10_readClaim 44 = .ok (.iconst 1, 1) := by decide +kernel
theorem dX10_readClaim_45 : decode cX10_readClaim 45 = .ok (.goto 34, 3) := by decide +kernel
theorem dX10_readClaim_48 : decode cX10_readClaim 48 = .ok (.iload_n 2, 1) := by decide +kernel
theorem dX10_readClaim_49 : decode cX10_readClaim 49 = .ok (.bipush 111, 2) := by decide +kernel
theorem dX10_readClaim_51 : decode cX10_readClaim 51 = .ok (.if_icmp .ne 7, 3) := by decide +kernel
theorem dX10_readClaim_54 : decode cX10_readClaim 54 = .ok (.iconst 2, 1) := by decide +kernel
theorem dX10_readClaim_55 : decode cX10_readClaim 55 = .ok (.goto 24, 3) := by decide +kernel
theorem dX10_readClaim_58 : decode cX10_readClaim 58 = .ok (.iload_n 2, 1) := by decide +kernel
theorem dX10_readClaim_59 : decode cX10_readClaim 59 = .ok (.bipush 99, 2) := by decide +kernel
theorem dX10_readClaim_61 : decode cX10_readClaim 61 = .ok (.if_icmp .ne 7, 3) := by decide +kernel
theorem dX10_readClaim_64 : decode cX10_readClaim 64 = .ok (.iconst 3, 1) := by decide +kernel
theorem dX10_readClaim_65 : decode cX10_readClaim 65 = .ok (.goto 14, 3) := by decide +kernel
theorem dX10_readClaim_68 : decode cX10_readClaim 68 = .ok (.iload_n 2, 1) := by decide +kernel
theorem dX10_readClaim_69 : decode cX10_readClaim 69 = .ok (.bipush 104, 2) := by decide +kernel
theorem dX10_readClaim_71 : decode cX10_readClaim 71 = .ok (.if_icmp .ne 7, 3) := by decide +kernel
theorem dX10_readClaim_74 : decode cX10_readClaim 74 = .ok (.iconst 4, 1) := by decide +kernel
theorem dX10_readClaim_75 : decode cX10_readClaim 75 = .ok (.goto 4, 3) := by decide +kernel
theorem dX10_readClaim_78 : decode cX10_readClaim 78 = .ok (.iconst (-1), 1) := by decide +kernel
theorem dX10_readClaim_79 : decode cX10_readClaim 79 = .ok (.istore_n 3, 1) := by decide +kernel
theorem dX10_readClaim_80 : decode cX10_readClaim 80 = .ok (.iload_n 3, 1) := by decide +kernel
theorem dX10_readClaim_81 : decode cX10_readClaim 81 = .ok (.ifCond .ge 5, 3) := by decide +kernel
theorem dX10_readClaim_84 : decode cX10_readClaim 84 = .ok (.iconst 0, 1) := by decide +kernel
theorem dX10_readClaim_85 : decode cX10_readClaim 85 = .ok (.ireturn, 1) := by decide +kernel
theorem dX10_readClaim_86 : decode cX10_readClaim 86 = .ok (.aload_n 0, 1) := by decide +kernel
theorem dX10_readClaim_87 : decode cX10_readClaim 87 = .ok (.dup, 1) := by decide +kernel
theorem dX10_readClaim_88 : decode cX10_readClaim 88 = .ok (.getfield 115, 3) := by decide +kernel
theorem dX10_readClaim_91 : decode cX10_readClaim 91 = .ok (.iconst 1, 1) := by decide +kernel
theorem dX10_readClaim_92 : decode cX10_readClaim 92 = .ok (.iadd, 1) := by decide +kernel
theorem dX10_readClaim_93 : decode cX10_readClaim 93 = .ok (.putfield 115, 3) := by decide +kernel
theorem dX10_readClaim_96 : decode cX10_readClaim 96 = .ok (.aload_n 0, 1) := by decide +kernel
theorem dX10_readClaim_97 : decode cX10_readClaim 97 = .ok (.getfield 26, 3) := by decide +kernel
theorem dX10_readClaim_100 : decode cX10_readClaim 100 = .ok (.iload_n 1, 1) := by decide +kernel
theorem dX10_readClaim_101 : decode cX10_readClaim 101 = .ok (.iload_n 3, 1) := by decide +kernel
theorem dX10_readClaim_102 : decode cX10_readClaim 102 = .ok (.iastore, 1) := by decide +kernel
theorem dX10_readClaim_103 : decode cX10_readClaim 103 = .ok (.aload_n 0, 1) := by decide +kernel
theorem dX10_readClaim_104 : decode cX10_readClaim 104 = .ok (.getfield 29, 3) := by decide +kernel
theorem dX10_readClaim_107 : decode cX10_readClaim 107 = .ok (.iload_n 1, 1) := by decide +kernel
theorem dX10_readClaim_108 : decode cX10_readClaim 108 = .ok (.iconst 0, 1) := by decide +kernel
theorem dX10_readClaim_109 : decode cX10_readClaim 109 = .ok (.iastore, 1) := by decide +kernel
theorem dX10_readClaim_110 : decode cX10_readClaim 110 = .ok (.iload_n 3, 1) := by decide +kernel
theorem dX10_readClaim_111 : decode cX10_readClaim 111 = .ok (.iconst 2, 1) := by decide +kernel
theorem dX10_readClaim_112 : decode cX10_readClaim 112 = .ok (.if_icmp .le 42, 3) := by decide +kernel
theorem dX10_readClaim_115 : decode cX10_readClaim 115 = .ok (.aload_n 0, 1) := by decide +kernel
theorem dX10_readClaim_116 : decode cX10_readClaim 116 = .ok (.bipush 18, 2) := by decide +kernel
theorem dX10_readClaim_118 : decode cX10_readClaim 118 = .ok (.ldc2_w 99, 3) := by decide +kernel
theorem dX10_readClaim_121 : decode cX10_readClaim 121 = .ok (.ldc2_w 101, 3) := by decide +kernel
theorem dX10_readClaim_124 : decode cX10_readClaim 124 = .ok (.invokevirtual 137, 3) := by decide +kernel
theorem dX10_readClaim_127 : decode cX10_readClaim 127 = .ok (.ifCond .ne 5, 3) := by decide +kernel
theorem dX10_readClaim_130 : decode cX10_readClaim 130 = .ok (.iconst 0, 1) := by decide +kernel
theorem dX10_readClaim_131 : decode cX10_readClaim 131 = .ok (.ireturn, 1) := by decide +kernel
theorem dX10_readClaim_132 : decode cX10_readClaim 132 = .ok (.aload_n 0, 1) := by decide +kernel
theorem dX10_readClaim_133 : decode cX10_readClaim 133 = .ok (.getfield 29, 3) := by decide +kernel
theorem dX10_readClaim_136 : decode cX10_readClaim 136 = .ok (.iload_n 1, 1) := by decide +kernel
theorem dX10_readClaim_137 : decode cX10_readClaim 137 = .ok (.aload_n 0, 1) := by decide +kernel
theorem dX10_readClaim_138 : decode cX10_readClaim 138 = .ok (.getfield 131, 3) := by decide +kernel
theorem dX10_readClaim_141 : decode cX10_readClaim 141 = .ok (.l2i, 1) := by decide +kernel
theorem dX10_readClaim_142 : decode cX10_readClaim 142 = .ok (.iastore, 1) := by decide +kernel
theorem dX10_readClaim_143 : decode cX10_readClaim 143 = .ok (.aload_n 0, 1) := by decide +kernel
theorem dX10_readClaim_144 : decode cX10_readClaim 144 = .ok (.bipush 58, 2) := by decide +kernel
theorem dX10_readClaim_146 : decode cX10_readClaim 146 = .ok (.invokevirtual 144, 3) := by decide +kernel
theorem dX10_readClaim_149 : decode cX10_readClaim 149 = .ok (.ifCond .ne 5, 3) := by decide +kernel
theorem dX10_readClaim_152 : decode cX10_readClaim 152 = .ok (.iconst 0, 1) := by decide +kernel
theorem dX10_readClaim_153 : decode cX10_readClaim 153 = .ok (.ireturn, 1) := by decide +kernel
theorem dX10_readClaim_154 : decode cX10_readClaim 154 = .ok (.aload_n 0, 1) := by decide +kernel
theorem dX10_readClaim_155 : decode cX10_readClaim 155 = .ok (.bipush 18, 2) := by decide +kernel
theorem dX10_readClaim_157 : decode cX10_readClaim 157 = .ok (.lconst 0, 1) := by decide +kernel
theorem dX10_readClaim_158 : decode cX10_readClaim 158 = .ok (.ldc2_w 147, 3) := by decide +kernel
theorem dX10_readClaim_161 : decode cX10_readClaim 161 = .ok (.invokevirtual 137, 3) := by decide +kernel
theorem dX10_readClaim_164 : decode cX10_readClaim 164 = .ok (.ifCond .ne 5, 3) := by decide +kernel
theorem dX10_readClaim_167 : decode cX10_readClaim 167 = .ok (.iconst 0, 1) := by decide +kernel
theorem dX10_readClaim_168 : decode cX10_readClaim 168 = .ok (.ireturn, 1) := by decide +kernel
theorem dX10_readClaim_169 : decode cX10_readClaim 169 = .ok (.aload_n 0, 1) := by decide +kernel
theorem dX10_readClaim_170 : decode cX10_readClaim 170 = .ok (.getfield 32, 3) := by decide +kernel
theorem dX10_readClaim_173 : decode cX10_readClaim 173 = .ok (.iload_n 1, 1) := by decide +kernel
theorem dX10_readClaim_174 : decode cX10_readClaim 174 = .ok (.aload_n 0, 1) := by decide +kernel
theorem dX10_readClaim_175 : decode cX10_readClaim 175 = .ok (.getfield 131, 3) := by decide +kernel
theorem dX10_readClaim_178 : decode cX10_readClaim 178 = .ok (.l2i, 1) := by decide +kernel
theorem dX10_readClaim_179 : decode cX10_readClaim 179 = .ok (.iastore, 1) := by decide +kernel
theorem dX10_readClaim_180 : decode cX10_readClaim 180 = .ok (.iconst 1, 1) := by decide +kernel
theorem dX10_readClaim_181 : decode cX10_readClaim 181 = .ok (.ireturn, 1) := by decide +kernel
theorem dX10_readClaimIs_0 : decode cX10_readClaimIs 0 = .ok (.aload_n 0, 1) := by decide +kernel
theorem dX10_readClaimIs_1 : decode cX10_readClaimIs 1 = .ok (.getfield 22, 3) := by decide +kernel
theorem dX10_readClaimIs_4 : decode cX10_readClaimIs 4 = .ok (.iload_n 1, 1) := by decide +kernel
theorem dX10_readClaimIs_5 : decode cX10_readClaimIs 5 = .ok (.aload_n 0, 1) := by decide +kernel
theorem dX10_readClaimIs_6 : decode cX10_readClaimIs 6 = .ok (.getfield 131, 3) := by decide +kernel
theorem dX10_readClaimIs_9 : decode cX10_readClaimIs 9 = .ok (.lastore, 1) := by decide +kernel
theorem dX10_readClaimIs_10 : decode cX10_readClaimIs 10 = .ok (.aload_n 0, 1) := by decide +kernel
theorem dX10_readClaimIs_11 : decode cX10_readClaimIs 11 = .ok (.bipush 61, 2) := by decide +kernel
theorem dX10_readClaimIs_13 : decode cX10_readClaimIs 13 = .ok (.invokevirtual 144, 3) := by decide +kernel
theorem dX10_readClaimIs_16 : decode cX10_readClaimIs 16 = .ok (.ireturn, 1) := by decide +kernel
theorem dX10_readClaims_0 : decode cX10_readClaims 0 = .ok (.aload_n 0, 1) := by decide +kernel
theorem dX10_readClaims_1 : decode cX10_readClaims 1 = .ok (.iconst 0, 1) := by decide +kernel
theorem dX10_readClaims_2 : decode cX10_readClaims 2 = .ok (.putfield 115, 3) := by decide +kernel
theorem dX10_readClaims_5 : decode cX10_readClaims 5 = .ok (.iconst 0, 1) := by decide +kernel
theorem dX10_readClaims_6 : decode cX10_readClaims 6 = .ok (.istore_n 1, 1) := by decide +kernel
theorem dX10_readClaims_7 : decode cX10_readClaims 7 = .ok (.iload_n 1, 1) := by decide +kernel
theorem dX10_readClaims_8 : decode cX10_readClaims 8 = .ok (.bipush 8, 2) := by decide +kernel
theorem dX10_readClaims_10 : decode cX10_readClaims 10 = .ok (.if_icmp .ge 61, 3) := by decide +kernel
theorem dX10_readClaims_13 : decode cX10_readClaims 13 = .ok (.aload_n 0, 1) := by decide +kernel
theorem dX10_readClaims_14 : decode cX10_readClaims 14 = .ok (.iload_n 1, 1) := by decide +kernel
theorem dX10_readClaims_15 : decode cX10_readClaims 15 = .ok (.invokevirtual 149, 3) := by decide +kernel
theorem dX10_readClaims_18 : decode cX10_readClaims 18 = .ok (.ifCond .ne 5, 3) := by decide +kernel
theorem dX10_readClaims_21 : decode cX10_readClaims 21 = .ok (.iconst 0, 1) := by decide +kernel
theorem dX10_readClaims_22 : decode cX10_readClaims 22 = .ok (.ireturn, 1) := by decide +kernel
theorem dX10_readClaims_23 : decode cX10_readClaims 23 = .ok (.aload_n 0, 1) := by decide +kernel
theorem dX10_readClaims_24 : decode cX10_readClaims 24 = .ok (.iload_n 1, 1) := by decide +kernel
theorem dX10_readClaims_25 : decode cX10_readClaims 25 = .ok (.iconst 1, 1) := by decide +kernel
theorem dX10_readClaims_26 : decode cX10_readClaims 26 = .ok (.iadd, 1) := by decide +kernel
theorem dX10_readClaims_27 : decode cX10_readClaims 27 = .ok (.putfield 152, 3) := by decide +kernel
theorem dX10_readClaims_30 : decode cX10_readClaims 30 = .ok (.aload_n 0, 1) := by decide +kernel
theorem dX10_readClaims_31 : decode cX10_readClaims 31 = .ok (.invokevirtual 118, 3) := by decide +kernel
theorem dX10_readClaims_34 : decode cX10_readClaims 34 = .ok (.istore_n 2, 1) := by decide +kernel
theorem dX10_readClaims_35 : decode cX10_readClaims 35 = .ok (.iload_n 2, 1) := by decide +kernel
theorem dX10_readClaims_36 : decode cX10_readClaims 36 = .ok (.ifCond .ge 5, 3) := by decide +kernel
theorem dX10_readClaims_39 : decode cX10_readClaims 39 = .ok (.iconst 1, 1) := by decide +kernel
theorem dX10_readClaims_40 : decode cX10_readClaims 40 = .ok (.ireturn, 1) := by decide +kernel
theorem dX10_readClaims_41 : decode cX10_readClaims 41 = .ok (.iload_n 2, 1) := by decide +kernel
theorem dX10_readClaims_42 : decode cX10_readClaims 42 = .ok (.bipush 44, 2) := by decide +kernel
theorem dX10_readClaims_44 : decode cX10_readClaims 44 = .ok (.if_icmp .ne 9, 3) := by decide +kernel
theorem dX10_readClaims_47 : decode cX10_readClaims 47 = .ok (.iload_n 1, 1) := by decide +kernel
theorem dX10_readClaims_48 : decode cX10_readClaims 48 = .ok (.bipush 7, 2) := by decide +kernel
theorem dX10_readClaims_50 : decode cX10_readClaims 50 = .ok (.if_icmp .ne 5, 3) := by decide +kernel
theorem dX10_readClaims_53 : decode cX10_readClaims 53 = .ok (.iconst 0, 1) := by decide +kernel
theorem dX10_readClaims_54 : decode cX10_readClaims 54 = .ok (.ireturn, 1) := by decide +kernel
theorem dX10_readClaims_55 : decode cX10_readClaims 55 = .ok (.aload_n 0, 1) := by decide +kernel
theorem dX10_readClaims_56 : decode cX10_readClaims 56 = .ok (.dup, 1) := by decide +kernel
theorem dX10_readClaims_57 : decode cX10_readClaims 57 = .ok (.getfield 115, 3) := by decide +kernel
theorem dX10_readClaims_60 : decode cX10_readClaims 60 = .ok (.iconst 1, 1) := by decide +kernel
theorem dX10_readClaims_61 : decode cX10_readClaims 61 = .ok (.iadd, 1) := by decide +kernel
theorem dX10_readClaims_62 : decode cX10_readClaims 62 = .ok (.putfield 115, 3) := by decide +kernel
theorem dX10_readClaims_65 : decode cX10_readClaims 65 = .ok (.iinc 1 1, 3) := by decide +kernel
theorem dX10_readClaims_68 : decode cX10_readClaims 68 = .ok (.goto (-61), 3) := by decide +kernel
theorem dX10_readClaims_71 : decode cX10_readClaims 71 = .ok (.iconst 0, 1) := by decide +kernel
theorem dX10_readClaims_72 : decode cX10_readClaims 72 = .ok (.ireturn, 1) := by decide +kernel
theorem dX10_claims_0 : decode cX10_claims 0 = .ok (.aload_n 0, 1) := by decide +kernel
theorem dX10_claims_1 : decode cX10_claims 1 = .ok (.invokevirtual 155, 3) := by decide +kernel
theorem dX10_claims_4 : decode cX10_claims 4 = .ok (.istore_n 1, 1) := by decide +kernel
theorem dX10_claims_5 : decode cX10_claims 5 = .ok (.iload_n 1, 1) := by decide +kernel
theorem dX10_claims_6 : decode cX10_claims 6 = .ok (.ifCond .ne 8, 3) := by decide +kernel
theorem dX10_claims_9 : decode cX10_claims 9 = .ok (.aload_n 0, 1) := by decide +kernel
theorem dX10_claims_10 : decode cX10_claims 10 = .ok (.invokevirtual 118, 3) := by decide +kernel
theorem dX10_claims_13 : decode cX10_claims 13 = .ok (.pop, 1) := by decide +kernel
theorem dX10_claims_14 : decode cX10_claims 14 = .ok (.aload_n 0, 1) := by decide +kernel
theorem dX10_claims_15 : decode cX10_claims 15 = .ok (.iconst 0, 1) := by decide +kernel
theorem dX10_claims_16 : decode cX10_claims 16 = .ok (.putfield 111, 3) := by decide +kernel
theorem dX10_claims_19 : decode cX10_claims 19 = .ok (.iload_n 1, 1) := by decide +kernel
theorem dX10_claims_20 : decode cX10_claims 20 = .ok (.ifCond .ne 11, 3) := by decide +kernel
theorem dX10_claims_23 : decode cX10_claims 23 = .ok (.bipush (-20), 2) := by decide +kernel
theorem dX10_claims_25 : decode cX10_claims 25 = .ok (.aload_n 0, 1) := by decide +kernel
theorem dX10_claims_26 : decode cX10_claims 26 = .ok (.getfield 115, 3) := by decide +kernel
theorem dX10_claims_29 : decode cX10_claims 29 = .ok (.isub, 1) := by decide +kernel
theorem dX10_claims_30 : decode cX10_claims 30 = .ok (.ireturn, 1) := by decide +kernel
theorem dX10_claims_31 : decode cX10_claims 31 = .ok (.iconst 0, 1) := by decide +kernel
theorem dX10_claims_32 : decode cX10_claims 32 = .ok (.istore_n 2, 1) := by decide +kernel
theorem dX10_claims_33 : decode cX10_claims 33 = .ok (.iload_n 2, 1) := by decide +kernel
theorem dX10_claims_34 : decode cX10_claims 34 = .ok (.aload_n 0, 1) := by decide +kernel
theorem dX10_claims_35 : decode cX10_claims 35 = .ok (.getfield 152, 3) := by decide +kernel
theorem dX10_claims_38 : decode cX10_claims 38 = .ok (.if_icmp .ge 65, 3) := by decide +kernel
theorem dX10_claims_41 : decode cX10_claims 41 = .ok (.aload_n 0, 1) := by decide +kernel
theorem dX10_claims_42 : decode cX10_claims 42 = .ok (.bipush 8, 2) := by decide +kernel
theorem dX10_claims_44 : decode cX10_claims 44 = .ok (.aload_n 0, 1) := by decide +kernel
theorem dX10_claims_45 : decode cX10_claims 45 = .ok (.getfield 32, 3) := by decide +kernel
theorem dX10_claims_48 : decode cX10_claims 48 = .ok (.iload_n 2, 1) := by decide +kernel
theorem dX10_claims_49 : decode cX10_claims 49 = .ok (.iaload, 1) := by decide +kernel
theorem dX10_claims_50 : decode cX10_claims 50 = .ok (.i2l, 1) := by decide +kernel
theorem dX10_claims_51 : decode cX10_claims 51 = .ok (.invokevirtual 60, 3) := by decide +kernel
theorem dX10_claims_54 : decode cX10_claims 54 = .ok (.aload_n 0, 1) := by decide +kernel
theorem dX10_claims_55 : decode cX10_claims 55 = .ok (.aload_n 0, 1) := by decide +kernel
theorem dX10_claims_56 : decode cX10_claims 56 = .ok (.getfield 26, 3) := by decide +kernel
theorem dX10_claims_59 : decode cX10_claims 59 = .ok (.iload_n 2, 1) := by decide +kernel
theorem dX10_claims_60 : decode cX10_claims 60 = .ok (.iaload, 1) := by decide +kernel
theorem dX10_claims_61 : decode cX10_claims 61 = .ok (.aload_n 0, 1) := by decide +kernel
theorem dX10_claims_62 : decode cX10_claims 62 = .ok (.getfield 29, 3) := by decide +kernel
theorem dX10_claims_65 : decode cX10_claims 65 = .ok (.iload_n 2, 1) := by decide +kernel
theorem dX10_claims_66 : decode cX10_claims 66 = .ok (.iaload, 1) := by decide +kernel
theorem dX10_claims_67 : decode cX10_claims 67 = .ok (.bipush 8, 2) := by decide +kernel
theorem dX10_claims_69 : decode cX10_claims 69 = .ok (.invokevirtual 159, 3) := by decide +kernel
theorem dX10_claims_72 : decode cX10_claims 72 = .ok (.aload_n 0, 1) := by decide +kernel
theorem dX10_claims_73 : decode cX10_claims 73 = .ok (.bipush 10, 2) := by decide +kernel
theorem dX10_claims_75 : decode cX10_claims 75 = .ok (.aload_n 0, 1) := by decide +kernel
theorem dX10_claims_76 : decode cX10_claims 76 = .ok (.getfield 22, 3) := by decide +kernel
theorem dX10_claims_79 : decode cX10_claims 79 = .ok (.iload_n 2, 1) := by decide +kernel
theorem dX10_claims_80 : decode cX10_claims 80 = .ok (.laload, 1) := by decide +kernel
theorem dX10_claims_81 : decode cX10_claims 81 = .ok (.invokevirtual 60, 3) := by decide +kernel
theorem dX10_claims_84 : decode cX10_claims 84 = .ok (.aload_n 0, 1) := by decide +kernel
theorem dX10_claims_85 : decode cX10_claims 85 = .ok (.bipush 9, 2) := by decide +kernel
theorem dX10_claims_87 : decode cX10_claims 87 = .ok (.bipush 10, 2) := by decide +kernel
theorem dX10_claims_89 : decode cX10_claims 89 = .ok (.invokevirtual 73, 3) := by decide +kernel
theorem dX10_claims_92 : decode cX10_claims 92 = .ok (.ifCond .eq 5, 3) := by decide +kernel
theorem dX10_claims_95 : decode cX10_claims 95 = .ok (.iload_n 2, 1) := by decide +kernel
theorem dX10_claims_96 : decode cX10_claims 96 = .ok (.ireturn, 1) := by decide +kernel
theorem dX10_claims_97 : decode cX10_claims 97 = .ok (.iinc 2 1, 3) := by decide +kernel
theorem dX10_claims_100 : decode cX10_claims 100 = .ok (.goto (-67), 3) := by decide +kernel
theorem dX10_claims_103 : decode cX10_claims 103 = .ok (.bipush (-4), 2) := by decide +kernel
theorem dX10_claims_105 : decode cX10_claims 105 = .ok (.ireturn, 1) := by decide +kernel
theorem dX10_figures_0 : decode cX10_figures 0 = .ok (.iload_n 1, 1) := by decide +kernel
theorem dX10_figures_1 : decode cX10_figures 1 = .ok (.invokestatic 94, 3) := by decide +kernel
theorem dX10_figures_4 : decode cX10_figures 4 = .ok (.ifCond .ne 5, 3) := by decide +kernel
theorem dX10_figures_7 : decode cX10_figures 7 = .ok (.iconst (-1), 1) := by decide +kernel
theorem dX10_figures_8 : decode cX10_figures 8 = .ok (.ireturn, 1) := by decide +kernel
theorem dX10_figures_9 : decode cX10_figures 9 = .ok (.aload_n 0, 1) := by decide +kernel
theorem dX10_figures_10 : decode cX10_figures 10 = .ok (.iload_n 1, 1) := by decide +kernel
theorem dX10_figures_11 : decode cX10_figures 11 = .ok (.iconst 0, 1) := by decide +kernel
theorem dX10_figures_12 : decode cX10_figures 12 = .ok (.invokevirtual 162, 3) := by decide +kernel
theorem dX10_figures_15 : decode cX10_figures 15 = .ok (.istore_n 2, 1) := by decide +kernel
theorem dX10_figures_16 : decode cX10_figures 16 = .ok (.iload_n 2, 1) := by decide +kernel
theorem dX10_figures_17 : decode cX10_figures 17 = .ok (.ifCond .ge 7, 3) := by decide +kernel
theorem dX10_figures_20 : decode cX10_figures 20 = .ok (.iload_n 2, 1) := by decide +kernel
theorem dX10_figures_21 : decode cX10_figures 21 = .ok (.goto 8, 3) := by decide +kernel
theorem dX10_figures_24 : decode cX10_figures 24 = .ok (.aload_n 0, 1) := by decide +kernel
theorem dX10_figures_25 : decode cX10_figures 25 = .ok (.iload_n 1, 1) := by decide +kernel
theorem dX10_figures_26 : decode cX10_figures 26 = .ok (.invokevirtual 91, 3) := by decide +kernel
theorem dX10_figures_29 : decode cX10_figures 29 = .ok (.ireturn, 1) := by decide +kernel
theorem dX10_nine_0 : decode cX10_nine 0 = .ok (.iload_n 1, 1) := by decide +kernel
theorem dX10_nine_1 : decode cX10_nine 1 = .ok (.invokestatic 94, 3) := by decide +kernel
theorem dX10_nine_4 : decode cX10_nine 4 = .ok (.ifCond .eq 15, 3) := by decide +kernel
theorem dX10_nine_7 : decode cX10_nine 7 = .ok (.iload_n 2, 1) := by decide +kernel
theorem dX10_nine_8 : decode cX10_nine 8 = .ok (.i2l, 1) := by decide +kernel
theorem dX10_nine_9 : decode cX10_nine 9 = .ok (.lconst 0, 1) := by decide +kernel
theorem dX10_nine_10 : decode cX10_nine 10 = .ok (.ldc2_w 166, 3) := by decide +kernel
theorem dX10_nine_13 : decode cX10_nine 13 = .ok (.invokestatic 49, 3) := by decide +kernel
theorem dX10_nine_16 : decode cX10_nine 16 = .ok (.ifCond .ne 5, 3) := by decide +kernel
theorem dX10_nine_19 : decode cX10_nine 19 = .ok (.iconst (-1), 1) := by decide +kernel
theorem dX10_nine_20 : decode cX10_nine 20 = .ok (.ireturn, 1) := by decide +kernel
theorem dX10_nine_21 : decode cX10_nine 21 = .ok (.aload_n 0, 1) := by decide +kernel
theorem dX10_nine_22 : decode cX10_nine 22 = .ok (.iload_n 1, 1) := by decide +kernel
theorem dX10_nine_23 : decode cX10_nine 23 = .ok (.iconst 0, 1) := by decide +kernel
theorem dX10_nine_24 : decode cX10_nine 24 = .ok (.invokevirtual 162, 3) := by decide +kernel
theorem dX10_nine_27 : decode cX10_nine 27 = .ok (.istore_n 3, 1) := by decide +kernel
theorem dX10_nine_28 : decode cX10_nine 28 = .ok (.iload_n 3, 1) := by decide +kernel
theorem dX10_nine_29 : decode cX10_nine 29 = .ok (.ifCond .ge 7, 3) := by decide +kernel
theorem dX10_nine_32 : decode cX10_nine 32 = .ok (.iload_n 3, 1) := by decide +kernel
theorem dX10_nine_33 : decode cX10_nine 33 = .ok (.goto 14, 3) := by decide +kernel
theorem dX10_nine_36 : decode cX10_nine 36 = .ok (.aload_n 0, 1) := by decide +kernel
theorem dX10_nine_37 : decode cX10_nine 37 = .ok (.getfield 7, 3) := by decide +kernel
theorem dX10_nine_40 : decode cX10_nine 40 = .ok (.bipush 80, 2) := by decide +kernel
theorem dX10_nine_42 : decode cX10_nine 42 = .ok (.iload_n 1, 1) := by decide +kernel
theorem dX10_nine_43 : decode cX10_nine 43 = .ok (.imul, 1) := by decide +kernel
theorem dX10_nine_44 : decode cX10_nine 44 = .ok (.iload_n 2, 1) := by decide +kernel
theorem dX10_nine_45 : decode cX10_nine 45 = .ok (.iadd, 1) := by decide +kernel
theorem dX10_nine_46 : decode cX10_nine 46 = .ok (.iaload, 1) := by decide +kernel
theorem dX10_nine_47 : decode cX10_nine 47 = .ok (.ireturn, 1) := by decide +kernel
theorem dX10_lackTwo_0 : decode cX10_lackTwo 0 = .ok (.aload_n 0, 1) := by decide +kernel
theorem dX10_lackTwo_1 : decode cX10_lackTwo 1 = .ok (.iload_n 1, 1) := by decide +kernel
theorem dX10_lackTwo_2 : decode cX10_lackTwo 2 = .ok (.iconst 0, 1) := by decide +kernel
theorem dX10_lackTwo_3 : decode cX10_lackTwo 3 = .ok (.invokevirtual 162, 3) := by decide +kernel
theorem dX10_lackTwo_6 : decode cX10_lackTwo 6 = .ok (.istore_n 3, 1) := by decide +kernel
theorem dX10_lackTwo_7 : decode cX10_lackTwo 7 = .ok (.iload_n 3, 1) := by decide +kernel
theorem dX10_lackTwo_8 : decode cX10_lackTwo 8 = .ok (.ifCond .ge 7, 3) := by decide +kernel
theorem dX10_lackTwo_11 : decode cX10_lackTwo 11 = .ok (.iload_n 3, 1) := by decide +kernel
theorem dX10_lackTwo_12 : decode cX10_lackTwo 12 = .ok (.goto 9, 3) := by decide +kernel
theorem dX10_lackTwo_15 : decode cX10_lackTwo 15 = .ok (.aload_n 0, 1) := by decide +kernel
theorem dX10_lackTwo_16 : decode cX10_lackTwo 16 = .ok (.iload_n 2, 1) := by decide +kernel
theorem dX10_lackTwo_17 : decode cX10_lackTwo 17 = .ok (.iconst 0, 1) := by decide +kernel
theorem dX10_lackTwo_18 : decode cX10_lackTwo 18 = .ok (.invokevirtual 162, 3) := by decide +kernel
theorem dX10_lackTwo_21 : decode cX10_lackTwo 21 = .ok (.ireturn, 1) := by decide +kernel
theorem dX10_reckon_0 : decode cX10_reckon 0 = .ok (.iload_n 1, 1) := by decide +kernel
theorem dX10_reckon_1 : decode cX10_reckon 1 = .ok (.i2l, 1) := by decide +kernel
theorem dX10_reckon_2 : decode cX10_reckon 2 = .ok (.lconst 0, 1) := by decide +kernel
theorem dX10_reckon_3 : decode cX10_reckon 3 = .ok (.ldc2_w 97, 3) := by decide +kernel
theorem dX10_reckon_6 : decode cX10_reckon 6 = .ok (.invokestatic 49, 3) := by decide +kernel
theorem dX10_reckon_9 : decode cX10_reckon 9 = .ok (.ifCond .eq 25, 3) := by decide +kernel
theorem dX10_reckon_12 : decode cX10_reckon 12 = .ok (.iload_n 2, 1) := by decide +kernel
theorem dX10_reckon_13 : decode cX10_reckon 13 = .ok (.invokestatic 94, 3) := by decide +kernel
theorem dX10_reckon_16 : decode cX10_reckon 16 = .ok (.ifCond .eq 18, 3) := by decide +kernel
theorem dX10_reckon_19 : decode cX10_reckon 19 = .ok (.iload_n 3, 1) := by decide +kernel
theorem dX10_reckon_20 : decode cX10_reckon 20 = .ok (.invokestatic 94, 3) := by decide +kernel
theorem dX10_reckon_23 : decode cX10_reckon 23 = .ok (.ifCond .eq 11, 3) := by decide +kernel
theorem dX10_reckon_26 : decode cX10_reckon 26 = .ok (.iload 4, 2) := by decide +kernel
theorem dX10_reckon_28 : decode cX10_reckon 28 = .ok (.invokestatic 94, 3) := by decide +kernel
theorem dX10_reckon_31 : decode cX10_reckon 31 = .ok (.ifCond .ne 5, 3) := by decide +kernel
theorem dX10_reckon_34 : decode cX10_reckon 34 = .ok (.iconst (-1), 1) := by decide +kernel
theorem dX10_reckon_35 : decode cX10_reckon 35 = .ok (.ireturn, 1) := by decide +kernel
theorem dX10_reckon_36 : decode cX10_reckon 36 = .ok (.aload_n 0, 1) := by decide +kernel
theorem dX10_reckon_37 : decode cX10_reckon 37 = .ok (.iload_n 2, 1) := by decide +kernel
theorem dX10_reckon_38 : decode cX10_reckon 38 = .ok (.iload_n 3, 1) := by decide +kernel
theorem dX10_reckon_39 : decode cX10_reckon 39 = .ok (.invokevirtual 168, 3) := by decide +kernel
theorem dX10_reckon_42 : decode cX10_reckon 42 = .ok (.istore 5, 2) := by decide +kernel
theorem dX10_reckon_44 : decode cX10_reckon 44 = .ok (.iload 5, 2) := by decide +kernel
theorem dX10_reckon_46 : decode cX10_reckon 46 = .ok (.ifCond .ge 6, 3) := by decide +kernel
theorem dX10_reckon_49 : decode cX10_reckon 49 = .ok (.iload 5, 2) := by decide +kernel
theorem dX10_reckon_51 : decode cX10_reckon 51 = .ok (.ireturn, 1) := by decide +kernel
theorem dX10_reckon_52 : decode cX10_reckon 52 = .ok (.iload_n 1, 1) := by decide +kernel
theorem dX10_reckon_53 : decode cX10_reckon 53 = .ok (.iconst 1, 1) := by decide +kernel
theorem dX10_reckon_54 : decode cX10_reckon 54 = .ok (.if_icmp .ne 15, 3) := by decide +kernel
theorem dX10_reckon_57 : decode cX10_reckon 57 = .ok (.aload_n 0, 1) := by decide +kernel
theorem dX10_reckon_58 : decode cX10_reckon 58 = .ok (.iload_n 2, 1) := by decide +kernel
theorem dX10_reckon_59 : decode cX10_reckon 59 = .ok (.iload_n 3, 1) := by decide +kernel
theorem dX10_reckon_60 : decode cX10_reckon 60 = .ok (.invokevirtual 73, 3) := by decide +kernel
theorem dX10_reckon_63 : decode cX10_reckon 63 = .ok (.ifCond .ge 6, 3) := by decide +kernel
theorem dX10_reckon_66 : decode cX10_reckon 66 = .ok (.bipush (-2), 2) := by decide +kernel
theorem dX10_reckon_68 : decode cX10_reckon 68 = .ok (.ireturn, 1) := by decide +kernel
theorem dX10_reckon_69 : decode cX10_reckon 69 = .ok (.iload_n 1, 1) := by decide +kernel
theorem dX10_reckon_70 : decode cX10_reckon 70 = .ok (.iconst 2, 1) := by decide +kernel
theorem dX10_reckon_71 : decode cX10_reckon 71 = .ok (.if_icmp .le 14, 3) := by decide +kernel
theorem dX10_reckon_74 : decode cX10_reckon 74 = .ok (.aload_n 0, 1) := by decide +kernel
theorem dX10_reckon_75 : decode cX10_reckon 75 = .ok (.iload_n 3, 1) := by decide +kernel
theorem dX10_reckon_76 : decode cX10_reckon 76 = .ok (.invokevirtual 56, 3) := by decide +kernel
theorem dX10_reckon_79 : decode cX10_reckon 79 = .ok (.ifCond .ne 6, 3) := by decide +kernel
theorem dX10_reckon_82 : decode cX10_reckon 82 = .ok (.bipush (-15), 2) := by decide +kernel
theorem dX10_reckon_84 : decode cX10_reckon 84 = .ok (.ireturn, 1) := by decide +kernel
theorem dX10_reckon_85 : decode cX10_reckon 85 = .ok (.iload_n 1, 1) := by decide +kernel
theorem dX10_reckon_86 : decode cX10_reckon 86 = .ok (.ifCond .ne 14, 3) := by decide +kernel
theorem dX10_reckon_89 : decode cX10_reckon 89 = .ok (.aload_n 0, 1) := by decide +kernel
theorem dX10_reckon_90 : decode cX10_reckon 90 = .ok (.bipush 8, 2) := by decide +kernel
theorem dX10_reckon_92 : decode cX10_reckon 92 = .ok (.iload_n 2, 1) := by decide +kernel
theorem dX10_reckon_93 : decode cX10_reckon 93 = .ok (.iload_n 3, 1) := by decide +kernel
theorem dX10_reckon_94 : decode cX10_reckon 94 = .ok (.invokevirtual 171, 3) := by decide +kernel
theorem dX10_reckon_97 : decode cX10_reckon 97 = .ok (.goto 56, 3) := by decide +kernel
theorem dX10_reckon_100 : decode cX10_reckon 100 = .ok (.iload_n 1, 1) := by decide +kernel
theorem dX10_reckon_101 : decode cX10_reckon 101 = .ok (.iconst 1, 1) := by decide +kernel
theorem dX10_reckon_102 : decode cX10_reckon 102 = .ok (.if_icmp .ne 14, 3) := by decide +kernel
theorem dX10_reckon_105 : decode cX10_reckon 105 = .ok (.aload_n 0, 1) := by decide +kernel
theorem dX10_reckon_106 : decode cX10_reckon 106 = .ok (.bipush 8, 2) := by decide +kernel
theorem dX10_reckon_108 : decode cX10_reckon 108 = .ok (.iload_n 2, 1) := by decide +kernel
theorem dX10_reckon_109 : decode cX10_reckon 109 = .ok (.iload_n 3, 1) := by decide +kernel
theorem dX10_reckon_110 : decode cX10_reckon 110 = .ok (.invokevirtual 77, 3) := by decide +kernel
theorem dX10_reckon_113 : decode cX10_reckon 113 = .ok (.goto 40, 3) := by decide +kernel
theorem dX10_reckon_116 : decode cX10_reckon 116 = .ok (.iload_n 1, 1) := by decide +kernel
theorem dX10_reckon_117 : decode cX10_reckon 117 = .ok (.iconst 2, 1) := by decide +kernel
theorem dX10_reckon_118 : decode cX10_reckon 118 = .ok (.if_icmp .ne 14, 3) := by decide +kernel
theorem dX10_reckon_121 : decode cX10_reckon 121 = .ok (.aload_n 0, 1) := by decide +kernel
theorem dX10_reckon_122 : decode cX10_reckon 122 = .ok (.bipush 8, 2) := by decide +kernel
theorem dX10_reckon_124 : decode cX10_reckon 124 = .ok (.iload_n 2, 1) := by decide +kernel
theorem dX10_reckon_125 : decode cX10_reckon 125 = .ok (.iload_n 3, 1) := by decide +kernel
theorem dX10_reckon_126 : decode cX10_reckon 126 = .ok (.invokevirtual 84, 3) := by decide +kernel
theorem dX10_reckon_129 : decode cX10_reckon 129 = .ok (.goto 24, 3) := by decide +kernel
theorem dX10_reckon_132 : decode cX10_reckon 132 = .ok (.aload_n 0, 1) := by decide +kernel
theorem dX10_reckon_133 : decode cX10_reckon 133 = .ok (.bipush 8, 2) := by decide +kernel
theorem dX10_reckon_135 : decode cX10_reckon 135 = .ok (.iload_n 2, 1) := by decide +kernel
theorem dX10_reckon_136 : decode cX10_reckon 136 = .ok (.iload_n 3, 1) := by decide +kernel
theorem dX10_reckon_137 : decode cX10_reckon 137 = .ok (.invokevirtual 174, 3) := by decide +kernel
theorem dX10_reckon_140 : decode cX10_reckon 140 = .ok (.iload_n 1, 1) := by decide +kernel
theorem dX10_reckon_141 : decode cX10_reckon 141 = .ok (.iconst 4, 1) := by decide +kernel
theorem dX10_reckon_142 : decode cX10_reckon 142 = .ok (.if_icmp .ne 11, 3) := by decide +kernel
theorem dX10_reckon_145 : decode cX10_reckon 145 = .ok (.aload_n 0, 1) := by decide +kernel
theorem dX10_reckon_146 : decode cX10_reckon 146 = .ok (.bipush 8, 2) := by decide +kernel
theorem dX10_reckon_148 : decode cX10_reckon 148 = .ok (.bipush 14, 2) := by decide +kernel
theorem dX10_reckon_150 : decode cX10_reckon 150 = .ok (.invokevirtual 81, 3) := by decide +kernel
theorem dX10_reckon_153 : decode cX10_reckon 153 = .ok (.aload_n 0, 1) := by decide +kernel
theorem dX10_reckon_154 : decode cX10_reckon 154 = .ok (.iload 4, 2) := by decide +kernel
theorem dX10_reckon_156 : decode cX10_reckon 156 = .ok (.bipush 8, 2) := by decide +kernel
theorem dX10_reckon_158 : decode cX10_reckon 158 = .ok (.invokevirtual 128, 3) := by decide +kernel
theorem dX10_reckon_161 : decode cX10_reckon 161 = .ok (.ireturn, 1) := by decide +kernel
theorem dX10_root_0 : decode cX10_root 0 = .ok (.iload_n 1, 1) := by decide +kernel
theorem dX10_root_1 : decode cX10_root 1 = .ok (.invokestatic 94, 3) := by decide +kernel
theorem dX10_root_4 : decode cX10_root 4 = .ok (.ifCond .eq 10, 3) := by decide +kernel
theorem dX10_root_7 : decode cX10_root 7 = .ok (.iload_n 2, 1) := by decide +kernel
theorem dX10_root_8 : decode cX10_root 8 = .ok (.invokestatic 94, 3) := by decide +kernel
theorem dX10_root_11 : decode cX10_root 11 = .ok (.ifCond .ne 5, 3) := by decide +kernel
theorem dX10_root_14 : decode cX10_root 14 = .ok (.iconst (-1), 1) := by decide +kernel
theorem dX10_root_15 : decode cX10_root 15 = .ok (.ireturn, 1) := by decide +kernel
theorem dX10_root_16 : decode cX10_root 16 = .ok (.aload_n 0, 1) := by decide +kernel
theorem dX10_root_17 : decode cX10_root 17 = .ok (.iload_n 1, 1) := by decide +kernel
theorem dX10_root_18 : decode cX10_root 18 = .ok (.iconst 0, 1) := by decide +kernel
theorem dX10_root_19 : decode cX10_root 19 = .ok (.invokevirtual 162, 3) := by decide +kernel
theorem dX10_root_22 : decode cX10_root 22 = .ok (.istore_n 3, 1) := by decide +kernel
theorem dX10_root_23 : decode cX10_root 23 = .ok (.iload_n 3, 1) := by decide +kernel
theorem dX10_root_24 : decode cX10_root 24 = .ok (.ifCond .ge 5, 3) := by decide +kernel
theorem dX10_root_27 : decode cX10_root 27 = .ok (.iload_n 3, 1) := by decide +kernel
theorem dX10_root_28 : decode cX10_root 28 = .ok (.ireturn, 1) := by decide +kernel
theorem dX10_root_29 : decode cX10_root 29 = .ok (.aload_n 0, 1) := by decide +kernel
theorem dX10_root_30 : decode cX10_root 30 = .ok (.bipush 8, 2) := by decide +kernel
theorem dX10_root_32 : decode cX10_root 32 = .ok (.iload_n 1, 1) := by decide +kernel
theorem dX10_root_33 : decode cX10_root 33 = .ok (.invokevirtual 177, 3) := by decide +kernel
theorem dX10_root_36 : decode cX10_root 36 = .ok (.istore 4, 2) := by decide +kernel
theorem dX10_root_38 : decode cX10_root 38 = .ok (.aload_n 0, 1) := by decide +kernel
theorem dX10_root_39 : decode cX10_root 39 = .ok (.iload_n 2, 1) := by decide +kernel
theorem dX10_root_40 : decode cX10_root 40 = .ok (.bipush 8, 2) := by decide +kernel
theorem dX10_root_42 : decode cX10_root 42 = .ok (.invokevirtual 128, 3) := by decide +kernel
theorem dX10_root_45 : decode cX10_root 45 = .ok (.pop, 1) := by decide +kernel
theorem dX10_root_46 : decode cX10_root 46 = .ok (.iload 4, 2) := by decide +kernel
theorem dX10_root_48 : decode cX10_root 48 = .ok (.ifCond .eq 7, 3) := by decide +kernel
theorem dX10_root_51 : decode cX10_root 51 = .ok (.iconst 1, 1) := by decide +kernel
theorem dX10_root_52 : decode cX10_root 52 = .ok (.goto 4, 3) := by decide +kernel
theorem dX10_root_55 : decode cX10_root 55 = .ok (.iconst 0, 1) := by decide +kernel
theorem dX10_root_56 : decode cX10_root 56 = .ok (.ireturn, 1) := by decide +kernel
theorem dX10_order_0 : decode cX10_order 0 = .ok (.iload_n 1, 1) := by decide +kernel
theorem dX10_order_1 : decode cX10_order 1 = .ok (.invokestatic 94, 3) := by decide +kernel
theorem dX10_order_4 : decode cX10_order 4 = .ok (.ifCond .eq 10, 3) := by decide +kernel
theorem dX10_order_7 : decode cX10_order 7 = .ok (.iload_n 2, 1) := by decide +kernel
theorem dX10_order_8 : decode cX10_order 8 = .ok (.invokestatic 94, 3) := by decide +kernel
theorem dX10_order_11 : decode cX10_order 11 = .ok (.ifCond .ne 5, 3) := by decide +kernel
theorem dX10_order_14 : decode cX10_order 14 = .ok (.iconst (-1), 1) := by decide +kernel
theorem dX10_order_15 : decode cX10_order 15 = .ok (.ireturn, 1) := by decide +kernel
theorem dX10_order_16 : decode cX10_order 16 = .ok (.aload_n 0, 1) := by decide +kernel
theorem dX10_order_17 : decode cX10_order 17 = .ok (.iload_n 1, 1) := by decide +kernel
theorem dX10_order_18 : decode cX10_order 18 = .ok (.iload_n 2, 1) := by decide +kernel
theorem dX10_order_19 : decode cX10_order 19 = .ok (.invokevirtual 168, 3) := by decide +kernel
theorem dX10_order_22 : decode cX10_order 22 = .ok (.istore_n 3, 1) := by decide +kernel
theorem dX10_order_23 : decode cX10_order 23 = .ok (.iload_n 3, 1) := by decide +kernel
theorem dX10_order_24 : decode cX10_order 24 = .ok (.ifCond .ge 5, 3) := by decide +kernel
theorem dX10_order_27 : decode cX10_order 27 = .ok (.iload_n 3, 1) := by decide +kernel
theorem dX10_order_28 : decode cX10_order 28 = .ok (.ireturn, 1) := by decide +kernel
theorem dX10_order_29 : decode cX10_order 29 = .ok (.aload_n 0, 1) := by decide +kernel
theorem dX10_order_30 : decode cX10_order 30 = .ok (.iload_n 1, 1) := by decide +kernel
theorem dX10_order_31 : decode cX10_order 31 = .ok (.iload_n 2, 1) := by decide +kernel
theorem dX10_order_32 : decode cX10_order 32 = .ok (.invokevirtual 73, 3) := by decide +kernel
theorem dX10_order_35 : decode cX10_order 35 = .ok (.istore 4, 2) := by decide +kernel
theorem dX10_order_37 : decode cX10_order 37 = .ok (.iload 4, 2) := by decide +kernel
theorem dX10_order_39 : decode cX10_order 39 = .ok (.ifCond .ge 7, 3) := by decide +kernel
theorem dX10_order_42 : decode cX10_order 42 = .ok (.iconst 2, 1) := by decide +kernel
theorem dX10_order_43 : decode cX10_order 43 = .ok (.goto 5, 3) := by decide +kernel
theorem dX10_order_46 : decode cX10_order 46 = .ok (.iload 4, 2) := by decide +kernel
theorem dX10_order_48 : decode cX10_order 48 = .ok (.ireturn, 1) := by decide +kernel
theorem dX10_findNth_0 : decode cX10_findNth 0 = .ok (.iload_n 1, 1) := by decide +kernel
theorem dX10_findNth_1 : decode cX10_findNth 1 = .ok (.ifCond .ne 14, 3) := by decide +kernel
theorem dX10_findNth_4 : decode cX10_findNth 4 = .ok (.aload_n 0, 1) := by decide +kernel
theorem dX10_findNth_5 : decode cX10_findNth 5 = .ok (.bipush 9, 2) := by decide +kernel
theorem dX10_findNth_7 : decode cX10_findNth 7 = .ok (.iload_n 3, 1) := by decide +kernel
theorem dX10_findNth_8 : decode cX10_findNth 8 = .ok (.iload_n 3, 1) := by decide +kernel
theorem dX10_findNth_9 : decode cX10_findNth 9 = .ok (.invokevirtual 84, 3) := by decide +kernel
theorem dX10_findNth_12 : decode cX10_findNth 12 = .ok (.goto 125, 3) := by decide +kernel
theorem dX10_findNth_15 : decode cX10_findNth 15 = .ok (.iload_n 1, 1) := by decide +kernel
theorem dX10_findNth_16 : decode cX10_findNth 16 = .ok (.iconst 4, 1) := by decide +kernel
theorem dX10_findNth_17 : decode cX10_findNth 17 = .ok (.if_icmp .ne 24, 3) := by decide +kernel
theorem dX10_findNth_20 : decode cX10_findNth 20 = .ok (.aload_n 0, 1) := by decide +kernel
theorem dX10_findNth_21 : decode cX10_findNth 21 = .ok (.iload_n 2, 1) := by decide +kernel
theorem dX10_findNth_22 : decode cX10_findNth 22 = .ok (.iload_n 3, 1) := by decide +kernel
theorem dX10_findNth_23 : decode cX10_findNth 23 = .ok (.invokevirtual 181, 3) := by decide +kernel
theorem dX10_findNth_26 : decode cX10_findNth 26 = .ok (.aload_n 0, 1) := by decide +kernel
theorem dX10_findNth_27 : decode cX10_findNth 27 = .ok (.bipush 9, 2) := by decide +kernel
theorem dX10_findNth_29 : decode cX10_findNth 29 = .ok (.bipush 9, 2) := by decide +kernel
theorem dX10_findNth_31 : decode cX10_findNth 31 = .ok (.ldc2_w 184, 3) := by decide +kernel
theorem dX10_findNth_34 : decode cX10_findNth 34 = .ok (.invokevirtual 186, 3) := by decide +kernel
theorem dX10_findNth_37 : decode cX10_findNth 37 = .ok (.pop2, 1) := by decide +kernel
theorem dX10_findNth_38 : decode cX10_findNth 38 = .ok (.goto 99, 3) := by decide +kernel
theorem dX10_findNth_41 : decode cX10_findNth 41 = .ok (.iload_n 1, 1) := by decide +kernel
theorem dX10_findNth_42 : decode cX10_findNth 42 = .ok (.iconst 3, 1) := by decide +kernel
theorem dX10_findNth_43 : decode cX10_findNth 43 = .ok (.if_icmp .ne 59, 3) := by decide +kernel
theorem dX10_findNth_46 : decode cX10_findNth 46 = .ok (.aload_n 0, 1) := by decide +kernel
theorem dX10_findNth_47 : decode cX10_findNth 47 = .ok (.bipush 9, 2) := by decide +kernel
theorem dX10_findNth_49 : decode cX10_findNth 49 = .ok (.iload_n 3, 1) := by decide +kernel
theorem dX10_findNth_50 : decode cX10_findNth 50 = .ok (.iload_n 3, 1) := by decide +kernel
theorem dX10_findNth_51 : decode cX10_findNth 51 = .ok (.invokevirtual 84, 3) := by decide +kernel
theorem dX10_findNth_54 : decode cX10_findNth 54 = .ok (.aload_n 0, 1) := by decide +kernel
theorem dX10_findNth_55 : decode cX10_findNth 55 = .ok (.bipush 9, 2) := by decide +kernel
theorem dX10_findNth_57 : decode cX10_findNth 57 = .ok (.bipush 9, 2) := by decide +kernel
theorem dX10_findNth_59 : decode cX10_findNth 59 = .ok (.iload_n 3, 1) := by decide +kernel
theorem dX10_findNth_60 : decode cX10_findNth 60 = .ok (.invokevirtual 77, 3) := by decide +kernel
theorem dX10_findNth_63 : decode cX10_findNth 63 = .ok (.aload_n 0, 1) := by decide +kernel
theorem dX10_findNth_64 : decode cX10_findNth 64 = .ok (.bipush 9, 2) := by decide +kernel
theorem dX10_findNth_66 : decode cX10_findNth 66 = .ok (.bipush 9, 2) := by decide +kernel
theorem dX10_findNth_68 : decode cX10_findNth 68 = .ok (.ldc2_w 190, 3) := by decide +kernel
theorem dX10_findNth_71 : decode cX10_findNth 71 = .ok (.invokevirtual 186, 3) := by decide +kernel
theorem dX10_findNth_74 : decode cX10_findNth 74 = .ok (.pop2, 1) := by decide +kernel
theorem dX10_findNth_75 : decode cX10_findNth 75 = .ok (.aload_n 0, 1) := by decide +kernel
theorem dX10_findNth_76 : decode cX10_findNth 76 = .ok (.bipush 9, 2) := by decide +kernel
theorem dX10_findNth_78 : decode cX10_findNth 78 = .ok (.bipush 9, 2) := by decide +kernel
theorem dX10_findNth_80 : decode cX10_findNth 80 = .ok (.iload_n 2, 1) := by decide +kernel
theorem dX10_findNth_81 : decode cX10_findNth 81 = .ok (.i2l, 1) := by decide +kernel
theorem dX10_findNth_82 : decode cX10_findNth 82 = .ok (.ldc2_w 190, 3) := by decide +kernel
theorem dX10_findNth_85 : decode cX10_findNth 85 = .ok (.lsub, 1) := by decide +kernel
theorem dX10_findNth_86 : decode cX10_findNth 86 = .ok (.lconst 0, 1) := by decide +kernel
theorem dX10_findNth_87 : decode cX10_findNth 87 = .ok (.invokevirtual 69, 3) := by decide +kernel
theorem dX10_findNth_90 : decode cX10_findNth 90 = .ok (.aload_n 0, 1) := by decide +kernel
theorem dX10_findNth_91 : decode cX10_findNth 91 = .ok (.bipush 9, 2) := by decide +kernel
theorem dX10_findNth_93 : decode cX10_findNth 93 = .ok (.bipush 9, 2) := by decide +kernel
theorem dX10_findNth_95 : decode cX10_findNth 95 = .ok (.iload_n 3, 1) := by decide +kernel
theorem dX10_findNth_96 : decode cX10_findNth 96 = .ok (.invokevirtual 171, 3) := by decide +kernel
theorem dX10_findNth_99 : decode cX10_findNth 99 = .ok (.goto 38, 3) := by decide +kernel
theorem dX10_findNth_102 : decode cX10_findNth 102 = .ok (.aload_n 0, 1) := by decide +kernel
theorem dX10_findNth_103 : decode cX10_findNth 103 = .ok (.bipush 10, 2) := by decide +kernel
theorem dX10_findNth_105 : decode cX10_findNth 105 = .ok (.iload_n 3, 1) := by decide +kernel
theorem dX10_findNth_106 : decode cX10_findNth 106 = .ok (.lconst 1, 1) := by decide +kernel
theorem dX10_findNth_107 : decode cX10_findNth 107 = .ok (.lconst 1, 1) := by decide +kernel
theorem dX10_findNth_108 : decode cX10_findNth 108 = .ok (.invokevirtual 69, 3) := by decide +kernel
theorem dX10_findNth_111 : decode cX10_findNth 111 = .ok (.aload_n 0, 1) := by decide +kernel
theorem dX10_findNth_112 : decode cX10_findNth 112 = .ok (.bipush 9, 2) := by decide +kernel
theorem dX10_findNth_114 : decode cX10_findNth 114 = .ok (.iload_n 3, 1) := by decide +kernel
theorem dX10_findNth_115 : decode cX10_findNth 115 = .ok (.bipush 10, 2) := by decide +kernel
theorem dX10_findNth_117 : decode cX10_findNth 117 = .ok (.invokevirtual 84, 3) := by decide +kernel
theorem dX10_findNth_120 : decode cX10_findNth 120 = .ok (.iload_n 1, 1) := by decide +kernel
theorem dX10_findNth_121 : decode cX10_findNth 121 = .ok (.iconst 1, 1) := by decide +kernel
theorem dX10_findNth_122 : decode cX10_findNth 122 = .ok (.if_icmp .ne 15, 3) := by decide +kernel
theorem dX10_findNth_125 : decode cX10_findNth 125 = .ok (.aload_n 0, 1) := by decide +kernel
theorem dX10_findNth_126 : decode cX10_findNth 126 = .ok (.bipush 9, 2) := by decide +kernel
theorem dX10_findNth_128 : decode cX10_findNth 128 = .ok (.bipush 9, 2) := by decide +kernel
theorem dX10_findNth_130 : decode cX10_findNth 130 = .ok (.ldc2_w 190, 3) := by decide +kernel
theorem dX10_findNth_133 : decode cX10_findNth 133 = .ok (.invokevirtual 186, 3) := by decide +kernel
theorem dX10_findNth_136 : decode cX10_findNth 136 = .ok (.pop2, 1) := by decide +kernel
theorem dX10_findNth_137 : decode cX10_findNth 137 = .ok (.return_, 1) := by decide +kernel
theorem dX10_heapTimesSix_0 : decode cX10_heapTimesSix 0 = .ok (.aload_n 0, 1) := by decide +kernel
theorem dX10_heapTimesSix_1 : decode cX10_heapTimesSix 1 = .ok (.iload_n 2, 1) := by decide +kernel
theorem dX10_heapTimesSix_2 : decode cX10_heapTimesSix 2 = .ok (.invokevirtual 56, 3) := by decide +kernel
theorem dX10_heapTimesSix_5 : decode cX10_heapTimesSix 5 = .ok (.ifCond .ne 11, 3) := by decide +kernel
theorem dX10_heapTimesSix_8 : decode cX10_heapTimesSix 8 = .ok (.aload_n 0, 1) := by decide +kernel
theorem dX10_heapTimesSix_9 : decode cX10_heapTimesSix 9 = .ok (.bipush 9, 2) := by decide +kernel
theorem dX10_heapTimesSix_11 : decode cX10_heapTimesSix 11 = .ok (.lconst 0, 1) := by decide +kernel
theorem dX10_heapTimesSix_12 : decode cX10_heapTimesSix 12 = .ok (.invokevirtual 60, 3) := by decide +kernel
theorem dX10_heapTimesSix_15 : decode cX10_heapTimesSix 15 = .ok (.return_, 1) := by decide +kernel
theorem dX10_heapTimesSix_16 : decode cX10_heapTimesSix 16 = .ok (.aload_n 0, 1) := by decide +kernel
theorem dX10_heapTimesSix_17 : decode cX10_heapTimesSix 17 = .ok (.bipush 10, 2) := by decide +kernel
theorem dX10_heapTimesSix_19 : decode cX10_heapTimesSix 19 = .ok (.iload_n 2, 1) := by decide +kernel
theorem dX10_heapTimesSix_20 : decode cX10_heapTimesSix 20 = .ok (.lconst 1, 1) := by decide +kernel
theorem dX10_heapTimesSix_21 : decode cX10_heapTimesSix 21 = .ok (.lconst 1, 1) := by decide +kernel
theorem dX10_heapTimesSix_22 : decode cX10_heapTimesSix 22 = .ok (.invokevirtual 69, 3) := by decide +kernel
theorem dX10_heapTimesSix_25 : decode cX10_heapTimesSix 25 = .ok (.aload_n 0, 1) := by decide +kernel
theorem dX10_heapTimesSix_26 : decode cX10_heapTimesSix 26 = .ok (.bipush 11, 2) := by decide +kernel
theorem dX10_heapTimesSix_28 : decode cX10_heapTimesSix 28 = .ok (.iload_n 2, 1) := by decide +kernel
theorem dX10_heapTimesSix_29 : decode cX10_heapTimesSix 29 = .ok (.bipush 10, 2) := by decide +kernel
theorem dX10_heapTimesSix_31 : decode cX10_heapTimesSix 31 = .ok (.invokevirtual 84, 3) := by decide +kernel
theorem dX10_heapTimesSix_34 : decode cX10_heapTimesSix 34 = .ok (.iload_n 1, 1) := by decide +kernel
theorem dX10_heapTimesSix_35 : decode cX10_heapTimesSix 35 = .ok (.iconst 5, 1) := by decide +kernel
theorem dX10_heapTimesSix_36 : decode cX10_heapTimesSix 36 = .ok (.if_icmp .ge 25, 3) := by decide +kernel
theorem dX10_heapTimesSix_39 : decode cX10_heapTimesSix 39 = .ok (.aload_n 0, 1) := by decide +kernel
theorem dX10_heapTimesSix_40 : decode cX10_heapTimesSix 40 = .ok (.bipush 10, 2) := by decide +kernel
theorem dX10_heapTimesSix_42 : decode cX10_heapTimesSix 42 = .ok (.iload_n 2, 1) := by decide +kernel
theorem dX10_heapTimesSix_43 : decode cX10_heapTimesSix 43 = .ok (.iload_n 1, 1) := by decide +kernel
theorem dX10_heapTimesSix_44 : decode cX10_heapTimesSix 44 = .ok (.i2l, 1) := by decide +kernel
theorem dX10_heapTimesSix_45 : decode cX10_heapTimesSix 45 = .ok (.ldc2_w 190, 3) := by decide +kernel
theorem dX10_heapTimesSix_48 : decode cX10_heapTimesSix 48 = .ok (.lsub, 1) := by decide +kernel
theorem dX10_heapTimesSix_49 : decode cX10_heapTimesSix 49 = .ok (.ldc2_w 192, 3) := by decide +kernel
theorem dX10_heapTimesSix_52 : decode cX10_heapTimesSix 52 = .ok (.iload_n 1, 1) := by decide +kernel
theorem dX10_heapTimesSix_53 : decode cX10_heapTimesSix 53 = .ok (.i2l, 1) := by decide +kernel
theorem dX10_heapTimesSix_54 : decode cX10_heapTimesSix 54 = .ok (.lsub, 1) := by decide +kernel
theorem dX10_heapTimesSix_55 : decode cX10_heapTimesSix 55 = .ok (.invokevirtual 69, 3) := by decide +kernel
theorem dX10_heapTimesSix_58 : decode cX10_heapTimesSix 58 = .ok (.goto 39, 3) := by decide +kernel
theorem dX10_heapTimesSix_61 : decode cX10_heapTimesSix 61 = .ok (.aload_n 0, 1) := by decide +kernel
theorem dX10_heapTimesSix_62 : decode cX10_heapTimesSix 62 = .ok (.bipush 9, 2) := by decide +kernel
theorem dX10_heapTimesSix_64 : decode cX10_heapTimesSix 64 = .ok (.iload_n 1, 1) := by decide +kernel
theorem dX10_heapTimesSix_65 : decode cX10_heapTimesSix 65 = .ok (.i2l, 1) := by decide +kernel
theorem dX10_heapTimesSix_66 : decode cX10_heapTimesSix 66 = .ok (.ldc2_w 192, 3) := by decide +kernel
theorem dX10_heapTimesSix_69 : decode cX10_heapTimesSix 69 = .ok (.lsub, 1) := by decide +kernel
theorem dX10_heapTimesSix_70 : decode cX10_heapTimesSix 70 = .ok (.invokevirtual 60, 3) := by decide +kernel
theorem dX10_heapTimesSix_73 : decode cX10_heapTimesSix 73 = .ok (.aload_n 0, 1) := by decide +kernel
theorem dX10_heapTimesSix_74 : decode cX10_heapTimesSix 74 = .ok (.bipush 10, 2) := by decide +kernel
theorem dX10_heapTimesSix_76 : decode cX10_heapTimesSix 76 = .ok (.iload_n 2, 1) := by decide +kernel
theorem dX10_heapTimesSix_77 : decode cX10_heapTimesSix 77 = .ok (.iload_n 1, 1) := by decide +kernel
theorem dX10_heapTimesSix_78 : decode cX10_heapTimesSix 78 = .ok (.i2l, 1) := by decide +kernel
theorem dX10_heapTimesSix_79 : decode cX10_heapTimesSix 79 = .ok (.ldc2_w 190, 3) := by decide +kernel
theorem dX10_heapTimesSix_82 : decode cX10_heapTimesSix 82 = .ok (.lsub, 1) := by decide +kernel
theorem dX10_heapTimesSix_83 : decode cX10_heapTimesSix 83 = .ok (.lconst 0, 1) := by decide +kernel
theorem dX10_heapTimesSix_84 : decode cX10_heapTimesSix 84 = .ok (.invokevirtual 69, 3) := by decide +kernel
theorem dX10_heapTimesSix_87 : decode cX10_heapTimesSix 87 = .ok (.aload_n 0, 1) := by decide +kernel
theorem dX10_heapTimesSix_88 : decode cX10_heapTimesSix 88 = .ok (.bipush 10, 2) := by decide +kernel
theorem dX10_heapTimesSix_90 : decode cX10_heapTimesSix 90 = .ok (.bipush 10, 2) := by decide +kernel
theorem dX10_heapTimesSix_92 : decode cX10_heapTimesSix 92 = .ok (.bipush 9, 2) := by decide +kernel
theorem dX10_heapTimesSix_94 : decode cX10_heapTimesSix 94 = .ok (.invokevirtual 77, 3) := by decide +kernel
theorem dX10_heapTimesSix_97 : decode cX10_heapTimesSix 97 = .ok (.aload_n 0, 1) := by decide +kernel
theorem dX10_heapTimesSix_98 : decode cX10_heapTimesSix 98 = .ok (.bipush 9, 2) := by decide +kernel
theorem dX10_heapTimesSix_100 : decode cX10_heapTimesSix 100 = .ok (.bipush 11, 2) := by decide +kernel
theorem dX10_heapTimesSix_102 : decode cX10_heapTimesSix 102 = .ok (.bipush 10, 2) := by decide +kernel
theorem dX10_heapTimesSix_104 : decode cX10_heapTimesSix 104 = .ok (.invokevirtual 84, 3) := by decide +kernel
theorem dX10_heapTimesSix_107 : decode cX10_heapTimesSix 107 = .ok (.return_, 1) := by decide +kernel
theorem dX10_nth_0 : decode cX10_nth 0 = .ok (.iload_n 1, 1) := by decide +kernel
theorem dX10_nth_1 : decode cX10_nth 1 = .ok (.invokestatic 94, 3) := by decide +kernel
theorem dX10_nth_4 : decode cX10_nth 4 = .ok (.ifCond .eq 17, 3) := by decide +kernel
theorem dX10_nth_7 : decode cX10_nth 7 = .ok (.iload_n 2, 1) := by decide +kernel
theorem dX10_nth_8 : decode cX10_nth 8 = .ok (.invokestatic 94, 3) := by decide +kernel
theorem dX10_nth_11 : decode cX10_nth 11 = .ok (.ifCond .eq 10, 3) := by decide +kernel
theorem dX10_nth_14 : decode cX10_nth 14 = .ok (.iload_n 3, 1) := by decide +kernel
theorem dX10_nth_15 : decode cX10_nth 15 = .ok (.invokestatic 94, 3) := by decide +kernel
theorem dX10_nth_18 : decode cX10_nth 18 = .ok (.ifCond .ne 5, 3) := by decide +kernel
theorem dX10_nth_21 : decode cX10_nth 21 = .ok (.iconst (-1), 1) := by decide +kernel
theorem dX10_nth_22 : decode cX10_nth 22 = .ok (.ireturn, 1) := by decide +kernel
theorem dX10_nth_23 : decode cX10_nth 23 = .ok (.aload_n 0, 1) := by decide +kernel
theorem dX10_nth_24 : decode cX10_nth 24 = .ok (.iload_n 1, 1) := by decide +kernel
theorem dX10_nth_25 : decode cX10_nth 25 = .ok (.iconst 1, 1) := by decide +kernel
theorem dX10_nth_26 : decode cX10_nth 26 = .ok (.invokevirtual 162, 3) := by decide +kernel
theorem dX10_nth_29 : decode cX10_nth 29 = .ok (.istore 4, 2) := by decide +kernel
theorem dX10_nth_31 : decode cX10_nth 31 = .ok (.iload 4, 2) := by decide +kernel
theorem dX10_nth_33 : decode cX10_nth 33 = .ok (.ifCond .ge 8, 3) := by decide +kernel
theorem dX10_nth_36 : decode cX10_nth 36 = .ok (.iload 4, 2) := by decide +kernel
theorem dX10_nth_38 : decode cX10_nth 38 = .ok (.goto 9, 3) := by decide +kernel
theorem dX10_nth_41 : decode cX10_nth 41 = .ok (.aload_n 0, 1) := by decide +kernel
theorem dX10_nth_42 : decode cX10_nth 42 = .ok (.iload_n 2, 1) := by decide +kernel
theorem dX10_nth_43 : decode cX10_nth 43 = .ok (.iconst 0, 1) := by decide +kernel
theorem dX10_nth_44 : decode cX10_nth 44 = .ok (.invokevirtual 162, 3) := by decide +kernel
theorem dX10_nth_47 : decode cX10_nth 47 = .ok (.istore 4, 2) := by decide +kernel
theorem dX10_nth_49 : decode cX10_nth 49 = .ok (.iload 4, 2) := by decide +kernel
theorem dX10_nth_51 : decode cX10_nth 51 = .ok (.ifCond .ge 6, 3) := by decide +kernel
theorem dX10_nth_54 : decode cX10_nth 54 = .ok (.iload 4, 2) := by decide +kernel
theorem dX10_nth_56 : decode cX10_nth 56 = .ok (.ireturn, 1) := by decide +kernel
theorem dX10_nth_57 : decode cX10_nth 57 = .ok (.aload_n 0, 1) := by decide +kernel
theorem dX10_nth_58 : decode cX10_nth 58 = .ok (.aload_n 0, 1) := by decide +kernel
theorem dX10_nth_59 : decode cX10_nth 59 = .ok (.getfield 13, 3) := by decide +kernel
theorem dX10_nth_62 : decode cX10_nth 62 = .ok (.iload_n 1, 1) := by decide +kernel
theorem dX10_nth_63 : decode cX10_nth 63 = .ok (.iaload, 1) := by decide +kernel
theorem dX10_nth_64 : decode cX10_nth 64 = .ok (.iconst 2, 1) := by decide +kernel
theorem dX10_nth_65 : decode cX10_nth 65 = .ok (.isub, 1) := by decide +kernel
theorem dX10_nth_66 : decode cX10_nth 66 = .ok (.aload_n 0, 1) := by decide +kernel
theorem dX10_nth_67 : decode cX10_nth 67 = .ok (.getfield 16, 3) := by decide +kernel
theorem dX10_nth_70 : decode cX10_nth 70 = .ok (.iload_n 1, 1) := by decide +kernel
theorem dX10_nth_71 : decode cX10_nth 71 = .ok (.iaload, 1) := by decide +kernel
theorem dX10_nth_72 : decode cX10_nth 72 = .ok (.iload_n 2, 1) := by decide +kernel
theorem dX10_nth_73 : decode cX10_nth 73 = .ok (.invokevirtual 159, 3) := by decide +kernel
theorem dX10_nth_76 : decode cX10_nth 76 = .ok (.aload_n 0, 1) := by decide +kernel
theorem dX10_nth_77 : decode cX10_nth 77 = .ok (.iload_n 3, 1) := by decide +kernel
theorem dX10_nth_78 : decode cX10_nth 78 = .ok (.bipush 9, 2) := by decide +kernel
theorem dX10_nth_80 : decode cX10_nth 80 = .ok (.invokevirtual 128, 3) := by decide +kernel
theorem dX10_nth_83 : decode cX10_nth 83 = .ok (.ireturn, 1) := by decide +kernel
theorem dX10_whichCorners_0 : decode cX10_whichCorners 0 = .ok (.aload_n 0, 1) := by decide +kernel
theorem dX10_whichCorners_1 : decode cX10_whichCorners 1 = .ok (.bipush 10, 2) := by decide +kernel
theorem dX10_whichCorners_3 : decode cX10_whichCorners 3 = .ok (.iload_n 2, 1) := by decide +kernel
theorem dX10_whichCorners_4 : decode cX10_whichCorners 4 = .ok (.ldc2_w 103, 3) := by decide +kernel
theorem dX10_whichCorners_7 : decode cX10_whichCorners 7 = .ok (.iload_n 1, 1) := by decide +kernel
theorem dX10_whichCorners_8 : decode cX10_whichCorners 8 = .ok (.iconst 2, 1) := by decide +kernel
theorem dX10_whichCorners_9 : decode cX10_whichCorners 9 = .ok (.isub, 1) := by decide +kernel
theorem dX10_whichCorners_10 : decode cX10_whichCorners 10 = .ok (.i2l, 1) := by decide +kernel
theorem dX10_whichCorners_11 : decode cX10_whichCorners 11 = .ok (.lmul, 1) := by decide +kernel
theorem dX10_whichCorners_12 : decode cX10_whichCorners 12 = .ok (.iload_n 1, 1) := by decide +kernel
theorem dX10_whichCorners_13 : decode cX10_whichCorners 13 = .ok (.i2l, 1) := by decide +kernel
theorem dX10_whichCorners_14 : decode cX10_whichCorners 14 = .ok (.ldc2_w 97, 3) := by decide +kernel
theorem dX10_whichCorners_17 : decode cX10_whichCorners 17 = .ok (.lsub, 1) := by decide +kernel
theorem dX10_whichCorners_18 : decode cX10_whichCorners 18 = .ok (.iload_n 1, 1) := by decide +kernel
theorem dX10_whichCorners_19 : decode cX10_whichCorners 19 = .ok (.i2l, 1) := by decide +kernel
theorem dX10_whichCorners_20 : decode cX10_whichCorners 20 = .ok (.ldc2_w 97, 3) := by decide +kernel
theorem dX10_whichCorners_23 : decode cX10_whichCorners 23 = .ok (.lsub, 1) := by decide +kernel
theorem dX10_whichCorners_24 : decode cX10_whichCorners 24 = .ok (.lmul, 1) := by decide +kernel
theorem dX10_whichCorners_25 : decode cX10_whichCorners 25 = .ok (.invokevirtual 69, 3) := by decide +kernel
theorem dX10_whichCorners_28 : decode cX10_whichCorners 28 = .ok (.aload_n 0, 1) := by decide +kernel
theorem dX10_whichCorners_29 : decode cX10_whichCorners 29 = .ok (.bipush 8, 2) := by decide +kernel
theorem dX10_whichCorners_31 : decode cX10_whichCorners 31 = .ok (.bipush 10, 2) := by decide +kernel
theorem dX10_whichCorners_33 : decode cX10_whichCorners 33 = .ok (.invokevirtual 177, 3) := by decide +kernel
theorem dX10_whichCorners_36 : decode cX10_whichCorners 36 = .ok (.ifCond .ne 5, 3) := by decide +kernel
theorem dX10_whichCorners_39 : decode cX10_whichCorners 39 = .ok (.iconst 0, 1) := by decide +kernel
theorem dX10_whichCorners_40 : decode cX10_whichCorners 40 = .ok (.ireturn, 1) := by decide +kernel
theorem dX10_whichCorners_41 : decode cX10_whichCorners 41 = .ok (.iload_n 1, 1) := by decide +kernel
theorem dX10_whichCorners_42 : decode cX10_whichCorners 42 = .ok (.iconst 4, 1) := by decide +kernel
theorem dX10_whichCorners_43 : decode cX10_whichCorners 43 = .ok (.if_icmp .ge 28, 3) := by decide +kernel
theorem dX10_whichCorners_46 : decode cX10_whichCorners 46 = .ok (.aload_n 0, 1) := by decide +kernel
theorem dX10_whichCorners_47 : decode cX10_whichCorners 47 = .ok (.bipush 9, 2) := by decide +kernel
theorem dX10_whichCorners_49 : decode cX10_whichCorners 49 = .ok (.ldc2_w 97, 3) := by decide +kernel
theorem dX10_whichCorners_52 : decode cX10_whichCorners 52 = .ok (.iload_n 1, 1) := by decide +kernel
theorem dX10_whichCorners_53 : decode cX10_whichCorners 53 = .ok (.i2l, 1) := by decide +kernel
theorem dX10_whichCorners_54 : decode cX10_whichCorners 54 = .ok (.lsub, 1) := by decide +kernel
theorem dX10_whichCorners_55 : decode cX10_whichCorners 55 = .ok (.invokevirtual 60, 3) := by decide +kernel
theorem dX10_whichCorners_58 : decode cX10_whichCorners 58 = .ok (.aload_n 0, 1) := by decide +kernel
theorem dX10_whichCorners_59 : decode cX10_whichCorners 59 = .ok (.bipush 8, 2) := by decide +kernel
theorem dX10_whichCorners_61 : decode cX10_whichCorners 61 = .ok (.bipush 8, 2) := by decide +kernel
theorem dX10_whichCorners_63 : decode cX10_whichCorners 63 = .ok (.bipush 9, 2) := by decide +kernel
theorem dX10_whichCorners_65 : decode cX10_whichCorners 65 = .ok (.invokevirtual 77, 3) := by decide +kernel
theorem dX10_whichCorners_68 : decode cX10_whichCorners 68 = .ok (.goto 18, 3) := by decide +kernel
theorem dX10_whichCorners_71 : decode cX10_whichCorners 71 = .ok (.aload_n 0, 1) := by decide +kernel
theorem dX10_whichCorners_72 : decode cX10_whichCorners 72 = .ok (.bipush 8, 2) := by decide +kernel
theorem dX10_whichCorners_74 : decode cX10_whichCorners 74 = .ok (.bipush 8, 2) := by decide +kernel
theorem dX10_whichCorners_76 : decode cX10_whichCorners 76 = .ok (.lconst 1, 1) := by decide +kernel
theorem dX10_whichCorners_77 : decode cX10_whichCorners 77 = .ok (.iload_n 1, 1) := by decide +kernel
theorem dX10_whichCorners_78 : decode cX10_whichCorners 78 = .ok (.i2l, 1) := by decide +kernel
theorem dX10_whichCorners_79 : decode cX10_whichCorners 79 = .ok (.ldc2_w 97, 3) := by decide +kernel
theorem dX10_whichCorners_82 : decode cX10_whichCorners 82 = .ok (.lsub, 1) := by decide +kernel
theorem dX10_whichCorners_83 : decode cX10_whichCorners 83 = .ok (.invokevirtual 69, 3) := by decide +kernel
theorem dX10_whichCorners_86 : decode cX10_whichCorners 86 = .ok (.aload_n 0, 1) := by decide +kernel
theorem dX10_whichCorners_87 : decode cX10_whichCorners 87 = .ok (.bipush 8, 2) := by decide +kernel
theorem dX10_whichCorners_89 : decode cX10_whichCorners 89 = .ok (.bipush 8, 2) := by decide +kernel
theorem dX10_whichCorners_91 : decode cX10_whichCorners 91 = .ok (.ldc2_w 190, 3) := by decide +kernel
theorem dX10_whichCorners_94 : decode cX10_whichCorners 94 = .ok (.iload_n 1, 1) := by decide +kernel
theorem dX10_whichCorners_95 : decode cX10_whichCorners 95 = .ok (.iconst 2, 1) := by decide +kernel
theorem dX10_whichCorners_96 : decode cX10_whichCorners 96 = .ok (.isub, 1) := by decide +kernel
theorem dX10_whichCorners_97 : decode cX10_whichCorners 97 = .ok (.i2l, 1) := by decide +kernel
theorem dX10_whichCorners_98 : decode cX10_whichCorners 98 = .ok (.lmul, 1) := by decide +kernel
theorem dX10_whichCorners_99 : decode cX10_whichCorners 99 = .ok (.invokevirtual 186, 3) := by decide +kernel
theorem dX10_whichCorners_102 : decode cX10_whichCorners 102 = .ok (.lconst 0, 1) := by decide +kernel
theorem dX10_whichCorners_103 : decode cX10_whichCorners 103 = .ok (.lcmp, 1) := by decide +kernel
theorem dX10_whichCorners_104 : decode cX10_whichCorners 104 = .ok (.ifCond .ne 7, 3) := by decide +kernel
theorem dX10_whichCorners_107 : decode cX10_whichCorners 107 = .ok (.iconst 1, 1) := by decide +kernel
theorem dX10_whichCorners_108 : decode cX10_whichCorners 108 = .ok (.goto 4, 3) := by decide +kernel
theorem dX10_whichCorners_111 : decode cX10_whichCorners 111 = .ok (.iconst 0, 1) := by decide +kernel
theorem dX10_whichCorners_112 : decode cX10_whichCorners 112 = .ok (.ireturn, 1) := by decide +kernel
theorem dX10_whichHeap_0 : decode cX10_whichHeap 0 = .ok (.aload_n 0, 1) := by decide +kernel
theorem dX10_whichHeap_1 : decode cX10_whichHeap 1 = .ok (.bipush 12, 2) := by decide +kernel
theorem dX10_whichHeap_3 : decode cX10_whichHeap 3 = .ok (.iload_n 2, 1) := by decide +kernel
theorem dX10_whichHeap_4 : decode cX10_whichHeap 4 = .ok (.ldc2_w 184, 3) := by decide +kernel
theorem dX10_whichHeap_7 : decode cX10_whichHeap 7 = .ok (.lconst 0, 1) := by decide +kernel
theorem dX10_whichHeap_8 : decode cX10_whichHeap 8 = .ok (.invokevirtual 69, 3) := by decide +kernel
theorem dX10_whichHeap_11 : decode cX10_whichHeap 11 = .ok (.aload_n 0, 1) := by decide +kernel
theorem dX10_whichHeap_12 : decode cX10_whichHeap 12 = .ok (.bipush 8, 2) := by decide +kernel
theorem dX10_whichHeap_14 : decode cX10_whichHeap 14 = .ok (.lconst 0, 1) := by decide +kernel
theorem dX10_whichHeap_15 : decode cX10_whichHeap 15 = .ok (.invokevirtual 60, 3) := by decide +kernel
theorem dX10_whichHeap_18 : decode cX10_whichHeap 18 = .ok (.aload_n 0, 1) := by decide +kernel
theorem dX10_whichHeap_19 : decode cX10_whichHeap 19 = .ok (.iload_n 2, 1) := by decide +kernel
theorem dX10_whichHeap_20 : decode cX10_whichHeap 20 = .ok (.invokevirtual 56, 3) := by decide +kernel
theorem dX10_whichHeap_23 : decode cX10_whichHeap 23 = .ok (.iconst 3, 1) := by decide +kernel
theorem dX10_whichHeap_24 : decode cX10_whichHeap 24 = .ok (.idiv, 1) := by decide +kernel
theorem dX10_whichHeap_25 : decode cX10_whichHeap 25 = .ok (.iconst 1, 1) := by decide +kernel
theorem dX10_whichHeap_26 : decode cX10_whichHeap 26 = .ok (.iadd, 1) := by decide +kernel
theorem dX10_whichHeap_27 : decode cX10_whichHeap 27 = .ok (.istore_n 3, 1) := by decide +kernel
theorem dX10_whichHeap_28 : decode cX10_whichHeap 28 = .ok (.iload_n 3, 1) := by decide +kernel
theorem dX10_whichHeap_29 : decode cX10_whichHeap 29 = .ok (.ifCond .lt 95, 3) := by decide +kernel
theorem dX10_whichHeap_32 : decode cX10_whichHeap 32 = .ok (.iconst 0, 1) := by decide +kernel
theorem dX10_whichHeap_33 : decode cX10_whichHeap 33 = .ok (.istore 4, 2) := by decide +kernel
theorem dX10_whichHeap_35 : decode cX10_whichHeap 35 = .ok (.ldc 68, 2) := by decide +kernel
theorem dX10_whichHeap_37 : decode cX10_whichHeap 37 = .ok (.istore 5, 2) := by decide +kernel
theorem dX10_whichHeap_39 : decode cX10_whichHeap 39 = .ok (.iload 4, 2) := by decide +kernel
theorem dX10_whichHeap_41 : decode cX10_whichHeap 41 = .ok (.iload 5, 2) := by decide +kernel
theorem dX10_whichHeap_43 : decode cX10_whichHeap 43 = .ok (.if_icmp .ge 63, 3) := by decide +kernel
theorem dX10_whichHeap_46 : decode cX10_whichHeap 46 = .ok (.iload 4, 2) := by decide +kernel
theorem dX10_whichHeap_48 : decode cX10_whichHeap 48 = .ok (.iload 5, 2) := by decide +kernel
theorem dX10_whichHeap_50 : decode cX10_whichHeap 50 = .ok (.iload 4, 2) := by decide +kernel
theorem dX10_whichHeap_52 : decode cX10_whichHeap 52 = .ok (.isub, 1) := by decide +kernel
theorem dX10_whichHeap_53 : decode cX10_whichHeap 53 = .ok (.iconst 1, 1) := by decide +kernel
theorem dX10_whichHeap_54 : decode cX10_whichHeap 54 = .ok (.iadd, 1) := by decide +kernel
theorem dX10_whichHeap_55 : decode cX10_whichHeap 55 = .ok (.iconst 2, 1) := by decide +kernel
theorem dX10_whichHeap_56 : decode cX10_whichHeap 56 = .ok (.idiv, 1) := by decide +kernel
theorem dX10_whichHeap_57 : decode cX10_whichHeap 57 = .ok (.iadd, 1) := by decide +kernel
theorem dX10_whichHeap_58 : decode cX10_whichHeap 58 = .ok (.istore 6, 2) := by decide +kernel
theorem dX10_whichHeap_60 : decode cX10_whichHeap 60 = .ok (.aload_n 0, 1) := by decide +kernel
theorem dX10_whichHeap_61 : decode cX10_whichHeap 61 = .ok (.getfield 7, 3) := by decide +kernel
theorem dX10_whichHeap_64 : decode cX10_whichHeap 64 = .ok (.sipush 640, 3) := by decide +kernel
theorem dX10_whichHeap_67 : decode cX10_whichHeap 67 = .ok (.iload_n 3, 1) := by decide +kernel
theorem dX10_whichHeap_68 : decode cX10_whichHeap 68 = .ok (.iadd, 1) := by decide +kernel
theorem dX10_whichHeap_69 : decode cX10_whichHeap 69 = .ok (.iload 6, 2) := by decide +kernel
theorem dX10_whichHeap_71 : decode cX10_whichHeap 71 = .ok (.iastore, 1) := by decide +kernel
theorem dX10_whichHeap_72 : decode cX10_whichHeap 72 = .ok (.aload_n 0, 1) := by decide +kernel
theorem dX10_whichHeap_73 : decode cX10_whichHeap 73 = .ok (.iload_n 1, 1) := by decide +kernel
theorem dX10_whichHeap_74 : decode cX10_whichHeap 74 = .ok (.bipush 8, 2) := by decide +kernel
theorem dX10_whichHeap_76 : decode cX10_whichHeap 76 = .ok (.invokevirtual 181, 3) := by decide +kernel
theorem dX10_whichHeap_79 : decode cX10_whichHeap 79 = .ok (.aload_n 0, 1) := by decide +kernel
theorem dX10_whichHeap_80 : decode cX10_whichHeap 80 = .ok (.bipush 9, 2) := by decide +kernel
theorem dX10_whichHeap_82 : decode cX10_whichHeap 82 = .ok (.bipush 12, 2) := by decide +kernel
theorem dX10_whichHeap_84 : decode cX10_whichHeap 84 = .ok (.invokevirtual 73, 3) := by decide +kernel
theorem dX10_whichHeap_87 : decode cX10_whichHeap 87 = .ok (.ifCond .gt 10, 3) := by decide +kernel
theorem dX10_whichHeap_90 : decode cX10_whichHeap 90 = .ok (.iload 6, 2) := by decide +kernel
theorem dX10_whichHeap_92 : decode cX10_whichHeap 92 = .ok (.istore 4, 2) := by decide +kernel
theorem dX10_whichHeap_94 : decode cX10_whichHeap 94 = .ok (.goto 9, 3) := by decide +kernel
theorem dX10_whichHeap_97 : decode cX10_whichHeap 97 = .ok (.iload 6, 2) := by decide +kernel
theorem dX10_whichHeap_99 : decode cX10_whichHeap 99 = .ok (.iconst 1, 1) := by decide +kernel
theorem dX10_whichHeap_100 : decode cX10_whichHeap 100 = .ok (.isub, 1) := by decide +kernel
theorem dX10_whichHeap_101 : decode cX10_whichHeap 101 = .ok (.istore 5, 2) := by decide +kernel
theorem dX10_whichHeap_103 : decode cX10_whichHeap 103 = .ok (.goto (-64), 3) := by decide +kernel
theorem dX10_whichHeap_106 : decode cX10_whichHeap 106 = .ok (.aload_n 0, 1) := by decide +kernel
theorem dX10_whichHeap_107 : decode cX10_whichHeap 107 = .ok (.getfield 7, 3) := by decide +kernel
theorem dX10_whichHeap_110 : decode cX10_whichHeap 110 = .ok (.sipush 640, 3) := by decide +kernel
theorem dX10_whichHeap_113 : decode cX10_whichHeap 113 = .ok (.iload_n 3, 1) := by decide +kernel
theorem dX10_whichHeap_114 : decode cX10_whichHeap 114 = .ok (.iadd, 1) := by decide +kernel
theorem dX10_whichHeap_115 : decode cX10_whichHeap 115 = .ok (.iload 4, 2) := by decide +kernel
theorem dX10_whichHeap_117 : decode cX10_whichHeap 117 = .ok (.iastore, 1) := by decide +kernel
theorem dX10_whichHeap_118 : decode cX10_whichHeap 118 = .ok (.iinc 3 (-1), 3) := by decide +kernel
theorem dX10_whichHeap_121 : decode cX10_whichHeap 121 = .ok (.goto (-93), 3) := by decide +kernel
theorem dX10_whichHeap_124 : decode cX10_whichHeap 124 = .ok (.aload_n 0, 1) := by decide +kernel
theorem dX10_whichHeap_125 : decode cX10_whichHeap 125 = .ok (.iload_n 1, 1) := by decide +kernel
theorem dX10_whichHeap_126 : decode cX10_whichHeap 126 = .ok (.bipush 8, 2) := by decide +kernel
theorem dX10_whichHeap_128 : decode cX10_whichHeap 128 = .ok (.invokevirtual 181, 3) := by decide +kernel
theorem dX10_whichHeap_131 : decode cX10_whichHeap 131 = .ok (.aload_n 0, 1) := by decide +kernel
theorem dX10_whichHeap_132 : decode cX10_whichHeap 132 = .ok (.bipush 9, 2) := by decide +kernel
theorem dX10_whichHeap_134 : decode cX10_whichHeap 134 = .ok (.bipush 12, 2) := by decide +kernel
theorem dX10_whichHeap_136 : decode cX10_whichHeap 136 = .ok (.invokevirtual 73, 3) := by decide +kernel
theorem dX10_whichHeap_139 : decode cX10_whichHeap 139 = .ok (.ifCond .ne 7, 3) := by decide +kernel
theorem dX10_whichHeap_142 : decode cX10_whichHeap 142 = .ok (.iconst 1, 1) := by decide +kernel
theorem dX10_whichHeap_143 : decode cX10_whichHeap 143 = .ok (.goto 4, 3) := by decide +kernel
theorem dX10_whichHeap_146 : decode cX10_whichHeap 146 = .ok (.iconst 0, 1) := by decide +kernel
theorem dX10_whichHeap_147 : decode cX10_whichHeap 147 = .ok (.ireturn, 1) := by decide +kernel
theorem dX10_whichOf_0 : decode cX10_whichOf 0 = .ok (.aload_n 0, 1) := by decide +kernel
theorem dX10_whichOf_1 : decode cX10_whichOf 1 = .ok (.iload_n 3, 1) := by decide +kernel
theorem dX10_whichOf_2 : decode cX10_whichOf 2 = .ok (.invokevirtual 56, 3) := by decide +kernel
theorem dX10_whichOf_5 : decode cX10_whichOf 5 = .ok (.ifCond .ne 12, 3) := by decide +kernel
theorem dX10_whichOf_8 : decode cX10_whichOf 8 = .ok (.aload_n 0, 1) := by decide +kernel
theorem dX10_whichOf_9 : decode cX10_whichOf 9 = .ok (.bipush 8, 2) := by decide +kernel
theorem dX10_whichOf_11 : decode cX10_whichOf 11 = .ok (.lconst 0, 1) := by decide +kernel
theorem dX10_whichOf_12 : decode cX10_whichOf 12 = .ok (.invokevirtual 60, 3) := by decide +kernel
theorem dX10_whichOf_15 : decode cX10_whichOf 15 = .ok (.iconst 1, 1) := by decide +kernel
theorem dX10_whichOf_16 : decode cX10_whichOf 16 = .ok (.ireturn, 1) := by decide +kernel
theorem dX10_whichOf_17 : decode cX10_whichOf 17 = .ok (.iload_n 1, 1) := by decide +kernel
theorem dX10_whichOf_18 : decode cX10_whichOf 18 = .ok (.ifCond .ne 11, 3) := by decide +kernel
theorem dX10_whichOf_21 : decode cX10_whichOf 21 = .ok (.aload_n 0, 1) := by decide +kernel
theorem dX10_whichOf_22 : decode cX10_whichOf 22 = .ok (.bipush 8, 2) := by decide +kernel
theorem dX10_whichOf_24 : decode cX10_whichOf 24 = .ok (.iload_n 3, 1) := by decide +kernel
theorem dX10_whichOf_25 : decode cX10_whichOf 25 = .ok (.invokevirtual 177, 3) := by decide +kernel
theorem dX10_whichOf_28 : decode cX10_whichOf 28 = .ok (.ireturn, 1) := by decide +kernel
theorem dX10_whichOf_29 : decode cX10_whichOf 29 = .ok (.iload_n 1, 1) := by decide +kernel
theorem dX10_whichOf_30 : decode cX10_whichOf 30 = .ok (.iconst 4, 1) := by decide +kernel
theorem dX10_whichOf_31 : decode cX10_whichOf 31 = .ok (.if_icmp .ne 10, 3) := by decide +kernel
theorem dX10_whichOf_34 : decode cX10_whichOf 34 = .ok (.aload_n 0, 1) := by decide +kernel
theorem dX10_whichOf_35 : decode cX10_whichOf 35 = .ok (.iload_n 2, 1) := by decide +kernel
theorem dX10_whichOf_36 : decode cX10_whichOf 36 = .ok (.iload_n 3, 1) := by decide +kernel
theorem dX10_whichOf_37 : decode cX10_whichOf 37 = .ok (.invokevirtual 194, 3) := by decide +kernel
theorem dX10_whichOf_40 : decode cX10_whichOf 40 = .ok (.ireturn, 1) := by decide +kernel
theorem dX10_whichOf_41 : decode cX10_whichOf 41 = .ok (.iload_n 1, 1) := by decide +kernel
theorem dX10_whichOf_42 : decode cX10_whichOf 42 = .ok (.iconst 3, 1) := by decide +kernel
theorem dX10_whichOf_43 : decode cX10_whichOf 43 = .ok (.if_icmp .ne 10, 3) := by decide +kernel
theorem dX10_whichOf_46 : decode cX10_whichOf 46 = .ok (.aload_n 0, 1) := by decide +kernel
theorem dX10_whichOf_47 : decode cX10_whichOf 47 = .ok (.iload_n 2, 1) := by decide +kernel
theorem dX10_whichOf_48 : decode cX10_whichOf 48 = .ok (.iload_n 3, 1) := by decide +kernel
theorem dX10_whichOf_49 : decode cX10_whichOf 49 = .ok (.invokevirtual 197, 3) := by decide +kernel
theorem dX10_whichOf_52 : decode cX10_whichOf 52 = .ok (.ireturn, 1) := by decide +kernel
theorem dX10_whichOf_53 : decode cX10_whichOf 53 = .ok (.aload_n 0, 1) := by decide +kernel
theorem dX10_whichOf_54 : decode cX10_whichOf 54 = .ok (.bipush 10, 2) := by decide +kernel
theorem dX10_whichOf_56 : decode cX10_whichOf 56 = .ok (.iload_n 3, 1) := by decide +kernel
theorem dX10_whichOf_57 : decode cX10_whichOf 57 = .ok (.iload_n 1, 1) := by decide +kernel
theorem dX10_whichOf_58 : decode cX10_whichOf 58 = .ok (.iconst 1, 1) := by decide +kernel
theorem dX10_whichOf_59 : decode cX10_whichOf 59 = .ok (.if_icmp .ne 9, 3) := by decide +kernel
theorem dX10_whichOf_62 : decode cX10_whichOf 62 = .ok (.ldc2_w 103, 3) := by decide +kernel
theorem dX10_whichOf_65 : decode cX10_whichOf 65 = .ok (.goto 6, 3) := by decide +kernel
theorem dX10_whichOf_68 : decode cX10_whichOf 68 = .ok (.ldc2_w 97, 3) := by decide +kernel
theorem dX10_whichOf_71 : decode cX10_whichOf 71 = .ok (.lconst 1, 1) := by decide +kernel
theorem dX10_whichOf_72 : decode cX10_whichOf 72 = .ok (.invokevirtual 69, 3) := by decide +kernel
theorem dX10_whichOf_75 : decode cX10_whichOf 75 = .ok (.aload_n 0, 1) := by decide +kernel
theorem dX10_whichOf_76 : decode cX10_whichOf 76 = .ok (.bipush 8, 2) := by decide +kernel
theorem dX10_whichOf_78 : decode cX10_whichOf 78 = .ok (.bipush 10, 2) := by decide +kernel
theorem dX10_whichOf_80 : decode cX10_whichOf 80 = .ok (.invokevirtual 177, 3) := by decide +kernel
theorem dX10_whichOf_83 : decode cX10_whichOf 83 = .ok (.istore 4, 2) := by decide +kernel
theorem dX10_whichOf_85 : decode cX10_whichOf 85 = .ok (.aload_n 0, 1) := by decide +kernel
theorem dX10_whichOf_86 : decode cX10_whichOf 86 = .ok (.bipush 8, 2) := by decide +kernel
theorem dX10_whichOf_88 : decode cX10_whichOf 88 = .ok (.bipush 8, 2) := by decide +kernel
theorem dX10_whichOf_90 : decode cX10_whichOf 90 = .ok (.ldc2_w 190, 3) := by decide +kernel
theorem dX10_whichOf_93 : decode cX10_whichOf 93 = .ok (.invokevirtual 186, 3) := by decide +kernel
theorem dX10_whichOf_96 : decode cX10_whichOf 96 = .ok (.pop2, 1) := by decide +kernel
theorem dX10_whichOf_97 : decode cX10_whichOf 97 = .ok (.iload 4, 2) := by decide +kernel
theorem dX10_whichOf_99 : decode cX10_whichOf 99 = .ok (.ireturn, 1) := by decide +kernel
theorem dX10_which_0 : decode cX10_which 0 = .ok (.iload_n 1, 1) := by decide +kernel
theorem dX10_which_1 : decode cX10_which 1 = .ok (.invokestatic 94, 3) := by decide +kernel
theorem dX10_which_4 : decode cX10_which 4 = .ok (.ifCond .eq 17, 3) := by decide +kernel
theorem dX10_which_7 : decode cX10_which 7 = .ok (.iload_n 2, 1) := by decide +kernel
theorem dX10_which_8 : decode cX10_which 8 = .ok (.invokestatic 94, 3) := by decide +kernel
theorem dX10_which_11 : decode cX10_which 11 = .ok (.ifCond .eq 10, 3) := by decide +kernel
theorem dX10_which_14 : decode cX10_which 14 = .ok (.iload_n 3, 1) := by decide +kernel
theorem dX10_which_15 : decode cX10_which 15 = .ok (.invokestatic 94, 3) := by decide +kernel
theorem dX10_which_18 : decode cX10_which 18 = .ok (.ifCond .ne 5, 3) := by decide +kernel
theorem dX10_which_21 : decode cX10_which 21 = .ok (.iconst (-1), 1) := by decide +kernel
theorem dX10_which_22 : decode cX10_which 22 = .ok (.ireturn, 1) := by decide +kernel
theorem dX10_which_23 : decode cX10_which 23 = .ok (.aload_n 0, 1) := by decide +kernel
theorem dX10_which_24 : decode cX10_which 24 = .ok (.iload_n 1, 1) := by decide +kernel
theorem dX10_which_25 : decode cX10_which 25 = .ok (.iconst 1, 1) := by decide +kernel
theorem dX10_which_26 : decode cX10_which 26 = .ok (.invokevirtual 162, 3) := by decide +kernel
theorem dX10_which_29 : decode cX10_which 29 = .ok (.istore 4, 2) := by decide +kernel
theorem dX10_which_31 : decode cX10_which 31 = .ok (.iload 4, 2) := by decide +kernel
theorem dX10_which_33 : decode cX10_which 33 = .ok (.ifCond .ge 8, 3) := by decide +kernel
theorem dX10_which_36 : decode cX10_which 36 = .ok (.iload 4, 2) := by decide +kernel
theorem dX10_which_38 : decode cX10_which 38 = .ok (.goto 9, 3) := by decide +kernel
theorem dX10_which_41 : decode cX10_which 41 = .ok (.aload_n 0, 1) := by decide +kernel
theorem dX10_which_42 : decode cX10_which 42 = .ok (.iload_n 2, 1) := by decide +kernel
theorem dX10_which_43 : decode cX10_which 43 = .ok (.iconst 0, 1) := by decide +kernel
theorem dX10_which_44 : decode cX10_which 44 = .ok (.invokevirtual 162, 3) := by decide +kernel
theorem dX10_which_47 : decode cX10_which 47 = .ok (.istore 4, 2) := by decide +kernel
theorem dX10_which_49 : decode cX10_which 49 = .ok (.iload 4, 2) := by decide +kernel
theorem dX10_which_51 : decode cX10_which 51 = .ok (.ifCond .ge 6, 3) := by decide +kernel
theorem dX10_which_54 : decode cX10_which 54 = .ok (.iload 4, 2) := by decide +kernel
theorem dX10_which_56 : decode cX10_which 56 = .ok (.ireturn, 1) := by decide +kernel
theorem dX10_which_57 : decode cX10_which 57 = .ok (.aload_n 0, 1) := by decide +kernel
theorem dX10_which_58 : decode cX10_which 58 = .ok (.aload_n 0, 1) := by decide +kernel
theorem dX10_which_59 : decode cX10_which 59 = .ok (.getfield 13, 3) := by decide +kernel
theorem dX10_which_62 : decode cX10_which 62 = .ok (.iload_n 1, 1) := by decide +kernel
theorem dX10_which_63 : decode cX10_which 63 = .ok (.iaload, 1) := by decide +kernel
theorem dX10_which_64 : decode cX10_which 64 = .ok (.iconst 2, 1) := by decide +kernel
theorem dX10_which_65 : decode cX10_which 65 = .ok (.isub, 1) := by decide +kernel
theorem dX10_which_66 : decode cX10_which 66 = .ok (.aload_n 0, 1) := by decide +kernel
theorem dX10_which_67 : decode cX10_which 67 = .ok (.getfield 16, 3) := by decide +kernel
theorem dX10_which_70 : decode cX10_which 70 = .ok (.iload_n 1, 1) := by decide +kernel
theorem dX10_which_71 : decode cX10_which 71 = .ok (.iaload, 1) := by decide +kernel
theorem dX10_which_72 : decode cX10_which 72 = .ok (.iload_n 2, 1) := by decide +kernel
theorem dX10_which_73 : decode cX10_which 73 = .ok (.invokevirtual 200, 3) := by decide +kernel
theorem dX10_which_76 : decode cX10_which 76 = .ok (.istore 5, 2) := by decide +kernel
theorem dX10_which_78 : decode cX10_which 78 = .ok (.iload 5, 2) := by decide +kernel
theorem dX10_which_80 : decode cX10_which 80 = .ok (.ifCond .eq 11, 3) := by decide +kernel
theorem dX10_which_83 : decode cX10_which 83 = .ok (.aload_n 0, 1) := by decide +kernel
theorem dX10_which_84 : decode cX10_which 84 = .ok (.iload_n 3, 1) := by decide +kernel
theorem dX10_which_85 : decode cX10_which 85 = .ok (.bipush 8, 2) := by decide +kernel
theorem dX10_which_87 : decode cX10_which 87 = .ok (.invokevirtual 128, 3) := by decide +kernel
theorem dX10_which_90 : decode cX10_which 90 = .ok (.pop, 1) := by decide +kernel
theorem dX10_which_91 : decode cX10_which 91 = .ok (.iload 5, 2) := by decide +kernel
theorem dX10_which_93 : decode cX10_which 93 = .ok (.ifCond .eq 7, 3) := by decide +kernel
theorem dX10_which_96 : decode cX10_which 96 = .ok (.iconst 1, 1) := by decide +kernel
theorem dX10_which_97 : decode cX10_which 97 = .ok (.goto 4, 3) := by decide +kernel
theorem dX10_which_100 : decode cX10_which 100 = .ok (.iconst 0, 1) := by decide +kernel
theorem dX10_which_101 : decode cX10_which 101 = .ok (.ireturn, 1) := by decide +kernel
theorem dX10_stepRow_0 : decode cX10_stepRow 0 = .ok (.aload_n 0, 1) := by decide +kernel
theorem dX10_stepRow_1 : decode cX10_stepRow 1 = .ok (.bipush 8, 2) := by decide +kernel
theorem dX10_stepRow_3 : decode cX10_stepRow 3 = .ok (.lconst 0, 1) := by decide +kernel
theorem dX10_stepRow_4 : decode cX10_stepRow 4 = .ok (.invokevirtual 60, 3) := by decide +kernel
theorem dX10_stepRow_7 : decode cX10_stepRow 7 = .ok (.aload_n 0, 1) := by decide +kernel
theorem dX10_stepRow_8 : decode cX10_stepRow 8 = .ok (.bipush 9, 2) := by decide +kernel
theorem dX10_stepRow_10 : decode cX10_stepRow 10 = .ok (.lconst 1, 1) := by decide +kernel
theorem dX10_stepRow_11 : decode cX10_stepRow 11 = .ok (.invokevirtual 60, 3) := by decide +kernel
theorem dX10_stepRow_14 : decode cX10_stepRow 14 = .ok (.iconst 0, 1) := by decide +kernel
theorem dX10_stepRow_15 : decode cX10_stepRow 15 = .ok (.istore 6, 2) := by decide +kernel
theorem dX10_stepRow_17 : decode cX10_stepRow 17 = .ok (.iload 6, 2) := by decide +kernel
theorem dX10_stepRow_19 : decode cX10_stepRow 19 = .ok (.iload_n 1, 1) := by decide +kernel
theorem dX10_stepRow_20 : decode cX10_stepRow 20 = .ok (.if_icmp .ge 46, 3) := by decide +kernel
theorem dX10_stepRow_23 : decode cX10_stepRow 23 = .ok (.aload_n 0, 1) := by decide +kernel
theorem dX10_stepRow_24 : decode cX10_stepRow 24 = .ok (.bipush 10, 2) := by decide +kernel
theorem dX10_stepRow_26 : decode cX10_stepRow 26 = .ok (.bipush 9, 2) := by decide +kernel
theorem dX10_stepRow_28 : decode cX10_stepRow 28 = .ok (.lload_n 2, 1) := by decide +kernel
theorem dX10_stepRow_29 : decode cX10_stepRow 29 = .ok (.lload 4, 2) := by decide +kernel
theorem dX10_stepRow_31 : decode cX10_stepRow 31 = .ok (.invokevirtual 69, 3) := by decide +kernel
theorem dX10_stepRow_34 : decode cX10_stepRow 34 = .ok (.aload_n 0, 1) := by decide +kernel
theorem dX10_stepRow_35 : decode cX10_stepRow 35 = .ok (.bipush 10, 2) := by decide +kernel
theorem dX10_stepRow_37 : decode cX10_stepRow 37 = .ok (.bipush 10, 2) := by decide +kernel
theorem dX10_stepRow_39 : decode cX10_stepRow 39 = .ok (.bipush 8, 2) := by decide +kernel
theorem dX10_stepRow_41 : decode cX10_stepRow 41 = .ok (.invokevirtual 77, 3) := by decide +kernel
theorem dX10_stepRow_44 : decode cX10_stepRow 44 = .ok (.aload_n 0, 1) := by decide +kernel
theorem dX10_stepRow_45 : decode cX10_stepRow 45 = .ok (.bipush 8, 2) := by decide +kernel
theorem dX10_stepRow_47 : decode cX10_stepRow 47 = .ok (.bipush 9, 2) := by decide +kernel
theorem dX10_stepRow_49 : decode cX10_stepRow 49 = .ok (.invokevirtual 81, 3) := by decide +kernel
theorem dX10_stepRow_52 : decode cX10_stepRow 52 = .ok (.aload_n 0, 1) := by decide +kernel
theorem dX10_stepRow_53 : decode cX10_stepRow 53 = .ok (.bipush 9, 2) := by decide +kernel
theorem dX10_stepRow_55 : decode cX10_stepRow 55 = .ok (.bipush 10, 2) := by decide +kernel
theorem dX10_stepRow_57 : decode cX10_stepRow 57 = .ok (.invokevirtual 81, 3) := by decide +kernel
theorem dX10_stepRow_60 : decode cX10_stepRow 60 = .ok (.iinc 6 1, 3) := by decide +kernel
theorem dX10_stepRow_63 : decode cX10_stepRow 63 = .ok (.goto (-46), 3) := by decide +kernel
theorem dX10_stepRow_66 : decode cX10_stepRow 66 = .ok (.return_, 1) := by decide +kernel
theorem dX10_both_0 : decode cX10_both 0 = .ok (.iload_n 1, 1) := by decide +kernel
theorem dX10_both_1 : decode cX10_both 1 = .ok (.i2l, 1) := by decide +kernel
theorem dX10_both_2 : decode cX10_both 2 = .ok (.lconst 0, 1) := by decide +kernel
theorem dX10_both_3 : decode cX10_both 3 = .ok (.ldc2_w 204, 3) := by decide +kernel
theorem dX10_both_6 : decode cX10_both 6 = .ok (.invokestatic 49, 3) := by decide +kernel
theorem dX10_both_9 : decode cX10_both 9 = .ok (.ifCond .eq 10, 3) := by decide +kernel
theorem dX10_both_12 : decode cX10_both 12 = .ok (.iload_n 2, 1) := by decide +kernel
theorem dX10_both_13 : decode cX10_both 13 = .ok (.invokestatic 94, 3) := by decide +kernel
theorem dX10_both_16 : decode cX10_both 16 = .ok (.ifCond .ne 5, 3) := by decide +kernel
theorem dX10_both_19 : decode cX10_both 19 = .ok (.iconst (-1), 1) := by decide +kernel
theorem dX10_both_20 : decode cX10_both 20 = .ok (.ireturn, 1) := by decide +kernel
theorem dX10_both_21 : decode cX10_both 21 = .ok (.aload_n 0, 1) := by decide +kernel
theorem dX10_both_22 : decode cX10_both 22 = .ok (.iload_n 1, 1) := by decide +kernel
theorem dX10_both_23 : decode cX10_both 23 = .ok (.ldc2_w 206, 3) := by decide +kernel
theorem dX10_both_26 : decode cX10_both 26 = .ok (.ldc2_w 190, 3) := by decide +kernel
theorem dX10_both_29 : decode cX10_both 29 = .ok (.invokevirtual 208, 3) := by decide +kernel
theorem dX10_both_32 : decode cX10_both 32 = .ok (.aload_n 0, 1) := by decide +kernel
theorem dX10_both_33 : decode cX10_both 33 = .ok (.iload_n 2, 1) := by decide +kernel
theorem dX10_both_34 : decode cX10_both 34 = .ok (.bipush 8, 2) := by decide +kernel
theorem dX10_both_36 : decode cX10_both 36 = .ok (.invokevirtual 128, 3) := by decide +kernel
theorem dX10_both_39 : decode cX10_both 39 = .ok (.ireturn, 1) := by decide +kernel
theorem dX10_side_0 : decode cX10_side 0 = .ok (.iload_n 1, 1) := by decide +kernel
theorem dX10_side_1 : decode cX10_side 1 = .ok (.i2l, 1) := by decide +kernel
theorem dX10_side_2 : decode cX10_side 2 = .ok (.lconst 0, 1) := by decide +kernel
theorem dX10_side_3 : decode cX10_side 3 = .ok (.ldc2_w 204, 3) := by decide +kernel
theorem dX10_side_6 : decode cX10_side 6 = .ok (.invokestatic 49, 3) := by decide +kernel
theorem dX10_side_9 : decode cX10_side 9 = .ok (.ifCond .eq 20, 3) := by decide +kernel
theorem dX10_side_12 : decode cX10_side 12 = .ok (.iload_n 2, 1) := by decide +kernel
theorem dX10_side_13 : decode cX10_side 13 = .ok (.i2l, 1) := by decide +kernel
theorem dX10_side_14 : decode cX10_side 14 = .ok (.lconst 0, 1) := by decide +kernel
theorem dX10_side_15 : decode cX10_side 15 = .ok (.lconst 1, 1) := by decide +kernel
theorem dX10_side_16 : decode cX10_side 16 = .ok (.invokestatic 49, 3) := by decide +kernel
theorem dX10_side_19 : decode cX10_side 19 = .ok (.ifCond .eq 10, 3) := by decide +kernel
theorem dX10_side_22 : decode cX10_side 22 = .ok (.iload_n 3, 1) := by decide +kernel
theorem dX10_side_23 : decode cX10_side 23 = .ok (.invokestatic 94, 3) := by decide +kernel
