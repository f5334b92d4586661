theorem dX7_count_94 : decode cX7_count 94 = .ok (.lreturn, 1) := by decide +kernel
theorem dX7_addBraid_0 : decode cX7_addBraid 0 = .ok (.iload_n 1, 1) := by decide +kernel
theorem dX7_addBraid_1 : decode cX7_addBraid 1 = .ok (.invokestatic 106, 3) := by decide +kernel
theorem dX7_addBraid_4 : decode cX7_addBraid 4 = .ok (.ifCond .eq 10, 3) := by decide +kernel
theorem dX7_addBraid_7 : decode cX7_addBraid 7 = .ok (.iload_n 2, 1) := by decide +kernel
theorem dX7_addBraid_8 : decode cX7_addBraid 8 = .ok (.invokestatic 106, 3) := by decide +kernel
theorem dX7_addBraid_11 : decode cX7_addBraid 11 = .ok (.ifCond .ne 6, 3) := by decide +kernel
theorem dX7_addBraid_14 : decode cX7_addBraid 14 = .ok (.bipush (-2), 2) := by decide +kernel
theorem dX7_addBraid_16 : decode cX7_addBraid 16 = .ok (.ireturn, 1) := by decide +kernel
theorem dX7_addBraid_17 : decode cX7_addBraid 17 = .ok (.iload_n 1, 1) := by decide +kernel
theorem dX7_addBraid_18 : decode cX7_addBraid 18 = .ok (.iload_n 2, 1) := by decide +kernel
theorem dX7_addBraid_19 : decode cX7_addBraid 19 = .ok (.if_icmp .ne 6, 3) := by decide +kernel
theorem dX7_addBraid_22 : decode cX7_addBraid 22 = .ok (.bipush (-3), 2) := by decide +kernel
theorem dX7_addBraid_24 : decode cX7_addBraid 24 = .ok (.ireturn, 1) := by decide +kernel
theorem dX7_addBraid_25 : decode cX7_addBraid 25 = .ok (.aload_n 0, 1) := by decide +kernel
theorem dX7_addBraid_26 : decode cX7_addBraid 26 = .ok (.getfield 12, 3) := by decide +kernel
theorem dX7_addBraid_29 : decode cX7_addBraid 29 = .ok (.iload_n 2, 1) := by decide +kernel
theorem dX7_addBraid_30 : decode cX7_addBraid 30 = .ok (.invokevirtual 114, 3) := by decide +kernel
theorem dX7_addBraid_33 : decode cX7_addBraid 33 = .ok (.aload_n 0, 1) := by decide +kernel
theorem dX7_addBraid_34 : decode cX7_addBraid 34 = .ok (.getfield 12, 3) := by decide +kernel
theorem dX7_addBraid_37 : decode cX7_addBraid 37 = .ok (.iload_n 1, 1) := by decide +kernel
theorem dX7_addBraid_38 : decode cX7_addBraid 38 = .ok (.invokevirtual 114, 3) := by decide +kernel
theorem dX7_addBraid_41 : decode cX7_addBraid 41 = .ok (.invokevirtual 132, 3) := by decide +kernel
theorem dX7_addBraid_44 : decode cX7_addBraid 44 = .ok (.ifCond .ne 6, 3) := by decide +kernel
theorem dX7_addBraid_47 : decode cX7_addBraid 47 = .ok (.bipush (-5), 2) := by decide +kernel
theorem dX7_addBraid_49 : decode cX7_addBraid 49 = .ok (.ireturn, 1) := by decide +kernel
theorem dX7_addBraid_50 : decode cX7_addBraid 50 = .ok (.aload_n 0, 1) := by decide +kernel
theorem dX7_addBraid_51 : decode cX7_addBraid 51 = .ok (.getfield 19, 3) := by decide +kernel
theorem dX7_addBraid_54 : decode cX7_addBraid 54 = .ok (.aload_n 0, 1) := by decide +kernel
theorem dX7_addBraid_55 : decode cX7_addBraid 55 = .ok (.getfield 12, 3) := by decide +kernel
theorem dX7_addBraid_58 : decode cX7_addBraid 58 = .ok (.invokevirtual 44, 3) := by decide +kernel
theorem dX7_addBraid_61 : decode cX7_addBraid 61 = .ok (.aload_n 0, 1) := by decide +kernel
theorem dX7_addBraid_62 : decode cX7_addBraid 62 = .ok (.getfield 12, 3) := by decide +kernel
theorem dX7_addBraid_65 : decode cX7_addBraid 65 = .ok (.iload_n 2, 1) := by decide +kernel
theorem dX7_addBraid_66 : decode cX7_addBraid 66 = .ok (.invokevirtual 114, 3) := by decide +kernel
theorem dX7_addBraid_69 : decode cX7_addBraid 69 = .ok (.aload_n 0, 1) := by decide +kernel
theorem dX7_addBraid_70 : decode cX7_addBraid 70 = .ok (.getfield 12, 3) := by decide +kernel
theorem dX7_addBraid_73 : decode cX7_addBraid 73 = .ok (.getfield 48, 3) := by decide +kernel
theorem dX7_addBraid_76 : decode cX7_addBraid 76 = .ok (.aload_n 0, 1) := by decide +kernel
theorem dX7_addBraid_77 : decode cX7_addBraid 77 = .ok (.getfield 12, 3) := by decide +kernel
theorem dX7_addBraid_80 : decode cX7_addBraid 80 = .ok (.iload_n 1, 1) := by decide +kernel
theorem dX7_addBraid_81 : decode cX7_addBraid 81 = .ok (.invokevirtual 114, 3) := by decide +kernel
theorem dX7_addBraid_84 : decode cX7_addBraid 84 = .ok (.invokevirtual 136, 3) := by decide +kernel
theorem dX7_addBraid_87 : decode cX7_addBraid 87 = .ok (.ireturn, 1) := by decide +kernel
theorem dX7_clear_0 : decode cX7_clear 0 = .ok (.iload_n 1, 1) := by decide +kernel
theorem dX7_clear_1 : decode cX7_clear 1 = .ok (.invokestatic 106, 3) := by decide +kernel
theorem dX7_clear_4 : decode cX7_clear 4 = .ok (.ifCond .ne 7, 3) := by decide +kernel
theorem dX7_clear_7 : decode cX7_clear 7 = .ok (.ldc2_w 109, 3) := by decide +kernel
theorem dX7_clear_10 : decode cX7_clear 10 = .ok (.lreturn, 1) := by decide +kernel
theorem dX7_clear_11 : decode cX7_clear 11 = .ok (.aload_n 0, 1) := by decide +kernel
theorem dX7_clear_12 : decode cX7_clear 12 = .ok (.getfield 19, 3) := by decide +kernel
theorem dX7_clear_15 : decode cX7_clear 15 = .ok (.aload_n 0, 1) := by decide +kernel
theorem dX7_clear_16 : decode cX7_clear 16 = .ok (.getfield 12, 3) := by decide +kernel
theorem dX7_clear_19 : decode cX7_clear 19 = .ok (.invokevirtual 44, 3) := by decide +kernel
theorem dX7_clear_22 : decode cX7_clear 22 = .ok (.aload_n 0, 1) := by decide +kernel
theorem dX7_clear_23 : decode cX7_clear 23 = .ok (.getfield 12, 3) := by decide +kernel
theorem dX7_clear_26 : decode cX7_clear 26 = .ok (.iload_n 1, 1) := by decide +kernel
theorem dX7_clear_27 : decode cX7_clear 27 = .ok (.invokevirtual 114, 3) := by decide +kernel
theorem dX7_clear_30 : decode cX7_clear 30 = .ok (.invokevirtual 140, 3) := by decide +kernel
theorem dX7_clear_33 : decode cX7_clear 33 = .ok (.lstore_n 2, 1) := by decide +kernel
theorem dX7_clear_34 : decode cX7_clear 34 = .ok (.aload_n 0, 1) := by decide +kernel
theorem dX7_clear_35 : decode cX7_clear 35 = .ok (.getfield 12, 3) := by decide +kernel
theorem dX7_clear_38 : decode cX7_clear 38 = .ok (.iload_n 1, 1) := by decide +kernel
theorem dX7_clear_39 : decode cX7_clear 39 = .ok (.invokevirtual 114, 3) := by decide +kernel
theorem dX7_clear_42 : decode cX7_clear 42 = .ok (.invokevirtual 144, 3) := by decide +kernel
theorem dX7_clear_45 : decode cX7_clear 45 = .ok (.lload_n 2, 1) := by decide +kernel
theorem dX7_clear_46 : decode cX7_clear 46 = .ok (.lreturn, 1) := by decide +kernel
theorem dX7_truth_0 : decode cX7_truth 0 = .ok (.iload_n 1, 1) := by decide +kernel
theorem dX7_truth_1 : decode cX7_truth 1 = .ok (.invokestatic 106, 3) := by decide +kernel
theorem dX7_truth_4 : decode cX7_truth 4 = .ok (.ifCond .eq 27, 3) := by decide +kernel
theorem dX7_truth_7 : decode cX7_truth 7 = .ok (.aload_n 0, 1) := by decide +kernel
theorem dX7_truth_8 : decode cX7_truth 8 = .ok (.iload_n 2, 1) := by decide +kernel
theorem dX7_truth_9 : decode cX7_truth 9 = .ok (.invokevirtual 89, 3) := by decide +kernel
theorem dX7_truth_12 : decode cX7_truth 12 = .ok (.ifCond .eq 19, 3) := by decide +kernel
theorem dX7_truth_15 : decode cX7_truth 15 = .ok (.aload_n 0, 1) := by decide +kernel
theorem dX7_truth_16 : decode cX7_truth 16 = .ok (.getfield 12, 3) := by decide +kernel
theorem dX7_truth_19 : decode cX7_truth 19 = .ok (.iload_n 1, 1) := by decide +kernel
theorem dX7_truth_20 : decode cX7_truth 20 = .ok (.invokevirtual 114, 3) := by decide +kernel
theorem dX7_truth_23 : decode cX7_truth 23 = .ok (.getfield 118, 3) := by decide +kernel
theorem dX7_truth_26 : decode cX7_truth 26 = .ok (.iload_n 2, 1) := by decide +kernel
theorem dX7_truth_27 : decode cX7_truth 27 = .ok (.laload, 1) := by decide +kernel
theorem dX7_truth_28 : decode cX7_truth 28 = .ok (.goto 6, 3) := by decide +kernel
theorem dX7_truth_31 : decode cX7_truth 31 = .ok (.ldc2_w 109, 3) := by decide +kernel
theorem dX7_truth_34 : decode cX7_truth 34 = .ok (.lreturn, 1) := by decide +kernel
theorem dX7_rest_0 : decode cX7_rest 0 = .ok (.iload_n 1, 1) := by decide +kernel
theorem dX7_rest_1 : decode cX7_rest 1 = .ok (.invokestatic 106, 3) := by decide +kernel
theorem dX7_rest_4 : decode cX7_rest 4 = .ok (.ifCond .eq 27, 3) := by decide +kernel
theorem dX7_rest_7 : decode cX7_rest 7 = .ok (.aload_n 0, 1) := by decide +kernel
theorem dX7_rest_8 : decode cX7_rest 8 = .ok (.iload_n 2, 1) := by decide +kernel
theorem dX7_rest_9 : decode cX7_rest 9 = .ok (.invokevirtual 100, 3) := by decide +kernel
theorem dX7_rest_12 : decode cX7_rest 12 = .ok (.ifCond .eq 19, 3) := by decide +kernel
theorem dX7_rest_15 : decode cX7_rest 15 = .ok (.aload_n 0, 1) := by decide +kernel
theorem dX7_rest_16 : decode cX7_rest 16 = .ok (.getfield 12, 3) := by decide +kernel
theorem dX7_rest_19 : decode cX7_rest 19 = .ok (.iload_n 1, 1) := by decide +kernel
theorem dX7_rest_20 : decode cX7_rest 20 = .ok (.invokevirtual 114, 3) := by decide +kernel
theorem dX7_rest_23 : decode cX7_rest 23 = .ok (.getfield 145, 3) := by decide +kernel
theorem dX7_rest_26 : decode cX7_rest 26 = .ok (.iload_n 2, 1) := by decide +kernel
theorem dX7_rest_27 : decode cX7_rest 27 = .ok (.iaload, 1) := by decide +kernel
theorem dX7_rest_28 : decode cX7_rest 28 = .ok (.goto 5, 3) := by decide +kernel
theorem dX7_rest_31 : decode cX7_rest 31 = .ok (.bipush (-2), 2) := by decide +kernel
theorem dX7_rest_33 : decode cX7_rest 33 = .ok (.ireturn, 1) := by decide +kernel
theorem dX7_isMarked_0 : decode cX7_isMarked 0 = .ok (.iload_n 1, 1) := by decide +kernel
theorem dX7_isMarked_1 : decode cX7_isMarked 1 = .ok (.invokestatic 106, 3) := by decide +kernel
theorem dX7_isMarked_4 : decode cX7_isMarked 4 = .ok (.ifCond .eq 27, 3) := by decide +kernel
theorem dX7_isMarked_7 : decode cX7_isMarked 7 = .ok (.aload_n 0, 1) := by decide +kernel
theorem dX7_isMarked_8 : decode cX7_isMarked 8 = .ok (.iload_n 2, 1) := by decide +kernel
theorem dX7_isMarked_9 : decode cX7_isMarked 9 = .ok (.invokevirtual 100, 3) := by decide +kernel
theorem dX7_isMarked_12 : decode cX7_isMarked 12 = .ok (.ifCond .eq 19, 3) := by decide +kernel
theorem dX7_isMarked_15 : decode cX7_isMarked 15 = .ok (.aload_n 0, 1) := by decide +kernel
theorem dX7_isMarked_16 : decode cX7_isMarked 16 = .ok (.getfield 12, 3) := by decide +kernel
theorem dX7_isMarked_19 : decode cX7_isMarked 19 = .ok (.iload_n 1, 1) := by decide +kernel
theorem dX7_isMarked_20 : decode cX7_isMarked 20 = .ok (.invokevirtual 114, 3) := by decide +kernel
theorem dX7_isMarked_23 : decode cX7_isMarked 23 = .ok (.getfield 148, 3) := by decide +kernel
theorem dX7_isMarked_26 : decode cX7_isMarked 26 = .ok (.iload_n 2, 1) := by decide +kernel
theorem dX7_isMarked_27 : decode cX7_isMarked 27 = .ok (.iaload, 1) := by decide +kernel
theorem dX7_isMarked_28 : decode cX7_isMarked 28 = .ok (.goto 5, 3) := by decide +kernel
theorem dX7_isMarked_31 : decode cX7_isMarked 31 = .ok (.bipush (-2), 2) := by decide +kernel
theorem dX7_isMarked_33 : decode cX7_isMarked 33 = .ok (.ireturn, 1) := by decide +kernel
theorem dX7_above_0 : decode cX7_above 0 = .ok (.iload_n 1, 1) := by decide +kernel
theorem dX7_above_1 : decode cX7_above 1 = .ok (.invokestatic 106, 3) := by decide +kernel
theorem dX7_above_4 : decode cX7_above 4 = .ok (.ifCond .eq 23, 3) := by decide +kernel
theorem dX7_above_7 : decode cX7_above 7 = .ok (.iconst 0, 1) := by decide +kernel
theorem dX7_above_8 : decode cX7_above 8 = .ok (.iload_n 2, 1) := by decide +kernel
theorem dX7_above_9 : decode cX7_above 9 = .ok (.aload_n 0, 1) := by decide +kernel
theorem dX7_above_10 : decode cX7_above 10 = .ok (.getfield 12, 3) := by decide +kernel
theorem dX7_above_13 : decode cX7_above 13 = .ok (.getfield 48, 3) := by decide +kernel
theorem dX7_above_16 : decode cX7_above 16 = .ok (.getfield 67, 3) := by decide +kernel
theorem dX7_above_19 : decode cX7_above 19 = .ok (.iconst 1, 1) := by decide +kernel
theorem dX7_above_20 : decode cX7_above 20 = .ok (.isub, 1) := by decide +kernel
theorem dX7_above_21 : decode cX7_above 21 = .ok (.invokestatic 40, 3) := by decide +kernel
theorem dX7_above_24 : decode cX7_above 24 = .ok (.ifCond .ne 7, 3) := by decide +kernel
theorem dX7_above_27 : decode cX7_above 27 = .ok (.ldc2_w 109, 3) := by decide +kernel
theorem dX7_above_30 : decode cX7_above 30 = .ok (.lreturn, 1) := by decide +kernel
theorem dX7_above_31 : decode cX7_above 31 = .ok (.aload_n 0, 1) := by decide +kernel
theorem dX7_above_32 : decode cX7_above 32 = .ok (.getfield 12, 3) := by decide +kernel
theorem dX7_above_35 : decode cX7_above 35 = .ok (.iload_n 1, 1) := by decide +kernel
theorem dX7_above_36 : decode cX7_above 36 = .ok (.invokevirtual 114, 3) := by decide +kernel
theorem dX7_above_39 : decode cX7_above 39 = .ok (.getfield 151, 3) := by decide +kernel
theorem dX7_above_42 : decode cX7_above 42 = .ok (.iload_n 2, 1) := by decide +kernel
theorem dX7_above_43 : decode cX7_above 43 = .ok (.laload, 1) := by decide +kernel
theorem dX7_above_44 : decode cX7_above 44 = .ok (.lreturn, 1) := by decide +kernel
theorem dX7_overflow_0 : decode cX7_overflow 0 = .ok (.iload_n 1, 1) := by decide +kernel
theorem dX7_overflow_1 : decode cX7_overflow 1 = .ok (.invokestatic 106, 3) := by decide +kernel
theorem dX7_overflow_4 : decode cX7_overflow 4 = .ok (.ifCond .eq 11, 3) := by decide +kernel
theorem dX7_overflow_7 : decode cX7_overflow 7 = .ok (.aload_n 0, 1) := by decide +kernel
theorem dX7_overflow_8 : decode cX7_overflow 8 = .ok (.iload_n 2, 1) := by decide +kernel
theorem dX7_overflow_9 : decode cX7_overflow 9 = .ok (.invokevirtual 100, 3) := by decide +kernel
theorem dX7_overflow_12 : decode cX7_overflow 12 = .ok (.ifCond .ne 7, 3) := by decide +kernel
theorem dX7_overflow_15 : decode cX7_overflow 15 = .ok (.ldc2_w 109, 3) := by decide +kernel
theorem dX7_overflow_18 : decode cX7_overflow 18 = .ok (.lreturn, 1) := by decide +kernel
theorem dX7_overflow_19 : decode cX7_overflow 19 = .ok (.aload_n 0, 1) := by decide +kernel
theorem dX7_overflow_20 : decode cX7_overflow 20 = .ok (.getfield 33, 3) := by decide +kernel
theorem dX7_overflow_23 : decode cX7_overflow 23 = .ok (.aload_n 0, 1) := by decide +kernel
theorem dX7_overflow_24 : decode cX7_overflow 24 = .ok (.getfield 12, 3) := by decide +kernel
theorem dX7_overflow_27 : decode cX7_overflow 27 = .ok (.getfield 48, 3) := by decide +kernel
theorem dX7_overflow_30 : decode cX7_overflow 30 = .ok (.aload_n 0, 1) := by decide +kernel
theorem dX7_overflow_31 : decode cX7_overflow 31 = .ok (.getfield 12, 3) := by decide +kernel
theorem dX7_overflow_34 : decode cX7_overflow 34 = .ok (.iload_n 1, 1) := by decide +kernel
theorem dX7_overflow_35 : decode cX7_overflow 35 = .ok (.invokevirtual 114, 3) := by decide +kernel
theorem dX7_overflow_38 : decode cX7_overflow 38 = .ok (.invokevirtual 154, 3) := by decide +kernel
theorem dX7_overflow_41 : decode cX7_overflow 41 = .ok (.aload_n 0, 1) := by decide +kernel
theorem dX7_overflow_42 : decode cX7_overflow 42 = .ok (.getfield 33, 3) := by decide +kernel
theorem dX7_overflow_45 : decode cX7_overflow 45 = .ok (.getfield 158, 3) := by decide +kernel
theorem dX7_overflow_48 : decode cX7_overflow 48 = .ok (.iload_n 2, 1) := by decide +kernel
theorem dX7_overflow_49 : decode cX7_overflow 49 = .ok (.iload_n 3, 1) := by decide +kernel
theorem dX7_overflow_50 : decode cX7_overflow 50 = .ok (.invokevirtual 162, 3) := by decide +kernel
theorem dX7_overflow_53 : decode cX7_overflow 53 = .ok (.lreturn, 1) := by decide +kernel
theorem dX7_bound_0 : decode cX7_bound 0 = .ok (.aload_n 0, 1) := by decide +kernel
theorem dX7_bound_1 : decode cX7_bound 1 = .ok (.iload_n 1, 1) := by decide +kernel
theorem dX7_bound_2 : decode cX7_bound 2 = .ok (.iload_n 2, 1) := by decide +kernel
theorem dX7_bound_3 : decode cX7_bound 3 = .ok (.iload_n 3, 1) := by decide +kernel
theorem dX7_bound_4 : decode cX7_bound 4 = .ok (.aload_n 0, 1) := by decide +kernel
theorem dX7_bound_5 : decode cX7_bound 5 = .ok (.getfield 12, 3) := by decide +kernel
theorem dX7_bound_8 : decode cX7_bound 8 = .ok (.getfield 48, 3) := by decide +kernel
theorem dX7_bound_11 : decode cX7_bound 11 = .ok (.getfield 73, 3) := by decide +kernel
theorem dX7_bound_14 : decode cX7_bound 14 = .ok (.invokevirtual 168, 3) := by decide +kernel
theorem dX7_bound_17 : decode cX7_bound 17 = .ok (.lreturn, 1) := by decide +kernel
theorem dX7_boundAfter_0 : decode cX7_boundAfter 0 = .ok (.iload_n 1, 1) := by decide +kernel
theorem dX7_boundAfter_1 : decode cX7_boundAfter 1 = .ok (.invokestatic 106, 3) := by decide +kernel
theorem dX7_boundAfter_4 : decode cX7_boundAfter 4 = .ok (.ifCond .eq 11, 3) := by decide +kernel
theorem dX7_boundAfter_7 : decode cX7_boundAfter 7 = .ok (.aload_n 0, 1) := by decide +kernel
theorem dX7_boundAfter_8 : decode cX7_boundAfter 8 = .ok (.iload_n 2, 1) := by decide +kernel
theorem dX7_boundAfter_9 : decode cX7_boundAfter 9 = .ok (.invokevirtual 89, 3) := by decide +kernel
theorem dX7_boundAfter_12 : decode cX7_boundAfter 12 = .ok (.ifCond .ne 7, 3) := by decide +kernel
theorem dX7_boundAfter_15 : decode cX7_boundAfter 15 = .ok (.ldc2_w 109, 3) := by decide +kernel
theorem dX7_boundAfter_18 : decode cX7_boundAfter 18 = .ok (.lreturn, 1) := by decide +kernel
theorem dX7_boundAfter_19 : decode cX7_boundAfter 19 = .ok (.iconst 0, 1) := by decide +kernel
theorem dX7_boundAfter_20 : decode cX7_boundAfter 20 = .ok (.iload 4, 2) := by decide +kernel
theorem dX7_boundAfter_22 : decode cX7_boundAfter 22 = .ok (.bipush 60, 2) := by decide +kernel
theorem dX7_boundAfter_24 : decode cX7_boundAfter 24 = .ok (.invokestatic 40, 3) := by decide +kernel
theorem dX7_boundAfter_27 : decode cX7_boundAfter 27 = .ok (.ifCond .ne 7, 3) := by decide +kernel
theorem dX7_boundAfter_30 : decode cX7_boundAfter 30 = .ok (.ldc2_w 112, 3) := by decide +kernel
theorem dX7_boundAfter_33 : decode cX7_boundAfter 33 = .ok (.lreturn, 1) := by decide +kernel
theorem dX7_boundAfter_34 : decode cX7_boundAfter 34 = .ok (.aload_n 0, 1) := by decide +kernel
theorem dX7_boundAfter_35 : decode cX7_boundAfter 35 = .ok (.getfield 33, 3) := by decide +kernel
theorem dX7_boundAfter_38 : decode cX7_boundAfter 38 = .ok (.aload_n 0, 1) := by decide +kernel
theorem dX7_boundAfter_39 : decode cX7_boundAfter 39 = .ok (.getfield 12, 3) := by decide +kernel
theorem dX7_boundAfter_42 : decode cX7_boundAfter 42 = .ok (.aload_n 0, 1) := by decide +kernel
theorem dX7_boundAfter_43 : decode cX7_boundAfter 43 = .ok (.getfield 12, 3) := by decide +kernel
theorem dX7_boundAfter_46 : decode cX7_boundAfter 46 = .ok (.iload_n 1, 1) := by decide +kernel
theorem dX7_boundAfter_47 : decode cX7_boundAfter 47 = .ok (.invokevirtual 114, 3) := by decide +kernel
theorem dX7_boundAfter_50 : decode cX7_boundAfter 50 = .ok (.iload 4, 2) := by decide +kernel
theorem dX7_boundAfter_52 : decode cX7_boundAfter 52 = .ok (.invokevirtual 172, 3) := by decide +kernel
theorem dX7_boundAfter_55 : decode cX7_boundAfter 55 = .ok (.pop, 1) := by decide +kernel
theorem dX7_boundAfter_56 : decode cX7_boundAfter 56 = .ok (.aload_n 0, 1) := by decide +kernel
theorem dX7_boundAfter_57 : decode cX7_boundAfter 57 = .ok (.getfield 33, 3) := by decide +kernel
theorem dX7_boundAfter_60 : decode cX7_boundAfter 60 = .ok (.getfield 176, 3) := by decide +kernel
theorem dX7_boundAfter_63 : decode cX7_boundAfter 63 = .ok (.iload_n 2, 1) := by decide +kernel
theorem dX7_boundAfter_64 : decode cX7_boundAfter 64 = .ok (.iload_n 3, 1) := by decide +kernel
theorem dX7_boundAfter_65 : decode cX7_boundAfter 65 = .ok (.invokevirtual 162, 3) := by decide +kernel
theorem dX7_boundAfter_68 : decode cX7_boundAfter 68 = .ok (.lreturn, 1) := by decide +kernel
theorem dX7_certain_0 : decode cX7_certain 0 = .ok (.iload_n 1, 1) := by decide +kernel
theorem dX7_certain_1 : decode cX7_certain 1 = .ok (.invokestatic 106, 3) := by decide +kernel
theorem dX7_certain_4 : decode cX7_certain 4 = .ok (.ifCond .ne 6, 3) := by decide +kernel
theorem dX7_certain_7 : decode cX7_certain 7 = .ok (.bipush (-2), 2) := by decide +kernel
theorem dX7_certain_9 : decode cX7_certain 9 = .ok (.ireturn, 1) := by decide +kernel
theorem dX7_certain_10 : decode cX7_certain 10 = .ok (.aload_n 0, 1) := by decide +kernel
theorem dX7_certain_11 : decode cX7_certain 11 = .ok (.getfield 33, 3) := by decide +kernel
theorem dX7_certain_14 : decode cX7_certain 14 = .ok (.aload_n 0, 1) := by decide +kernel
theorem dX7_certain_15 : decode cX7_certain 15 = .ok (.getfield 12, 3) := by decide +kernel
theorem dX7_certain_18 : decode cX7_certain 18 = .ok (.aload_n 0, 1) := by decide +kernel
theorem dX7_certain_19 : decode cX7_certain 19 = .ok (.getfield 12, 3) := by decide +kernel
theorem dX7_certain_22 : decode cX7_certain 22 = .ok (.iload_n 1, 1) := by decide +kernel
theorem dX7_certain_23 : decode cX7_certain 23 = .ok (.invokevirtual 114, 3) := by decide +kernel
theorem dX7_certain_26 : decode cX7_certain 26 = .ok (.aload_n 0, 1) := by decide +kernel
theorem dX7_certain_27 : decode cX7_certain 27 = .ok (.getfield 12, 3) := by decide +kernel
theorem dX7_certain_30 : decode cX7_certain 30 = .ok (.getfield 48, 3) := by decide +kernel
theorem dX7_certain_33 : decode cX7_certain 33 = .ok (.getfield 73, 3) := by decide +kernel
theorem dX7_certain_36 : decode cX7_certain 36 = .ok (.invokevirtual 172, 3) := by decide +kernel
theorem dX7_certain_39 : decode cX7_certain 39 = .ok (.pop, 1) := by decide +kernel
theorem dX7_certain_40 : decode cX7_certain 40 = .ok (.aload_n 0, 1) := by decide +kernel
theorem dX7_certain_41 : decode cX7_certain 41 = .ok (.getfield 33, 3) := by decide +kernel
theorem dX7_certain_44 : decode cX7_certain 44 = .ok (.getfield 176, 3) := by decide +kernel
theorem dX7_certain_47 : decode cX7_certain 47 = .ok (.invokevirtual 179, 3) := by decide +kernel
theorem dX7_certain_50 : decode cX7_certain 50 = .ok (.ireturn, 1) := by decide +kernel
theorem dX7_certainOverflows_0 : decode cX7_certainOverflows 0 = .ok (.iload_n 1, 1) := by decide +kernel
theorem dX7_certainOverflows_1 : decode cX7_certainOverflows 1 = .ok (.invokestatic 106, 3) := by decide +kernel
theorem dX7_certainOverflows_4 : decode cX7_certainOverflows 4 = .ok (.ifCond .ne 6, 3) := by decide +kernel
theorem dX7_certainOverflows_7 : decode cX7_certainOverflows 7 = .ok (.bipush (-2), 2) := by decide +kernel
theorem dX7_certainOverflows_9 : decode cX7_certainOverflows 9 = .ok (.ireturn, 1) := by decide +kernel
theorem dX7_certainOverflows_10 : decode cX7_certainOverflows 10 = .ok (.aload_n 0, 1) := by decide +kernel
theorem dX7_certainOverflows_11 : decode cX7_certainOverflows 11 = .ok (.getfield 33, 3) := by decide +kernel
theorem dX7_certainOverflows_14 : decode cX7_certainOverflows 14 = .ok (.aload_n 0, 1) := by decide +kernel
theorem dX7_certainOverflows_15 : decode cX7_certainOverflows 15 = .ok (.getfield 12, 3) := by decide +kernel
theorem dX7_certainOverflows_18 : decode cX7_certainOverflows 18 = .ok (.getfield 48, 3) := by decide +kernel
theorem dX7_certainOverflows_21 : decode cX7_certainOverflows 21 = .ok (.aload_n 0, 1) := by decide +kernel
theorem dX7_certainOverflows_22 : decode cX7_certainOverflows 22 = .ok (.getfield 12, 3) := by decide +kernel
theorem dX7_certainOverflows_25 : decode cX7_certainOverflows 25 = .ok (.iload_n 1, 1) := by decide +kernel
theorem dX7_certainOverflows_26 : decode cX7_certainOverflows 26 = .ok (.invokevirtual 114, 3) := by decide +kernel
theorem dX7_certainOverflows_29 : decode cX7_certainOverflows 29 = .ok (.invokevirtual 154, 3) := by decide +kernel
theorem dX7_certainOverflows_32 : decode cX7_certainOverflows 32 = .ok (.aload_n 0, 1) := by decide +kernel
theorem dX7_certainOverflows_33 : decode cX7_certainOverflows 33 = .ok (.getfield 33, 3) := by decide +kernel
theorem dX7_certainOverflows_36 : decode cX7_certainOverflows 36 = .ok (.getfield 158, 3) := by decide +kernel
theorem dX7_certainOverflows_39 : decode cX7_certainOverflows 39 = .ok (.invokevirtual 179, 3) := by decide +kernel
theorem dX7_certainOverflows_42 : decode cX7_certainOverflows 42 = .ok (.ireturn, 1) := by decide +kernel
theorem dX7_lastRound_0 : decode cX7_lastRound 0 = .ok (.iload_n 1, 1) := by decide +kernel
theorem dX7_lastRound_1 : decode cX7_lastRound 1 = .ok (.invokestatic 106, 3) := by decide +kernel
theorem dX7_lastRound_4 : decode cX7_lastRound 4 = .ok (.ifCond .eq 35, 3) := by decide +kernel
theorem dX7_lastRound_7 : decode cX7_lastRound 7 = .ok (.aload_n 0, 1) := by decide +kernel
theorem dX7_lastRound_8 : decode cX7_lastRound 8 = .ok (.getfield 33, 3) := by decide +kernel
theorem dX7_lastRound_11 : decode cX7_lastRound 11 = .ok (.aload_n 0, 1) := by decide +kernel
theorem dX7_lastRound_12 : decode cX7_lastRound 12 = .ok (.getfield 12, 3) := by decide +kernel
theorem dX7_lastRound_15 : decode cX7_lastRound 15 = .ok (.aload_n 0, 1) := by decide +kernel
theorem dX7_lastRound_16 : decode cX7_lastRound 16 = .ok (.getfield 12, 3) := by decide +kernel
theorem dX7_lastRound_19 : decode cX7_lastRound 19 = .ok (.iload_n 1, 1) := by decide +kernel
theorem dX7_lastRound_20 : decode cX7_lastRound 20 = .ok (.invokevirtual 114, 3) := by decide +kernel
theorem dX7_lastRound_23 : decode cX7_lastRound 23 = .ok (.aload_n 0, 1) := by decide +kernel
theorem dX7_lastRound_24 : decode cX7_lastRound 24 = .ok (.getfield 12, 3) := by decide +kernel
theorem dX7_lastRound_27 : decode cX7_lastRound 27 = .ok (.getfield 48, 3) := by decide +kernel
theorem dX7_lastRound_30 : decode cX7_lastRound 30 = .ok (.getfield 73, 3) := by decide +kernel
theorem dX7_lastRound_33 : decode cX7_lastRound 33 = .ok (.invokevirtual 172, 3) := by decide +kernel
theorem dX7_lastRound_36 : decode cX7_lastRound 36 = .ok (.goto 5, 3) := by decide +kernel
theorem dX7_lastRound_39 : decode cX7_lastRound 39 = .ok (.bipush (-2), 2) := by decide +kernel
theorem dX7_lastRound_41 : decode cX7_lastRound 41 = .ok (.ireturn, 1) := by decide +kernel
theorem dX7_total_0 : decode cX7_total 0 = .ok (.iload_n 1, 1) := by decide +kernel
theorem dX7_total_1 : decode cX7_total 1 = .ok (.invokestatic 106, 3) := by decide +kernel
theorem dX7_total_4 : decode cX7_total 4 = .ok (.ifCond .ne 7, 3) := by decide +kernel
theorem dX7_total_7 : decode cX7_total 7 = .ok (.ldc2_w 109, 3) := by decide +kernel
theorem dX7_total_10 : decode cX7_total 10 = .ok (.lreturn, 1) := by decide +kernel
theorem dX7_total_11 : decode cX7_total 11 = .ok (.iconst 0, 1) := by decide +kernel
theorem dX7_total_12 : decode cX7_total 12 = .ok (.iload_n 2, 1) := by decide +kernel
theorem dX7_total_13 : decode cX7_total 13 = .ok (.iconst 3, 1) := by decide +kernel
theorem dX7_total_14 : decode cX7_total 14 = .ok (.invokestatic 40, 3) := by decide +kernel
theorem dX7_total_17 : decode cX7_total 17 = .ok (.ifCond .ne 7, 3) := by decide +kernel
theorem dX7_total_20 : decode cX7_total 20 = .ok (.ldc2_w 112, 3) := by decide +kernel
theorem dX7_total_23 : decode cX7_total 23 = .ok (.lreturn, 1) := by decide +kernel
theorem dX7_total_24 : decode cX7_total 24 = .ok (.iload_n 2, 1) := by decide +kernel
theorem dX7_total_25 : decode cX7_total 25 = .ok (.ifCond .ne 15, 3) := by decide +kernel
theorem dX7_total_28 : decode cX7_total 28 = .ok (.aload_n 0, 1) := by decide +kernel
theorem dX7_total_29 : decode cX7_total 29 = .ok (.getfield 12, 3) := by decide +kernel
theorem dX7_total_32 : decode cX7_total 32 = .ok (.iload_n 1, 1) := by decide +kernel
theorem dX7_total_33 : decode cX7_total 33 = .ok (.invokevirtual 114, 3) := by decide +kernel
theorem dX7_total_36 : decode cX7_total 36 = .ok (.invokevirtual 140, 3) := by decide +kernel
theorem dX7_total_39 : decode cX7_total 39 = .ok (.lreturn, 1) := by decide +kernel
theorem dX7_total_40 : decode cX7_total 40 = .ok (.iload_n 2, 1) := by decide +kernel
theorem dX7_total_41 : decode cX7_total 41 = .ok (.iconst 3, 1) := by decide +kernel
theorem dX7_total_42 : decode cX7_total 42 = .ok (.if_icmp .ne 15, 3) := by decide +kernel
theorem dX7_total_45 : decode cX7_total 45 = .ok (.aload_n 0, 1) := by decide +kernel
theorem dX7_total_46 : decode cX7_total 46 = .ok (.getfield 12, 3) := by decide +kernel
theorem dX7_total_49 : decode cX7_total 49 = .ok (.iload_n 1, 1) := by decide +kernel
theorem dX7_total_50 : decode cX7_total 50 = .ok (.invokevirtual 114, 3) := by decide +kernel
theorem dX7_total_53 : decode cX7_total 53 = .ok (.invokevirtual 183, 3) := by decide +kernel
theorem dX7_total_56 : decode cX7_total 56 = .ok (.lreturn, 1) := by decide +kernel
theorem dX7_total_57 : decode cX7_total 57 = .ok (.aload_n 0, 1) := by decide +kernel
theorem dX7_total_58 : decode cX7_total 58 = .ok (.getfield 33, 3) := by decide +kernel
theorem dX7_total_61 : decode cX7_total 61 = .ok (.aload_n 0, 1) := by decide +kernel
theorem dX7_total_62 : decode cX7_total 62 = .ok (.getfield 12, 3) := by decide +kernel
theorem dX7_total_65 : decode cX7_total 65 = .ok (.aload_n 0, 1) := by decide +kernel
theorem dX7_total_66 : decode cX7_total 66 = .ok (.getfield 12, 3) := by decide +kernel
theorem dX7_total_69 : decode cX7_total 69 = .ok (.iload_n 1, 1) := by decide +kernel
theorem dX7_total_70 : decode cX7_total 70 = .ok (.invokevirtual 114, 3) := by decide +kernel
theorem dX7_total_73 : decode cX7_total 73 = .ok (.aload_n 0, 1) := by decide +kernel
theorem dX7_total_74 : decode cX7_total 74 = .ok (.getfield 12, 3) := by decide +kernel
theorem dX7_total_77 : decode cX7_total 77 = .ok (.getfield 48, 3) := by decide +kernel
theorem dX7_total_80 : decode cX7_total 80 = .ok (.getfield 73, 3) := by decide +kernel
theorem dX7_total_83 : decode cX7_total 83 = .ok (.invokevirtual 172, 3) := by decide +kernel
theorem dX7_total_86 : decode cX7_total 86 = .ok (.pop, 1) := by decide +kernel
theorem dX7_total_87 : decode cX7_total 87 = .ok (.aload_n 0, 1) := by decide +kernel
theorem dX7_total_88 : decode cX7_total 88 = .ok (.getfield 33, 3) := by decide +kernel
theorem dX7_total_91 : decode cX7_total 91 = .ok (.getfield 176, 3) := by decide +kernel
theorem dX7_total_94 : decode cX7_total 94 = .ok (.iload_n 2, 1) := by decide +kernel
theorem dX7_total_95 : decode cX7_total 95 = .ok (.iconst 2, 1) := by decide +kernel
theorem dX7_total_96 : decode cX7_total 96 = .ok (.if_icmp .ne 7, 3) := by decide +kernel
theorem dX7_total_99 : decode cX7_total 99 = .ok (.iconst 1, 1) := by decide +kernel
theorem dX7_total_100 : decode cX7_total 100 = .ok (.goto 4, 3) := by decide +kernel
theorem dX7_total_103 : decode cX7_total 103 = .ok (.iconst 0, 1) := by decide +kernel
theorem dX7_total_104 : decode cX7_total 104 = .ok (.invokevirtual 186, 3) := by decide +kernel
theorem dX7_total_107 : decode cX7_total 107 = .ok (.lreturn, 1) := by decide +kernel
theorem dX7_estimate_0 : decode cX7_estimate 0 = .ok (.iload_n 1, 1) := by decide +kernel
theorem dX7_estimate_1 : decode cX7_estimate 1 = .ok (.invokestatic 106, 3) := by decide +kernel
theorem dX7_estimate_4 : decode cX7_estimate 4 = .ok (.ifCond .eq 11, 3) := by decide +kernel
theorem dX7_estimate_7 : decode cX7_estimate 7 = .ok (.aload_n 0, 1) := by decide +kernel
theorem dX7_estimate_8 : decode cX7_estimate 8 = .ok (.iload_n 2, 1) := by decide +kernel
theorem dX7_estimate_9 : decode cX7_estimate 9 = .ok (.invokevirtual 89, 3) := by decide +kernel
theorem dX7_estimate_12 : decode cX7_estimate 12 = .ok (.ifCond .ne 7, 3) := by decide +kernel
theorem dX7_estimate_15 : decode cX7_estimate 15 = .ok (.ldc2_w 109, 3) := by decide +kernel
theorem dX7_estimate_18 : decode cX7_estimate 18 = .ok (.lreturn, 1) := by decide +kernel
theorem dX7_estimate_19 : decode cX7_estimate 19 = .ok (.aload_n 0, 1) := by decide +kernel
theorem dX7_estimate_20 : decode cX7_estimate 20 = .ok (.getfield 33, 3) := by decide +kernel
theorem dX7_estimate_23 : decode cX7_estimate 23 = .ok (.aload_n 0, 1) := by decide +kernel
theorem dX7_estimate_24 : decode cX7_estimate 24 = .ok (.getfield 12, 3) := by decide +kernel
theorem dX7_estimate_27 : decode cX7_estimate 27 = .ok (.aload_n 0, 1) := by decide +kernel
theorem dX7_estimate_28 : decode cX7_estimate 28 = .ok (.getfield 12, 3) := by decide +kernel
theorem dX7_estimate_31 : decode cX7_estimate 31 = .ok (.iload_n 1, 1) := by decide +kernel
theorem dX7_estimate_32 : decode cX7_estimate 32 = .ok (.invokevirtual 114, 3) := by decide +kernel
theorem dX7_estimate_35 : decode cX7_estimate 35 = .ok (.aload_n 0, 1) := by decide +kernel
theorem dX7_estimate_36 : decode cX7_estimate 36 = .ok (.getfield 12, 3) := by decide +kernel
theorem dX7_estimate_39 : decode cX7_estimate 39 = .ok (.getfield 48, 3) := by decide +kernel
theorem dX7_estimate_42 : decode cX7_estimate 42 = .ok (.getfield 73, 3) := by decide +kernel
theorem dX7_estimate_45 : decode cX7_estimate 45 = .ok (.invokevirtual 172, 3) := by decide +kernel
theorem dX7_estimate_48 : decode cX7_estimate 48 = .ok (.pop, 1) := by decide +kernel
theorem dX7_estimate_49 : decode cX7_estimate 49 = .ok (.aload_n 0, 1) := by decide +kernel
theorem dX7_estimate_50 : decode cX7_estimate 50 = .ok (.getfield 33, 3) := by decide +kernel
theorem dX7_estimate_53 : decode cX7_estimate 53 = .ok (.getfield 176, 3) := by decide +kernel
theorem dX7_estimate_56 : decode cX7_estimate 56 = .ok (.iload_n 2, 1) := by decide +kernel
theorem dX7_estimate_57 : decode cX7_estimate 57 = .ok (.iconst 0, 1) := by decide +kernel
theorem dX7_estimate_58 : decode cX7_estimate 58 = .ok (.invokevirtual 162, 3) := by decide +kernel
theorem dX7_estimate_61 : decode cX7_estimate 61 = .ok (.aload_n 0, 1) := by decide +kernel
theorem dX7_estimate_62 : decode cX7_estimate 62 = .ok (.getfield 33, 3) := by decide +kernel
theorem dX7_estimate_65 : decode cX7_estimate 65 = .ok (.getfield 176, 3) := by decide +kernel
theorem dX7_estimate_68 : decode cX7_estimate 68 = .ok (.iload_n 2, 1) := by decide +kernel
theorem dX7_estimate_69 : decode cX7_estimate 69 = .ok (.iconst 1, 1) := by decide +kernel
theorem dX7_estimate_70 : decode cX7_estimate 70 = .ok (.invokevirtual 162, 3) := by decide +kernel
theorem dX7_estimate_73 : decode cX7_estimate 73 = .ok (.ladd, 1) := by decide +kernel
theorem dX7_estimate_74 : decode cX7_estimate 74 = .ok (.ldc2_w 190, 3) := by decide +kernel
theorem dX7_estimate_77 : decode cX7_estimate 77 = .ok (.ldiv, 1) := by decide +kernel
theorem dX7_estimate_78 : decode cX7_estimate 78 = .ok (.lreturn, 1) := by decide +kernel
theorem dX7_leastPlace_0 : decode cX7_leastPlace 0 = .ok (.aload_n 0, 1) := by decide +kernel
theorem dX7_leastPlace_1 : decode cX7_leastPlace 1 = .ok (.iload_n 1, 1) := by decide +kernel
theorem dX7_leastPlace_2 : decode cX7_leastPlace 2 = .ok (.iload_n 2, 1) := by decide +kernel
theorem dX7_leastPlace_3 : decode cX7_leastPlace 3 = .ok (.iconst 1, 1) := by decide +kernel
theorem dX7_leastPlace_4 : decode cX7_leastPlace 4 = .ok (.iconst 0, 1) := by decide +kernel
theorem dX7_leastPlace_5 : decode cX7_leastPlace 5 = .ok (.invokevirtual 168, 3) := by decide +kernel
theorem dX7_leastPlace_8 : decode cX7_leastPlace 8 = .ok (.lreturn, 1) := by decide +kernel
theorem dX7_widest_0 : decode cX7_widest 0 = .ok (.iload_n 1, 1) := by decide +kernel
theorem dX7_widest_1 : decode cX7_widest 1 = .ok (.invokestatic 106, 3) := by decide +kernel
theorem dX7_widest_4 : decode cX7_widest 4 = .ok (.ifCond .ne 6, 3) := by decide +kernel
theorem dX7_widest_7 : decode cX7_widest 7 = .ok (.bipush (-2), 2) := by decide +kernel
theorem dX7_widest_9 : decode cX7_widest 9 = .ok (.ireturn, 1) := by decide +kernel
theorem dX7_widest_10 : decode cX7_widest 10 = .ok (.aload_n 0, 1) := by decide +kernel
theorem dX7_widest_11 : decode cX7_widest 11 = .ok (.getfield 33, 3) := by decide +kernel
theorem dX7_widest_14 : decode cX7_widest 14 = .ok (.aload_n 0, 1) := by decide +kernel
theorem dX7_widest_15 : decode cX7_widest 15 = .ok (.getfield 12, 3) := by decide +kernel
theorem dX7_widest_18 : decode cX7_widest 18 = .ok (.aload_n 0, 1) := by decide +kernel
theorem dX7_widest_19 : decode cX7_widest 19 = .ok (.getfield 12, 3) := by decide +kernel
theorem dX7_widest_22 : decode cX7_widest 22 = .ok (.iload_n 1, 1) := by decide +kernel
theorem dX7_widest_23 : decode cX7_widest 23 = .ok (.invokevirtual 114, 3) := by decide +kernel
theorem dX7_widest_26 : decode cX7_widest 26 = .ok (.aload_n 0, 1) := by decide +kernel
theorem dX7_widest_27 : decode cX7_widest 27 = .ok (.getfield 12, 3) := by decide +kernel
theorem dX7_widest_30 : decode cX7_widest 30 = .ok (.getfield 48, 3) := by decide +kernel
theorem dX7_widest_33 : decode cX7_widest 33 = .ok (.getfield 73, 3) := by decide +kernel
theorem dX7_widest_36 : decode cX7_widest 36 = .ok (.invokevirtual 172, 3) := by decide +kernel
theorem dX7_widest_39 : decode cX7_widest 39 = .ok (.pop, 1) := by decide +kernel
theorem dX7_widest_40 : decode cX7_widest 40 = .ok (.aload_n 0, 1) := by decide +kernel
theorem dX7_widest_41 : decode cX7_widest 41 = .ok (.getfield 33, 3) := by decide +kernel
theorem dX7_widest_44 : decode cX7_widest 44 = .ok (.getfield 176, 3) := by decide +kernel
theorem dX7_widest_47 : decode cX7_widest 47 = .ok (.invokevirtual 192, 3) := by decide +kernel
theorem dX7_widest_50 : decode cX7_widest 50 = .ok (.ireturn, 1) := by decide +kernel
theorem dX7_bits_0 : decode cX7_bits 0 = .ok (.aload_n 0, 1) := by decide +kernel
theorem dX7_bits_1 : decode cX7_bits 1 = .ok (.getfield 12, 3) := by decide +kernel
theorem dX7_bits_4 : decode cX7_bits 4 = .ok (.getfield 48, 3) := by decide +kernel
theorem dX7_bits_7 : decode cX7_bits 7 = .ok (.getfield 52, 3) := by decide +kernel
theorem dX7_bits_10 : decode cX7_bits 10 = .ok (.aload_n 0, 1) := by decide +kernel
theorem dX7_bits_11 : decode cX7_bits 11 = .ok (.getfield 12, 3) := by decide +kernel
theorem dX7_bits_14 : decode cX7_bits 14 = .ok (.getfield 48, 3) := by decide +kernel
theorem dX7_bits_17 : decode cX7_bits 17 = .ok (.getfield 58, 3) := by decide +kernel
theorem dX7_bits_20 : decode cX7_bits 20 = .ok (.iconst 1, 1) := by decide +kernel
theorem dX7_bits_21 : decode cX7_bits 21 = .ok (.iadd, 1) := by decide +kernel
theorem dX7_bits_22 : decode cX7_bits 22 = .ok (.imul, 1) := by decide +kernel
theorem dX7_bits_23 : decode cX7_bits 23 = .ok (.bipush 32, 2) := by decide +kernel
theorem dX7_bits_25 : decode cX7_bits 25 = .ok (.aload_n 0, 1) := by decide +kernel
theorem dX7_bits_26 : decode cX7_bits 26 = .ok (.getfield 12, 3) := by decide +kernel
theorem dX7_bits_29 : decode cX7_bits 29 = .ok (.getfield 48, 3) := by decide +kernel
theorem dX7_bits_32 : decode cX7_bits 32 = .ok (.getfield 67, 3) := by decide +kernel
theorem dX7_bits_35 : decode cX7_bits 35 = .ok (.imul, 1) := by decide +kernel
theorem dX7_bits_36 : decode cX7_bits 36 = .ok (.iadd, 1) := by decide +kernel
theorem dX7_bits_37 : decode cX7_bits 37 = .ok (.ireturn, 1) := by decide +kernel
theorem dX7_bitsForEach_0 : decode cX7_bitsForEach 0 = .ok (.aload_n 0, 1) := by decide +kernel
theorem dX7_bitsForEach_1 : decode cX7_bitsForEach 1 = .ok (.getfield 12, 3) := by decide +kernel
theorem dX7_bitsForEach_4 : decode cX7_bitsForEach 4 = .ok (.getfield 83, 3) := by decide +kernel
theorem dX7_bitsForEach_7 : decode cX7_bitsForEach 7 = .ok (.istore_n 1, 1) := by decide +kernel
theorem dX7_bitsForEach_8 : decode cX7_bitsForEach 8 = .ok (.iload_n 1, 1) := by decide +kernel
theorem dX7_bitsForEach_9 : decode cX7_bitsForEach 9 = .ok (.ifCond .le 17, 3) := by decide +kernel
theorem dX7_bitsForEach_12 : decode cX7_bitsForEach 12 = .ok (.aload_n 0, 1) := by decide +kernel
theorem dX7_bitsForEach_13 : decode cX7_bitsForEach 13 = .ok (.invokevirtual 201, 3) := by decide +kernel
theorem dX7_bitsForEach_16 : decode cX7_bitsForEach 16 = .ok (.i2f, 1) := by decide +kernel
theorem dX7_bitsForEach_17 : decode cX7_bitsForEach 17 = .ok (.iload_n 1, 1) := by decide +kernel
theorem dX7_bitsForEach_18 : decode cX7_bitsForEach 18 = .ok (.i2f, 1) := by decide +kernel
theorem dX7_bitsForEach_19 : decode cX7_bitsForEach 19 = .ok (.fdiv, 1) := by decide +kernel
theorem dX7_bitsForEach_20 : decode cX7_bitsForEach 20 = .ok (.invokestatic 203, 3) := by decide +kernel
theorem dX7_bitsForEach_23 : decode cX7_bitsForEach 23 = .ok (.goto 4, 3) := by decide +kernel
theorem dX7_bitsForEach_26 : decode cX7_bitsForEach 26 = .ok (.iconst (-1), 1) := by decide +kernel
theorem dX7_bitsForEach_27 : decode cX7_bitsForEach 27 = .ok (.ireturn, 1) := by decide +kernel
theorem dX7_undo_0 : decode cX7_undo 0 = .ok (.aload_n 0, 1) := by decide +kernel
theorem dX7_undo_1 : decode cX7_undo 1 = .ok (.getfield 19, 3) := by decide +kernel
theorem dX7_undo_4 : decode cX7_undo 4 = .ok (.aload_n 0, 1) := by decide +kernel
theorem dX7_undo_5 : decode cX7_undo 5 = .ok (.getfield 12, 3) := by decide +kernel
theorem dX7_undo_8 : decode cX7_undo 8 = .ok (.invokevirtual 207, 3) := by decide +kernel
theorem dX7_undo_11 : decode cX7_undo 11 = .ok (.ireturn, 1) := by decide +kernel
theorem dX7_load_0 : decode cX7_load 0 = .ok (.aload_n 0, 1) := by decide +kernel
theorem dX7_load_1 : decode cX7_load 1 = .ok (.getfield 26, 3) := by decide +kernel
theorem dX7_load_4 : decode cX7_load 4 = .ok (.aload_n 0, 1) := by decide +kernel
theorem dX7_load_5 : decode cX7_load 5 = .ok (.getfield 12, 3) := by decide +kernel
theorem dX7_load_8 : decode cX7_load 8 = .ok (.invokevirtual 217, 3) := by decide +kernel
theorem dX7_load_11 : decode cX7_load 11 = .ok (.iconst (-1), 1) := by decide +kernel
theorem dX7_load_12 : decode cX7_load 12 = .ok (.if_icmp .eq 6, 3) := by decide +kernel
theorem dX7_load_15 : decode cX7_load 15 = .ok (.bipush (-4), 2) := by decide +kernel
theorem dX7_load_17 : decode cX7_load 17 = .ok (.ireturn, 1) := by decide +kernel
theorem dX7_load_18 : decode cX7_load 18 = .ok (.aload_n 0, 1) := by decide +kernel
theorem dX7_load_19 : decode cX7_load 19 = .ok (.getfield 26, 3) := by decide +kernel
theorem dX7_load_22 : decode cX7_load 22 = .ok (.aload_n 0, 1) := by decide +kernel
theorem dX7_load_23 : decode cX7_load 23 = .ok (.getfield 12, 3) := by decide +kernel
theorem dX7_load_26 : decode cX7_load 26 = .ok (.invokevirtual 220, 3) := by decide +kernel
theorem dX7_load_29 : decode cX7_load 29 = .ok (.ifCond .ne 6, 3) := by decide +kernel
theorem dX7_load_32 : decode cX7_load 32 = .ok (.bipush (-5), 2) := by decide +kernel
theorem dX7_load_34 : decode cX7_load 34 = .ok (.ireturn, 1) := by decide +kernel
theorem dX7_load_35 : decode cX7_load 35 = .ok (.aload_n 0, 1) := by decide +kernel
theorem dX7_load_36 : decode cX7_load 36 = .ok (.getfield 19, 3) := by decide +kernel
theorem dX7_load_39 : decode cX7_load 39 = .ok (.aload_n 0, 1) := by decide +kernel
theorem dX7_load_40 : decode cX7_load 40 = .ok (.getfield 12, 3) := by decide +kernel
theorem dX7_load_43 : decode cX7_load 43 = .ok (.invokevirtual 44, 3) := by decide +kernel
theorem dX7_load_46 : decode cX7_load 46 = .ok (.iconst 0, 1) := by decide +kernel
theorem dX7_load_47 : decode cX7_load 47 = .ok (.istore_n 1, 1) := by decide +kernel
theorem dX7_load_48 : decode cX7_load 48 = .ok (.iload_n 1, 1) := by decide +kernel
theorem dX7_load_49 : decode cX7_load 49 = .ok (.aload_n 0, 1) := by decide +kernel
theorem dX7_load_50 : decode cX7_load 50 = .ok (.getfield 26, 3) := by decide +kernel
theorem dX7_load_53 : decode cX7_load 53 = .ok (.getfield 224, 3) := by decide +kernel
theorem dX7_load_56 : decode cX7_load 56 = .ok (.if_icmp .ge 50, 3) := by decide +kernel
theorem dX7_load_59 : decode cX7_load 59 = .ok (.aload_n 0, 1) := by decide +kernel
theorem dX7_load_60 : decode cX7_load 60 = .ok (.getfield 12, 3) := by decide +kernel
theorem dX7_load_63 : decode cX7_load 63 = .ok (.aload_n 0, 1) := by decide +kernel
theorem dX7_load_64 : decode cX7_load 64 = .ok (.getfield 12, 3) := by decide +kernel
theorem dX7_load_67 : decode cX7_load 67 = .ok (.iconst 0, 1) := by decide +kernel
theorem dX7_load_68 : decode cX7_load 68 = .ok (.invokevirtual 114, 3) := by decide +kernel
theorem dX7_load_71 : decode cX7_load 71 = .ok (.aload_n 0, 1) := by decide +kernel
theorem dX7_load_72 : decode cX7_load 72 = .ok (.getfield 12, 3) := by decide +kernel
theorem dX7_load_75 : decode cX7_load 75 = .ok (.aload_n 0, 1) := by decide +kernel
theorem dX7_load_76 : decode cX7_load 76 = .ok (.getfield 26, 3) := by decide +kernel
theorem dX7_load_79 : decode cX7_load 79 = .ok (.getfield 227, 3) := by decide +kernel
theorem dX7_load_82 : decode cX7_load 82 = .ok (.iload_n 1, 1) := by decide +kernel
theorem dX7_load_83 : decode cX7_load 83 = .ok (.iaload, 1) := by decide +kernel
theorem dX7_load_84 : decode cX7_load 84 = .ok (.invokevirtual 86, 3) := by decide +kernel
theorem dX7_load_87 : decode cX7_load 87 = .ok (.aload_n 0, 1) := by decide +kernel
theorem dX7_load_88 : decode cX7_load 88 = .ok (.getfield 26, 3) := by decide +kernel
theorem dX7_load_91 : decode cX7_load 91 = .ok (.getfield 230, 3) := by decide +kernel
theorem dX7_load_94 : decode cX7_load 94 = .ok (.iload_n 1, 1) := by decide +kernel
theorem dX7_load_95 : decode cX7_load 95 = .ok (.iaload, 1) := by decide +kernel
theorem dX7_load_96 : decode cX7_load 96 = .ok (.i2l, 1) := by decide +kernel
theorem dX7_load_97 : decode cX7_load 97 = .ok (.invokevirtual 128, 3) := by decide +kernel
theorem dX7_load_100 : decode cX7_load 100 = .ok (.iinc 1 1, 3) := by decide +kernel
theorem dX7_load_103 : decode cX7_load 103 = .ok (.goto (-55), 3) := by decide +kernel
theorem dX7_load_106 : decode cX7_load 106 = .ok (.aload_n 0, 1) := by decide +kernel
theorem dX7_load_107 : decode cX7_load 107 = .ok (.getfield 12, 3) := by decide +kernel
theorem dX7_load_110 : decode cX7_load 110 = .ok (.getfield 83, 3) := by decide +kernel
theorem dX7_load_113 : decode cX7_load 113 = .ok (.ireturn, 1) := by decide +kernel
theorem dX7_digest_0 : decode cX7_digest 0 = .ok (.ldc2_w 233, 3) := by decide +kernel
theorem dX7_digest_3 : decode cX7_digest 3 = .ok (.lstore_n 1, 1) := by decide +kernel
theorem dX7_digest_4 : decode cX7_digest 4 = .ok (.iconst 0, 1) := by decide +kernel
theorem dX7_digest_5 : decode cX7_digest 5 = .ok (.istore_n 3, 1) := by decide +kernel
theorem dX7_digest_6 : decode cX7_digest 6 = .ok (.iload_n 3, 1) := by decide +kernel
theorem dX7_digest_7 : decode cX7_digest 7 = .ok (.bipush 7, 2) := by decide +kernel
theorem dX7_digest_9 : decode cX7_digest 9 = .ok (.if_icmp .ge 25, 3) := by decide +kernel
theorem dX7_digest_12 : decode cX7_digest 12 = .ok (.ldc2_w 235, 3) := by decide +kernel
theorem dX7_digest_15 : decode cX7_digest 15 = .ok (.lload_n 1, 1) := by decide +kernel
theorem dX7_digest_16 : decode cX7_digest 16 = .ok (.lmul, 1) := by decide +kernel
theorem dX7_digest_17 : decode cX7_digest 17 = .ok (.aload_n 0, 1) := by decide +kernel
theorem dX7_digest_18 : decode cX7_digest 18 = .ok (.getfield 12, 3) := by decide +kernel
theorem dX7_digest_21 : decode cX7_digest 21 = .ok (.iload_n 3, 1) := by decide +kernel
theorem dX7_digest_22 : decode cX7_digest 22 = .ok (.invokevirtual 76, 3) := by decide +kernel
theorem dX7_digest_25 : decode cX7_digest 25 = .ok (.i2l, 1) := by decide +kernel
theorem dX7_digest_26 : decode cX7_digest 26 = .ok (.ladd, 1) := by decide +kernel
theorem dX7_digest_27 : decode cX7_digest 27 = .ok (.lstore_n 1, 1) := by decide +kernel
theorem dX7_digest_28 : decode cX7_digest 28 = .ok (.iinc 3 1, 3) := by decide +kernel
theorem dX7_digest_31 : decode cX7_digest 31 = .ok (.goto (-25), 3) := by decide +kernel
theorem dX7_digest_34 : decode cX7_digest 34 = .ok (.iconst 0, 1) := by decide +kernel
theorem dX7_digest_35 : decode cX7_digest 35 = .ok (.istore_n 3, 1) := by decide +kernel
theorem dX7_digest_36 : decode cX7_digest 36 = .ok (.iload_n 3, 1) := by decide +kernel
theorem dX7_digest_37 : decode cX7_digest 37 = .ok (.aload_n 0, 1) := by decide +kernel
theorem dX7_digest_38 : decode cX7_digest 38 = .ok (.getfield 12, 3) := by decide +kernel
theorem dX7_digest_41 : decode cX7_digest 41 = .ok (.getfield 83, 3) := by decide +kernel
theorem dX7_digest_44 : decode cX7_digest 44 = .ok (.if_icmp .ge 26, 3) := by decide +kernel
theorem dX7_digest_47 : decode cX7_digest 47 = .ok (.ldc2_w 235, 3) := by decide +kernel
theorem dX7_digest_50 : decode cX7_digest 50 = .ok (.lload_n 1, 1) := by decide +kernel
theorem dX7_digest_51 : decode cX7_digest 51 = .ok (.lmul, 1) := by decide +kernel
theorem dX7_digest_52 : decode cX7_digest 52 = .ok (.aload_n 0, 1) := by decide +kernel
theorem dX7_digest_53 : decode cX7_digest 53 = .ok (.getfield 12, 3) := by decide +kernel
theorem dX7_digest_56 : decode cX7_digest 56 = .ok (.getfield 93, 3) := by decide +kernel
theorem dX7_digest_59 : decode cX7_digest 59 = .ok (.iload_n 3, 1) := by decide +kernel
theorem dX7_digest_60 : decode cX7_digest 60 = .ok (.iaload, 1) := by decide +kernel
theorem dX7_digest_61 : decode cX7_digest 61 = .ok (.i2l, 1) := by decide +kernel
theorem dX7_digest_62 : decode cX7_digest 62 = .ok (.ladd, 1) := by decide +kernel
theorem dX7_digest_63 : decode cX7_digest 63 = .ok (.lstore_n 1, 1) := by decide +kernel
theorem dX7_digest_64 : decode cX7_digest 64 = .ok (.iinc 3 1, 3) := by decide +kernel
theorem dX7_digest_67 : decode cX7_digest 67 = .ok (.goto (-31), 3) := by decide +kernel
theorem dX7_digest_70 : decode cX7_digest 70 = .ok (.iconst 0, 1) := by decide +kernel
theorem dX7_digest_71 : decode cX7_digest 71 = .ok (.istore_n 3, 1) := by decide +kernel
theorem dX7_digest_72 : decode cX7_digest 72 = .ok (.iload_n 3, 1) := by decide +kernel
theorem dX7_digest_73 : decode cX7_digest 73 = .ok (.iconst 2, 1) := by decide +kernel
theorem dX7_digest_74 : decode cX7_digest 74 = .ok (.if_icmp .ge 23, 3) := by decide +kernel
theorem dX7_digest_77 : decode cX7_digest 77 = .ok (.aload_n 0, 1) := by decide +kernel
theorem dX7_digest_78 : decode cX7_digest 78 = .ok (.lload_n 1, 1) := by decide +kernel
theorem dX7_digest_79 : decode cX7_digest 79 = .ok (.aload_n 0, 1) := by decide +kernel
theorem dX7_digest_80 : decode cX7_digest 80 = .ok (.getfield 12, 3) := by decide +kernel
theorem dX7_digest_83 : decode cX7_digest 83 = .ok (.iload_n 3, 1) := by decide +kernel
theorem dX7_digest_84 : decode cX7_digest 84 = .ok (.invokevirtual 114, 3) := by decide +kernel
theorem dX7_digest_87 : decode cX7_digest 87 = .ok (.invokevirtual 237, 3) := by decide +kernel
theorem dX7_digest_90 : decode cX7_digest 90 = .ok (.lstore_n 1, 1) := by decide +kernel
theorem dX7_digest_91 : decode cX7_digest 91 = .ok (.iinc 3 1, 3) := by decide +kernel
theorem dX7_digest_94 : decode cX7_digest 94 = .ok (.goto (-22), 3) := by decide +kernel
theorem dX7_digest_97 : decode cX7_digest 97 = .ok (.lload_n 1, 1) := by decide +kernel
theorem dX7_digest_98 : decode cX7_digest 98 = .ok (.lreturn, 1) := by decide +kernel
theorem dX7_isFrom_0 : decode cX7_isFrom 0 = .ok (.iload_n 0, 1) := by decide +kernel
theorem dX7_isFrom_1 : decode cX7_isFrom 1 = .ok (.iload_n 1, 1) := by decide +kernel
theorem dX7_isFrom_2 : decode cX7_isFrom 2 = .ok (.if_icmp .gt 12, 3) := by decide +kernel
theorem dX7_isFrom_5 : decode cX7_isFrom 5 = .ok (.iload_n 1, 1) := by decide +kernel
theorem dX7_isFrom_6 : decode cX7_isFrom 6 = .ok (.iload_n 2, 1) := by decide +kernel
theorem dX7_isFrom_7 : decode cX7_isFrom 7 = .ok (.if_icmp .gt 7, 3) := by decide +kernel
theorem dX7_isFrom_10 : decode cX7_isFrom 10 = .ok (.iconst 1, 1) := by decide +kernel
theorem dX7_isFrom_11 : decode cX7_isFrom 11 = .ok (.goto 4, 3) := by decide +kernel
theorem dX7_isFrom_14 : decode cX7_isFrom 14 = .ok (.iconst 0, 1) := by decide +kernel
theorem dX7_isFrom_15 : decode cX7_isFrom 15 = .ok (.ireturn, 1) := by decide +kernel
theorem dX7_isBraid_0 : decode cX7_isBraid 0 = .ok (.iconst 0, 1) := by decide +kernel
theorem dX7_isBraid_1 : decode cX7_isBraid 1 = .ok (.iload_n 0, 1) := by decide +kernel
theorem dX7_isBraid_2 : decode cX7_isBraid 2 = .ok (.iconst 1, 1) := by decide +kernel
theorem dX7_isBraid_3 : decode cX7_isBraid 3 = .ok (.invokestatic 40, 3) := by decide +kernel
theorem dX7_isBraid_6 : decode cX7_isBraid 6 = .ok (.ireturn, 1) := by decide +kernel
theorem dX7_isFlow_0 : decode cX7_isFlow 0 = .ok (.iconst 0, 1) := by decide +kernel
theorem dX7_isFlow_1 : decode cX7_isFlow 1 = .ok (.iload_n 1, 1) := by decide +kernel
theorem dX7_isFlow_2 : decode cX7_isFlow 2 = .ok (.aload_n 0, 1) := by decide +kernel
theorem dX7_isFlow_3 : decode cX7_isFlow 3 = .ok (.getfield 12, 3) := by decide +kernel
theorem dX7_isFlow_6 : decode cX7_isFlow 6 = .ok (.getfield 83, 3) := by decide +kernel
theorem dX7_isFlow_9 : decode cX7_isFlow 9 = .ok (.iconst 1, 1) := by decide +kernel
theorem dX7_isFlow_10 : decode cX7_isFlow 10 = .ok (.isub, 1) := by decide +kernel
theorem dX7_isFlow_11 : decode cX7_isFlow 11 = .ok (.invokestatic 40, 3) := by decide +kernel
theorem dX7_isFlow_14 : decode cX7_isFlow 14 = .ok (.ireturn, 1) := by decide +kernel
theorem dX7_isCounter_0 : decode cX7_isCounter 0 = .ok (.iconst 0, 1) := by decide +kernel
theorem dX7_isCounter_1 : decode cX7_isCounter 1 = .ok (.iload_n 1, 1) := by decide +kernel
theorem dX7_isCounter_2 : decode cX7_isCounter 2 = .ok (.aload_n 0, 1) := by decide +kernel
theorem dX7_isCounter_3 : decode cX7_isCounter 3 = .ok (.getfield 12, 3) := by decide +kernel
theorem dX7_isCounter_6 : decode cX7_isCounter 6 = .ok (.getfield 48, 3) := by decide +kernel
theorem dX7_isCounter_9 : decode cX7_isCounter 9 = .ok (.getfield 52, 3) := by decide +kernel
theorem dX7_isCounter_12 : decode cX7_isCounter 12 = .ok (.iconst 1, 1) := by decide +kernel
theorem dX7_isCounter_13 : decode cX7_isCounter 13 = .ok (.isub, 1) := by decide +kernel
theorem dX7_isCounter_14 : decode cX7_isCounter 14 = .ok (.invokestatic 40, 3) := by decide +kernel
theorem dX7_isCounter_17 : decode cX7_isCounter 17 = .ok (.ireturn, 1) := by decide +kernel
theorem dX7_hashOfBraid_0 : decode cX7_hashOfBraid 0 = .ok (.lload_n 1, 1) := by decide +kernel
theorem dX7_hashOfBraid_1 : decode cX7_hashOfBraid 1 = .ok (.lstore 4, 2) := by decide +kernel
theorem dX7_hashOfBraid_3 : decode cX7_hashOfBraid 3 = .ok (.iconst 0, 1) := by decide +kernel
theorem dX7_hashOfBraid_4 : decode cX7_hashOfBraid 4 = .ok (.istore 6, 2) := by decide +kernel
theorem dX7_hashOfBraid_6 : decode cX7_hashOfBraid 6 = .ok (.iload 6, 2) := by decide +kernel
theorem dX7_hashOfBraid_8 : decode cX7_hashOfBraid 8 = .ok (.aload_n 0, 1) := by decide +kernel
theorem dX7_hashOfBraid_9 : decode cX7_hashOfBraid 9 = .ok (.getfield 12, 3) := by decide +kernel
theorem dX7_hashOfBraid_12 : decode cX7_hashOfBraid 12 = .ok (.getfield 83, 3) := by decide +kernel
theorem dX7_hashOfBraid_15 : decode cX7_hashOfBraid 15 = .ok (.if_icmp .ge 25, 3) := by decide +kernel
theorem dX7_hashOfBraid_18 : decode cX7_hashOfBraid 18 = .ok (.ldc2_w 235, 3) := by decide +kernel
theorem dX7_hashOfBraid_21 : decode cX7_hashOfBraid 21 = .ok (.lload 4, 2) := by decide +kernel
theorem dX7_hashOfBraid_23 : decode cX7_hashOfBraid 23 = .ok (.lmul, 1) := by decide +kernel
theorem dX7_hashOfBraid_24 : decode cX7_hashOfBraid 24 = .ok (.aload_n 3, 1) := by decide +kernel
theorem dX7_hashOfBraid_25 : decode cX7_hashOfBraid 25 = .ok (.getfield 118, 3) := by decide +kernel
theorem dX7_hashOfBraid_28 : decode cX7_hashOfBraid 28 = .ok (.iload 6, 2) := by decide +kernel
theorem dX7_hashOfBraid_30 : decode cX7_hashOfBraid 30 = .ok (.laload, 1) := by decide +kernel
theorem dX7_hashOfBraid_31 : decode cX7_hashOfBraid 31 = .ok (.ladd, 1) := by decide +kernel
theorem dX7_hashOfBraid_32 : decode cX7_hashOfBraid 32 = .ok (.lstore 4, 2) := by decide +kernel
theorem dX7_hashOfBraid_34 : decode cX7_hashOfBraid 34 = .ok (.iinc 6 1, 3) := by decide +kernel
theorem dX7_hashOfBraid_37 : decode cX7_hashOfBraid 37 = .ok (.goto (-31), 3) := by decide +kernel
theorem dX7_hashOfBraid_40 : decode cX7_hashOfBraid 40 = .ok (.iconst 0, 1) := by decide +kernel
theorem dX7_hashOfBraid_41 : decode cX7_hashOfBraid 41 = .ok (.istore 6, 2) := by decide +kernel
theorem dX7_hashOfBraid_43 : decode cX7_hashOfBraid 43 = .ok (.iload 6, 2) := by decide +kernel
theorem dX7_hashOfBraid_45 : decode cX7_hashOfBraid 45 = .ok (.aload_n 0, 1) := by decide +kernel
theorem dX7_hashOfBraid_46 : decode cX7_hashOfBraid 46 = .ok (.getfield 12, 3) := by decide +kernel
theorem dX7_hashOfBraid_49 : decode cX7_hashOfBraid 49 = .ok (.getfield 48, 3) := by decide +kernel
theorem dX7_hashOfBraid_52 : decode cX7_hashOfBraid 52 = .ok (.getfield 52, 3) := by decide +kernel
theorem dX7_hashOfBraid_55 : decode cX7_hashOfBraid 55 = .ok (.if_icmp .ge 43, 3) := by decide +kernel
