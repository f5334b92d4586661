theorem dX7_overflow_41 : decode cX7_overflow 41 = .ok (.aload_n 0, 1) := by decide +kernel
theorem dX7_overflow_42 : decode cX7_overflow 42 = .ok (.getfield 33, 3) := by decide +kernel
theorem dX7_overflow_45 : decode cX7_overflow 45 = .ok (.getfield 158, 3) := by decide +kernel
theorem dX7_overflow_48 : decode cX7_overflow 48 = .ok (.iload_n 2, 1) := by decide +kernel
theorem dX7_overflow_49 : decode cX7_overflow 49 = .ok (.iload_n 3, 1) := by decide +kernel
theorem dX7_overflow_50 : decode cX7_overflow 50 = .ok (.invokevirtual 162, 3) := by decide +kernel
theorem dX7_overflow_53 : decode cX7_overflow 53 = .ok (.lreturn, 1) := by decide +kernel
theorem dX7_bound_0 : decode cX7_bound 0 = .ok (.aload_n 0, 1) := by decide +kernel
theorem dX7_bound_1 : decode cX7_bound 1 = .ok (.iload_n 1, 1) := by decide +kernel
theorem dX7_bound_2 : decode cX7_bound 2 = .ok (.iload_n 2, 1) := by decide +kernel
theorem dX7_bound_3 : decode cX7_bound 3 = .ok (.iload_n 3, 1) := by decide +kernel
theorem dX7_bound_4 : decode cX7_bound 4 = .ok (.aload_n 0, 1) := by decide +kernel
theorem dX7_bound_5 : decode cX7_bound 5 = .ok (.getfield 12, 3) := by decide +kernel
theorem dX7_bound_8 : decode cX7_bound 8 = .ok (.getfield 48, 3) := by decide +kernel
theorem dX7_bound_11 : decode cX7_bound 11 = .ok (.getfield 73, 3) := by decide +kernel
theorem dX7_bound_14 : decode cX7_bound 14 = .ok (.invokevirtual 168, 3) := by decide +kernel
theorem dX7_bound_17 : decode cX7_bound 17 = .ok (.lreturn, 1) := by decide +kernel
theorem dX7_boundAfter_0 : decode cX7_boundAfter 0 = .ok (.iload_n 1, 1) := by decide +kernel
theorem dX7_boundAfter_1 : decode cX7_boundAfter 1 = .ok (.invokestatic 106, 3) := by decide +kernel
theorem dX7_boundAfter_4 : decode cX7_boundAfter 4 = .ok (.ifCond .eq 11, 3) := by decide +kernel
theorem dX7_boundAfter_7 : decode cX7_boundAfter 7 = .ok (.aload_n 0, 1) := by decide +kernel
theorem dX7_boundAfter_8 : decode cX7_boundAfter 8 = .ok (.iload_n 2, 1) := by decide +kernel
theorem dX7_boundAfter_9 : decode cX7_boundAfter 9 = .ok (.invokevirtual 89, 3) := by decide +kernel
theorem dX7_boundAfter_12 : decode cX7_boundAfter 12 = .ok (.ifCond .ne 7, 3) := by decide +kernel
theorem dX7_boundAfter_15 : decode cX7_boundAfter 15 = .ok (.ldc2_w 109, 3) := by decide +kernel
theorem dX7_boundAfter_18 : decode cX7_boundAfter 18 = .ok (.lreturn, 1) := by decide +kernel
theorem dX7_boundAfter_19 : decode cX7_boundAfter 19 = .ok (.iconst 0, 1) := by decide +kernel
theorem dX7_boundAfter_20 : decode cX7_boundAfter 20 = .ok (.iload 4, 2) := by decide +kernel
theorem dX7_boundAfter_22 : decode cX7_boundAfter 22 = .ok (.bipush 60, 2) := by decide +kernel
theorem dX7_boundAfter_24 : decode cX7_boundAfter 24 = .ok (.invokestatic 40, 3) := by decide +kernel
theorem dX7_boundAfter_27 : decode cX7_boundAfter 27 = .ok (.ifCond .ne 7, 3) := by decide +kernel
theorem dX7_boundAfter_30 : decode cX7_boundAfter 30 = .ok (.ldc2_w 112, 3) := by decide +kernel
theorem dX7_boundAfter_33 : decode cX7_boundAfter 33 = .ok (.lreturn, 1) := by decide +kernel
theorem dX7_boundAfter_34 : decode cX7_boundAfter 34 = .ok (.aload_n 0, 1) := by decide +kernel
theorem dX7_boundAfter_35 : decode cX7_boundAfter 35 = .ok (.getfield 33, 3) := by decide +kernel
theorem dX7_boundAfter_38 : decode cX7_boundAfter 38 = .ok (.aload_n 0, 1) := by decide +kernel
theorem dX7_boundAfter_39 : decode cX7_boundAfter 39 = .ok (.getfield 12, 3) := by decide +kernel
theorem dX7_boundAfter_42 : decode cX7_boundAfter 42 = .ok (.aload_n 0, 1) := by decide +kernel
theorem dX7_boundAfter_43 : decode cX7_boundAfter 43 = .ok (.getfield 12, 3) := by decide +kernel
theorem dX7_boundAfter_46 : decode cX7_boundAfter 46 = .ok (.iload_n 1, 1) := by decide +kernel
theorem dX7_boundAfter_47 : decode cX7_boundAfter 47 = .ok (.invokevirtual 114, 3) := by decide +kernel
theorem dX7_boundAfter_50 : decode cX7_boundAfter 50 = .ok (.iload 4, 2) := by decide +kernel
theorem dX7_boundAfter_52 : decode cX7_boundAfter 52 = .ok (.invokevirtual 172, 3) := by decide +kernel
theorem dX7_boundAfter_55 : decode cX7_boundAfter 55 = .ok (.pop, 1) := by decide +kernel
theorem dX7_boundAfter_56 : decode cX7_boundAfter 56 = .ok (.aload_n 0, 1) := by decide +kernel
theorem dX7_boundAfter_57 : decode cX7_boundAfter 57 = .ok (.getfield 33, 3) := by decide +kernel
theorem dX7_boundAfter_60 : decode cX7_boundAfter 60 = .ok (.getfield 176, 3) := by decide +kernel
theorem dX7_boundAfter_63 : decode cX7_boundAfter 63 = .ok (.iload_n 2, 1) := by decide +kernel
theorem dX7_boundAfter_64 : decode cX7_boundAfter 64 = .ok (.iload_n 3, 1) := by decide +kernel
theorem dX7_boundAfter_65 : decode cX7_boundAfter 65 = .ok (.invokevirtual 162, 3) := by decide +kernel
theorem dX7_boundAfter_68 : decode cX7_boundAfter 68 = .ok (.lreturn, 1) := by decide +kernel
theorem dX7_certain_0 : decode cX7_certain 0 = .ok (.iload_n 1, 1) := by decide +kernel
theorem dX7_certain_1 : decode cX7_certain 1 = .ok (.invokestatic 106, 3) := by decide +kernel
theorem dX7_certain_4 : decode cX7_certain 4 = .ok (.ifCond .ne 6, 3) := by decide +kernel
theorem dX7_certain_7 : decode cX7_certain 7 = .ok (.bipush (-2), 2) := by decide +kernel
theorem dX7_certain_9 : decode cX7_certain 9 = .ok (.ireturn, 1) := by decide +kernel
theorem dX7_certain_10 : decode cX7_certain 10 = .ok (.aload_n 0, 1) := by decide +kernel
theorem dX7_certain_11 : decode cX7_certain 11 = .ok (.getfield 33, 3) := by decide +kernel
theorem dX7_certain_14 : decode cX7_certain 14 = .ok (.aload_n 0, 1) := by decide +kernel
theorem dX7_certain_15 : decode cX7_certain 15 = .ok (.getfield 12, 3) := by decide +kernel
theorem dX7_certain_18 : decode cX7_certain 18 = .ok (.aload_n 0, 1) := by decide +kernel
theorem dX7_certain_19 : decode cX7_certain 19 = .ok (.getfield 12, 3) := by decide +kernel
theorem dX7_certain_22 : decode cX7_certain 22 = .ok (.iload_n 1, 1) := by decide +kernel
theorem dX7_certain_23 : decode cX7_certain 23 = .ok (.invokevirtual 114, 3) := by decide +kernel
theorem dX7_certain_26 : decode cX7_certain 26 = .ok (.aload_n 0, 1) := by decide +kernel
theorem dX7_certain_27 : decode cX7_certain 27 = .ok (.getfield 12, 3) := by decide +kernel
theorem dX7_certain_30 : decode cX7_certain 30 = .ok (.getfield 48, 3) := by decide +kernel
theorem dX7_certain_33 : decode cX7_certain 33 = .ok (.getfield 73, 3) := by decide +kernel
theorem dX7_certain_36 : decode cX7_certain 36 = .ok (.invokevirtual 172, 3) := by decide +kernel
theorem dX7_certain_39 : decode cX7_certain 39 = .ok (.pop, 1) := by decide +kernel
theorem dX7_certain_40 : decode cX7_certain 40 = .ok (.aload_n 0, 1) := by decide +kernel
theorem dX7_certain_41 : decode cX7_certain 41 = .ok (.getfield 33, 3) := by decide +kernel
theorem dX7_certain_44 : decode cX7_certain 44 = .ok (.getfield 176, 3) := by decide +kernel
theorem dX7_certain_47 : decode cX7_certain 47 = .ok (.invokevirtual 179, 3) := by decide +kernel
theorem dX7_certain_50 : decode cX7_certain 50 = .ok (.ireturn, 1) := by decide +kernel
theorem dX7_certainOverflows_0 : decode cX7_certainOverflows 0 = .ok (.iload_n 1, 1) := by decide +kernel
theorem dX7_certainOverflows_1 : decode cX7_certainOverflows 1 = .ok (.invokestatic 106, 3) := by decide +kernel
theorem dX7_certainOverflows_4 : decode cX7_certainOverflows 4 = .ok (.ifCond .ne 6, 3) := by decide +kernel
theorem dX7_certainOverflows_7 : decode cX7_certainOverflows 7 = .ok (.bipush (-2), 2) := by decide +kernel
theorem dX7_certainOverflows_9 : decode cX7_certainOverflows 9 = .ok (.ireturn, 1) := by decide +kernel
theorem dX7_certainOverflows_10 : decode cX7_certainOverflows 10 = .ok (.aload_n 0, 1) := by decide +kernel
theorem dX7_certainOverflows_11 : decode cX7_certainOverflows 11 = .ok (.getfield 33, 3) := by decide +kernel
theorem dX7_certainOverflows_14 : decode cX7_certainOverflows 14 = .ok (.aload_n 0, 1) := by decide +kernel
theorem dX7_certainOverflows_15 : decode cX7_certainOverflows 15 = .ok (.getfield 12, 3) := by decide +kernel
theorem dX7_certainOverflows_18 : decode cX7_certainOverflows 18 = .ok (.getfield 48, 3) := by decide +kernel
theorem dX7_certainOverflows_21 : decode cX7_certainOverflows 21 = .ok (.aload_n 0, 1) := by decide +kernel
theorem dX7_certainOverflows_22 : decode cX7_certainOverflows 22 = .ok (.getfield 12, 3) := by decide +kernel
theorem dX7_certainOverflows_25 : decode cX7_certainOverflows 25 = .ok (.iload_n 1, 1) := by decide +kernel
theorem dX7_certainOverflows_26 : decode cX7_certainOverflows 26 = .ok (.invokevirtual 114, 3) := by decide +kernel
theorem dX7_certainOverflows_29 : decode cX7_certainOverflows 29 = .ok (.invokevirtual 154, 3) := by decide +kernel
theorem dX7_certainOverflows_32 : decode cX7_certainOverflows 32 = .ok (.aload_n 0, 1) := by decide +kernel
theorem dX7_certainOverflows_33 : decode cX7_certainOverflows 33 = .ok (.getfield 33, 3) := by decide +kernel
theorem dX7_certainOverflows_36 : decode cX7_certainOverflows 36 = .ok (.getfield 158, 3) := by decide +kernel
theorem dX7_certainOverflows_39 : decode cX7_certainOverflows 39 = .ok (.invokevirtual 179, 3) := by decide +kernel
theorem dX7_certainOverflows_42 : decode cX7_certainOverflows 42 = .ok (.ireturn, 1) := by decide +kernel
theorem dX7_lastRound_0 : decode cX7_lastRound 0 = .ok (.iload_n 1, 1) := by decide +kernel
theorem dX7_lastRound_1 : decode cX7_lastRound 1 = .ok (.invokestatic 106, 3) := by decide +kernel
theorem dX7_lastRound_4 : decode cX7_lastRound 4 = .ok (.ifCond .eq 35, 3) := by decide +kernel
theorem dX7_lastRound_7 : decode cX7_lastRound 7 = .ok (.aload_n 0, 1) := by decide +kernel
theorem dX7_lastRound_8 : decode cX7_lastRound 8 = .ok (.getfield 33, 3) := by decide +kernel
theorem dX7_lastRound_11 : decode cX7_lastRound 11 = .ok (.aload_n 0, 1) := by decide +kernel
theorem dX7_lastRound_12 : decode cX7_lastRound 12 = .ok (.getfield 12, 3) := by decide +kernel
theorem dX7_lastRound_15 : decode cX7_lastRound 15 = .ok (.aload_n 0, 1) := by decide +kernel
theorem dX7_lastRound_16 : decode cX7_lastRound 16 = .ok (.getfield 12, 3) := by decide +kernel
theorem dX7_lastRound_19 : decode cX7_lastRound 19 = .ok (.iload_n 1, 1) := by decide +kernel
theorem dX7_lastRound_20 : decode cX7_lastRound 20 = .ok (.invokevirtual 114, 3) := by decide +kernel
theorem dX7_lastRound_23 : decode cX7_lastRound 23 = .ok (.aload_n 0, 1) := by decide +kernel
theorem dX7_lastRound_24 : decode cX7_lastRound 24 = .ok (.getfield 12, 3) := by decide +kernel
theorem dX7_lastRound_27 : decode cX7_lastRound 27 = .ok (.getfield 48, 3) := by decide +kernel
theorem dX7_lastRound_30 : decode cX7_lastRound 30 = .ok (.getfield 73, 3) := by decide +kernel
theorem dX7_lastRound_33 : decode cX7_lastRound 33 = .ok (.invokevirtual 172, 3) := by decide +kernel
theorem dX7_lastRound_36 : decode cX7_lastRound 36 = .ok (.goto 5, 3) := by decide +kernel
theorem dX7_lastRound_39 : decode cX7_lastRound 39 = .ok (.bipush (-2), 2) := by decide +kernel
theorem dX7_lastRound_41 : decode cX7_lastRound 41 = .ok (.ireturn, 1) := by decide +kernel
theorem dX7_total_0 : decode cX7_total 0 = .ok (.iload_n 1, 1) := by decide +kernel
theorem dX7_total_1 : decode cX7_total 1 = .ok (.invokestatic 106, 3) := by decide +kernel
theorem dX7_total_4 : decode cX7_total 4 = .ok (.ifCond .ne 7, 3) := by decide +kernel
theorem dX7_total_7 : decode cX7_total 7 = .ok (.ldc2_w 109, 3) := by decide +kernel
theorem dX7_total_10 : decode cX7_total 10 = .ok (.lreturn, 1) := by decide +kernel
theorem dX7_total_11 : decode cX7_total 11 = .ok (.iconst 0, 1) := by decide +kernel
theorem dX7_total_12 : decode cX7_total 12 = .ok (.iload_n 2, 1) := by decide +kernel
theorem dX7_total_13 : decode cX7_total 13 = .ok (.iconst 3, 1) := by decide +kernel
theorem dX7_total_14 : decode cX7_total 14 = .ok (.invokestatic 40, 3) := by decide +kernel
theorem dX7_total_17 : decode cX7_total 17 = .ok (.ifCond .ne 7, 3) := by decide +kernel
theorem dX7_total_20 : decode cX7_total 20 = .ok (.ldc2_w 112, 3) := by decide +kernel
theorem dX7_total_23 : decode cX7_total 23 = .ok (.lreturn, 1) := by decide +kernel
theorem dX7_total_24 : decode cX7_total 24 = .ok (.iload_n 2, 1) := by decide +kernel
theorem dX7_total_25 : decode cX7_total 25 = .ok (.ifCond .ne 15, 3) := by decide +kernel
theorem dX7_total_28 : decode cX7_total 28 = .ok (.aload_n 0, 1) := by decide +kernel
theorem dX7_total_29 : decode cX7_total 29 = .ok (.getfield 12, 3) := by decide +kernel
theorem dX7_total_32 : decode cX7_total 32 = .ok (.iload_n 1, 1) := by decide +kernel
theorem dX7_total_33 : decode cX7_total 33 = .ok (.invokevirtual 114, 3) := by decide +kernel
theorem dX7_total_36 : decode cX7_total 36 = .ok (.invokevirtual 140, 3) := by decide +kernel
theorem dX7_total_39 : decode cX7_total 39 = .ok (.lreturn, 1) := by decide +kernel
theorem dX7_total_40 : decode cX7_total 40 = .ok (.iload_n 2, 1) := by decide +kernel
theorem dX7_total_41 : decode cX7_total 41 = .ok (.iconst 3, 1) := by decide +kernel
theorem dX7_total_42 : decode cX7_total 42 = .ok (.if_icmp .ne 15, 3) := by decide +kernel
theorem dX7_total_45 : decode cX7_total 45 = .ok (.aload_n 0, 1) := by decide +kernel
theorem dX7_total_46 : decode cX7_total 46 = .ok (.getfield 12, 3) := by decide +kernel
theorem dX7_total_49 : decode cX7_total 49 = .ok (.iload_n 1, 1) := by decide +kernel
theorem dX7_total_50 : decode cX7_total 50 = .ok (.invokevirtual 114, 3) := by decide +kernel
theorem dX7_total_53 : decode cX7_total 53 = .ok (.invokevirtual 183, 3) := by decide +kernel
theorem dX7_total_56 : decode cX7_total 56 = .ok (.lreturn, 1) := by decide +kernel
theorem dX7_total_57 : decode cX7_total 57 = .ok (.aload_n 0, 1) := by decide +kernel
theorem dX7_total_58 : decode cX7_total 58 = .ok (.getfield 33, 3) := by decide +kernel
theorem dX7_total_61 : decode cX7_total 61 = .ok (.aload_n 0, 1) := by decide +kernel
theorem dX7_total_62 : decode cX7_total 62 = .ok (.getfield 12, 3) := by decide +kernel
theorem dX7_total_65 : decode cX7_total 65 = .ok (.aload_n 0, 1) := by decide +kernel
theorem dX7_total_66 : decode cX7_total 66 = .ok (.getfield 12, 3) := by decide +kernel
theorem dX7_total_69 : decode cX7_total 69 = .ok (.iload_n 1, 1) := by decide +kernel
theorem dX7_total_70 : decode cX7_total 70 = .ok (.invokevirtual 114, 3) := by decide +kernel
theorem dX7_total_73 : decode cX7_total 73 = .ok (.aload_n 0, 1) := by decide +kernel
theorem dX7_total_74 : decode cX7_total 74 = .ok (.getfield 12, 3) := by decide +kernel
theorem dX7_total_77 : decode cX7_total 77 = .ok (.getfield 48, 3) := by decide +kernel
theorem dX7_total_80 : decode cX7_total 80 = .ok (.getfield 73, 3) := by decide +kernel
theorem dX7_total_83 : decode cX7_total 83 = .ok (.invokevirtual 172, 3) := by decide +kernel
theorem dX7_total_86 : decode cX7_total 86 = .ok (.pop, 1) := by decide +kernel
theorem dX7_total_87 : decode cX7_total 87 = .ok (.aload_n 0, 1) := by decide +kernel
theorem dX7_total_88 : decode cX7_total 88 = .ok (.getfield 33, 3) := by decide +kernel
theorem dX7_total_91 : decode cX7_total 91 = .ok (.getfield 176, 3) := by decide +kernel
theorem dX7_total_94 : decode cX7_total 94 = .ok (.iload_n 2, 1) := by decide +kernel
theorem dX7_total_95 : decode cX7_total 95 = .ok (.iconst 2, 1) := by decide +kernel
theorem dX7_total_96 : decode cX7_total 96 = .ok (.if_icmp .ne 7, 3) := by decide +kernel
theorem dX7_total_99 : decode cX7_total 99 = .ok (.iconst 1, 1) := by decide +kernel
theorem dX7_total_100 : decode cX7_total 100 = .ok (.goto 4, 3) := by decide +kernel
theorem dX7_total_103 : decode cX7_total 103 = .ok (.iconst 0, 1) := by decide +kernel
theorem dX7_total_104 : decode cX7_total 104 = .ok (.invokevirtual 186, 3) := by decide +kernel
theorem dX7_total_107 : decode cX7_total 107 = .ok (.lreturn, 1) := by decide +kernel
theorem dX7_estimate_0 : decode cX7_estimate 0 = .ok (.iload_n 1, 1) := by decide +kernel
theorem dX7_estimate_1 : decode cX7_estimate 1 = .ok (.invokestatic 106, 3) := by decide +kernel
theorem dX7_estimate_4 : decode cX7_estimate 4 = .ok (.ifCond .eq 11, 3) := by decide +kernel
theorem dX7_estimate_7 : decode cX7_estimate 7 = .ok (.aload_n 0, 1) := by decide +kernel
theorem dX7_estimate_8 : decode cX7_estimate 8 = .ok (.iload_n 2, 1) := by decide +kernel
theorem dX7_estimate_9 : decode cX7_estimate 9 = .ok (.invokevirtual 89, 3) := by decide +kernel
theorem dX7_estimate_12 : decode cX7_estimate 12 = .ok (.ifCond .ne 7, 3) := by decide +kernel
theorem dX7_estimate_15 : decode cX7_estimate 15 = .ok (.ldc2_w 109, 3) := by decide +kernel
theorem dX7_estimate_18 : decode cX7_estimate 18 = .ok (.lreturn, 1) := by decide +kernel
theorem dX7_estimate_19 : decode cX7_estimate 19 = .ok (.aload_n 0, 1) := by decide +kernel
theorem dX7_estimate_20 : decode cX7_estimate 20 = .ok (.getfield 33, 3) := by decide +kernel
theorem dX7_estimate_23 : decode cX7_estimate 23 = .ok (.aload_n 0, 1) := by decide +kernel
theorem dX7_estimate_24 : decode cX7_estimate 24 = .ok (.getfield 12, 3) := by decide +kernel
theorem dX7_estimate_27 : decode cX7_estimate 27 = .ok (.aload_n 0, 1) := by decide +kernel
theorem dX7_estimate_28 : decode cX7_estimate 28 = .ok (.getfield 12, 3) := by decide +kernel
theorem dX7_estimate_31 : decode cX7_estimate 31 = .ok (.iload_n 1, 1) := by decide +kernel
theorem dX7_estimate_32 : decode cX7_estimate 32 = .ok (.invokevirtual 114, 3) := by decide +kernel
theorem dX7_estimate_35 : decode cX7_estimate 35 = .ok (.aload_n 0, 1) := by decide +kernel
theorem dX7_estimate_36 : decode cX7_estimate 36 = .ok (.getfield 12, 3) := by decide +kernel
theorem dX7_estimate_39 : decode cX7_estimate 39 = .ok (.getfield 48, 3) := by decide +kernel
theorem dX7_estimate_42 : decode cX7_estimate 42 = .ok (.getfield 73, 3) := by decide +kernel
theorem dX7_estimate_45 : decode cX7_estimate 45 = .ok (.invokevirtual 172, 3) := by decide +kernel
theorem dX7_estimate_48 : decode cX7_estimate 48 = .ok (.pop, 1) := by decide +kernel
theorem dX7_estimate_49 : decode cX7_estimate 49 = .ok (.aload_n 0, 1) := by decide +kernel
theorem dX7_estimate_50 : decode cX7_estimate 50 = .ok (.getfield 33, 3) := by decide +kernel
theorem dX7_estimate_53 : decode cX7_estimate 53 = .ok (.getfield 176, 3) := by decide +kernel
theorem dX7_estimate_56 : decode cX7_estimate 56 = .ok (.iload_n 2, 1) := by decide +kernel
theorem dX7_estimate_57 : decode cX7_estimate 57 = .ok (.iconst 0, 1) := by decide +kernel
theorem dX7_estimate_58 : decode cX7_estimate 58 = .ok (.invokevirtual 162, 3) := by decide +kernel
theorem dX7_estimate_61 : decode cX7_estimate 61 = .ok (.aload_n 0, 1) := by decide +kernel
theorem dX7_estimate_62 : decode cX7_estimate 62 = .ok (.getfield 33, 3) := by decide +kernel
theorem dX7_estimate_65 : decode cX7_estimate 65 = .ok (.getfield 176, 3) := by decide +kernel
theorem dX7_estimate_68 : decode cX7_estimate 68 = .ok (.iload_n 2, 1) := by decide +kernel
theorem dX7_estimate_69 : decode cX7_estimate 69 = .ok (.iconst 1, 1) := by decide +kernel
theorem dX7_estimate_70 : decode cX7_estimate 70 = .ok (.invokevirtual 162, 3) := by decide +kernel
theorem dX7_estimate_73 : decode cX7_estimate 73 = .ok (.ladd, 1) := by decide +kernel
theorem dX7_estimate_74 : decode cX7_estimate 74 = .ok (.ldc2_w 190, 3) := by decide +kernel
theorem dX7_estimate_77 : decode cX7_estimate 77 = .ok (.ldiv, 1) := by decide +kernel
theorem dX7_estimate_78 : decode cX7_estimate 78 = .ok (.lreturn, 1) := by decide +kernel
theorem dX7_leastPlace_0 : decode cX7_leastPlace 0 = .ok (.aload_n 0, 1) := by decide +kernel
theorem dX7_leastPlace_1 : decode cX7_leastPlace 1 = .ok (.iload_n 1, 1) := by decide +kernel
theorem dX7_leastPlace_2 : decode cX7_leastPlace 2 = .ok (.iload_n 2, 1) := by decide +kernel
theorem dX7_leastPlace_3 : decode cX7_leastPlace 3 = .ok (.iconst 1, 1) := by decide +kernel
theorem dX7_leastPlace_4 : decode cX7_leastPlace 4 = .ok (.iconst 0, 1) := by decide +kernel
theorem dX7_leastPlace_5 : decode cX7_leastPlace 5 = .ok (.invokevirtual 168, 3) := by decide +kernel
theorem dX7_leastPlace_8 : decode cX7_leastPlace 8 = .ok (.lreturn, 1) := by decide +kernel
theorem dX7_widest_0 : decode cX7_widest 0 = .ok (.iload_n 1, 1) := by decide +kernel
theorem dX7_widest_1 : decode cX7_widest 1 = .ok (.invokestatic 106, 3) := by decide +kernel
theorem dX7_widest_4 : decode cX7_widest 4 = .ok (.ifCond .ne 6, 3) := by decide +kernel
theorem dX7_widest_7 : decode cX7_widest 7 = .ok (.bipush (-2), 2) := by decide +kernel
theorem dX7_widest_9 : decode cX7_widest 9 = .ok (.ireturn, 1) := by decide +kernel
theorem dX7_widest_10 : decode cX7_widest 10 = .ok (.aload_n 0, 1) := by decide +kernel
theorem dX7_widest_11 : decode cX7_widest 11 = .ok (.getfield 33, 3) := by decide +kernel
theorem dX7_widest_14 : decode cX7_widest 14 = .ok (.aload_n 0, 1) := by decide +kernel
theorem dX7_widest_15 : decode cX7_widest 15 = .ok (.getfield 12, 3) := by decide +kernel
theorem dX7_widest_18 : decode cX7_widest 18 = .ok (.aload_n 0, 1) := by decide +kernel
theorem dX7_widest_19 : decode cX7_widest 19 = .ok (.getfield 12, 3) := by decide +kernel
theorem dX7_widest_22 : decode cX7_widest 22 = .ok (.iload_n 1, 1) := by decide +kernel
theorem dX7_widest_23 : decode cX7_widest 23 = .ok (.invokevirtual 114, 3) := by decide +kernel
theorem dX7_widest_26 : decode cX7_widest 26 = .ok (.aload_n 0, 1) := by decide +kernel
theorem dX7_widest_27 : decode cX7_widest 27 = .ok (.getfield 12, 3) := by decide +kernel
theorem dX7_widest_30 : decode cX7_widest 30 = .ok (.getfield 48, 3) := by decide +kernel
theorem dX7_widest_33 : decode cX7_widest 33 = .ok (.getfield 73, 3) := by decide +kernel
theorem dX7_widest_36 : decode cX7_widest 36 = .ok (.invokevirtual 172, 3) := by decide +kernel
theorem dX7_widest_39 : decode cX7_widest 39 = .ok (.pop, 1) := by decide +kernel
theorem dX7_widest_40 : decode cX7_widest 40 = .ok (.aload_n 0, 1) := by decide +kernel
theorem dX7_widest_41 : decode cX7_widest 41 = .ok (.getfield 33, 3) := by decide +kernel
theorem dX7_widest_44 : decode cX7_widest 44 = .ok (.getfield 176, 3) := by decide +kernel
theorem dX7_widest_47 : decode cX7_widest 47 = .ok (.invokevirtual 192, 3) := by decide +kernel
theorem dX7_widest_50 : decode cX7_widest 50 = .ok (.ireturn, 1) := by decide +kernel
theorem dX7_leastSpace_0 : decode cX7_leastSpace 0 = .ok (.iload_n 1, 1) := by decide +kernel
theorem dX7_leastSpace_1 : decode cX7_leastSpace 1 = .ok (.invokestatic 106, 3) := by decide +kernel
theorem dX7_leastSpace_4 : decode cX7_leastSpace 4 = .ok (.ifCond .ne 6, 3) := by decide +kernel
theorem dX7_leastSpace_7 : decode cX7_leastSpace 7 = .ok (.bipush (-2), 2) := by decide +kernel
theorem dX7_leastSpace_9 : decode cX7_leastSpace 9 = .ok (.ireturn, 1) := by decide +kernel
theorem dX7_leastSpace_10 : decode cX7_leastSpace 10 = .ok (.aload_n 0, 1) := by decide +kernel
theorem dX7_leastSpace_11 : decode cX7_leastSpace 11 = .ok (.getfield 37, 3) := by decide +kernel
theorem dX7_leastSpace_14 : decode cX7_leastSpace 14 = .ok (.aload_n 0, 1) := by decide +kernel
theorem dX7_leastSpace_15 : decode cX7_leastSpace 15 = .ok (.getfield 12, 3) := by decide +kernel
theorem dX7_leastSpace_18 : decode cX7_leastSpace 18 = .ok (.invokevirtual 195, 3) := by decide +kernel
theorem dX7_leastSpace_21 : decode cX7_leastSpace 21 = .ok (.iconst 2, 1) := by decide +kernel
theorem dX7_leastSpace_22 : decode cX7_leastSpace 22 = .ok (.istore_n 2, 1) := by decide +kernel
theorem dX7_leastSpace_23 : decode cX7_leastSpace 23 = .ok (.iload_n 2, 1) := by decide +kernel
theorem dX7_leastSpace_24 : decode cX7_leastSpace 24 = .ok (.bipush 24, 2) := by decide +kernel
theorem dX7_leastSpace_26 : decode cX7_leastSpace 26 = .ok (.if_icmp .gt 37, 3) := by decide +kernel
theorem dX7_leastSpace_29 : decode cX7_leastSpace 29 = .ok (.aload_n 0, 1) := by decide +kernel
theorem dX7_leastSpace_30 : decode cX7_leastSpace 30 = .ok (.getfield 37, 3) := by decide +kernel
theorem dX7_leastSpace_33 : decode cX7_leastSpace 33 = .ok (.getfield 48, 3) := by decide +kernel
theorem dX7_leastSpace_36 : decode cX7_leastSpace 36 = .ok (.iload_n 2, 1) := by decide +kernel
theorem dX7_leastSpace_37 : decode cX7_leastSpace 37 = .ok (.putfield 52, 3) := by decide +kernel
theorem dX7_leastSpace_40 : decode cX7_leastSpace 40 = .ok (.aload_n 0, 1) := by decide +kernel
theorem dX7_leastSpace_41 : decode cX7_leastSpace 41 = .ok (.aload_n 0, 1) := by decide +kernel
theorem dX7_leastSpace_42 : decode cX7_leastSpace 42 = .ok (.getfield 12, 3) := by decide +kernel
theorem dX7_leastSpace_45 : decode cX7_leastSpace 45 = .ok (.iload_n 1, 1) := by decide +kernel
theorem dX7_leastSpace_46 : decode cX7_leastSpace 46 = .ok (.invokevirtual 114, 3) := by decide +kernel
theorem dX7_leastSpace_49 : decode cX7_leastSpace 49 = .ok (.invokevirtual 198, 3) := by decide +kernel
theorem dX7_leastSpace_52 : decode cX7_leastSpace 52 = .ok (.ifCond .eq 5, 3) := by decide +kernel
theorem dX7_leastSpace_55 : decode cX7_leastSpace 55 = .ok (.iload_n 2, 1) := by decide +kernel
theorem dX7_leastSpace_56 : decode cX7_leastSpace 56 = .ok (.ireturn, 1) := by decide +kernel
theorem dX7_leastSpace_57 : decode cX7_leastSpace 57 = .ok (.iinc 2 1, 3) := by decide +kernel
theorem dX7_leastSpace_60 : decode cX7_leastSpace 60 = .ok (.goto (-37), 3) := by decide +kernel
theorem dX7_leastSpace_63 : decode cX7_leastSpace 63 = .ok (.iconst (-1), 1) := by decide +kernel
theorem dX7_leastSpace_64 : decode cX7_leastSpace 64 = .ok (.ireturn, 1) := by decide +kernel
theorem dX7_bits_0 : decode cX7_bits 0 = .ok (.aload_n 0, 1) := by decide +kernel
theorem dX7_bits_1 : decode cX7_bits 1 = .ok (.getfield 12, 3) := by decide +kernel
theorem dX7_bits_4 : decode cX7_bits 4 = .ok (.getfield 48, 3) := by decide +kernel
theorem dX7_bits_7 : decode cX7_bits 7 = .ok (.getfield 52, 3) := by decide +kernel
theorem dX7_bits_10 : decode cX7_bits 10 = .ok (.aload_n 0, 1) := by decide +kernel
theorem dX7_bits_11 : decode cX7_bits 11 = .ok (.getfield 12, 3) := by decide +kernel
theorem dX7_bits_14 : decode cX7_bits 14 = .ok (.getfield 48, 3) := by decide +kernel
theorem dX7_bits_17 : decode cX7_bits 17 = .ok (.getfield 58, 3) := by decide +kernel
theorem dX7_bits_20 : decode cX7_bits 20 = .ok (.iconst 1, 1) := by decide +kernel
theorem dX7_bits_21 : decode cX7_bits 21 = .ok (.iadd, 1) := by decide +kernel
theorem dX7_bits_22 : decode cX7_bits 22 = .ok (.imul, 1) := by decide +kernel
theorem dX7_bits_23 : decode cX7_bits 23 = .ok (.bipush 32, 2) := by decide +kernel
theorem dX7_bits_25 : decode cX7_bits 25 = .ok (.aload_n 0, 1) := by decide +kernel
theorem dX7_bits_26 : decode cX7_bits 26 = .ok (.getfield 12, 3) := by decide +kernel
theorem dX7_bits_29 : decode cX7_bits 29 = .ok (.getfield 48, 3) := by decide +kernel
theorem dX7_bits_32 : decode cX7_bits 32 = .ok (.getfield 67, 3) := by decide +kernel
theorem dX7_bits_35 : decode cX7_bits 35 = .ok (.imul, 1) := by decide +kernel
theorem dX7_bits_36 : decode cX7_bits 36 = .ok (.iadd, 1) := by decide +kernel
theorem dX7_bits_37 : decode cX7_bits 37 = .ok (.ireturn, 1) := by decide +kernel
theorem dX7_bitsForEach_0 : decode cX7_bitsForEach 0 = .ok (.aload_n 0, 1) := by decide +kernel
theorem dX7_bitsForEach_1 : decode cX7_bitsForEach 1 = .ok (.getfield 12, 3) := by decide +kernel
theorem dX7_bitsForEach_4 : decode cX7_bitsForEach 4 = .ok (.getfield 83, 3) := by decide +kernel
theorem dX7_bitsForEach_7 : decode cX7_bitsForEach 7 = .ok (.istore_n 1, 1) := by decide +kernel
theorem dX7_bitsForEach_8 : decode cX7_bitsForEach 8 = .ok (.iload_n 1, 1) := by decide +kernel
theorem dX7_bitsForEach_9 : decode cX7_bitsForEach 9 = .ok (.ifCond .le 17, 3) := by decide +kernel
theorem dX7_bitsForEach_12 : decode cX7_bitsForEach 12 = .ok (.aload_n 0, 1) := by decide +kernel
theorem dX7_bitsForEach_13 : decode cX7_bitsForEach 13 = .ok (.invokevirtual 201, 3) := by decide +kernel
theorem dX7_bitsForEach_16 : decode cX7_bitsForEach 16 = .ok (.i2f, 1) := by decide +kernel
theorem dX7_bitsForEach_17 : decode cX7_bitsForEach 17 = .ok (.iload_n 1, 1) := by decide +kernel
theorem dX7_bitsForEach_18 : decode cX7_bitsForEach 18 = .ok (.i2f, 1) := by decide +kernel
theorem dX7_bitsForEach_19 : decode cX7_bitsForEach 19 = .ok (.fdiv, 1) := by decide +kernel
theorem dX7_bitsForEach_20 : decode cX7_bitsForEach 20 = .ok (.invokestatic 203, 3) := by decide +kernel
theorem dX7_bitsForEach_23 : decode cX7_bitsForEach 23 = .ok (.goto 4, 3) := by decide +kernel
theorem dX7_bitsForEach_26 : decode cX7_bitsForEach 26 = .ok (.iconst (-1), 1) := by decide +kernel
theorem dX7_bitsForEach_27 : decode cX7_bitsForEach 27 = .ok (.ireturn, 1) := by decide +kernel
theorem dX7_undo_0 : decode cX7_undo 0 = .ok (.aload_n 0, 1) := by decide +kernel
theorem dX7_undo_1 : decode cX7_undo 1 = .ok (.getfield 19, 3) := by decide +kernel
theorem dX7_undo_4 : decode cX7_undo 4 = .ok (.aload_n 0, 1) := by decide +kernel
theorem dX7_undo_5 : decode cX7_undo 5 = .ok (.getfield 12, 3) := by decide +kernel
theorem dX7_undo_8 : decode cX7_undo 8 = .ok (.invokevirtual 207, 3) := by decide +kernel
theorem dX7_undo_11 : decode cX7_undo 11 = .ok (.ireturn, 1) := by decide +kernel
theorem dX7_type_0 : decode cX7_type 0 = .ok (.iconst 0, 1) := by decide +kernel
theorem dX7_type_1 : decode cX7_type 1 = .ok (.iload_n 1, 1) := by decide +kernel
theorem dX7_type_2 : decode cX7_type 2 = .ok (.sipush 255, 3) := by decide +kernel
theorem dX7_type_5 : decode cX7_type 5 = .ok (.invokestatic 40, 3) := by decide +kernel
theorem dX7_type_8 : decode cX7_type 8 = .ok (.ifCond .ne 6, 3) := by decide +kernel
theorem dX7_type_11 : decode cX7_type 11 = .ok (.bipush (-3), 2) := by decide +kernel
theorem dX7_type_13 : decode cX7_type 13 = .ok (.ireturn, 1) := by decide +kernel
theorem dX7_type_14 : decode cX7_type 14 = .ok (.aload_n 0, 1) := by decide +kernel
theorem dX7_type_15 : decode cX7_type 15 = .ok (.getfield 26, 3) := by decide +kernel
theorem dX7_type_18 : decode cX7_type 18 = .ok (.iload_n 1, 1) := by decide +kernel
theorem dX7_type_19 : decode cX7_type 19 = .ok (.invokevirtual 211, 3) := by decide +kernel
theorem dX7_type_22 : decode cX7_type 22 = .ok (.ireturn, 1) := by decide +kernel
theorem dX7_clearText_0 : decode cX7_clearText 0 = .ok (.aload_n 0, 1) := by decide +kernel
theorem dX7_clearText_1 : decode cX7_clearText 1 = .ok (.getfield 26, 3) := by decide +kernel
theorem dX7_clearText_4 : decode cX7_clearText 4 = .ok (.getfield 214, 3) := by decide +kernel
theorem dX7_clearText_7 : decode cX7_clearText 7 = .ok (.istore_n 1, 1) := by decide +kernel
theorem dX7_clearText_8 : decode cX7_clearText 8 = .ok (.aload_n 0, 1) := by decide +kernel
theorem dX7_clearText_9 : decode cX7_clearText 9 = .ok (.getfield 26, 3) := by decide +kernel
theorem dX7_clearText_12 : decode cX7_clearText 12 = .ok (.iconst 0, 1) := by decide +kernel
theorem dX7_clearText_13 : decode cX7_clearText 13 = .ok (.putfield 214, 3) := by decide +kernel
theorem dX7_clearText_16 : decode cX7_clearText 16 = .ok (.iload_n 1, 1) := by decide +kernel
theorem dX7_clearText_17 : decode cX7_clearText 17 = .ok (.ireturn, 1) := by decide +kernel
theorem dX7_textFault_0 : decode cX7_textFault 0 = .ok (.aload_n 0, 1) := by decide +kernel
theorem dX7_textFault_1 : decode cX7_textFault 1 = .ok (.getfield 26, 3) := by decide +kernel
theorem dX7_textFault_4 : decode cX7_textFault 4 = .ok (.aload_n 0, 1) := by decide +kernel
theorem dX7_textFault_5 : decode cX7_textFault 5 = .ok (.getfield 12, 3) := by decide +kernel
theorem dX7_textFault_8 : decode cX7_textFault 8 = .ok (.invokevirtual 217, 3) := by decide +kernel
theorem dX7_textFault_11 : decode cX7_textFault 11 = .ok (.ireturn, 1) := by decide +kernel
theorem dX7_load_0 : decode cX7_load 0 = .ok (.aload_n 0, 1) := by decide +kernel
theorem dX7_load_1 : decode cX7_load 1 = .ok (.getfield 26, 3) := by decide +kernel
theorem dX7_load_4 : decode cX7_load 4 = .ok (.aload_n 0, 1) := by decide +kernel
theorem dX7_load_5 : decode cX7_load 5 = .ok (.getfield 12, 3) := by decide +kernel
theorem dX7_load_8 : decode cX7_load 8 = .ok (.invokevirtual 217, 3) := by decide +kernel
theorem dX7_load_11 : decode cX7_load 11 = .ok (.iconst (-1), 1) := by decide +kernel
theorem dX7_load_12 : decode cX7_load 12 = .ok (.if_icmp .eq 6, 3) := by decide +kernel
theorem dX7_load_15 : decode cX7_load 15 = .ok (.bipush (-4), 2) := by decide +kernel
theorem dX7_load_17 : decode cX7_load 17 = .ok (.ireturn, 1) := by decide +kernel
theorem dX7_load_18 : decode cX7_load 18 = .ok (.aload_n 0, 1) := by decide +kernel
theorem dX7_load_19 : decode cX7_load 19 = .ok (.getfield 26, 3) := by decide +kernel
theorem dX7_load_22 : decode cX7_load 22 = .ok (.aload_n 0, 1) := by decide +kernel
theorem dX7_load_23 : decode cX7_load 23 = .ok (.getfield 12, 3) := by decide +kernel
theorem dX7_load_26 : decode cX7_load 26 = .ok (.invokevirtual 220, 3) := by decide +kernel
theorem dX7_load_29 : decode cX7_load 29 = .ok (.ifCond .ne 6, 3) := by decide +kernel
theorem dX7_load_32 : decode cX7_load 32 = .ok (.bipush (-5), 2) := by decide +kernel
theorem dX7_load_34 : decode cX7_load 34 = .ok (.ireturn, 1) := by decide +kernel
theorem dX7_load_35 : decode cX7_load 35 = .ok (.aload_n 0, 1) := by decide +kernel
theorem dX7_load_36 : decode cX7_load 36 = .ok (.getfield 19, 3) := by decide +kernel
theorem dX7_load_39 : decode cX7_load 39 = .ok (.aload_n 0, 1) := by decide +kernel
theorem dX7_load_40 : decode cX7_load 40 = .ok (.getfield 12, 3) := by decide +kernel
theorem dX7_load_43 : decode cX7_load 43 = .ok (.invokevirtual 44, 3) := by decide +kernel
theorem dX7_load_46 : decode cX7_load 46 = .ok (.iconst 0, 1) := by decide +kernel
theorem dX7_load_47 : decode cX7_load 47 = .ok (.istore_n 1, 1) := by decide +kernel
theorem dX7_load_48 : decode cX7_load 48 = .ok (.iload_n 1, 1) := by decide +kernel
theorem dX7_load_49 : decode cX7_load 49 = .ok (.aload_n 0, 1) := by decide +kernel
theorem dX7_load_50 : decode cX7_load 50 = .ok (.getfield 26, 3) := by decide +kernel
theorem dX7_load_53 : decode cX7_load 53 = .ok (.getfield 224, 3) := by decide +kernel
theorem dX7_load_56 : decode cX7_load 56 = .ok (.if_icmp .ge 50, 3) := by decide +kernel
theorem dX7_load_59 : decode cX7_load 59 = .ok (.aload_n 0, 1) := by decide +kernel
theorem dX7_load_60 : decode cX7_load 60 = .ok (.getfield 12, 3) := by decide +kernel
theorem dX7_load_63 : decode cX7_load 63 = .ok (.aload_n 0, 1) := by decide +kernel
theorem dX7_load_64 : decode cX7_load 64 = .ok (.getfield 12, 3) := by decide +kernel
theorem dX7_load_67 : decode cX7_load 67 = .ok (.iconst 0, 1) := by decide +kernel
theorem dX7_load_68 : decode cX7_load 68 = .ok (.invokevirtual 114, 3) := by decide +kernel
theorem dX7_load_71 : decode cX7_load 71 = .ok (.aload_n 0, 1) := by decide +kernel
theorem dX7_load_72 : decode cX7_load 72 = .ok (.getfield 12, 3) := by decide +kernel
theorem dX7_load_75 : decode cX7_load 75 = .ok (.aload_n 0, 1) := by decide +kernel
theorem dX7_load_76 : decode cX7_load 76 = .ok (.getfield 26, 3) := by decide +kernel
theorem dX7_load_79 : decode cX7_load 79 = .ok (.getfield 227, 3) := by decide +kernel
theorem dX7_load_82 : decode cX7_load 82 = .ok (.iload_n 1, 1) := by decide +kernel
theorem dX7_load_83 : decode cX7_load 83 = .ok (.iaload, 1) := by decide +kernel
theorem dX7_load_84 : decode cX7_load 84 = .ok (.invokevirtual 86, 3) := by decide +kernel
theorem dX7_load_87 : decode cX7_load 87 = .ok (.aload_n 0, 1) := by decide +kernel
theorem dX7_load_88 : decode cX7_load 88 = .ok (.getfield 26, 3) := by decide +kernel
theorem dX7_load_91 : decode cX7_load 91 = .ok (.getfield 230, 3) := by decide +kernel
theorem dX7_load_94 : decode cX7_load 94 = .ok (.iload_n 1, 1) := by decide +kernel
theorem dX7_load_95 : decode cX7_load 95 = .ok (.iaload, 1) := by decide +kernel
theorem dX7_load_96 : decode cX7_load 96 = .ok (.i2l, 1) := by decide +kernel
theorem dX7_load_97 : decode cX7_load 97 = .ok (.invokevirtual 128, 3) := by decide +kernel
theorem dX7_load_100 : decode cX7_load 100 = .ok (.iinc 1 1, 3) := by decide +kernel
theorem dX7_load_103 : decode cX7_load 103 = .ok (.goto (-55), 3) := by decide +kernel
theorem dX7_load_106 : decode cX7_load 106 = .ok (.aload_n 0, 1) := by decide +kernel
theorem dX7_load_107 : decode cX7_load 107 = .ok (.getfield 12, 3) := by decide +kernel
theorem dX7_load_110 : decode cX7_load 110 = .ok (.getfield 83, 3) := by decide +kernel
theorem dX7_load_113 : decode cX7_load 113 = .ok (.ireturn, 1) := by decide +kernel
theorem dX7_digest_0 : decode cX7_digest 0 = .ok (.ldc2_w 233, 3) := by decide +kernel
theorem dX7_digest_3 : decode cX7_digest 3 = .ok (.lstore_n 1, 1) := by decide +kernel
theorem dX7_digest_4 : decode cX7_digest 4 = .ok (.iconst 0, 1) := by decide +kernel
theorem dX7_digest_5 : decode cX7_digest 5 = .ok (.istore_n 3, 1) := by decide +kernel
theorem dX7_digest_6 : decode cX7_digest 6 = .ok (.iload_n 3, 1) := by decide +kernel
theorem dX7_digest_7 : decode cX7_digest 7 = .ok (.bipush 7, 2) := by decide +kernel
theorem dX7_digest_9 : decode cX7_digest 9 = .ok (.if_icmp .ge 25, 3) := by decide +kernel
theorem dX7_digest_12 : decode cX7_digest 12 = .ok (.ldc2_w 235, 3) := by decide +kernel
theorem dX7_digest_15 : decode cX7_digest 15 = .ok (.lload_n 1, 1) := by decide +kernel
theorem dX7_digest_16 : decode cX7_digest 16 = .ok (.lmul, 1) := by decide +kernel
theorem dX7_digest_17 : decode cX7_digest 17 = .ok (.aload_n 0, 1) := by decide +kernel
theorem dX7_digest_18 : decode cX7_digest 18 = .ok (.getfield 12, 3) := by decide +kernel
theorem dX7_digest_21 : decode cX7_digest 21 = .ok (.iload_n 3, 1) := by decide +kernel
theorem dX7_digest_22 : decode cX7_digest 22 = .ok (.invokevirtual 76, 3) := by decide +kernel
theorem dX7_digest_25 : decode cX7_digest 25 = .ok (.i2l, 1) := by decide +kernel
theorem dX7_digest_26 : decode cX7_digest 26 = .ok (.ladd, 1) := by decide +kernel
theorem dX7_digest_27 : decode cX7_digest 27 = .ok (.lstore_n 1, 1) := by decide +kernel
theorem dX7_digest_28 : decode cX7_digest 28 = .ok (.iinc 3 1, 3) := by decide +kernel
theorem dX7_digest_31 : decode cX7_digest 31 = .ok (.goto (-25), 3) := by decide +kernel
theorem dX7_digest_34 : decode cX7_digest 34 = .ok (.iconst 0, 1) := by decide +kernel
theorem dX7_digest_35 : decode cX7_digest 35 = .ok (.istore_n 3, 1) := by decide +kernel
theorem dX7_digest_36 : decode cX7_digest 36 = .ok (.iload_n 3, 1) := by decide +kernel
theorem dX7_digest_37 : decode cX7_digest 37 = .ok (.aload_n 0, 1) := by decide +kernel
theorem dX7_digest_38 : decode cX7_digest 38 = .ok (.getfield 12, 3) := by decide +kernel
theorem dX7_digest_41 : decode cX7_digest 41 = .ok (.getfield 83, 3) := by decide +kernel
theorem dX7_digest_44 : decode cX7_digest 44 = .ok (.if_icmp .ge 26, 3) := by decide +kernel
theorem dX7_digest_47 : decode cX7_digest 47 = .ok (.ldc2_w 235, 3) := by decide +kernel
theorem dX7_digest_50 : decode cX7_digest 50 = .ok (.lload_n 1, 1) := by decide +kernel
theorem dX7_digest_51 : decode cX7_digest 51 = .ok (.lmul, 1) := by decide +kernel
theorem dX7_digest_52 : decode cX7_digest 52 = .ok (.aload_n 0, 1) := by decide +kernel
theorem dX7_digest_53 : decode cX7_digest 53 = .ok (.getfield 12, 3) := by decide +kernel
theorem dX7_digest_56 : decode cX7_digest 56 = .ok (.getfield 93, 3) := by decide +kernel
theorem dX7_digest_59 : decode cX7_digest 59 = .ok (.iload_n 3, 1) := by decide +kernel
theorem dX7_digest_60 : decode cX7_digest 60 = .ok (.iaload, 1) := by decide +kernel
theorem dX7_digest_61 : decode cX7_digest 61 = .ok (.i2l, 1) := by decide +kernel
theorem dX7_digest_62 : decode cX7_digest 62 = .ok (.ladd, 1) := by decide +kernel
theorem dX7_digest_63 : decode cX7_digest 63 = .ok (.lstore_n 1, 1) := by decide +kernel
theorem dX7_digest_64 : decode cX7_digest 64 = .ok (.iinc 3 1, 3) := by decide +kernel
theorem dX7_digest_67 : decode cX7_digest 67 = .ok (.goto (-31), 3) := by decide +kernel
theorem dX7_digest_70 : decode cX7_digest 70 = .ok (.iconst 0, 1) := by decide +kernel
theorem dX7_digest_71 : decode cX7_digest 71 = .ok (.istore_n 3, 1) := by decide +kernel
theorem dX7_digest_72 : decode cX7_digest 72 = .ok (.iload_n 3, 1) := by decide +kernel
theorem dX7_digest_73 : decode cX7_digest 73 = .ok (.iconst 2, 1) := by decide +kernel
theorem dX7_digest_74 : decode cX7_digest 74 = .ok (.if_icmp .ge 23, 3) := by decide +kernel
theorem dX7_digest_77 : decode cX7_digest 77 = .ok (.aload_n 0, 1) := by decide +kernel
theorem dX7_digest_78 : decode cX7_digest 78 = .ok (.lload_n 1, 1) := by decide +kernel
theorem dX7_digest_79 : decode cX7_digest 79 = .ok (.aload_n 0, 1) := by decide +kernel
theorem dX7_digest_80 : decode cX7_digest 80 = .ok (.getfield 12, 3) := by decide +kernel
theorem dX7_digest_83 : decode cX7_digest 83 = .ok (.iload_n 3, 1) := by decide +kernel
theorem dX7_digest_84 : decode cX7_digest 84 = .ok (.invokevirtual 114, 3) := by decide +kernel
theorem dX7_digest_87 : decode cX7_digest 87 = .ok (.invokevirtual 237, 3) := by decide +kernel
theorem dX7_digest_90 : decode cX7_digest 90 = .ok (.lstore_n 1, 1) := by decide +kernel
theorem dX7_digest_91 : decode cX7_digest 91 = .ok (.iinc 3 1, 3) := by decide +kernel
theorem dX7_digest_94 : decode cX7_digest 94 = .ok (.goto (-22), 3) := by decide +kernel
theorem dX7_digest_97 : decode cX7_digest 97 = .ok (.lload_n 1, 1) := by decide +kernel
theorem dX7_digest_98 : decode cX7_digest 98 = .ok (.lreturn, 1) := by decide +kernel
theorem dX7_isFrom_0 : decode cX7_isFrom 0 = .ok (.iload_n 0, 1) := by decide +kernel
theorem dX7_isFrom_1 : decode cX7_isFrom 1 = .ok (.iload_n 1, 1) := by decide +kernel
theorem dX7_isFrom_2 : decode cX7_isFrom 2 = .ok (.if_icmp .gt 12, 3) := by decide +kernel
theorem dX7_isFrom_5 : decode cX7_isFrom 5 = .ok (.iload_n 1, 1) := by decide +kernel
theorem dX7_isFrom_6 : decode cX7_isFrom 6 = .ok (.iload_n 2, 1) := by decide +kernel
theorem dX7_isFrom_7 : decode cX7_isFrom 7 = .ok (.if_icmp .gt 7, 3) := by decide +kernel
theorem dX7_isFrom_10 : decode cX7_isFrom 10 = .ok (.iconst 1, 1) := by decide +kernel
theorem dX7_isFrom_11 : decode cX7_isFrom 11 = .ok (.goto 4, 3) := by decide +kernel
theorem dX7_isFrom_14 : decode cX7_isFrom 14 = .ok (.iconst 0, 1) := by decide +kernel
theorem dX7_isFrom_15 : decode cX7_isFrom 15 = .ok (.ireturn, 1) := by decide +kernel
theorem dX7_isBraid_0 : decode cX7_isBraid 0 = .ok (.iconst 0, 1) := by decide +kernel
theorem dX7_isBraid_1 : decode cX7_isBraid 1 = .ok (.iload_n 0, 1) := by decide +kernel
theorem dX7_isBraid_2 : decode cX7_isBraid 2 = .ok (.iconst 1, 1) := by decide +kernel
theorem dX7_isBraid_3 : decode cX7_isBraid 3 = .ok (.invokestatic 40, 3) := by decide +kernel
theorem dX7_isBraid_6 : decode cX7_isBraid 6 = .ok (.ireturn, 1) := by decide +kernel
theorem dX7_isFlow_0 : decode cX7_isFlow 0 = .ok (.iconst 0, 1) := by decide +kernel
theorem dX7_isFlow_1 : decode cX7_isFlow 1 = .ok (.iload_n 1, 1) := by decide +kernel
theorem dX7_isFlow_2 : decode cX7_isFlow 2 = .ok (.aload_n 0, 1) := by decide +kernel
theorem dX7_isFlow_3 : decode cX7_isFlow 3 = .ok (.getfield 12, 3) := by decide +kernel
theorem dX7_isFlow_6 : decode cX7_isFlow 6 = .ok (.getfield 83, 3) := by decide +kernel
theorem dX7_isFlow_9 : decode cX7_isFlow 9 = .ok (.iconst 1, 1) := by decide +kernel
theorem dX7_isFlow_10 : decode cX7_isFlow 10 = .ok (.isub, 1) := by decide +kernel
theorem dX7_isFlow_11 : decode cX7_isFlow 11 = .ok (.invokestatic 40, 3) := by decide +kernel
theorem dX7_isFlow_14 : decode cX7_isFlow 14 = .ok (.ireturn, 1) := by decide +kernel
theorem dX7_isCounter_0 : decode cX7_isCounter 0 = .ok (.iconst 0, 1) := by decide +kernel
theorem dX7_isCounter_1 : decode cX7_isCounter 1 = .ok (.iload_n 1, 1) := by decide +kernel
theorem dX7_isCounter_2 : decode cX7_isCounter 2 = .ok (.aload_n 0, 1) := by decide +kernel
theorem dX7_isCounter_3 : decode cX7_isCounter 3 = .ok (.getfield 12, 3) := by decide +kernel
theorem dX7_isCounter_6 : decode cX7_isCounter 6 = .ok (.getfield 48, 3) := by decide +kernel
theorem dX7_isCounter_9 : decode cX7_isCounter 9 = .ok (.getfield 52, 3) := by decide +kernel
theorem dX7_isCounter_12 : decode cX7_isCounter 12 = .ok (.iconst 1, 1) := by decide +kernel
theorem dX7_isCounter_13 : decode cX7_isCounter 13 = .ok (.isub, 1) := by decide +kernel
theorem dX7_isCounter_14 : decode cX7_isCounter 14 = .ok (.invokestatic 40, 3) := by decide +kernel
theorem dX7_isCounter_17 : decode cX7_isCounter 17 = .ok (.ireturn, 1) := by decide +kernel
theorem dX7_isTrialCertain_0 : decode cX7_isTrialCertain 0 = .ok (.aload_n 0, 1) := by decide +kernel
theorem dX7_isTrialCertain_1 : decode cX7_isTrialCertain 1 = .ok (.getfield 37, 3) := by decide +kernel
theorem dX7_isTrialCertain_4 : decode cX7_isTrialCertain 4 = .ok (.iconst 0, 1) := by decide +kernel
theorem dX7_isTrialCertain_5 : decode cX7_isTrialCertain 5 = .ok (.invokevirtual 114, 3) := by decide +kernel
theorem dX7_isTrialCertain_8 : decode cX7_isTrialCertain 8 = .ok (.astore_n 2, 1) := by decide +kernel
theorem dX7_isTrialCertain_9 : decode cX7_isTrialCertain 9 = .ok (.aload_n 2, 1) := by decide +kernel
theorem dX7_isTrialCertain_10 : decode cX7_isTrialCertain 10 = .ok (.invokevirtual 144, 3) := by decide +kernel
theorem dX7_isTrialCertain_13 : decode cX7_isTrialCertain 13 = .ok (.iconst 0, 1) := by decide +kernel
theorem dX7_isTrialCertain_14 : decode cX7_isTrialCertain 14 = .ok (.istore_n 3, 1) := by decide +kernel
theorem dX7_isTrialCertain_15 : decode cX7_isTrialCertain 15 = .ok (.iload_n 3, 1) := by decide +kernel
theorem dX7_isTrialCertain_16 : decode cX7_isTrialCertain 16 = .ok (.aload_n 0, 1) := by decide +kernel
theorem dX7_isTrialCertain_17 : decode cX7_isTrialCertain 17 = .ok (.getfield 37, 3) := by decide +kernel
theorem dX7_isTrialCertain_20 : decode cX7_isTrialCertain 20 = .ok (.getfield 83, 3) := by decide +kernel
theorem dX7_isTrialCertain_23 : decode cX7_isTrialCertain 23 = .ok (.if_icmp .ge 24, 3) := by decide +kernel
theorem dX7_isTrialCertain_26 : decode cX7_isTrialCertain 26 = .ok (.aload_n 0, 1) := by decide +kernel
theorem dX7_isTrialCertain_27 : decode cX7_isTrialCertain 27 = .ok (.getfield 37, 3) := by decide +kernel
theorem dX7_isTrialCertain_30 : decode cX7_isTrialCertain 30 = .ok (.aload_n 2, 1) := by decide +kernel
theorem dX7_isTrialCertain_31 : decode cX7_isTrialCertain 31 = .ok (.iload_n 3, 1) := by decide +kernel
theorem dX7_isTrialCertain_32 : decode cX7_isTrialCertain 32 = .ok (.aload_n 1, 1) := by decide +kernel
theorem dX7_isTrialCertain_33 : decode cX7_isTrialCertain 33 = .ok (.getfield 118, 3) := by decide +kernel
theorem dX7_isTrialCertain_36 : decode cX7_isTrialCertain 36 = .ok (.iload_n 3, 1) := by decide +kernel
theorem dX7_isTrialCertain_37 : decode cX7_isTrialCertain 37 = .ok (.laload, 1) := by decide +kernel
theorem dX7_isTrialCertain_38 : decode cX7_isTrialCertain 38 = .ok (.invokevirtual 128, 3) := by decide +kernel
theorem dX7_isTrialCertain_41 : decode cX7_isTrialCertain 41 = .ok (.iinc 3 1, 3) := by decide +kernel
theorem dX7_isTrialCertain_44 : decode cX7_isTrialCertain 44 = .ok (.goto (-29), 3) := by decide +kernel
theorem dX7_isTrialCertain_47 : decode cX7_isTrialCertain 47 = .ok (.aload_n 0, 1) := by decide +kernel
theorem dX7_isTrialCertain_48 : decode cX7_isTrialCertain 48 = .ok (.getfield 33, 3) := by decide +kernel
theorem dX7_isTrialCertain_51 : decode cX7_isTrialCertain 51 = .ok (.aload_n 0, 1) := by decide +kernel
theorem dX7_isTrialCertain_52 : decode cX7_isTrialCertain 52 = .ok (.getfield 37, 3) := by decide +kernel
theorem dX7_isTrialCertain_55 : decode cX7_isTrialCertain 55 = .ok (.aload_n 2, 1) := by decide +kernel
theorem dX7_isTrialCertain_56 : decode cX7_isTrialCertain 56 = .ok (.aload_n 0, 1) := by decide +kernel
theorem dX7_isTrialCertain_57 : decode cX7_isTrialCertain 57 = .ok (.getfield 37, 3) := by decide +kernel
theorem dX7_isTrialCertain_60 : decode cX7_isTrialCertain 60 = .ok (.getfield 48, 3) := by decide +kernel
theorem dX7_isTrialCertain_63 : decode cX7_isTrialCertain 63 = .ok (.getfield 73, 3) := by decide +kernel
theorem dX7_isTrialCertain_66 : decode cX7_isTrialCertain 66 = .ok (.invokevirtual 172, 3) := by decide +kernel
theorem dX7_isTrialCertain_69 : decode cX7_isTrialCertain 69 = .ok (.pop, 1) := by decide +kernel
theorem dX7_isTrialCertain_70 : decode cX7_isTrialCertain 70 = .ok (.aload_n 0, 1) := by decide +kernel
theorem dX7_isTrialCertain_71 : decode cX7_isTrialCertain 71 = .ok (.getfield 33, 3) := by decide +kernel
theorem dX7_isTrialCertain_74 : decode cX7_isTrialCertain 74 = .ok (.getfield 176, 3) := by decide +kernel
theorem dX7_isTrialCertain_77 : decode cX7_isTrialCertain 77 = .ok (.invokevirtual 192, 3) := by decide +kernel
theorem dX7_isTrialCertain_80 : decode cX7_isTrialCertain 80 = .ok (.iconst (-1), 1) := by decide +kernel
theorem dX7_isTrialCertain_81 : decode cX7_isTrialCertain 81 = .ok (.if_icmp .ne 7, 3) := by decide +kernel
theorem dX7_isTrialCertain_84 : decode cX7_isTrialCertain 84 = .ok (.iconst 1, 1) := by decide +kernel
theorem dX7_isTrialCertain_85 : decode cX7_isTrialCertain 85 = .ok (.goto 4, 3) := by decide +kernel
theorem dX7_isTrialCertain_88 : decode cX7_isTrialCertain 88 = .ok (.iconst 0, 1) := by decide +kernel
theorem dX7_isTrialCertain_89 : decode cX7_isTrialCertain 89 = .ok (.ireturn, 1) := by decide +kernel
theorem dX7_hashOfBraid_0 : decode cX7_hashOfBraid 0 = .ok (.lload_n 1, 1) := by decide +kernel
theorem dX7_hashOfBraid_1 : decode cX7_hashOfBraid 1 = .ok (.lstore 4, 2) := by decide +kernel
theorem dX7_hashOfBraid_3 : decode cX7_hashOfBraid 3 = .ok (.iconst 0, 1) := by decide +kernel
theorem dX7_hashOfBraid_4 : decode cX7_hashOfBraid 4 = .ok (.istore 6, 2) := by decide +kernel
theorem dX7_hashOfBraid_6 : decode cX7_hashOfBraid 6 = .ok (.iload 6, 2) := by decide +kernel
theorem dX7_hashOfBraid_8 : decode cX7_hashOfBraid 8 = .ok (.aload_n 0, 1) := by decide +kernel
theorem dX7_hashOfBraid_9 : decode cX7_hashOfBraid 9 = .ok (.getfield 12, 3) := by decide +kernel
theorem dX7_hashOfBraid_12 : decode cX7_hashOfBraid 12 = .ok (.getfield 83, 3) := by decide +kernel
theorem dX7_hashOfBraid_15 : decode cX7_hashOfBraid 15 = .ok (.if_icmp .ge 25, 3) := by decide +kernel
theorem dX7_hashOfBraid_18 : decode cX7_hashOfBraid 18 = .ok (.ldc2_w 235, 3) := by decide +kernel
theorem dX7_hashOfBraid_21 : decode cX7_hashOfBraid 21 = .ok (.lload 4, 2) := by decide +kernel
theorem dX7_hashOfBraid_23 : decode cX7_hashOfBraid 23 = .ok (.lmul, 1) := by decide +kernel
theorem dX7_hashOfBraid_24 : decode cX7_hashOfBraid 24 = .ok (.aload_n 3, 1) := by decide +kernel
theorem dX7_hashOfBraid_25 : decode cX7_hashOfBraid 25 = .ok (.getfield 118, 3) := by decide +kernel
theorem dX7_hashOfBraid_28 : decode cX7_hashOfBraid 28 = .ok (.iload 6, 2) := by decide +kernel
theorem dX7_hashOfBraid_30 : decode cX7_hashOfBraid 30 = .ok (.laload, 1) := by decide +kernel
theorem dX7_hashOfBraid_31 : decode cX7_hashOfBraid 31 = .ok (.ladd, 1) := by decide +kernel
theorem dX7_hashOfBraid_32 : decode cX7_hashOfBraid 32 = .ok (.lstore 4, 2) := by decide +kernel
theorem dX7_hashOfBraid_34 : decode cX7_hashOfBraid 34 = .ok (.iinc 6 1, 3) := by decide +kernel
theorem dX7_hashOfBraid_37 : decode cX7_hashOfBraid 37 = .ok (.goto (-31), 3) := by decide +kernel
theorem dX7_hashOfBraid_40 : decode cX7_hashOfBraid 40 = .ok (.iconst 0, 1) := by decide +kernel
theorem dX7_hashOfBraid_41 : decode cX7_hashOfBraid 41 = .ok (.istore 6, 2) := by decide +kernel
theorem dX7_hashOfBraid_43 : decode cX7_hashOfBraid 43 = .ok (.iload 6, 2) := by decide +kernel
theorem dX7_hashOfBraid_45 : decode cX7_hashOfBraid 45 = .ok (.aload_n 0, 1) := by decide +kernel
theorem dX7_hashOfBraid_46 : decode cX7_hashOfBraid 46 = .ok (.getfield 12, 3) := by decide +kernel
theorem dX7_hashOfBraid_49 : decode cX7_hashOfBraid 49 = .ok (.getfield 48, 3) := by decide +kernel
theorem dX7_hashOfBraid_52 : decode cX7_hashOfBraid 52 = .ok (.getfield 52, 3) := by decide +kernel
theorem dX7_hashOfBraid_55 : decode cX7_hashOfBraid 55 = .ok (.if_icmp .ge 43, 3) := by decide +kernel
theorem dX7_hashOfBraid_58 : decode cX7_hashOfBraid 58 = .ok (.ldc2_w 235, 3) := by decide +kernel
theorem dX7_hashOfBraid_61 : decode cX7_hashOfBraid 61 = .ok (.lload 4, 2) := by decide +kernel
theorem dX7_hashOfBraid_63 : decode cX7_hashOfBraid 63 = .ok (.lmul, 1) := by decide +kernel
theorem dX7_hashOfBraid_64 : decode cX7_hashOfBraid 64 = .ok (.aload_n 3, 1) := by decide +kernel
theorem dX7_hashOfBraid_65 : decode cX7_hashOfBraid 65 = .ok (.getfield 145, 3) := by decide +kernel
theorem dX7_hashOfBraid_68 : decode cX7_hashOfBraid 68 = .ok (.iload 6, 2) := by decide +kernel
theorem dX7_hashOfBraid_70 : decode cX7_hashOfBraid 70 = .ok (.iaload, 1) := by decide +kernel
theorem dX7_hashOfBraid_71 : decode cX7_hashOfBraid 71 = .ok (.i2l, 1) := by decide +kernel
theorem dX7_hashOfBraid_72 : decode cX7_hashOfBraid 72 = .ok (.ladd, 1) := by decide +kernel
theorem dX7_hashOfBraid_73 : decode cX7_hashOfBraid 73 = .ok (.lstore 4, 2) := by decide +kernel
theorem dX7_hashOfBraid_75 : decode cX7_hashOfBraid 75 = .ok (.ldc2_w 235, 3) := by decide +kernel
theorem dX7_hashOfBraid_78 : decode cX7_hashOfBraid 78 = .ok (.lload 4, 2) := by decide +kernel
theorem dX7_hashOfBraid_80 : decode cX7_hashOfBraid 80 = .ok (.lmul, 1) := by decide +kernel
theorem dX7_hashOfBraid_81 : decode cX7_hashOfBraid 81 = .ok (.aload_n 3, 1) := by decide +kernel
theorem dX7_hashOfBraid_82 : decode cX7_hashOfBraid 82 = .ok (.getfield 148, 3) := by decide +kernel
theorem dX7_hashOfBraid_85 : decode cX7_hashOfBraid 85 = .ok (.iload 6, 2) := by decide +kernel
theorem dX7_hashOfBraid_87 : decode cX7_hashOfBraid 87 = .ok (.iaload, 1) := by decide +kernel
theorem dX7_hashOfBraid_88 : decode cX7_hashOfBraid 88 = .ok (.i2l, 1) := by decide +kernel
theorem dX7_hashOfBraid_89 : decode cX7_hashOfBraid 89 = .ok (.ladd, 1) := by decide +kernel
theorem dX7_hashOfBraid_90 : decode cX7_hashOfBraid 90 = .ok (.lstore 4, 2) := by decide +kernel
theorem dX7_hashOfBraid_92 : decode cX7_hashOfBraid 92 = .ok (.iinc 6 1, 3) := by decide +kernel
theorem dX7_hashOfBraid_95 : decode cX7_hashOfBraid 95 = .ok (.goto (-52), 3) := by decide +kernel
theorem dX7_hashOfBraid_98 : decode cX7_hashOfBraid 98 = .ok (.iconst 0, 1) := by decide +kernel
theorem dX7_hashOfBraid_99 : decode cX7_hashOfBraid 99 = .ok (.istore 6, 2) := by decide +kernel
theorem dX7_hashOfBraid_101 : decode cX7_hashOfBraid 101 = .ok (.iload 6, 2) := by decide +kernel
theorem dX7_hashOfBraid_103 : decode cX7_hashOfBraid 103 = .ok (.aload_n 0, 1) := by decide +kernel
theorem dX7_hashOfBraid_104 : decode cX7_hashOfBraid 104 = .ok (.getfield 12, 3) := by decide +kernel
theorem dX7_hashOfBraid_107 : decode cX7_hashOfBraid 107 = .ok (.getfield 48, 3) := by decide +kernel
theorem dX7_hashOfBraid_110 : decode cX7_hashOfBraid 110 = .ok (.getfield 67, 3) := by decide +kernel
theorem dX7_hashOfBraid_113 : decode cX7_hashOfBraid 113 = .ok (.if_icmp .ge 25, 3) := by decide +kernel
theorem dX7_hashOfBraid_116 : decode cX7_hashOfBraid 116 = .ok (.ldc2_w 235, 3) := by decide +kernel
theorem dX7_hashOfBraid_119 : decode cX7_hashOfBraid 119 = .ok (.lload 4, 2) := by decide +kernel
theorem dX7_hashOfBraid_121 : decode cX7_hashOfBraid 121 = .ok (.lmul, 1) := by decide +kernel
theorem dX7_hashOfBraid_122 : decode cX7_hashOfBraid 122 = .ok (.aload_n 3, 1) := by decide +kernel
theorem dX7_hashOfBraid_123 : decode cX7_hashOfBraid 123 = .ok (.getfield 151, 3) := by decide +kernel
theorem dX7_hashOfBraid_126 : decode cX7_hashOfBraid 126 = .ok (.iload 6, 2) := by decide +kernel
theorem dX7_hashOfBraid_128 : decode cX7_hashOfBraid 128 = .ok (.laload, 1) := by decide +kernel
theorem dX7_hashOfBraid_129 : decode cX7_hashOfBraid 129 = .ok (.ladd, 1) := by decide +kernel
theorem dX7_hashOfBraid_130 : decode cX7_hashOfBraid 130 = .ok (.lstore 4, 2) := by decide +kernel
theorem dX7_hashOfBraid_132 : decode cX7_hashOfBraid 132 = .ok (.iinc 6 1, 3) := by decide +kernel
theorem dX7_hashOfBraid_135 : decode cX7_hashOfBraid 135 = .ok (.goto (-34), 3) := by decide +kernel
theorem dX7_hashOfBraid_138 : decode cX7_hashOfBraid 138 = .ok (.lload 4, 2) := by decide +kernel
theorem dX7_hashOfBraid_140 : decode cX7_hashOfBraid 140 = .ok (.lreturn, 1) := by decide +kernel
theorem dX7_bitsOfFloat_0 : decode cX7_bitsOfFloat 0 = .ok (.fload_n 0, 1) := by decide +kernel
theorem dX7_bitsOfFloat_1 : decode cX7_bitsOfFloat 1 = .ok (.fstore_n 1, 1) := by decide +kernel
theorem dX7_bitsOfFloat_2 : decode cX7_bitsOfFloat 2 = .ok (.bipush 127, 2) := by decide +kernel
theorem dX7_bitsOfFloat_4 : decode cX7_bitsOfFloat 4 = .ok (.istore_n 2, 1) := by decide +kernel
theorem dX7_bitsOfFloat_5 : decode cX7_bitsOfFloat 5 = .ok (.fload_n 1, 1) := by decide +kernel
theorem dX7_bitsOfFloat_6 : decode cX7_bitsOfFloat 6 = .ok (.fconst 2, 1) := by decide +kernel
theorem dX7_bitsOfFloat_7 : decode cX7_bitsOfFloat 7 = .ok (.fcmp .l, 1) := by decide +kernel
theorem dX7_bitsOfFloat_8 : decode cX7_bitsOfFloat 8 = .ok (.ifCond .lt 20, 3) := by decide +kernel
theorem dX7_bitsOfFloat_11 : decode cX7_bitsOfFloat 11 = .ok (.iload_n 2, 1) := by decide +kernel
theorem dX7_bitsOfFloat_12 : decode cX7_bitsOfFloat 12 = .ok (.sipush 254, 3) := by decide +kernel
theorem dX7_bitsOfFloat_15 : decode cX7_bitsOfFloat 15 = .ok (.if_icmp .ge 13, 3) := by decide +kernel
theorem dX7_bitsOfFloat_18 : decode cX7_bitsOfFloat 18 = .ok (.fload_n 1, 1) := by decide +kernel
theorem dX7_bitsOfFloat_19 : decode cX7_bitsOfFloat 19 = .ok (.fconst 2, 1) := by decide +kernel
theorem dX7_bitsOfFloat_20 : decode cX7_bitsOfFloat 20 = .ok (.fdiv, 1) := by decide +kernel
theorem dX7_bitsOfFloat_21 : decode cX7_bitsOfFloat 21 = .ok (.fstore_n 1, 1) := by decide +kernel
theorem dX7_bitsOfFloat_22 : decode cX7_bitsOfFloat 22 = .ok (.iinc 2 1, 3) := by decide +kernel
theorem dX7_bitsOfFloat_25 : decode cX7_bitsOfFloat 25 = .ok (.goto (-20), 3) := by decide +kernel
theorem dX7_bitsOfFloat_28 : decode cX7_bitsOfFloat 28 = .ok (.ldc 241, 2) := by decide +kernel
theorem dX7_bitsOfFloat_30 : decode cX7_bitsOfFloat 30 = .ok (.istore_n 3, 1) := by decide +kernel
theorem dX7_bitsOfFloat_31 : decode cX7_bitsOfFloat 31 = .ok (.iload_n 2, 1) := by decide +kernel
theorem dX7_bitsOfFloat_32 : decode cX7_bitsOfFloat 32 = .ok (.bipush 23, 2) := by decide +kernel
theorem dX7_bitsOfFloat_34 : decode cX7_bitsOfFloat 34 = .ok (.ishl, 1) := by decide +kernel
theorem dX7_bitsOfFloat_35 : decode cX7_bitsOfFloat 35 = .ok (.fload_n 1, 1) := by decide +kernel
theorem dX7_bitsOfFloat_36 : decode cX7_bitsOfFloat 36 = .ok (.fconst 1, 1) := by decide +kernel
theorem dX7_bitsOfFloat_37 : decode cX7_bitsOfFloat 37 = .ok (.fsub, 1) := by decide +kernel
theorem dX7_bitsOfFloat_38 : decode cX7_bitsOfFloat 38 = .ok (.iload_n 3, 1) := by decide +kernel
theorem dX7_bitsOfFloat_39 : decode cX7_bitsOfFloat 39 = .ok (.i2f, 1) := by decide +kernel
theorem dX7_bitsOfFloat_40 : decode cX7_bitsOfFloat 40 = .ok (.fmul, 1) := by decide +kernel
theorem dX7_bitsOfFloat_41 : decode cX7_bitsOfFloat 41 = .ok (.f2i, 1) := by decide +kernel
theorem dX7_bitsOfFloat_42 : decode cX7_bitsOfFloat 42 = .ok (.iadd, 1) := by decide +kernel
theorem dX7_bitsOfFloat_43 : decode cX7_bitsOfFloat 43 = .ok (.ireturn, 1) := by decide +kernel
theorem dX7_isIn_0 : decode cX7_isIn 0 = .ok (.iload_n 0, 1) := by decide +kernel
theorem dX7_isIn_1 : decode cX7_isIn 1 = .ok (.iload_n 1, 1) := by decide +kernel
theorem dX7_isIn_2 : decode cX7_isIn 2 = .ok (.ishr, 1) := by decide +kernel
theorem dX7_isIn_3 : decode cX7_isIn 3 = .ok (.iconst 1, 1) := by decide +kernel
theorem dX7_isIn_4 : decode cX7_isIn 4 = .ok (.iand, 1) := by decide +kernel
theorem dX7_isIn_5 : decode cX7_isIn 5 = .ok (.iconst 1, 1) := by decide +kernel
theorem dX7_isIn_6 : decode cX7_isIn 6 = .ok (.if_icmp .ne 7, 3) := by decide +kernel
theorem dX7_isIn_9 : decode cX7_isIn 9 = .ok (.iconst 1, 1) := by decide +kernel
theorem dX7_isIn_10 : decode cX7_isIn 10 = .ok (.goto 4, 3) := by decide +kernel
theorem dX7_isIn_13 : decode cX7_isIn 13 = .ok (.iconst 0, 1) := by decide +kernel
theorem dX7_isIn_14 : decode cX7_isIn 14 = .ok (.ireturn, 1) := by decide +kernel
theorem dX8_init_0 : decode cX8_init 0 = .ok (.aload_n 0, 1) := by decide +kernel
theorem dX8_init_1 : decode cX8_init 1 = .ok (.invokespecial 1, 3) := by decide +kernel
theorem dX8_init_4 : decode cX8_init 4 = .ok (.aload_n 0, 1) := by decide +kernel
theorem dX8_init_5 : decode cX8_init 5 = .ok (.sipush 1002, 3) := by decide +kernel
theorem dX8_init_8 : decode cX8_init 8 = .ok (.newarray .int, 2) := by decide +kernel
theorem dX8_init_10 : decode cX8_init 10 = .ok (.putfield 7, 3) := by decide +kernel
theorem dX8_init_13 : decode cX8_init 13 = .ok (.aload_n 0, 1) := by decide +kernel
theorem dX8_init_14 : decode cX8_init 14 = .ok (.sipush 576, 3) := by decide +kernel
theorem dX8_init_17 : decode cX8_init 17 = .ok (.newarray .long, 2) := by decide +kernel
theorem dX8_init_19 : decode cX8_init 19 = .ok (.putfield 13, 3) := by decide +kernel
theorem dX8_init_22 : decode cX8_init 22 = .ok (.aload_n 0, 1) := by decide +kernel
theorem dX8_init_23 : decode cX8_init 23 = .ok (.bipush 24, 2) := by decide +kernel
theorem dX8_init_25 : decode cX8_init 25 = .ok (.newarray .int, 2) := by decide +kernel
theorem dX8_init_27 : decode cX8_init 27 = .ok (.putfield 17, 3) := by decide +kernel
theorem dX8_init_30 : decode cX8_init 30 = .ok (.aload_n 0, 1) := by decide +kernel
theorem dX8_init_31 : decode cX8_init 31 = .ok (.bipush 24, 2) := by decide +kernel
theorem dX8_init_33 : decode cX8_init 33 = .ok (.newarray .long, 2) := by decide +kernel
theorem dX8_init_35 : decode cX8_init 35 = .ok (.putfield 20, 3) := by decide +kernel
theorem dX8_init_38 : decode cX8_init 38 = .ok (.aload_n 0, 1) := by decide +kernel
theorem dX8_init_39 : decode cX8_init 39 = .ok (.bipush 24, 2) := by decide +kernel
theorem dX8_init_41 : decode cX8_init 41 = .ok (.newarray .long, 2) := by decide +kernel
theorem dX8_init_43 : decode cX8_init 43 = .ok (.putfield 23, 3) := by decide +kernel
theorem dX8_init_46 : decode cX8_init 46 = .ok (.aload_n 0, 1) := by decide +kernel
theorem dX8_init_47 : decode cX8_init 47 = .ok (.bipush 24, 2) := by decide +kernel
theorem dX8_init_49 : decode cX8_init 49 = .ok (.newarray .long, 2) := by decide +kernel
theorem dX8_init_51 : decode cX8_init 51 = .ok (.putfield 26, 3) := by decide +kernel
theorem dX8_init_54 : decode cX8_init 54 = .ok (.aload_n 0, 1) := by decide +kernel
theorem dX8_init_55 : decode cX8_init 55 = .ok (.bipush 24, 2) := by decide +kernel
theorem dX8_init_57 : decode cX8_init 57 = .ok (.newarray .long, 2) := by decide +kernel
theorem dX8_init_59 : decode cX8_init 59 = .ok (.putfield 29, 3) := by decide +kernel
theorem dX8_init_62 : decode cX8_init 62 = .ok (.aload_n 0, 1) := by decide +kernel
theorem dX8_init_63 : decode cX8_init 63 = .ok (.bipush 24, 2) := by decide +kernel
theorem dX8_init_65 : decode cX8_init 65 = .ok (.newarray .long, 2) := by decide +kernel
theorem dX8_init_67 : decode cX8_init 67 = .ok (.putfield 32, 3) := by decide +kernel
theorem dX8_init_70 : decode cX8_init 70 = .ok (.aload_n 0, 1) := by decide +kernel
theorem dX8_init_71 : decode cX8_init 71 = .ok (.bipush 24, 2) := by decide +kernel
theorem dX8_init_73 : decode cX8_init 73 = .ok (.newarray .long, 2) := by decide +kernel
theorem dX8_init_75 : decode cX8_init 75 = .ok (.putfield 35, 3) := by decide +kernel
theorem dX8_init_78 : decode cX8_init 78 = .ok (.aload_n 0, 1) := by decide +kernel
theorem dX8_init_79 : decode cX8_init 79 = .ok (.bipush 24, 2) := by decide +kernel
theorem dX8_init_81 : decode cX8_init 81 = .ok (.newarray .long, 2) := by decide +kernel
theorem dX8_init_83 : decode cX8_init 83 = .ok (.putfield 38, 3) := by decide +kernel
theorem dX8_init_86 : decode cX8_init 86 = .ok (.aload_n 0, 1) := by decide +kernel
theorem dX8_init_87 : decode cX8_init 87 = .ok (.bipush 24, 2) := by decide +kernel
theorem dX8_init_89 : decode cX8_init 89 = .ok (.newarray .long, 2) := by decide +kernel
theorem dX8_init_91 : decode cX8_init 91 = .ok (.putfield 41, 3) := by decide +kernel
theorem dX8_init_94 : decode cX8_init 94 = .ok (.aload_n 0, 1) := by decide +kernel
theorem dX8_init_95 : decode cX8_init 95 = .ok (.bipush 100, 2) := by decide +kernel
theorem dX8_init_97 : decode cX8_init 97 = .ok (.newarray .int, 2) := by decide +kernel
theorem dX8_init_99 : decode cX8_init 99 = .ok (.putfield 44, 3) := by decide +kernel
theorem dX8_init_102 : decode cX8_init 102 = .ok (.aload_n 0, 1) := by decide +kernel
theorem dX8_init_103 : decode cX8_init 103 = .ok (.bipush 16, 2) := by decide +kernel
theorem dX8_init_105 : decode cX8_init 105 = .ok (.newarray .int, 2) := by decide +kernel
theorem dX8_init_107 : decode cX8_init 107 = .ok (.putfield 47, 3) := by decide +kernel
theorem dX8_init_110 : decode cX8_init 110 = .ok (.aload_n 0, 1) := by decide +kernel
theorem dX8_init_111 : decode cX8_init 111 = .ok (.bipush 16, 2) := by decide +kernel
theorem dX8_init_113 : decode cX8_init 113 = .ok (.newarray .long, 2) := by decide +kernel
theorem dX8_init_115 : decode cX8_init 115 = .ok (.putfield 50, 3) := by decide +kernel
theorem dX8_init_118 : decode cX8_init 118 = .ok (.aload_n 0, 1) := by decide +kernel
theorem dX8_init_119 : decode cX8_init 119 = .ok (.getfield 7, 3) := by decide +kernel
theorem dX8_init_122 : decode cX8_init 122 = .ok (.iconst 0, 1) := by decide +kernel
theorem dX8_init_123 : decode cX8_init 123 = .ok (.bipush 12, 2) := by decide +kernel
theorem dX8_init_125 : decode cX8_init 125 = .ok (.iastore, 1) := by decide +kernel
theorem dX8_init_126 : decode cX8_init 126 = .ok (.aload_n 0, 1) := by decide +kernel
theorem dX8_init_127 : decode cX8_init 127 = .ok (.getfield 7, 3) := by decide +kernel
theorem dX8_init_130 : decode cX8_init 130 = .ok (.iconst 1, 1) := by decide +kernel
theorem dX8_init_131 : decode cX8_init 131 = .ok (.iconst 3, 1) := by decide +kernel
theorem dX8_init_132 : decode cX8_init 132 = .ok (.iastore, 1) := by decide +kernel
theorem dX8_init_133 : decode cX8_init 133 = .ok (.aload_n 0, 1) := by decide +kernel
theorem dX8_init_134 : decode cX8_init 134 = .ok (.getfield 7, 3) := by decide +kernel
theorem dX8_init_137 : decode cX8_init 137 = .ok (.iconst 2, 1) := by decide +kernel
theorem dX8_init_138 : decode cX8_init 138 = .ok (.iconst 3, 1) := by decide +kernel
theorem dX8_init_139 : decode cX8_init 139 = .ok (.iastore, 1) := by decide +kernel
theorem dX8_init_140 : decode cX8_init 140 = .ok (.aload_n 0, 1) := by decide +kernel
theorem dX8_init_141 : decode cX8_init 141 = .ok (.getfield 7, 3) := by decide +kernel
theorem dX8_init_144 : decode cX8_init 144 = .ok (.iconst 3, 1) := by decide +kernel
theorem dX8_init_145 : decode cX8_init 145 = .ok (.bipush 6, 2) := by decide +kernel
theorem dX8_init_147 : decode cX8_init 147 = .ok (.iastore, 1) := by decide +kernel
theorem dX8_init_148 : decode cX8_init 148 = .ok (.aload_n 0, 1) := by decide +kernel
theorem dX8_init_149 : decode cX8_init 149 = .ok (.getfield 7, 3) := by decide +kernel
theorem dX8_init_152 : decode cX8_init 152 = .ok (.iconst 4, 1) := by decide +kernel
theorem dX8_init_153 : decode cX8_init 153 = .ok (.iconst 2, 1) := by decide +kernel
theorem dX8_init_154 : decode cX8_init 154 = .ok (.iastore, 1) := by decide +kernel
theorem dX8_init_155 : decode cX8_init 155 = .ok (.aload_n 0, 1) := by decide +kernel
theorem dX8_init_156 : decode cX8_init 156 = .ok (.getfield 7, 3) := by decide +kernel
theorem dX8_init_159 : decode cX8_init 159 = .ok (.iconst 5, 1) := by decide +kernel
theorem dX8_init_160 : decode cX8_init 160 = .ok (.bipush 20, 2) := by decide +kernel
theorem dX8_init_162 : decode cX8_init 162 = .ok (.iastore, 1) := by decide +kernel
theorem dX8_init_163 : decode cX8_init 163 = .ok (.return_, 1) := by decide +kernel
theorem dX8_in_0 : decode cX8_in 0 = .ok (.iload_n 0, 1) := by decide +kernel
theorem dX8_in_1 : decode cX8_in 1 = .ok (.iload_n 1, 1) := by decide +kernel
theorem dX8_in_2 : decode cX8_in 2 = .ok (.if_icmp .lt 12, 3) := by decide +kernel
theorem dX8_in_5 : decode cX8_in 5 = .ok (.iload_n 0, 1) := by decide +kernel
theorem dX8_in_6 : decode cX8_in 6 = .ok (.iload_n 2, 1) := by decide +kernel
theorem dX8_in_7 : decode cX8_in 7 = .ok (.if_icmp .gt 7, 3) := by decide +kernel
theorem dX8_in_10 : decode cX8_in 10 = .ok (.iconst 1, 1) := by decide +kernel
theorem dX8_in_11 : decode cX8_in 11 = .ok (.goto 4, 3) := by decide +kernel
theorem dX8_in_14 : decode cX8_in 14 = .ok (.iconst 0, 1) := by decide +kernel
theorem dX8_in_15 : decode cX8_in 15 = .ok (.ireturn, 1) := by decide +kernel
theorem dX8_copies_0 : decode cX8_copies 0 = .ok (.iconst 0, 1) := by decide +kernel
theorem dX8_copies_1 : decode cX8_copies 1 = .ok (.istore_n 3, 1) := by decide +kernel
theorem dX8_copies_2 : decode cX8_copies 2 = .ok (.iload_n 3, 1) := by decide +kernel
theorem dX8_copies_3 : decode cX8_copies 3 = .ok (.sipush 167, 3) := by decide +kernel
theorem dX8_copies_6 : decode cX8_copies 6 = .ok (.if_icmp .ge 33, 3) := by decide +kernel
theorem dX8_copies_9 : decode cX8_copies 9 = .ok (.aload_n 0, 1) := by decide +kernel
theorem dX8_copies_10 : decode cX8_copies 10 = .ok (.getfield 7, 3) := by decide +kernel
theorem dX8_copies_13 : decode cX8_copies 13 = .ok (.sipush 167, 3) := by decide +kernel
theorem dX8_copies_16 : decode cX8_copies 16 = .ok (.iload_n 2, 1) := by decide +kernel
theorem dX8_copies_17 : decode cX8_copies 17 = .ok (.imul, 1) := by decide +kernel
theorem dX8_copies_18 : decode cX8_copies 18 = .ok (.iload_n 3, 1) := by decide +kernel
theorem dX8_copies_19 : decode cX8_copies 19 = .ok (.iadd, 1) := by decide +kernel
theorem dX8_copies_20 : decode cX8_copies 20 = .ok (.aload_n 0, 1) := by decide +kernel
theorem dX8_copies_21 : decode cX8_copies 21 = .ok (.getfield 7, 3) := by decide +kernel
theorem dX8_copies_24 : decode cX8_copies 24 = .ok (.sipush 167, 3) := by decide +kernel
theorem dX8_copies_27 : decode cX8_copies 27 = .ok (.iload_n 1, 1) := by decide +kernel
theorem dX8_copies_28 : decode cX8_copies 28 = .ok (.imul, 1) := by decide +kernel
theorem dX8_copies_29 : decode cX8_copies 29 = .ok (.iload_n 3, 1) := by decide +kernel
theorem dX8_copies_30 : decode cX8_copies 30 = .ok (.iadd, 1) := by decide +kernel
theorem dX8_copies_31 : decode cX8_copies 31 = .ok (.iaload, 1) := by decide +kernel
theorem dX8_copies_32 : decode cX8_copies 32 = .ok (.iastore, 1) := by decide +kernel
theorem dX8_copies_33 : decode cX8_copies 33 = .ok (.iinc 3 1, 3) := by decide +kernel
theorem dX8_copies_36 : decode cX8_copies 36 = .ok (.goto (-34), 3) := by decide +kernel
theorem dX8_copies_39 : decode cX8_copies 39 = .ok (.iconst 0, 1) := by decide +kernel
theorem dX8_copies_40 : decode cX8_copies 40 = .ok (.istore_n 3, 1) := by decide +kernel
theorem dX8_copies_41 : decode cX8_copies 41 = .ok (.iload_n 3, 1) := by decide +kernel
theorem dX8_copies_42 : decode cX8_copies 42 = .ok (.bipush 96, 2) := by decide +kernel
theorem dX8_copies_44 : decode cX8_copies 44 = .ok (.if_icmp .ge 31, 3) := by decide +kernel
theorem dX8_copies_47 : decode cX8_copies 47 = .ok (.aload_n 0, 1) := by decide +kernel
theorem dX8_copies_48 : decode cX8_copies 48 = .ok (.getfield 13, 3) := by decide +kernel
theorem dX8_copies_51 : decode cX8_copies 51 = .ok (.bipush 96, 2) := by decide +kernel
theorem dX8_copies_53 : decode cX8_copies 53 = .ok (.iload_n 2, 1) := by decide +kernel
theorem dX8_copies_54 : decode cX8_copies 54 = .ok (.imul, 1) := by decide +kernel
theorem dX8_copies_55 : decode cX8_copies 55 = .ok (.iload_n 3, 1) := by decide +kernel
theorem dX8_copies_56 : decode cX8_copies 56 = .ok (.iadd, 1) := by decide +kernel
theorem dX8_copies_57 : decode cX8_copies 57 = .ok (.aload_n 0, 1) := by decide +kernel
theorem dX8_copies_58 : decode cX8_copies 58 = .ok (.getfield 13, 3) := by decide +kernel
theorem dX8_copies_61 : decode cX8_copies 61 = .ok (.bipush 96, 2) := by decide +kernel
theorem dX8_copies_63 : decode cX8_copies 63 = .ok (.iload_n 1, 1) := by decide +kernel
theorem dX8_copies_64 : decode cX8_copies 64 = .ok (.imul, 1) := by decide +kernel
theorem dX8_copies_65 : decode cX8_copies 65 = .ok (.iload_n 3, 1) := by decide +kernel
theorem dX8_copies_66 : decode cX8_copies 66 = .ok (.iadd, 1) := by decide +kernel
theorem dX8_copies_67 : decode cX8_copies 67 = .ok (.laload, 1) := by decide +kernel
theorem dX8_copies_68 : decode cX8_copies 68 = .ok (.lastore, 1) := by decide +kernel
theorem dX8_copies_69 : decode cX8_copies 69 = .ok (.iinc 3 1, 3) := by decide +kernel
theorem dX8_copies_72 : decode cX8_copies 72 = .ok (.goto (-31), 3) := by decide +kernel
theorem dX8_copies_75 : decode cX8_copies 75 = .ok (.return_, 1) := by decide +kernel
theorem dX8_saves_0 : decode cX8_saves 0 = .ok (.iconst 1, 1) := by decide +kernel
theorem dX8_saves_1 : decode cX8_saves 1 = .ok (.istore_n 1, 1) := by decide +kernel
theorem dX8_saves_2 : decode cX8_saves 2 = .ok (.iload_n 1, 1) := by decide +kernel
theorem dX8_saves_3 : decode cX8_saves 3 = .ok (.iconst 5, 1) := by decide +kernel
theorem dX8_saves_4 : decode cX8_saves 4 = .ok (.if_icmp .ge 25, 3) := by decide +kernel
theorem dX8_saves_7 : decode cX8_saves 7 = .ok (.aload_n 0, 1) := by decide +kernel
theorem dX8_saves_8 : decode cX8_saves 8 = .ok (.getfield 53, 3) := by decide +kernel
theorem dX8_saves_11 : decode cX8_saves 11 = .ok (.iconst 5, 1) := by decide +kernel
theorem dX8_saves_12 : decode cX8_saves 12 = .ok (.if_icmp .ne 17, 3) := by decide +kernel
theorem dX8_saves_15 : decode cX8_saves 15 = .ok (.aload_n 0, 1) := by decide +kernel
theorem dX8_saves_16 : decode cX8_saves 16 = .ok (.iload_n 1, 1) := by decide +kernel
theorem dX8_saves_17 : decode cX8_saves 17 = .ok (.iconst 1, 1) := by decide +kernel
theorem dX8_saves_18 : decode cX8_saves 18 = .ok (.iadd, 1) := by decide +kernel
theorem dX8_saves_19 : decode cX8_saves 19 = .ok (.iload_n 1, 1) := by decide +kernel
theorem dX8_saves_20 : decode cX8_saves 20 = .ok (.invokevirtual 57, 3) := by decide +kernel
theorem dX8_saves_23 : decode cX8_saves 23 = .ok (.iinc 1 1, 3) := by decide +kernel
theorem dX8_saves_26 : decode cX8_saves 26 = .ok (.goto (-24), 3) := by decide +kernel
theorem dX8_saves_29 : decode cX8_saves 29 = .ok (.aload_n 0, 1) := by decide +kernel
theorem dX8_saves_30 : decode cX8_saves 30 = .ok (.dup, 1) := by decide +kernel
theorem dX8_saves_31 : decode cX8_saves 31 = .ok (.getfield 53, 3) := by decide +kernel
theorem dX8_saves_34 : decode cX8_saves 34 = .ok (.aload_n 0, 1) := by decide +kernel
theorem dX8_saves_35 : decode cX8_saves 35 = .ok (.getfield 53, 3) := by decide +kernel
theorem dX8_saves_38 : decode cX8_saves 38 = .ok (.iconst 5, 1) := by decide +kernel
theorem dX8_saves_39 : decode cX8_saves 39 = .ok (.if_icmp .ne 7, 3) := by decide +kernel
theorem dX8_saves_42 : decode cX8_saves 42 = .ok (.iconst 1, 1) := by decide +kernel
theorem dX8_saves_43 : decode cX8_saves 43 = .ok (.goto 4, 3) := by decide +kernel
theorem dX8_saves_46 : decode cX8_saves 46 = .ok (.iconst 0, 1) := by decide +kernel
theorem dX8_saves_47 : decode cX8_saves 47 = .ok (.isub, 1) := by decide +kernel
theorem dX8_saves_48 : decode cX8_saves 48 = .ok (.putfield 53, 3) := by decide +kernel
theorem dX8_saves_51 : decode cX8_saves 51 = .ok (.aload_n 0, 1) := by decide +kernel
theorem dX8_saves_52 : decode cX8_saves 52 = .ok (.dup, 1) := by decide +kernel
theorem dX8_saves_53 : decode cX8_saves 53 = .ok (.getfield 53, 3) := by decide +kernel
theorem dX8_saves_56 : decode cX8_saves 56 = .ok (.iconst 1, 1) := by decide +kernel
theorem dX8_saves_57 : decode cX8_saves 57 = .ok (.iadd, 1) := by decide +kernel
theorem dX8_saves_58 : decode cX8_saves 58 = .ok (.putfield 53, 3) := by decide +kernel
theorem dX8_saves_61 : decode cX8_saves 61 = .ok (.aload_n 0, 1) := by decide +kernel
theorem dX8_saves_62 : decode cX8_saves 62 = .ok (.iconst 0, 1) := by decide +kernel
theorem dX8_saves_63 : decode cX8_saves 63 = .ok (.aload_n 0, 1) := by decide +kernel
theorem dX8_saves_64 : decode cX8_saves 64 = .ok (.getfield 53, 3) := by decide +kernel
theorem dX8_saves_67 : decode cX8_saves 67 = .ok (.invokevirtual 57, 3) := by decide +kernel
theorem dX8_saves_70 : decode cX8_saves 70 = .ok (.return_, 1) := by decide +kernel
theorem dX8_isBraid_0 : decode cX8_isBraid 0 = .ok (.iload_n 0, 1) := by decide +kernel
theorem dX8_isBraid_1 : decode cX8_isBraid 1 = .ok (.iconst 0, 1) := by decide +kernel
theorem dX8_isBraid_2 : decode cX8_isBraid 2 = .ok (.iconst 1, 1) := by decide +kernel
theorem dX8_isBraid_3 : decode cX8_isBraid 3 = .ok (.invokestatic 61, 3) := by decide +kernel
theorem dX8_isBraid_6 : decode cX8_isBraid 6 = .ok (.ireturn, 1) := by decide +kernel
theorem dX8_isFlow_0 : decode cX8_isFlow 0 = .ok (.iload_n 1, 1) := by decide +kernel
theorem dX8_isFlow_1 : decode cX8_isFlow 1 = .ok (.iconst 0, 1) := by decide +kernel
theorem dX8_isFlow_2 : decode cX8_isFlow 2 = .ok (.aload_n 0, 1) := by decide +kernel
theorem dX8_isFlow_3 : decode cX8_isFlow 3 = .ok (.getfield 7, 3) := by decide +kernel
theorem dX8_isFlow_6 : decode cX8_isFlow 6 = .ok (.bipush 6, 2) := by decide +kernel
theorem dX8_isFlow_8 : decode cX8_isFlow 8 = .ok (.iaload, 1) := by decide +kernel
theorem dX8_isFlow_9 : decode cX8_isFlow 9 = .ok (.iconst 1, 1) := by decide +kernel
theorem dX8_isFlow_10 : decode cX8_isFlow 10 = .ok (.isub, 1) := by decide +kernel
theorem dX8_isFlow_11 : decode cX8_isFlow 11 = .ok (.invokestatic 61, 3) := by decide +kernel
theorem dX8_isFlow_14 : decode cX8_isFlow 14 = .ok (.ireturn, 1) := by decide +kernel
theorem dX8_isCounter_0 : decode cX8_isCounter 0 = .ok (.iload_n 1, 1) := by decide +kernel
theorem dX8_isCounter_1 : decode cX8_isCounter 1 = .ok (.iconst 0, 1) := by decide +kernel
theorem dX8_isCounter_2 : decode cX8_isCounter 2 = .ok (.aload_n 0, 1) := by decide +kernel
theorem dX8_isCounter_3 : decode cX8_isCounter 3 = .ok (.getfield 7, 3) := by decide +kernel
theorem dX8_isCounter_6 : decode cX8_isCounter 6 = .ok (.iconst 0, 1) := by decide +kernel
theorem dX8_isCounter_7 : decode cX8_isCounter 7 = .ok (.iaload, 1) := by decide +kernel
theorem dX8_isCounter_8 : decode cX8_isCounter 8 = .ok (.iconst 1, 1) := by decide +kernel
theorem dX8_isCounter_9 : decode cX8_isCounter 9 = .ok (.isub, 1) := by decide +kernel
theorem dX8_isCounter_10 : decode cX8_isCounter 10 = .ok (.invokestatic 61, 3) := by decide +kernel
theorem dX8_isCounter_13 : decode cX8_isCounter 13 = .ok (.ireturn, 1) := by decide +kernel
theorem dX8_restAt_0 : decode cX8_restAt 0 = .ok (.aload_n 0, 1) := by decide +kernel
theorem dX8_restAt_1 : decode cX8_restAt 1 = .ok (.getfield 7, 3) := by decide +kernel
theorem dX8_restAt_4 : decode cX8_restAt 4 = .ok (.bipush 23, 2) := by decide +kernel
theorem dX8_restAt_6 : decode cX8_restAt 6 = .ok (.bipush 48, 2) := by decide +kernel
theorem dX8_restAt_8 : decode cX8_restAt 8 = .ok (.iload_n 1, 1) := by decide +kernel
theorem dX8_restAt_9 : decode cX8_restAt 9 = .ok (.imul, 1) := by decide +kernel
theorem dX8_restAt_10 : decode cX8_restAt 10 = .ok (.iadd, 1) := by decide +kernel
theorem dX8_restAt_11 : decode cX8_restAt 11 = .ok (.iload_n 2, 1) := by decide +kernel
theorem dX8_restAt_12 : decode cX8_restAt 12 = .ok (.iadd, 1) := by decide +kernel
theorem dX8_restAt_13 : decode cX8_restAt 13 = .ok (.iaload, 1) := by decide +kernel
theorem dX8_restAt_14 : decode cX8_restAt 14 = .ok (.ireturn, 1) := by decide +kernel
theorem dX8_marked_0 : decode cX8_marked 0 = .ok (.aload_n 0, 1) := by decide +kernel
theorem dX8_marked_1 : decode cX8_marked 1 = .ok (.getfield 7, 3) := by decide +kernel
theorem dX8_marked_4 : decode cX8_marked 4 = .ok (.bipush 23, 2) := by decide +kernel
theorem dX8_marked_6 : decode cX8_marked 6 = .ok (.bipush 48, 2) := by decide +kernel
theorem dX8_marked_8 : decode cX8_marked 8 = .ok (.iload_n 1, 1) := by decide +kernel
theorem dX8_marked_9 : decode cX8_marked 9 = .ok (.imul, 1) := by decide +kernel
theorem dX8_marked_10 : decode cX8_marked 10 = .ok (.iadd, 1) := by decide +kernel
theorem dX8_marked_11 : decode cX8_marked 11 = .ok (.bipush 24, 2) := by decide +kernel
theorem dX8_marked_13 : decode cX8_marked 13 = .ok (.iadd, 1) := by decide +kernel
theorem dX8_marked_14 : decode cX8_marked 14 = .ok (.iload_n 2, 1) := by decide +kernel
theorem dX8_marked_15 : decode cX8_marked 15 = .ok (.iadd, 1) := by decide +kernel
theorem dX8_marked_16 : decode cX8_marked 16 = .ok (.iaload, 1) := by decide +kernel
theorem dX8_marked_17 : decode cX8_marked 17 = .ok (.iconst 1, 1) := by decide +kernel
theorem dX8_marked_18 : decode cX8_marked 18 = .ok (.if_icmp .ne 7, 3) := by decide +kernel
theorem dX8_marked_21 : decode cX8_marked 21 = .ok (.iconst 1, 1) := by decide +kernel
theorem dX8_marked_22 : decode cX8_marked 22 = .ok (.goto 4, 3) := by decide +kernel
theorem dX8_marked_25 : decode cX8_marked 25 = .ok (.iconst 0, 1) := by decide +kernel
theorem dX8_marked_26 : decode cX8_marked 26 = .ok (.ireturn, 1) := by decide +kernel
theorem dX8_truthAt_0 : decode cX8_truthAt 0 = .ok (.aload_n 0, 1) := by decide +kernel
theorem dX8_truthAt_1 : decode cX8_truthAt 1 = .ok (.getfield 13, 3) := by decide +kernel
theorem dX8_truthAt_4 : decode cX8_truthAt 4 = .ok (.bipush 32, 2) := by decide +kernel
theorem dX8_truthAt_6 : decode cX8_truthAt 6 = .ok (.iload_n 1, 1) := by decide +kernel
theorem dX8_truthAt_7 : decode cX8_truthAt 7 = .ok (.imul, 1) := by decide +kernel
theorem dX8_truthAt_8 : decode cX8_truthAt 8 = .ok (.iload_n 2, 1) := by decide +kernel
theorem dX8_truthAt_9 : decode cX8_truthAt 9 = .ok (.iadd, 1) := by decide +kernel
theorem dX8_truthAt_10 : decode cX8_truthAt 10 = .ok (.laload, 1) := by decide +kernel
theorem dX8_truthAt_11 : decode cX8_truthAt 11 = .ok (.lreturn, 1) := by decide +kernel
theorem dX8_aboveAt_0 : decode cX8_aboveAt 0 = .ok (.aload_n 0, 1) := by decide +kernel
theorem dX8_aboveAt_1 : decode cX8_aboveAt 1 = .ok (.getfield 13, 3) := by decide +kernel
theorem dX8_aboveAt_4 : decode cX8_aboveAt 4 = .ok (.bipush 32, 2) := by decide +kernel
theorem dX8_aboveAt_6 : decode cX8_aboveAt 6 = .ok (.iload_n 1, 1) := by decide +kernel
theorem dX8_aboveAt_7 : decode cX8_aboveAt 7 = .ok (.imul, 1) := by decide +kernel
theorem dX8_aboveAt_8 : decode cX8_aboveAt 8 = .ok (.bipush 16, 2) := by decide +kernel
theorem dX8_aboveAt_10 : decode cX8_aboveAt 10 = .ok (.iadd, 1) := by decide +kernel
theorem dX8_aboveAt_11 : decode cX8_aboveAt 11 = .ok (.iload_n 2, 1) := by decide +kernel
theorem dX8_aboveAt_12 : decode cX8_aboveAt 12 = .ok (.iadd, 1) := by decide +kernel
theorem dX8_aboveAt_13 : decode cX8_aboveAt 13 = .ok (.laload, 1) := by decide +kernel
theorem dX8_aboveAt_14 : decode cX8_aboveAt 14 = .ok (.lreturn, 1) := by decide +kernel
theorem dX8_empties_0 : decode cX8_empties 0 = .ok (.iconst 0, 1) := by decide +kernel
theorem dX8_empties_1 : decode cX8_empties 1 = .ok (.istore_n 2, 1) := by decide +kernel
theorem dX8_empties_2 : decode cX8_empties 2 = .ok (.iload_n 2, 1) := by decide +kernel
theorem dX8_empties_3 : decode cX8_empties 3 = .ok (.bipush 48, 2) := by decide +kernel
theorem dX8_empties_5 : decode cX8_empties 5 = .ok (.if_icmp .ge 24, 3) := by decide +kernel
theorem dX8_empties_8 : decode cX8_empties 8 = .ok (.aload_n 0, 1) := by decide +kernel
theorem dX8_empties_9 : decode cX8_empties 9 = .ok (.getfield 7, 3) := by decide +kernel
theorem dX8_empties_12 : decode cX8_empties 12 = .ok (.bipush 23, 2) := by decide +kernel
theorem dX8_empties_14 : decode cX8_empties 14 = .ok (.bipush 48, 2) := by decide +kernel
theorem dX8_empties_16 : decode cX8_empties 16 = .ok (.iload_n 1, 1) := by decide +kernel
theorem dX8_empties_17 : decode cX8_empties 17 = .ok (.imul, 1) := by decide +kernel
theorem dX8_empties_18 : decode cX8_empties 18 = .ok (.iadd, 1) := by decide +kernel
theorem dX8_empties_19 : decode cX8_empties 19 = .ok (.iload_n 2, 1) := by decide +kernel
theorem dX8_empties_20 : decode cX8_empties 20 = .ok (.iadd, 1) := by decide +kernel
theorem dX8_empties_21 : decode cX8_empties 21 = .ok (.iconst 0, 1) := by decide +kernel
theorem dX8_empties_22 : decode cX8_empties 22 = .ok (.iastore, 1) := by decide +kernel
theorem dX8_empties_23 : decode cX8_empties 23 = .ok (.iinc 2 1, 3) := by decide +kernel
theorem dX8_empties_26 : decode cX8_empties 26 = .ok (.goto (-24), 3) := by decide +kernel
theorem dX8_empties_29 : decode cX8_empties 29 = .ok (.iconst 0, 1) := by decide +kernel
theorem dX8_empties_30 : decode cX8_empties 30 = .ok (.istore_n 2, 1) := by decide +kernel
theorem dX8_empties_31 : decode cX8_empties 31 = .ok (.iload_n 2, 1) := by decide +kernel
theorem dX8_empties_32 : decode cX8_empties 32 = .ok (.bipush 32, 2) := by decide +kernel
theorem dX8_empties_34 : decode cX8_empties 34 = .ok (.if_icmp .ge 21, 3) := by decide +kernel
theorem dX8_empties_37 : decode cX8_empties 37 = .ok (.aload_n 0, 1) := by decide +kernel
theorem dX8_empties_38 : decode cX8_empties 38 = .ok (.getfield 13, 3) := by decide +kernel
theorem dX8_empties_41 : decode cX8_empties 41 = .ok (.bipush 32, 2) := by decide +kernel
theorem dX8_empties_43 : decode cX8_empties 43 = .ok (.iload_n 1, 1) := by decide +kernel
theorem dX8_empties_44 : decode cX8_empties 44 = .ok (.imul, 1) := by decide +kernel
theorem dX8_empties_45 : decode cX8_empties 45 = .ok (.iload_n 2, 1) := by decide +kernel
theorem dX8_empties_46 : decode cX8_empties 46 = .ok (.iadd, 1) := by decide +kernel
theorem dX8_empties_47 : decode cX8_empties 47 = .ok (.lconst 0, 1) := by decide +kernel
theorem dX8_empties_48 : decode cX8_empties 48 = .ok (.lastore, 1) := by decide +kernel
theorem dX8_empties_49 : decode cX8_empties 49 = .ok (.iinc 2 1, 3) := by decide +kernel
theorem dX8_empties_52 : decode cX8_empties 52 = .ok (.goto (-21), 3) := by decide +kernel
theorem dX8_empties_55 : decode cX8_empties 55 = .ok (.return_, 1) := by decide +kernel
theorem dX8_placesOf_0 : decode cX8_placesOf 0 = .ok (.iconst 0, 1) := by decide +kernel
theorem dX8_placesOf_1 : decode cX8_placesOf 1 = .ok (.istore_n 2, 1) := by decide +kernel
theorem dX8_placesOf_2 : decode cX8_placesOf 2 = .ok (.iconst 0, 1) := by decide +kernel
theorem dX8_placesOf_3 : decode cX8_placesOf 3 = .ok (.istore_n 3, 1) := by decide +kernel
theorem dX8_placesOf_4 : decode cX8_placesOf 4 = .ok (.iload_n 3, 1) := by decide +kernel
theorem dX8_placesOf_5 : decode cX8_placesOf 5 = .ok (.aload_n 0, 1) := by decide +kernel
theorem dX8_placesOf_6 : decode cX8_placesOf 6 = .ok (.getfield 7, 3) := by decide +kernel
theorem dX8_placesOf_9 : decode cX8_placesOf 9 = .ok (.iconst 2, 1) := by decide +kernel
theorem dX8_placesOf_10 : decode cX8_placesOf 10 = .ok (.iaload, 1) := by decide +kernel
theorem dX8_placesOf_11 : decode cX8_placesOf 11 = .ok (.if_icmp .ge 98, 3) := by decide +kernel
theorem dX8_placesOf_14 : decode cX8_placesOf 14 = .ok (.iload_n 3, 1) := by decide +kernel
theorem dX8_placesOf_15 : decode cX8_placesOf 15 = .ok (.ifCond .ne 8, 3) := by decide +kernel
theorem dX8_placesOf_18 : decode cX8_placesOf 18 = .ok (.bipush 41, 2) := by decide +kernel
theorem dX8_placesOf_20 : decode cX8_placesOf 20 = .ok (.goto 26, 3) := by decide +kernel
theorem dX8_placesOf_23 : decode cX8_placesOf 23 = .ok (.iload_n 3, 1) := by decide +kernel
theorem dX8_placesOf_24 : decode cX8_placesOf 24 = .ok (.iconst 1, 1) := by decide +kernel
theorem dX8_placesOf_25 : decode cX8_placesOf 25 = .ok (.if_icmp .ne 8, 3) := by decide +kernel
theorem dX8_placesOf_28 : decode cX8_placesOf 28 = .ok (.bipush 73, 2) := by decide +kernel
theorem dX8_placesOf_30 : decode cX8_placesOf 30 = .ok (.goto 16, 3) := by decide +kernel
theorem dX8_placesOf_33 : decode cX8_placesOf 33 = .ok (.iload_n 3, 1) := by decide +kernel
theorem dX8_placesOf_34 : decode cX8_placesOf 34 = .ok (.iconst 2, 1) := by decide +kernel
theorem dX8_placesOf_35 : decode cX8_placesOf 35 = .ok (.if_icmp .ne 8, 3) := by decide +kernel
theorem dX8_placesOf_38 : decode cX8_placesOf 38 = .ok (.bipush 97, 2) := by decide +kernel
theorem dX8_placesOf_40 : decode cX8_placesOf 40 = .ok (.goto 6, 3) := by decide +kernel
theorem dX8_placesOf_43 : decode cX8_placesOf 43 = .ok (.sipush 131, 3) := by decide +kernel
theorem dX8_placesOf_46 : decode cX8_placesOf 46 = .ok (.istore 4, 2) := by decide +kernel
theorem dX8_placesOf_48 : decode cX8_placesOf 48 = .ok (.iload_n 3, 1) := by decide +kernel
theorem dX8_placesOf_49 : decode cX8_placesOf 49 = .ok (.ifCond .ne 7, 3) := by decide +kernel
theorem dX8_placesOf_52 : decode cX8_placesOf 52 = .ok (.iconst 5, 1) := by decide +kernel
theorem dX8_placesOf_53 : decode cX8_placesOf 53 = .ok (.goto 25, 3) := by decide +kernel
theorem dX8_placesOf_56 : decode cX8_placesOf 56 = .ok (.iload_n 3, 1) := by decide +kernel
theorem dX8_placesOf_57 : decode cX8_placesOf 57 = .ok (.iconst 1, 1) := by decide +kernel
theorem dX8_placesOf_58 : decode cX8_placesOf 58 = .ok (.if_icmp .ne 8, 3) := by decide +kernel
theorem dX8_placesOf_61 : decode cX8_placesOf 61 = .ok (.bipush 17, 2) := by decide +kernel
theorem dX8_placesOf_63 : decode cX8_placesOf 63 = .ok (.goto 15, 3) := by decide +kernel
theorem dX8_placesOf_66 : decode cX8_placesOf 66 = .ok (.iload_n 3, 1) := by decide +kernel
theorem dX8_placesOf_67 : decode cX8_placesOf 67 = .ok (.iconst 2, 1) := by decide +kernel
theorem dX8_placesOf_68 : decode cX8_placesOf 68 = .ok (.if_icmp .ne 8, 3) := by decide +kernel
theorem dX8_placesOf_71 : decode cX8_placesOf 71 = .ok (.bipush 29, 2) := by decide +kernel
theorem dX8_placesOf_73 : decode cX8_placesOf 73 = .ok (.goto 5, 3) := by decide +kernel
theorem dX8_placesOf_76 : decode cX8_placesOf 76 = .ok (.bipush 53, 2) := by decide +kernel
theorem dX8_placesOf_78 : decode cX8_placesOf 78 = .ok (.istore 5, 2) := by decide +kernel
theorem dX8_placesOf_80 : decode cX8_placesOf 80 = .ok (.iload_n 2, 1) := by decide +kernel
theorem dX8_placesOf_81 : decode cX8_placesOf 81 = .ok (.iconst 1, 1) := by decide +kernel
theorem dX8_placesOf_82 : decode cX8_placesOf 82 = .ok (.iload_n 1, 1) := by decide +kernel
theorem dX8_placesOf_83 : decode cX8_placesOf 83 = .ok (.iload 4, 2) := by decide +kernel
theorem dX8_placesOf_85 : decode cX8_placesOf 85 = .ok (.imul, 1) := by decide +kernel
theorem dX8_placesOf_86 : decode cX8_placesOf 86 = .ok (.iload 5, 2) := by decide +kernel
theorem dX8_placesOf_88 : decode cX8_placesOf 88 = .ok (.iadd, 1) := by decide +kernel
theorem dX8_placesOf_89 : decode cX8_placesOf 89 = .ok (.sipush 1009, 3) := by decide +kernel
theorem dX8_placesOf_92 : decode cX8_placesOf 92 = .ok (.irem, 1) := by decide +kernel
theorem dX8_placesOf_93 : decode cX8_placesOf 93 = .ok (.aload_n 0, 1) := by decide +kernel
theorem dX8_placesOf_94 : decode cX8_placesOf 94 = .ok (.getfield 7, 3) := by decide +kernel
theorem dX8_placesOf_97 : decode cX8_placesOf 97 = .ok (.iconst 0, 1) := by decide +kernel
theorem dX8_placesOf_98 : decode cX8_placesOf 98 = .ok (.iaload, 1) := by decide +kernel
theorem dX8_placesOf_99 : decode cX8_placesOf 99 = .ok (.irem, 1) := by decide +kernel
theorem dX8_placesOf_100 : decode cX8_placesOf 100 = .ok (.ishl, 1) := by decide +kernel
theorem dX8_placesOf_101 : decode cX8_placesOf 101 = .ok (.ior, 1) := by decide +kernel
theorem dX8_placesOf_102 : decode cX8_placesOf 102 = .ok (.istore_n 2, 1) := by decide +kernel
theorem dX8_placesOf_103 : decode cX8_placesOf 103 = .ok (.iinc 3 1, 3) := by decide +kernel
theorem dX8_placesOf_106 : decode cX8_placesOf 106 = .ok (.goto (-102), 3) := by decide +kernel
theorem dX8_placesOf_109 : decode cX8_placesOf 109 = .ok (.iload_n 2, 1) := by decide +kernel
theorem dX8_placesOf_110 : decode cX8_placesOf 110 = .ok (.ireturn, 1) := by decide +kernel
theorem dX8_placesUp_0 : decode cX8_placesUp 0 = .ok (.iconst 0, 1) := by decide +kernel
theorem dX8_placesUp_1 : decode cX8_placesUp 1 = .ok (.istore_n 2, 1) := by decide +kernel
theorem dX8_placesUp_2 : decode cX8_placesUp 2 = .ok (.iconst 0, 1) := by decide +kernel
theorem dX8_placesUp_3 : decode cX8_placesUp 3 = .ok (.istore_n 3, 1) := by decide +kernel
theorem dX8_placesUp_4 : decode cX8_placesUp 4 = .ok (.iload_n 3, 1) := by decide +kernel
theorem dX8_placesUp_5 : decode cX8_placesUp 5 = .ok (.aload_n 0, 1) := by decide +kernel
