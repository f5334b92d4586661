theorem dX8_placesUp_6 : decode cX8_placesUp 6 = .ok (.getfield 7, 3) := by decide +kernel
theorem dX8_placesUp_9 : decode cX8_placesUp 9 = .ok (.iconst 4, 1) := by decide +kernel
theorem dX8_placesUp_10 : decode cX8_placesUp 10 = .ok (.iaload, 1) := by decide +kernel
theorem dX8_placesUp_11 : decode cX8_placesUp 11 = .ok (.if_icmp .ge 76, 3) := by decide +kernel
theorem dX8_placesUp_14 : decode cX8_placesUp 14 = .ok (.iload_n 3, 1) := by decide +kernel
theorem dX8_placesUp_15 : decode cX8_placesUp 15 = .ok (.ifCond .ne 8, 3) := by decide +kernel
theorem dX8_placesUp_18 : decode cX8_placesUp 18 = .ok (.bipush 19, 2) := by decide +kernel
theorem dX8_placesUp_20 : decode cX8_placesUp 20 = .ok (.goto 15, 3) := by decide +kernel
theorem dX8_placesUp_23 : decode cX8_placesUp 23 = .ok (.iload_n 3, 1) := by decide +kernel
theorem dX8_placesUp_24 : decode cX8_placesUp 24 = .ok (.iconst 1, 1) := by decide +kernel
theorem dX8_placesUp_25 : decode cX8_placesUp 25 = .ok (.if_icmp .ne 8, 3) := by decide +kernel
theorem dX8_placesUp_28 : decode cX8_placesUp 28 = .ok (.bipush 37, 2) := by decide +kernel
theorem dX8_placesUp_30 : decode cX8_placesUp 30 = .ok (.goto 5, 3) := by decide +kernel
theorem dX8_placesUp_33 : decode cX8_placesUp 33 = .ok (.bipush 61, 2) := by decide +kernel
theorem dX8_placesUp_35 : decode cX8_placesUp 35 = .ok (.istore 4, 2) := by decide +kernel
theorem dX8_placesUp_37 : decode cX8_placesUp 37 = .ok (.iload_n 3, 1) := by decide +kernel
theorem dX8_placesUp_38 : decode cX8_placesUp 38 = .ok (.ifCond .ne 7, 3) := by decide +kernel
theorem dX8_placesUp_41 : decode cX8_placesUp 41 = .ok (.iconst 3, 1) := by decide +kernel
theorem dX8_placesUp_42 : decode cX8_placesUp 42 = .ok (.goto 15, 3) := by decide +kernel
theorem dX8_placesUp_45 : decode cX8_placesUp 45 = .ok (.iload_n 3, 1) := by decide +kernel
theorem dX8_placesUp_46 : decode cX8_placesUp 46 = .ok (.iconst 1, 1) := by decide +kernel
theorem dX8_placesUp_47 : decode cX8_placesUp 47 = .ok (.if_icmp .ne 8, 3) := by decide +kernel
theorem dX8_placesUp_50 : decode cX8_placesUp 50 = .ok (.bipush 11, 2) := by decide +kernel
theorem dX8_placesUp_52 : decode cX8_placesUp 52 = .ok (.goto 5, 3) := by decide +kernel
theorem dX8_placesUp_55 : decode cX8_placesUp 55 = .ok (.bipush 23, 2) := by decide +kernel
theorem dX8_placesUp_57 : decode cX8_placesUp 57 = .ok (.istore 5, 2) := by decide +kernel
theorem dX8_placesUp_59 : decode cX8_placesUp 59 = .ok (.iload_n 2, 1) := by decide +kernel
theorem dX8_placesUp_60 : decode cX8_placesUp 60 = .ok (.iconst 1, 1) := by decide +kernel
theorem dX8_placesUp_61 : decode cX8_placesUp 61 = .ok (.iload_n 1, 1) := by decide +kernel
theorem dX8_placesUp_62 : decode cX8_placesUp 62 = .ok (.iload 4, 2) := by decide +kernel
theorem dX8_placesUp_64 : decode cX8_placesUp 64 = .ok (.imul, 1) := by decide +kernel
theorem dX8_placesUp_65 : decode cX8_placesUp 65 = .ok (.iload 5, 2) := by decide +kernel
theorem dX8_placesUp_67 : decode cX8_placesUp 67 = .ok (.iadd, 1) := by decide +kernel
theorem dX8_placesUp_68 : decode cX8_placesUp 68 = .ok (.bipush 103, 2) := by decide +kernel
theorem dX8_placesUp_70 : decode cX8_placesUp 70 = .ok (.irem, 1) := by decide +kernel
theorem dX8_placesUp_71 : decode cX8_placesUp 71 = .ok (.aload_n 0, 1) := by decide +kernel
theorem dX8_placesUp_72 : decode cX8_placesUp 72 = .ok (.getfield 7, 3) := by decide +kernel
theorem dX8_placesUp_75 : decode cX8_placesUp 75 = .ok (.iconst 3, 1) := by decide +kernel
theorem dX8_placesUp_76 : decode cX8_placesUp 76 = .ok (.iaload, 1) := by decide +kernel
theorem dX8_placesUp_77 : decode cX8_placesUp 77 = .ok (.irem, 1) := by decide +kernel
theorem dX8_placesUp_78 : decode cX8_placesUp 78 = .ok (.ishl, 1) := by decide +kernel
theorem dX8_placesUp_79 : decode cX8_placesUp 79 = .ok (.ior, 1) := by decide +kernel
theorem dX8_placesUp_80 : decode cX8_placesUp 80 = .ok (.istore_n 2, 1) := by decide +kernel
theorem dX8_placesUp_81 : decode cX8_placesUp 81 = .ok (.iinc 3 1, 3) := by decide +kernel
theorem dX8_placesUp_84 : decode cX8_placesUp 84 = .ok (.goto (-80), 3) := by decide +kernel
theorem dX8_placesUp_87 : decode cX8_placesUp 87 = .ok (.iload_n 2, 1) := by decide +kernel
theorem dX8_placesUp_88 : decode cX8_placesUp 88 = .ok (.ireturn, 1) := by decide +kernel
theorem dX8_setFirst_0 : decode cX8_setFirst 0 = .ok (.iload_n 1, 1) := by decide +kernel
theorem dX8_setFirst_1 : decode cX8_setFirst 1 = .ok (.iconst 2, 1) := by decide +kernel
theorem dX8_setFirst_2 : decode cX8_setFirst 2 = .ok (.bipush 24, 2) := by decide +kernel
theorem dX8_setFirst_4 : decode cX8_setFirst 4 = .ok (.invokestatic 61, 3) := by decide +kernel
theorem dX8_setFirst_7 : decode cX8_setFirst 7 = .ok (.ifCond .eq 22, 3) := by decide +kernel
theorem dX8_setFirst_10 : decode cX8_setFirst 10 = .ok (.iload_n 2, 1) := by decide +kernel
theorem dX8_setFirst_11 : decode cX8_setFirst 11 = .ok (.iconst 1, 1) := by decide +kernel
theorem dX8_setFirst_12 : decode cX8_setFirst 12 = .ok (.bipush 8, 2) := by decide +kernel
theorem dX8_setFirst_14 : decode cX8_setFirst 14 = .ok (.invokestatic 61, 3) := by decide +kernel
theorem dX8_setFirst_17 : decode cX8_setFirst 17 = .ok (.ifCond .eq 12, 3) := by decide +kernel
theorem dX8_setFirst_20 : decode cX8_setFirst 20 = .ok (.iload_n 3, 1) := by decide +kernel
theorem dX8_setFirst_21 : decode cX8_setFirst 21 = .ok (.iconst 1, 1) := by decide +kernel
theorem dX8_setFirst_22 : decode cX8_setFirst 22 = .ok (.iconst 4, 1) := by decide +kernel
theorem dX8_setFirst_23 : decode cX8_setFirst 23 = .ok (.invokestatic 61, 3) := by decide +kernel
theorem dX8_setFirst_26 : decode cX8_setFirst 26 = .ok (.ifCond .ne 6, 3) := by decide +kernel
theorem dX8_setFirst_29 : decode cX8_setFirst 29 = .ok (.bipush (-3), 2) := by decide +kernel
theorem dX8_setFirst_31 : decode cX8_setFirst 31 = .ok (.ireturn, 1) := by decide +kernel
theorem dX8_setFirst_32 : decode cX8_setFirst 32 = .ok (.aload_n 0, 1) := by decide +kernel
theorem dX8_setFirst_33 : decode cX8_setFirst 33 = .ok (.invokevirtual 65, 3) := by decide +kernel
theorem dX8_setFirst_36 : decode cX8_setFirst 36 = .ok (.aload_n 0, 1) := by decide +kernel
theorem dX8_setFirst_37 : decode cX8_setFirst 37 = .ok (.getfield 7, 3) := by decide +kernel
theorem dX8_setFirst_40 : decode cX8_setFirst 40 = .ok (.iconst 0, 1) := by decide +kernel
theorem dX8_setFirst_41 : decode cX8_setFirst 41 = .ok (.iaload, 1) := by decide +kernel
theorem dX8_setFirst_42 : decode cX8_setFirst 42 = .ok (.istore 4, 2) := by decide +kernel
theorem dX8_setFirst_44 : decode cX8_setFirst 44 = .ok (.aload_n 0, 1) := by decide +kernel
theorem dX8_setFirst_45 : decode cX8_setFirst 45 = .ok (.getfield 7, 3) := by decide +kernel
theorem dX8_setFirst_48 : decode cX8_setFirst 48 = .ok (.iconst 0, 1) := by decide +kernel
theorem dX8_setFirst_49 : decode cX8_setFirst 49 = .ok (.iload_n 1, 1) := by decide +kernel
theorem dX8_setFirst_50 : decode cX8_setFirst 50 = .ok (.iastore, 1) := by decide +kernel
theorem dX8_setFirst_51 : decode cX8_setFirst 51 = .ok (.aload_n 0, 1) := by decide +kernel
theorem dX8_setFirst_52 : decode cX8_setFirst 52 = .ok (.getfield 7, 3) := by decide +kernel
theorem dX8_setFirst_55 : decode cX8_setFirst 55 = .ok (.iconst 1, 1) := by decide +kernel
theorem dX8_setFirst_56 : decode cX8_setFirst 56 = .ok (.iload_n 2, 1) := by decide +kernel
theorem dX8_setFirst_57 : decode cX8_setFirst 57 = .ok (.iastore, 1) := by decide +kernel
theorem dX8_setFirst_58 : decode cX8_setFirst 58 = .ok (.aload_n 0, 1) := by decide +kernel
theorem dX8_setFirst_59 : decode cX8_setFirst 59 = .ok (.getfield 7, 3) := by decide +kernel
theorem dX8_setFirst_62 : decode cX8_setFirst 62 = .ok (.iconst 2, 1) := by decide +kernel
theorem dX8_setFirst_63 : decode cX8_setFirst 63 = .ok (.iload_n 3, 1) := by decide +kernel
theorem dX8_setFirst_64 : decode cX8_setFirst 64 = .ok (.iastore, 1) := by decide +kernel
theorem dX8_setFirst_65 : decode cX8_setFirst 65 = .ok (.aload_n 0, 1) := by decide +kernel
theorem dX8_setFirst_66 : decode cX8_setFirst 66 = .ok (.iconst 0, 1) := by decide +kernel
theorem dX8_setFirst_67 : decode cX8_setFirst 67 = .ok (.invokevirtual 68, 3) := by decide +kernel
theorem dX8_setFirst_70 : decode cX8_setFirst 70 = .ok (.aload_n 0, 1) := by decide +kernel
theorem dX8_setFirst_71 : decode cX8_setFirst 71 = .ok (.iconst 1, 1) := by decide +kernel
theorem dX8_setFirst_72 : decode cX8_setFirst 72 = .ok (.invokevirtual 68, 3) := by decide +kernel
theorem dX8_setFirst_75 : decode cX8_setFirst 75 = .ok (.iload 4, 2) := by decide +kernel
theorem dX8_setFirst_77 : decode cX8_setFirst 77 = .ok (.ireturn, 1) := by decide +kernel
theorem dX8_setSecond_0 : decode cX8_setSecond 0 = .ok (.iload_n 1, 1) := by decide +kernel
theorem dX8_setSecond_1 : decode cX8_setSecond 1 = .ok (.iconst 1, 1) := by decide +kernel
theorem dX8_setSecond_2 : decode cX8_setSecond 2 = .ok (.bipush 16, 2) := by decide +kernel
theorem dX8_setSecond_4 : decode cX8_setSecond 4 = .ok (.invokestatic 61, 3) := by decide +kernel
theorem dX8_setSecond_7 : decode cX8_setSecond 7 = .ok (.ifCond .eq 12, 3) := by decide +kernel
theorem dX8_setSecond_10 : decode cX8_setSecond 10 = .ok (.iload_n 2, 1) := by decide +kernel
theorem dX8_setSecond_11 : decode cX8_setSecond 11 = .ok (.iconst 1, 1) := by decide +kernel
theorem dX8_setSecond_12 : decode cX8_setSecond 12 = .ok (.iconst 3, 1) := by decide +kernel
theorem dX8_setSecond_13 : decode cX8_setSecond 13 = .ok (.invokestatic 61, 3) := by decide +kernel
theorem dX8_setSecond_16 : decode cX8_setSecond 16 = .ok (.ifCond .ne 6, 3) := by decide +kernel
theorem dX8_setSecond_19 : decode cX8_setSecond 19 = .ok (.bipush (-3), 2) := by decide +kernel
theorem dX8_setSecond_21 : decode cX8_setSecond 21 = .ok (.ireturn, 1) := by decide +kernel
theorem dX8_setSecond_22 : decode cX8_setSecond 22 = .ok (.aload_n 0, 1) := by decide +kernel
theorem dX8_setSecond_23 : decode cX8_setSecond 23 = .ok (.invokevirtual 65, 3) := by decide +kernel
theorem dX8_setSecond_26 : decode cX8_setSecond 26 = .ok (.aload_n 0, 1) := by decide +kernel
theorem dX8_setSecond_27 : decode cX8_setSecond 27 = .ok (.getfield 7, 3) := by decide +kernel
theorem dX8_setSecond_30 : decode cX8_setSecond 30 = .ok (.iconst 3, 1) := by decide +kernel
theorem dX8_setSecond_31 : decode cX8_setSecond 31 = .ok (.iaload, 1) := by decide +kernel
theorem dX8_setSecond_32 : decode cX8_setSecond 32 = .ok (.istore_n 3, 1) := by decide +kernel
theorem dX8_setSecond_33 : decode cX8_setSecond 33 = .ok (.aload_n 0, 1) := by decide +kernel
theorem dX8_setSecond_34 : decode cX8_setSecond 34 = .ok (.getfield 7, 3) := by decide +kernel
theorem dX8_setSecond_37 : decode cX8_setSecond 37 = .ok (.iconst 3, 1) := by decide +kernel
theorem dX8_setSecond_38 : decode cX8_setSecond 38 = .ok (.iload_n 1, 1) := by decide +kernel
theorem dX8_setSecond_39 : decode cX8_setSecond 39 = .ok (.iastore, 1) := by decide +kernel
theorem dX8_setSecond_40 : decode cX8_setSecond 40 = .ok (.aload_n 0, 1) := by decide +kernel
theorem dX8_setSecond_41 : decode cX8_setSecond 41 = .ok (.getfield 7, 3) := by decide +kernel
theorem dX8_setSecond_44 : decode cX8_setSecond 44 = .ok (.iconst 4, 1) := by decide +kernel
theorem dX8_setSecond_45 : decode cX8_setSecond 45 = .ok (.iload_n 2, 1) := by decide +kernel
theorem dX8_setSecond_46 : decode cX8_setSecond 46 = .ok (.iastore, 1) := by decide +kernel
theorem dX8_setSecond_47 : decode cX8_setSecond 47 = .ok (.aload_n 0, 1) := by decide +kernel
theorem dX8_setSecond_48 : decode cX8_setSecond 48 = .ok (.iconst 0, 1) := by decide +kernel
theorem dX8_setSecond_49 : decode cX8_setSecond 49 = .ok (.invokevirtual 68, 3) := by decide +kernel
theorem dX8_setSecond_52 : decode cX8_setSecond 52 = .ok (.aload_n 0, 1) := by decide +kernel
theorem dX8_setSecond_53 : decode cX8_setSecond 53 = .ok (.iconst 1, 1) := by decide +kernel
theorem dX8_setSecond_54 : decode cX8_setSecond 54 = .ok (.invokevirtual 68, 3) := by decide +kernel
theorem dX8_setSecond_57 : decode cX8_setSecond 57 = .ok (.iload_n 3, 1) := by decide +kernel
theorem dX8_setSecond_58 : decode cX8_setSecond 58 = .ok (.ireturn, 1) := by decide +kernel
theorem dX8_setRounds_0 : decode cX8_setRounds 0 = .ok (.iload_n 1, 1) := by decide +kernel
theorem dX8_setRounds_1 : decode cX8_setRounds 1 = .ok (.iconst 0, 1) := by decide +kernel
theorem dX8_setRounds_2 : decode cX8_setRounds 2 = .ok (.bipush 60, 2) := by decide +kernel
theorem dX8_setRounds_4 : decode cX8_setRounds 4 = .ok (.invokestatic 61, 3) := by decide +kernel
theorem dX8_setRounds_7 : decode cX8_setRounds 7 = .ok (.ifCond .ne 6, 3) := by decide +kernel
theorem dX8_setRounds_10 : decode cX8_setRounds 10 = .ok (.bipush (-3), 2) := by decide +kernel
theorem dX8_setRounds_12 : decode cX8_setRounds 12 = .ok (.ireturn, 1) := by decide +kernel
theorem dX8_setRounds_13 : decode cX8_setRounds 13 = .ok (.aload_n 0, 1) := by decide +kernel
theorem dX8_setRounds_14 : decode cX8_setRounds 14 = .ok (.invokevirtual 65, 3) := by decide +kernel
theorem dX8_setRounds_17 : decode cX8_setRounds 17 = .ok (.aload_n 0, 1) := by decide +kernel
theorem dX8_setRounds_18 : decode cX8_setRounds 18 = .ok (.getfield 7, 3) := by decide +kernel
theorem dX8_setRounds_21 : decode cX8_setRounds 21 = .ok (.iconst 5, 1) := by decide +kernel
theorem dX8_setRounds_22 : decode cX8_setRounds 22 = .ok (.iaload, 1) := by decide +kernel
theorem dX8_setRounds_23 : decode cX8_setRounds 23 = .ok (.istore_n 2, 1) := by decide +kernel
theorem dX8_setRounds_24 : decode cX8_setRounds 24 = .ok (.aload_n 0, 1) := by decide +kernel
theorem dX8_setRounds_25 : decode cX8_setRounds 25 = .ok (.getfield 7, 3) := by decide +kernel
theorem dX8_setRounds_28 : decode cX8_setRounds 28 = .ok (.iconst 5, 1) := by decide +kernel
theorem dX8_setRounds_29 : decode cX8_setRounds 29 = .ok (.iload_n 1, 1) := by decide +kernel
theorem dX8_setRounds_30 : decode cX8_setRounds 30 = .ok (.iastore, 1) := by decide +kernel
theorem dX8_setRounds_31 : decode cX8_setRounds 31 = .ok (.iload_n 2, 1) := by decide +kernel
theorem dX8_setRounds_32 : decode cX8_setRounds 32 = .ok (.ireturn, 1) := by decide +kernel
theorem dX8_form_0 : decode cX8_form 0 = .ok (.iload_n 1, 1) := by decide +kernel
theorem dX8_form_1 : decode cX8_form 1 = .ok (.iconst 0, 1) := by decide +kernel
theorem dX8_form_2 : decode cX8_form 2 = .ok (.bipush 6, 2) := by decide +kernel
theorem dX8_form_4 : decode cX8_form 4 = .ok (.invokestatic 61, 3) := by decide +kernel
theorem dX8_form_7 : decode cX8_form 7 = .ok (.ifCond .eq 12, 3) := by decide +kernel
theorem dX8_form_10 : decode cX8_form 10 = .ok (.aload_n 0, 1) := by decide +kernel
theorem dX8_form_11 : decode cX8_form 11 = .ok (.getfield 7, 3) := by decide +kernel
theorem dX8_form_14 : decode cX8_form 14 = .ok (.iload_n 1, 1) := by decide +kernel
theorem dX8_form_15 : decode cX8_form 15 = .ok (.iaload, 1) := by decide +kernel
theorem dX8_form_16 : decode cX8_form 16 = .ok (.goto 5, 3) := by decide +kernel
theorem dX8_form_19 : decode cX8_form 19 = .ok (.bipush (-3), 2) := by decide +kernel
theorem dX8_form_21 : decode cX8_form 21 = .ok (.ireturn, 1) := by decide +kernel
theorem dX8_find_0 : decode cX8_find 0 = .ok (.iconst (-1), 1) := by decide +kernel
theorem dX8_find_1 : decode cX8_find 1 = .ok (.istore_n 2, 1) := by decide +kernel
theorem dX8_find_2 : decode cX8_find 2 = .ok (.iconst 0, 1) := by decide +kernel
theorem dX8_find_3 : decode cX8_find 3 = .ok (.istore_n 3, 1) := by decide +kernel
theorem dX8_find_4 : decode cX8_find 4 = .ok (.iload_n 3, 1) := by decide +kernel
theorem dX8_find_5 : decode cX8_find 5 = .ok (.aload_n 0, 1) := by decide +kernel
theorem dX8_find_6 : decode cX8_find 6 = .ok (.getfield 7, 3) := by decide +kernel
theorem dX8_find_9 : decode cX8_find 9 = .ok (.bipush 6, 2) := by decide +kernel
theorem dX8_find_11 : decode cX8_find 11 = .ok (.iaload, 1) := by decide +kernel
theorem dX8_find_12 : decode cX8_find 12 = .ok (.if_icmp .ge 28, 3) := by decide +kernel
theorem dX8_find_15 : decode cX8_find 15 = .ok (.aload_n 0, 1) := by decide +kernel
theorem dX8_find_16 : decode cX8_find 16 = .ok (.getfield 7, 3) := by decide +kernel
theorem dX8_find_19 : decode cX8_find 19 = .ok (.bipush 7, 2) := by decide +kernel
theorem dX8_find_21 : decode cX8_find 21 = .ok (.iload_n 3, 1) := by decide +kernel
theorem dX8_find_22 : decode cX8_find 22 = .ok (.iadd, 1) := by decide +kernel
theorem dX8_find_23 : decode cX8_find 23 = .ok (.iaload, 1) := by decide +kernel
theorem dX8_find_24 : decode cX8_find 24 = .ok (.iload_n 1, 1) := by decide +kernel
theorem dX8_find_25 : decode cX8_find 25 = .ok (.if_icmp .ne 7, 3) := by decide +kernel
theorem dX8_find_28 : decode cX8_find 28 = .ok (.iload_n 3, 1) := by decide +kernel
theorem dX8_find_29 : decode cX8_find 29 = .ok (.goto 4, 3) := by decide +kernel
theorem dX8_find_32 : decode cX8_find 32 = .ok (.iload_n 2, 1) := by decide +kernel
theorem dX8_find_33 : decode cX8_find 33 = .ok (.istore_n 2, 1) := by decide +kernel
theorem dX8_find_34 : decode cX8_find 34 = .ok (.iinc 3 1, 3) := by decide +kernel
theorem dX8_find_37 : decode cX8_find 37 = .ok (.goto (-33), 3) := by decide +kernel
theorem dX8_find_40 : decode cX8_find 40 = .ok (.iload_n 2, 1) := by decide +kernel
theorem dX8_find_41 : decode cX8_find 41 = .ok (.ireturn, 1) := by decide +kernel
theorem dX8_adds_0 : decode cX8_adds 0 = .ok (.aload_n 0, 1) := by decide +kernel
theorem dX8_adds_1 : decode cX8_adds 1 = .ok (.getfield 7, 3) := by decide +kernel
theorem dX8_adds_4 : decode cX8_adds 4 = .ok (.bipush 7, 2) := by decide +kernel
theorem dX8_adds_6 : decode cX8_adds 6 = .ok (.aload_n 0, 1) := by decide +kernel
theorem dX8_adds_7 : decode cX8_adds 7 = .ok (.getfield 7, 3) := by decide +kernel
theorem dX8_adds_10 : decode cX8_adds 10 = .ok (.bipush 6, 2) := by decide +kernel
theorem dX8_adds_12 : decode cX8_adds 12 = .ok (.iaload, 1) := by decide +kernel
theorem dX8_adds_13 : decode cX8_adds 13 = .ok (.iadd, 1) := by decide +kernel
theorem dX8_adds_14 : decode cX8_adds 14 = .ok (.iload_n 1, 1) := by decide +kernel
theorem dX8_adds_15 : decode cX8_adds 15 = .ok (.iastore, 1) := by decide +kernel
theorem dX8_adds_16 : decode cX8_adds 16 = .ok (.aload_n 0, 1) := by decide +kernel
theorem dX8_adds_17 : decode cX8_adds 17 = .ok (.getfield 13, 3) := by decide +kernel
theorem dX8_adds_20 : decode cX8_adds 20 = .ok (.aload_n 0, 1) := by decide +kernel
theorem dX8_adds_21 : decode cX8_adds 21 = .ok (.getfield 7, 3) := by decide +kernel
theorem dX8_adds_24 : decode cX8_adds 24 = .ok (.bipush 6, 2) := by decide +kernel
theorem dX8_adds_26 : decode cX8_adds 26 = .ok (.iaload, 1) := by decide +kernel
theorem dX8_adds_27 : decode cX8_adds 27 = .ok (.lconst 0, 1) := by decide +kernel
theorem dX8_adds_28 : decode cX8_adds 28 = .ok (.lastore, 1) := by decide +kernel
theorem dX8_adds_29 : decode cX8_adds 29 = .ok (.aload_n 0, 1) := by decide +kernel
theorem dX8_adds_30 : decode cX8_adds 30 = .ok (.getfield 13, 3) := by decide +kernel
theorem dX8_adds_33 : decode cX8_adds 33 = .ok (.bipush 32, 2) := by decide +kernel
theorem dX8_adds_35 : decode cX8_adds 35 = .ok (.aload_n 0, 1) := by decide +kernel
theorem dX8_adds_36 : decode cX8_adds 36 = .ok (.getfield 7, 3) := by decide +kernel
theorem dX8_adds_39 : decode cX8_adds 39 = .ok (.bipush 6, 2) := by decide +kernel
theorem dX8_adds_41 : decode cX8_adds 41 = .ok (.iaload, 1) := by decide +kernel
theorem dX8_adds_42 : decode cX8_adds 42 = .ok (.iadd, 1) := by decide +kernel
theorem dX8_adds_43 : decode cX8_adds 43 = .ok (.lconst 0, 1) := by decide +kernel
theorem dX8_adds_44 : decode cX8_adds 44 = .ok (.lastore, 1) := by decide +kernel
theorem dX8_adds_45 : decode cX8_adds 45 = .ok (.aload_n 0, 1) := by decide +kernel
theorem dX8_adds_46 : decode cX8_adds 46 = .ok (.getfield 7, 3) := by decide +kernel
theorem dX8_adds_49 : decode cX8_adds 49 = .ok (.bipush 6, 2) := by decide +kernel
theorem dX8_adds_51 : decode cX8_adds 51 = .ok (.dup2, 1) := by decide +kernel
theorem dX8_adds_52 : decode cX8_adds 52 = .ok (.iaload, 1) := by decide +kernel
theorem dX8_adds_53 : decode cX8_adds 53 = .ok (.iconst 1, 1) := by decide +kernel
theorem dX8_adds_54 : decode cX8_adds 54 = .ok (.iadd, 1) := by decide +kernel
theorem dX8_adds_55 : decode cX8_adds 55 = .ok (.iastore, 1) := by decide +kernel
theorem dX8_adds_56 : decode cX8_adds 56 = .ok (.aload_n 0, 1) := by decide +kernel
theorem dX8_adds_57 : decode cX8_adds 57 = .ok (.getfield 7, 3) := by decide +kernel
theorem dX8_adds_60 : decode cX8_adds 60 = .ok (.bipush 6, 2) := by decide +kernel
theorem dX8_adds_62 : decode cX8_adds 62 = .ok (.iaload, 1) := by decide +kernel
theorem dX8_adds_63 : decode cX8_adds 63 = .ok (.iconst 1, 1) := by decide +kernel
theorem dX8_adds_64 : decode cX8_adds 64 = .ok (.isub, 1) := by decide +kernel
theorem dX8_adds_65 : decode cX8_adds 65 = .ok (.ireturn, 1) := by decide +kernel
theorem dX8_addFlow_0 : decode cX8_addFlow 0 = .ok (.iload_n 1, 1) := by decide +kernel
theorem dX8_addFlow_1 : decode cX8_addFlow 1 = .ok (.iconst 0, 1) := by decide +kernel
theorem dX8_addFlow_2 : decode cX8_addFlow 2 = .ok (.sipush 999, 3) := by decide +kernel
theorem dX8_addFlow_5 : decode cX8_addFlow 5 = .ok (.invokestatic 61, 3) := by decide +kernel
theorem dX8_addFlow_8 : decode cX8_addFlow 8 = .ok (.ifCond .ne 6, 3) := by decide +kernel
theorem dX8_addFlow_11 : decode cX8_addFlow 11 = .ok (.bipush (-3), 2) := by decide +kernel
theorem dX8_addFlow_13 : decode cX8_addFlow 13 = .ok (.ireturn, 1) := by decide +kernel
theorem dX8_addFlow_14 : decode cX8_addFlow 14 = .ok (.aload_n 0, 1) := by decide +kernel
theorem dX8_addFlow_15 : decode cX8_addFlow 15 = .ok (.iload_n 1, 1) := by decide +kernel
theorem dX8_addFlow_16 : decode cX8_addFlow 16 = .ok (.invokevirtual 72, 3) := by decide +kernel
theorem dX8_addFlow_19 : decode cX8_addFlow 19 = .ok (.iconst (-1), 1) := by decide +kernel
theorem dX8_addFlow_20 : decode cX8_addFlow 20 = .ok (.if_icmp .eq 6, 3) := by decide +kernel
theorem dX8_addFlow_23 : decode cX8_addFlow 23 = .ok (.bipush (-4), 2) := by decide +kernel
theorem dX8_addFlow_25 : decode cX8_addFlow 25 = .ok (.ireturn, 1) := by decide +kernel
theorem dX8_addFlow_26 : decode cX8_addFlow 26 = .ok (.aload_n 0, 1) := by decide +kernel
theorem dX8_addFlow_27 : decode cX8_addFlow 27 = .ok (.getfield 7, 3) := by decide +kernel
theorem dX8_addFlow_30 : decode cX8_addFlow 30 = .ok (.bipush 6, 2) := by decide +kernel
theorem dX8_addFlow_32 : decode cX8_addFlow 32 = .ok (.iaload, 1) := by decide +kernel
theorem dX8_addFlow_33 : decode cX8_addFlow 33 = .ok (.bipush 16, 2) := by decide +kernel
theorem dX8_addFlow_35 : decode cX8_addFlow 35 = .ok (.if_icmp .ne 6, 3) := by decide +kernel
theorem dX8_addFlow_38 : decode cX8_addFlow 38 = .ok (.bipush (-5), 2) := by decide +kernel
theorem dX8_addFlow_40 : decode cX8_addFlow 40 = .ok (.ireturn, 1) := by decide +kernel
theorem dX8_addFlow_41 : decode cX8_addFlow 41 = .ok (.aload_n 0, 1) := by decide +kernel
theorem dX8_addFlow_42 : decode cX8_addFlow 42 = .ok (.invokevirtual 65, 3) := by decide +kernel
theorem dX8_addFlow_45 : decode cX8_addFlow 45 = .ok (.aload_n 0, 1) := by decide +kernel
theorem dX8_addFlow_46 : decode cX8_addFlow 46 = .ok (.iload_n 1, 1) := by decide +kernel
theorem dX8_addFlow_47 : decode cX8_addFlow 47 = .ok (.invokevirtual 76, 3) := by decide +kernel
theorem dX8_addFlow_50 : decode cX8_addFlow 50 = .ok (.ireturn, 1) := by decide +kernel
theorem dX8_key_0 : decode cX8_key 0 = .ok (.aload_n 0, 1) := by decide +kernel
theorem dX8_key_1 : decode cX8_key 1 = .ok (.iload_n 1, 1) := by decide +kernel
theorem dX8_key_2 : decode cX8_key 2 = .ok (.invokevirtual 79, 3) := by decide +kernel
theorem dX8_key_5 : decode cX8_key 5 = .ok (.ifCond .eq 15, 3) := by decide +kernel
theorem dX8_key_8 : decode cX8_key 8 = .ok (.aload_n 0, 1) := by decide +kernel
theorem dX8_key_9 : decode cX8_key 9 = .ok (.getfield 7, 3) := by decide +kernel
theorem dX8_key_12 : decode cX8_key 12 = .ok (.bipush 7, 2) := by decide +kernel
theorem dX8_key_14 : decode cX8_key 14 = .ok (.iload_n 1, 1) := by decide +kernel
theorem dX8_key_15 : decode cX8_key 15 = .ok (.iadd, 1) := by decide +kernel
theorem dX8_key_16 : decode cX8_key 16 = .ok (.iaload, 1) := by decide +kernel
theorem dX8_key_17 : decode cX8_key 17 = .ok (.goto 5, 3) := by decide +kernel
theorem dX8_key_20 : decode cX8_key 20 = .ok (.bipush (-2), 2) := by decide +kernel
theorem dX8_key_22 : decode cX8_key 22 = .ok (.ireturn, 1) := by decide +kernel
theorem dX8_flowOf_0 : decode cX8_flowOf 0 = .ok (.iload_n 1, 1) := by decide +kernel
theorem dX8_flowOf_1 : decode cX8_flowOf 1 = .ok (.iconst 0, 1) := by decide +kernel
theorem dX8_flowOf_2 : decode cX8_flowOf 2 = .ok (.sipush 999, 3) := by decide +kernel
theorem dX8_flowOf_5 : decode cX8_flowOf 5 = .ok (.invokestatic 61, 3) := by decide +kernel
theorem dX8_flowOf_8 : decode cX8_flowOf 8 = .ok (.ifCond .eq 11, 3) := by decide +kernel
theorem dX8_flowOf_11 : decode cX8_flowOf 11 = .ok (.aload_n 0, 1) := by decide +kernel
theorem dX8_flowOf_12 : decode cX8_flowOf 12 = .ok (.iload_n 1, 1) := by decide +kernel
theorem dX8_flowOf_13 : decode cX8_flowOf 13 = .ok (.invokevirtual 72, 3) := by decide +kernel
theorem dX8_flowOf_16 : decode cX8_flowOf 16 = .ok (.goto 5, 3) := by decide +kernel
theorem dX8_flowOf_19 : decode cX8_flowOf 19 = .ok (.bipush (-3), 2) := by decide +kernel
theorem dX8_flowOf_21 : decode cX8_flowOf 21 = .ok (.ireturn, 1) := by decide +kernel
theorem dX8_places_0 : decode cX8_places 0 = .ok (.aload_n 0, 1) := by decide +kernel
theorem dX8_places_1 : decode cX8_places 1 = .ok (.iload_n 1, 1) := by decide +kernel
theorem dX8_places_2 : decode cX8_places 2 = .ok (.invokevirtual 79, 3) := by decide +kernel
theorem dX8_places_5 : decode cX8_places 5 = .ok (.ifCond .eq 19, 3) := by decide +kernel
theorem dX8_places_8 : decode cX8_places 8 = .ok (.aload_n 0, 1) := by decide +kernel
theorem dX8_places_9 : decode cX8_places 9 = .ok (.aload_n 0, 1) := by decide +kernel
theorem dX8_places_10 : decode cX8_places 10 = .ok (.getfield 7, 3) := by decide +kernel
theorem dX8_places_13 : decode cX8_places 13 = .ok (.bipush 7, 2) := by decide +kernel
theorem dX8_places_15 : decode cX8_places 15 = .ok (.iload_n 1, 1) := by decide +kernel
theorem dX8_places_16 : decode cX8_places 16 = .ok (.iadd, 1) := by decide +kernel
theorem dX8_places_17 : decode cX8_places 17 = .ok (.iaload, 1) := by decide +kernel
theorem dX8_places_18 : decode cX8_places 18 = .ok (.invokevirtual 83, 3) := by decide +kernel
theorem dX8_places_21 : decode cX8_places 21 = .ok (.goto 5, 3) := by decide +kernel
theorem dX8_places_24 : decode cX8_places 24 = .ok (.bipush (-2), 2) := by decide +kernel
theorem dX8_places_26 : decode cX8_places 26 = .ok (.ireturn, 1) := by decide +kernel
theorem dX8_placesAbove_0 : decode cX8_placesAbove 0 = .ok (.aload_n 0, 1) := by decide +kernel
theorem dX8_placesAbove_1 : decode cX8_placesAbove 1 = .ok (.iload_n 1, 1) := by decide +kernel
theorem dX8_placesAbove_2 : decode cX8_placesAbove 2 = .ok (.invokevirtual 86, 3) := by decide +kernel
theorem dX8_placesAbove_5 : decode cX8_placesAbove 5 = .ok (.ifCond .eq 11, 3) := by decide +kernel
theorem dX8_placesAbove_8 : decode cX8_placesAbove 8 = .ok (.aload_n 0, 1) := by decide +kernel
theorem dX8_placesAbove_9 : decode cX8_placesAbove 9 = .ok (.iload_n 1, 1) := by decide +kernel
theorem dX8_placesAbove_10 : decode cX8_placesAbove 10 = .ok (.invokevirtual 89, 3) := by decide +kernel
theorem dX8_placesAbove_13 : decode cX8_placesAbove 13 = .ok (.goto 5, 3) := by decide +kernel
theorem dX8_placesAbove_16 : decode cX8_placesAbove 16 = .ok (.bipush (-2), 2) := by decide +kernel
theorem dX8_placesAbove_18 : decode cX8_placesAbove 18 = .ok (.ireturn, 1) := by decide +kernel
theorem dX8_grows_0 : decode cX8_grows 0 = .ok (.aload_n 0, 1) := by decide +kernel
theorem dX8_grows_1 : decode cX8_grows 1 = .ok (.iload_n 1, 1) := by decide +kernel
theorem dX8_grows_2 : decode cX8_grows 2 = .ok (.iload_n 2, 1) := by decide +kernel
theorem dX8_grows_3 : decode cX8_grows 3 = .ok (.invokevirtual 92, 3) := by decide +kernel
theorem dX8_grows_6 : decode cX8_grows 6 = .ok (.i2l, 1) := by decide +kernel
theorem dX8_grows_7 : decode cX8_grows 7 = .ok (.lload_n 3, 1) := by decide +kernel
theorem dX8_grows_8 : decode cX8_grows 8 = .ok (.ladd, 1) := by decide +kernel
theorem dX8_grows_9 : decode cX8_grows 9 = .ok (.lstore 5, 2) := by decide +kernel
theorem dX8_grows_11 : decode cX8_grows 11 = .ok (.lload 5, 2) := by decide +kernel
theorem dX8_grows_13 : decode cX8_grows 13 = .ok (.aload_n 0, 1) := by decide +kernel
theorem dX8_grows_14 : decode cX8_grows 14 = .ok (.getfield 7, 3) := by decide +kernel
theorem dX8_grows_17 : decode cX8_grows 17 = .ok (.iconst 1, 1) := by decide +kernel
theorem dX8_grows_18 : decode cX8_grows 18 = .ok (.iaload, 1) := by decide +kernel
theorem dX8_grows_19 : decode cX8_grows 19 = .ok (.lshr, 1) := by decide +kernel
theorem dX8_grows_20 : decode cX8_grows 20 = .ok (.lstore 7, 2) := by decide +kernel
theorem dX8_grows_22 : decode cX8_grows 22 = .ok (.aload_n 0, 1) := by decide +kernel
theorem dX8_grows_23 : decode cX8_grows 23 = .ok (.getfield 7, 3) := by decide +kernel
theorem dX8_grows_26 : decode cX8_grows 26 = .ok (.bipush 23, 2) := by decide +kernel
theorem dX8_grows_28 : decode cX8_grows 28 = .ok (.bipush 48, 2) := by decide +kernel
theorem dX8_grows_30 : decode cX8_grows 30 = .ok (.iload_n 1, 1) := by decide +kernel
theorem dX8_grows_31 : decode cX8_grows 31 = .ok (.imul, 1) := by decide +kernel
theorem dX8_grows_32 : decode cX8_grows 32 = .ok (.iadd, 1) := by decide +kernel
theorem dX8_grows_33 : decode cX8_grows 33 = .ok (.iload_n 2, 1) := by decide +kernel
theorem dX8_grows_34 : decode cX8_grows 34 = .ok (.iadd, 1) := by decide +kernel
theorem dX8_grows_35 : decode cX8_grows 35 = .ok (.lload 5, 2) := by decide +kernel
theorem dX8_grows_37 : decode cX8_grows 37 = .ok (.lload 7, 2) := by decide +kernel
theorem dX8_grows_39 : decode cX8_grows 39 = .ok (.aload_n 0, 1) := by decide +kernel
theorem dX8_grows_40 : decode cX8_grows 40 = .ok (.getfield 7, 3) := by decide +kernel
theorem dX8_grows_43 : decode cX8_grows 43 = .ok (.iconst 1, 1) := by decide +kernel
theorem dX8_grows_44 : decode cX8_grows 44 = .ok (.iaload, 1) := by decide +kernel
theorem dX8_grows_45 : decode cX8_grows 45 = .ok (.lshl, 1) := by decide +kernel
theorem dX8_grows_46 : decode cX8_grows 46 = .ok (.lsub, 1) := by decide +kernel
theorem dX8_grows_47 : decode cX8_grows 47 = .ok (.l2i, 1) := by decide +kernel
theorem dX8_grows_48 : decode cX8_grows 48 = .ok (.iastore, 1) := by decide +kernel
theorem dX8_grows_49 : decode cX8_grows 49 = .ok (.iconst 0, 1) := by decide +kernel
theorem dX8_grows_50 : decode cX8_grows 50 = .ok (.istore 9, 2) := by decide +kernel
theorem dX8_grows_52 : decode cX8_grows 52 = .ok (.iload 9, 2) := by decide +kernel
theorem dX8_grows_54 : decode cX8_grows 54 = .ok (.aload_n 0, 1) := by decide +kernel
theorem dX8_grows_55 : decode cX8_grows 55 = .ok (.getfield 7, 3) := by decide +kernel
theorem dX8_grows_58 : decode cX8_grows 58 = .ok (.iconst 3, 1) := by decide +kernel
theorem dX8_grows_59 : decode cX8_grows 59 = .ok (.iaload, 1) := by decide +kernel
theorem dX8_grows_60 : decode cX8_grows 60 = .ok (.if_icmp .ge 47, 3) := by decide +kernel
theorem dX8_grows_63 : decode cX8_grows 63 = .ok (.aload_n 0, 1) := by decide +kernel
theorem dX8_grows_64 : decode cX8_grows 64 = .ok (.getfield 13, 3) := by decide +kernel
theorem dX8_grows_67 : decode cX8_grows 67 = .ok (.bipush 32, 2) := by decide +kernel
theorem dX8_grows_69 : decode cX8_grows 69 = .ok (.iload_n 1, 1) := by decide +kernel
theorem dX8_grows_70 : decode cX8_grows 70 = .ok (.imul, 1) := by decide +kernel
theorem dX8_grows_71 : decode cX8_grows 71 = .ok (.bipush 16, 2) := by decide +kernel
theorem dX8_grows_73 : decode cX8_grows 73 = .ok (.iadd, 1) := by decide +kernel
theorem dX8_grows_74 : decode cX8_grows 74 = .ok (.iload 9, 2) := by decide +kernel
theorem dX8_grows_76 : decode cX8_grows 76 = .ok (.iadd, 1) := by decide +kernel
theorem dX8_grows_77 : decode cX8_grows 77 = .ok (.dup2, 1) := by decide +kernel
theorem dX8_grows_78 : decode cX8_grows 78 = .ok (.laload, 1) := by decide +kernel
theorem dX8_grows_79 : decode cX8_grows 79 = .ok (.aload_n 0, 1) := by decide +kernel
theorem dX8_grows_80 : decode cX8_grows 80 = .ok (.iload_n 2, 1) := by decide +kernel
theorem dX8_grows_81 : decode cX8_grows 81 = .ok (.invokevirtual 89, 3) := by decide +kernel
theorem dX8_grows_84 : decode cX8_grows 84 = .ok (.iload 9, 2) := by decide +kernel
theorem dX8_grows_86 : decode cX8_grows 86 = .ok (.ishr, 1) := by decide +kernel
theorem dX8_grows_87 : decode cX8_grows 87 = .ok (.iconst 1, 1) := by decide +kernel
theorem dX8_grows_88 : decode cX8_grows 88 = .ok (.iand, 1) := by decide +kernel
theorem dX8_grows_89 : decode cX8_grows 89 = .ok (.iconst 1, 1) := by decide +kernel
theorem dX8_grows_90 : decode cX8_grows 90 = .ok (.if_icmp .ne 8, 3) := by decide +kernel
theorem dX8_grows_93 : decode cX8_grows 93 = .ok (.lload 7, 2) := by decide +kernel
theorem dX8_grows_95 : decode cX8_grows 95 = .ok (.goto 4, 3) := by decide +kernel
theorem dX8_grows_98 : decode cX8_grows 98 = .ok (.lconst 0, 1) := by decide +kernel
theorem dX8_grows_99 : decode cX8_grows 99 = .ok (.ladd, 1) := by decide +kernel
theorem dX8_grows_100 : decode cX8_grows 100 = .ok (.lastore, 1) := by decide +kernel
theorem dX8_grows_101 : decode cX8_grows 101 = .ok (.iinc 9 1, 3) := by decide +kernel
theorem dX8_grows_104 : decode cX8_grows 104 = .ok (.goto (-52), 3) := by decide +kernel
theorem dX8_grows_107 : decode cX8_grows 107 = .ok (.lload 7, 2) := by decide +kernel
theorem dX8_grows_109 : decode cX8_grows 109 = .ok (.lconst 0, 1) := by decide +kernel
theorem dX8_grows_110 : decode cX8_grows 110 = .ok (.lcmp, 1) := by decide +kernel
theorem dX8_grows_111 : decode cX8_grows 111 = .ok (.ifCond .le 21, 3) := by decide +kernel
theorem dX8_grows_114 : decode cX8_grows 114 = .ok (.aload_n 0, 1) := by decide +kernel
theorem dX8_grows_115 : decode cX8_grows 115 = .ok (.getfield 7, 3) := by decide +kernel
theorem dX8_grows_118 : decode cX8_grows 118 = .ok (.bipush 23, 2) := by decide +kernel
theorem dX8_grows_120 : decode cX8_grows 120 = .ok (.bipush 48, 2) := by decide +kernel
theorem dX8_grows_122 : decode cX8_grows 122 = .ok (.iload_n 1, 1) := by decide +kernel
theorem dX8_grows_123 : decode cX8_grows 123 = .ok (.imul, 1) := by decide +kernel
theorem dX8_grows_124 : decode cX8_grows 124 = .ok (.iadd, 1) := by decide +kernel
theorem dX8_grows_125 : decode cX8_grows 125 = .ok (.bipush 24, 2) := by decide +kernel
theorem dX8_grows_127 : decode cX8_grows 127 = .ok (.iadd, 1) := by decide +kernel
theorem dX8_grows_128 : decode cX8_grows 128 = .ok (.iload_n 2, 1) := by decide +kernel
theorem dX8_grows_129 : decode cX8_grows 129 = .ok (.iadd, 1) := by decide +kernel
theorem dX8_grows_130 : decode cX8_grows 130 = .ok (.iconst 1, 1) := by decide +kernel
theorem dX8_grows_131 : decode cX8_grows 131 = .ok (.iastore, 1) := by decide +kernel
theorem dX8_grows_132 : decode cX8_grows 132 = .ok (.lload 7, 2) := by decide +kernel
theorem dX8_grows_134 : decode cX8_grows 134 = .ok (.lconst 0, 1) := by decide +kernel
theorem dX8_grows_135 : decode cX8_grows 135 = .ok (.lcmp, 1) := by decide +kernel
theorem dX8_grows_136 : decode cX8_grows 136 = .ok (.ifCond .le 7, 3) := by decide +kernel
theorem dX8_grows_139 : decode cX8_grows 139 = .ok (.iconst 1, 1) := by decide +kernel
theorem dX8_grows_140 : decode cX8_grows 140 = .ok (.goto 4, 3) := by decide +kernel
theorem dX8_grows_143 : decode cX8_grows 143 = .ok (.iconst 0, 1) := by decide +kernel
theorem dX8_grows_144 : decode cX8_grows 144 = .ok (.ireturn, 1) := by decide +kernel
theorem dX8_counts_0 : decode cX8_counts 0 = .ok (.aload_n 0, 1) := by decide +kernel
theorem dX8_counts_1 : decode cX8_counts 1 = .ok (.aload_n 0, 1) := by decide +kernel
theorem dX8_counts_2 : decode cX8_counts 2 = .ok (.getfield 7, 3) := by decide +kernel
theorem dX8_counts_5 : decode cX8_counts 5 = .ok (.bipush 7, 2) := by decide +kernel
theorem dX8_counts_7 : decode cX8_counts 7 = .ok (.iload_n 2, 1) := by decide +kernel
theorem dX8_counts_8 : decode cX8_counts 8 = .ok (.iadd, 1) := by decide +kernel
theorem dX8_counts_9 : decode cX8_counts 9 = .ok (.iaload, 1) := by decide +kernel
theorem dX8_counts_10 : decode cX8_counts 10 = .ok (.invokevirtual 83, 3) := by decide +kernel
theorem dX8_counts_13 : decode cX8_counts 13 = .ok (.istore 5, 2) := by decide +kernel
theorem dX8_counts_15 : decode cX8_counts 15 = .ok (.iconst 0, 1) := by decide +kernel
theorem dX8_counts_16 : decode cX8_counts 16 = .ok (.istore 6, 2) := by decide +kernel
theorem dX8_counts_18 : decode cX8_counts 18 = .ok (.iload 6, 2) := by decide +kernel
theorem dX8_counts_20 : decode cX8_counts 20 = .ok (.aload_n 0, 1) := by decide +kernel
theorem dX8_counts_21 : decode cX8_counts 21 = .ok (.getfield 7, 3) := by decide +kernel
theorem dX8_counts_24 : decode cX8_counts 24 = .ok (.iconst 0, 1) := by decide +kernel
theorem dX8_counts_25 : decode cX8_counts 25 = .ok (.iaload, 1) := by decide +kernel
theorem dX8_counts_26 : decode cX8_counts 26 = .ok (.if_icmp .ge 38, 3) := by decide +kernel
theorem dX8_counts_29 : decode cX8_counts 29 = .ok (.iload 5, 2) := by decide +kernel
theorem dX8_counts_31 : decode cX8_counts 31 = .ok (.iload 6, 2) := by decide +kernel
theorem dX8_counts_33 : decode cX8_counts 33 = .ok (.ishr, 1) := by decide +kernel
theorem dX8_counts_34 : decode cX8_counts 34 = .ok (.iconst 1, 1) := by decide +kernel
theorem dX8_counts_35 : decode cX8_counts 35 = .ok (.iand, 1) := by decide +kernel
theorem dX8_counts_36 : decode cX8_counts 36 = .ok (.iconst 1, 1) := by decide +kernel
theorem dX8_counts_37 : decode cX8_counts 37 = .ok (.if_icmp .ne 18, 3) := by decide +kernel
theorem dX8_counts_40 : decode cX8_counts 40 = .ok (.aload_n 0, 1) := by decide +kernel
theorem dX8_counts_41 : decode cX8_counts 41 = .ok (.iload_n 1, 1) := by decide +kernel
theorem dX8_counts_42 : decode cX8_counts 42 = .ok (.iload 6, 2) := by decide +kernel
theorem dX8_counts_44 : decode cX8_counts 44 = .ok (.lload_n 3, 1) := by decide +kernel
theorem dX8_counts_45 : decode cX8_counts 45 = .ok (.invokevirtual 96, 3) := by decide +kernel
theorem dX8_counts_48 : decode cX8_counts 48 = .ok (.ifCond .eq 7, 3) := by decide +kernel
theorem dX8_counts_51 : decode cX8_counts 51 = .ok (.iconst 1, 1) := by decide +kernel
theorem dX8_counts_52 : decode cX8_counts 52 = .ok (.goto 4, 3) := by decide +kernel
theorem dX8_counts_55 : decode cX8_counts 55 = .ok (.iconst 0, 1) := by decide +kernel
theorem dX8_counts_56 : decode cX8_counts 56 = .ok (.istore 7, 2) := by decide +kernel
theorem dX8_counts_58 : decode cX8_counts 58 = .ok (.iinc 6 1, 3) := by decide +kernel
theorem dX8_counts_61 : decode cX8_counts 61 = .ok (.goto (-43), 3) := by decide +kernel
theorem dX8_counts_64 : decode cX8_counts 64 = .ok (.aload_n 0, 1) := by decide +kernel
theorem dX8_counts_65 : decode cX8_counts 65 = .ok (.getfield 13, 3) := by decide +kernel
theorem dX8_counts_68 : decode cX8_counts 68 = .ok (.bipush 32, 2) := by decide +kernel
theorem dX8_counts_70 : decode cX8_counts 70 = .ok (.iload_n 1, 1) := by decide +kernel
theorem dX8_counts_71 : decode cX8_counts 71 = .ok (.imul, 1) := by decide +kernel
theorem dX8_counts_72 : decode cX8_counts 72 = .ok (.iload_n 2, 1) := by decide +kernel
theorem dX8_counts_73 : decode cX8_counts 73 = .ok (.iadd, 1) := by decide +kernel
theorem dX8_counts_74 : decode cX8_counts 74 = .ok (.dup2, 1) := by decide +kernel
theorem dX8_counts_75 : decode cX8_counts 75 = .ok (.laload, 1) := by decide +kernel
theorem dX8_counts_76 : decode cX8_counts 76 = .ok (.lload_n 3, 1) := by decide +kernel
theorem dX8_counts_77 : decode cX8_counts 77 = .ok (.ladd, 1) := by decide +kernel
theorem dX8_counts_78 : decode cX8_counts 78 = .ok (.lastore, 1) := by decide +kernel
theorem dX8_counts_79 : decode cX8_counts 79 = .ok (.return_, 1) := by decide +kernel
theorem dX8_count_0 : decode cX8_count 0 = .ok (.iload_n 1, 1) := by decide +kernel
theorem dX8_count_1 : decode cX8_count 1 = .ok (.invokestatic 100, 3) := by decide +kernel
theorem dX8_count_4 : decode cX8_count 4 = .ok (.ifCond .eq 11, 3) := by decide +kernel
theorem dX8_count_7 : decode cX8_count 7 = .ok (.aload_n 0, 1) := by decide +kernel
theorem dX8_count_8 : decode cX8_count 8 = .ok (.iload_n 2, 1) := by decide +kernel
theorem dX8_count_9 : decode cX8_count 9 = .ok (.invokevirtual 79, 3) := by decide +kernel
theorem dX8_count_12 : decode cX8_count 12 = .ok (.ifCond .ne 7, 3) := by decide +kernel
theorem dX8_count_15 : decode cX8_count 15 = .ok (.ldc2_w 103, 3) := by decide +kernel
theorem dX8_count_18 : decode cX8_count 18 = .ok (.lreturn, 1) := by decide +kernel
theorem dX8_count_19 : decode cX8_count 19 = .ok (.iload_n 3, 1) := by decide +kernel
theorem dX8_count_20 : decode cX8_count 20 = .ok (.iconst 1, 1) := by decide +kernel
theorem dX8_count_21 : decode cX8_count 21 = .ok (.ldc 105, 2) := by decide +kernel
theorem dX8_count_23 : decode cX8_count 23 = .ok (.invokestatic 61, 3) := by decide +kernel
theorem dX8_count_26 : decode cX8_count 26 = .ok (.ifCond .ne 7, 3) := by decide +kernel
theorem dX8_count_29 : decode cX8_count 29 = .ok (.ldc2_w 106, 3) := by decide +kernel
theorem dX8_count_32 : decode cX8_count 32 = .ok (.lreturn, 1) := by decide +kernel
theorem dX8_count_33 : decode cX8_count 33 = .ok (.aload_n 0, 1) := by decide +kernel
theorem dX8_count_34 : decode cX8_count 34 = .ok (.iload_n 1, 1) := by decide +kernel
theorem dX8_count_35 : decode cX8_count 35 = .ok (.iload_n 2, 1) := by decide +kernel
theorem dX8_count_36 : decode cX8_count 36 = .ok (.invokevirtual 108, 3) := by decide +kernel
theorem dX8_count_39 : decode cX8_count 39 = .ok (.iload_n 3, 1) := by decide +kernel
theorem dX8_count_40 : decode cX8_count 40 = .ok (.i2l, 1) := by decide +kernel
theorem dX8_count_41 : decode cX8_count 41 = .ok (.ladd, 1) := by decide +kernel
theorem dX8_count_42 : decode cX8_count 42 = .ok (.ldc2_w 112, 3) := by decide +kernel
theorem dX8_count_45 : decode cX8_count 45 = .ok (.lcmp, 1) := by decide +kernel
theorem dX8_count_46 : decode cX8_count 46 = .ok (.ifCond .le 7, 3) := by decide +kernel
theorem dX8_count_49 : decode cX8_count 49 = .ok (.ldc2_w 114, 3) := by decide +kernel
theorem dX8_count_52 : decode cX8_count 52 = .ok (.lreturn, 1) := by decide +kernel
theorem dX8_count_53 : decode cX8_count 53 = .ok (.aload_n 0, 1) := by decide +kernel
theorem dX8_count_54 : decode cX8_count 54 = .ok (.invokevirtual 65, 3) := by decide +kernel
theorem dX8_count_57 : decode cX8_count 57 = .ok (.aload_n 0, 1) := by decide +kernel
theorem dX8_count_58 : decode cX8_count 58 = .ok (.iload_n 1, 1) := by decide +kernel
theorem dX8_count_59 : decode cX8_count 59 = .ok (.iload_n 2, 1) := by decide +kernel
theorem dX8_count_60 : decode cX8_count 60 = .ok (.iload_n 3, 1) := by decide +kernel
theorem dX8_count_61 : decode cX8_count 61 = .ok (.i2l, 1) := by decide +kernel
theorem dX8_count_62 : decode cX8_count 62 = .ok (.invokevirtual 116, 3) := by decide +kernel
theorem dX8_count_65 : decode cX8_count 65 = .ok (.aload_n 0, 1) := by decide +kernel
theorem dX8_count_66 : decode cX8_count 66 = .ok (.iload_n 1, 1) := by decide +kernel
theorem dX8_count_67 : decode cX8_count 67 = .ok (.iload_n 2, 1) := by decide +kernel
theorem dX8_count_68 : decode cX8_count 68 = .ok (.invokevirtual 108, 3) := by decide +kernel
theorem dX8_count_71 : decode cX8_count 71 = .ok (.lreturn, 1) := by decide +kernel
theorem dX8_addBraid_0 : decode cX8_addBraid 0 = .ok (.iload_n 1, 1) := by decide +kernel
theorem dX8_addBraid_1 : decode cX8_addBraid 1 = .ok (.invokestatic 100, 3) := by decide +kernel
theorem dX8_addBraid_4 : decode cX8_addBraid 4 = .ok (.ifCond .eq 10, 3) := by decide +kernel
theorem dX8_addBraid_7 : decode cX8_addBraid 7 = .ok (.iload_n 2, 1) := by decide +kernel
theorem dX8_addBraid_8 : decode cX8_addBraid 8 = .ok (.invokestatic 100, 3) := by decide +kernel
theorem dX8_addBraid_11 : decode cX8_addBraid 11 = .ok (.ifCond .ne 6, 3) := by decide +kernel
theorem dX8_addBraid_14 : decode cX8_addBraid 14 = .ok (.bipush (-2), 2) := by decide +kernel
theorem dX8_addBraid_16 : decode cX8_addBraid 16 = .ok (.ireturn, 1) := by decide +kernel
theorem dX8_addBraid_17 : decode cX8_addBraid 17 = .ok (.iload_n 1, 1) := by decide +kernel
theorem dX8_addBraid_18 : decode cX8_addBraid 18 = .ok (.iload_n 2, 1) := by decide +kernel
theorem dX8_addBraid_19 : decode cX8_addBraid 19 = .ok (.if_icmp .ne 6, 3) := by decide +kernel
theorem dX8_addBraid_22 : decode cX8_addBraid 22 = .ok (.bipush (-3), 2) := by decide +kernel
theorem dX8_addBraid_24 : decode cX8_addBraid 24 = .ok (.ireturn, 1) := by decide +kernel
theorem dX8_addBraid_25 : decode cX8_addBraid 25 = .ok (.iconst 0, 1) := by decide +kernel
theorem dX8_addBraid_26 : decode cX8_addBraid 26 = .ok (.istore_n 3, 1) := by decide +kernel
theorem dX8_addBraid_27 : decode cX8_addBraid 27 = .ok (.iload_n 3, 1) := by decide +kernel
theorem dX8_addBraid_28 : decode cX8_addBraid 28 = .ok (.aload_n 0, 1) := by decide +kernel
theorem dX8_addBraid_29 : decode cX8_addBraid 29 = .ok (.getfield 7, 3) := by decide +kernel
theorem dX8_addBraid_32 : decode cX8_addBraid 32 = .ok (.bipush 6, 2) := by decide +kernel
theorem dX8_addBraid_34 : decode cX8_addBraid 34 = .ok (.iaload, 1) := by decide +kernel
theorem dX8_addBraid_35 : decode cX8_addBraid 35 = .ok (.if_icmp .ge 32, 3) := by decide +kernel
theorem dX8_addBraid_38 : decode cX8_addBraid 38 = .ok (.aload_n 0, 1) := by decide +kernel
theorem dX8_addBraid_39 : decode cX8_addBraid 39 = .ok (.iload_n 1, 1) := by decide +kernel
theorem dX8_addBraid_40 : decode cX8_addBraid 40 = .ok (.iload_n 3, 1) := by decide +kernel
theorem dX8_addBraid_41 : decode cX8_addBraid 41 = .ok (.invokevirtual 108, 3) := by decide +kernel
theorem dX8_addBraid_44 : decode cX8_addBraid 44 = .ok (.aload_n 0, 1) := by decide +kernel
theorem dX8_addBraid_45 : decode cX8_addBraid 45 = .ok (.iload_n 2, 1) := by decide +kernel
theorem dX8_addBraid_46 : decode cX8_addBraid 46 = .ok (.iload_n 3, 1) := by decide +kernel
theorem dX8_addBraid_47 : decode cX8_addBraid 47 = .ok (.invokevirtual 108, 3) := by decide +kernel
theorem dX8_addBraid_50 : decode cX8_addBraid 50 = .ok (.ladd, 1) := by decide +kernel
theorem dX8_addBraid_51 : decode cX8_addBraid 51 = .ok (.ldc2_w 112, 3) := by decide +kernel
theorem dX8_addBraid_54 : decode cX8_addBraid 54 = .ok (.lcmp, 1) := by decide +kernel
theorem dX8_addBraid_55 : decode cX8_addBraid 55 = .ok (.ifCond .le 6, 3) := by decide +kernel
theorem dX8_addBraid_58 : decode cX8_addBraid 58 = .ok (.bipush (-5), 2) := by decide +kernel
theorem dX8_addBraid_60 : decode cX8_addBraid 60 = .ok (.ireturn, 1) := by decide +kernel
theorem dX8_addBraid_61 : decode cX8_addBraid 61 = .ok (.iinc 3 1, 3) := by decide +kernel
theorem dX8_addBraid_64 : decode cX8_addBraid 64 = .ok (.goto (-37), 3) := by decide +kernel
theorem dX8_addBraid_67 : decode cX8_addBraid 67 = .ok (.aload_n 0, 1) := by decide +kernel
theorem dX8_addBraid_68 : decode cX8_addBraid 68 = .ok (.invokevirtual 65, 3) := by decide +kernel
theorem dX8_addBraid_71 : decode cX8_addBraid 71 = .ok (.iconst 0, 1) := by decide +kernel
theorem dX8_addBraid_72 : decode cX8_addBraid 72 = .ok (.istore_n 3, 1) := by decide +kernel
theorem dX8_addBraid_73 : decode cX8_addBraid 73 = .ok (.iload_n 3, 1) := by decide +kernel
theorem dX8_addBraid_74 : decode cX8_addBraid 74 = .ok (.bipush 32, 2) := by decide +kernel
theorem dX8_addBraid_76 : decode cX8_addBraid 76 = .ok (.if_icmp .ge 34, 3) := by decide +kernel
theorem dX8_addBraid_79 : decode cX8_addBraid 79 = .ok (.aload_n 0, 1) := by decide +kernel
theorem dX8_addBraid_80 : decode cX8_addBraid 80 = .ok (.getfield 13, 3) := by decide +kernel
theorem dX8_addBraid_83 : decode cX8_addBraid 83 = .ok (.bipush 32, 2) := by decide +kernel
theorem dX8_addBraid_85 : decode cX8_addBraid 85 = .ok (.iload_n 2, 1) := by decide +kernel
theorem dX8_addBraid_86 : decode cX8_addBraid 86 = .ok (.imul, 1) := by decide +kernel
theorem dX8_addBraid_87 : decode cX8_addBraid 87 = .ok (.iload_n 3, 1) := by decide +kernel
theorem dX8_addBraid_88 : decode cX8_addBraid 88 = .ok (.iadd, 1) := by decide +kernel
theorem dX8_addBraid_89 : decode cX8_addBraid 89 = .ok (.dup2, 1) := by decide +kernel
theorem dX8_addBraid_90 : decode cX8_addBraid 90 = .ok (.laload, 1) := by decide +kernel
theorem dX8_addBraid_91 : decode cX8_addBraid 91 = .ok (.aload_n 0, 1) := by decide +kernel
theorem dX8_addBraid_92 : decode cX8_addBraid 92 = .ok (.getfield 13, 3) := by decide +kernel
theorem dX8_addBraid_95 : decode cX8_addBraid 95 = .ok (.bipush 32, 2) := by decide +kernel
theorem dX8_addBraid_97 : decode cX8_addBraid 97 = .ok (.iload_n 1, 1) := by decide +kernel
theorem dX8_addBraid_98 : decode cX8_addBraid 98 = .ok (.imul, 1) := by decide +kernel
theorem dX8_addBraid_99 : decode cX8_addBraid 99 = .ok (.iload_n 3, 1) := by decide +kernel
theorem dX8_addBraid_100 : decode cX8_addBraid 100 = .ok (.iadd, 1) := by decide +kernel
theorem dX8_addBraid_101 : decode cX8_addBraid 101 = .ok (.laload, 1) := by decide +kernel
theorem dX8_addBraid_102 : decode cX8_addBraid 102 = .ok (.ladd, 1) := by decide +kernel
theorem dX8_addBraid_103 : decode cX8_addBraid 103 = .ok (.lastore, 1) := by decide +kernel
theorem dX8_addBraid_104 : decode cX8_addBraid 104 = .ok (.iinc 3 1, 3) := by decide +kernel
theorem dX8_addBraid_107 : decode cX8_addBraid 107 = .ok (.goto (-34), 3) := by decide +kernel
theorem dX8_addBraid_110 : decode cX8_addBraid 110 = .ok (.iconst 0, 1) := by decide +kernel
theorem dX8_addBraid_111 : decode cX8_addBraid 111 = .ok (.istore_n 3, 1) := by decide +kernel
theorem dX8_addBraid_112 : decode cX8_addBraid 112 = .ok (.iconst 0, 1) := by decide +kernel
theorem dX8_addBraid_113 : decode cX8_addBraid 113 = .ok (.istore 4, 2) := by decide +kernel
theorem dX8_addBraid_115 : decode cX8_addBraid 115 = .ok (.iload 4, 2) := by decide +kernel
theorem dX8_addBraid_117 : decode cX8_addBraid 117 = .ok (.aload_n 0, 1) := by decide +kernel
theorem dX8_addBraid_118 : decode cX8_addBraid 118 = .ok (.getfield 7, 3) := by decide +kernel
theorem dX8_addBraid_121 : decode cX8_addBraid 121 = .ok (.iconst 0, 1) := by decide +kernel
theorem dX8_addBraid_122 : decode cX8_addBraid 122 = .ok (.iaload, 1) := by decide +kernel
theorem dX8_addBraid_123 : decode cX8_addBraid 123 = .ok (.if_icmp .ge 87, 3) := by decide +kernel
theorem dX8_addBraid_126 : decode cX8_addBraid 126 = .ok (.aload_n 0, 1) := by decide +kernel
theorem dX8_addBraid_127 : decode cX8_addBraid 127 = .ok (.iload_n 2, 1) := by decide +kernel
theorem dX8_addBraid_128 : decode cX8_addBraid 128 = .ok (.iload 4, 2) := by decide +kernel
theorem dX8_addBraid_130 : decode cX8_addBraid 130 = .ok (.invokevirtual 120, 3) := by decide +kernel
theorem dX8_addBraid_133 : decode cX8_addBraid 133 = .ok (.istore 5, 2) := by decide +kernel
theorem dX8_addBraid_135 : decode cX8_addBraid 135 = .ok (.aload_n 0, 1) := by decide +kernel
theorem dX8_addBraid_136 : decode cX8_addBraid 136 = .ok (.iload_n 2, 1) := by decide +kernel
theorem dX8_addBraid_137 : decode cX8_addBraid 137 = .ok (.iload 4, 2) := by decide +kernel
theorem dX8_addBraid_139 : decode cX8_addBraid 139 = .ok (.aload_n 0, 1) := by decide +kernel
theorem dX8_addBraid_140 : decode cX8_addBraid 140 = .ok (.iload_n 1, 1) := by decide +kernel
theorem dX8_addBraid_141 : decode cX8_addBraid 141 = .ok (.iload 4, 2) := by decide +kernel
theorem dX8_addBraid_143 : decode cX8_addBraid 143 = .ok (.invokevirtual 92, 3) := by decide +kernel
theorem dX8_addBraid_146 : decode cX8_addBraid 146 = .ok (.i2l, 1) := by decide +kernel
theorem dX8_addBraid_147 : decode cX8_addBraid 147 = .ok (.invokevirtual 96, 3) := by decide +kernel
theorem dX8_addBraid_150 : decode cX8_addBraid 150 = .ok (.istore 6, 2) := by decide +kernel
theorem dX8_addBraid_152 : decode cX8_addBraid 152 = .ok (.aload_n 0, 1) := by decide +kernel
theorem dX8_addBraid_153 : decode cX8_addBraid 153 = .ok (.iload_n 1, 1) := by decide +kernel
theorem dX8_addBraid_154 : decode cX8_addBraid 154 = .ok (.iload 4, 2) := by decide +kernel
theorem dX8_addBraid_156 : decode cX8_addBraid 156 = .ok (.invokevirtual 120, 3) := by decide +kernel
theorem dX8_addBraid_159 : decode cX8_addBraid 159 = .ok (.ifCond .eq 22, 3) := by decide +kernel
theorem dX8_addBraid_162 : decode cX8_addBraid 162 = .ok (.aload_n 0, 1) := by decide +kernel
theorem dX8_addBraid_163 : decode cX8_addBraid 163 = .ok (.getfield 7, 3) := by decide +kernel
theorem dX8_addBraid_166 : decode cX8_addBraid 166 = .ok (.bipush 23, 2) := by decide +kernel
theorem dX8_addBraid_168 : decode cX8_addBraid 168 = .ok (.bipush 48, 2) := by decide +kernel
theorem dX8_addBraid_170 : decode cX8_addBraid 170 = .ok (.iload_n 2, 1) := by decide +kernel
theorem dX8_addBraid_171 : decode cX8_addBraid 171 = .ok (.imul, 1) := by decide +kernel
theorem dX8_addBraid_172 : decode cX8_addBraid 172 = .ok (.iadd, 1) := by decide +kernel
theorem dX8_addBraid_173 : decode cX8_addBraid 173 = .ok (.bipush 24, 2) := by decide +kernel
theorem dX8_addBraid_175 : decode cX8_addBraid 175 = .ok (.iadd, 1) := by decide +kernel
theorem dX8_addBraid_176 : decode cX8_addBraid 176 = .ok (.iload 4, 2) := by decide +kernel
theorem dX8_addBraid_178 : decode cX8_addBraid 178 = .ok (.iadd, 1) := by decide +kernel
theorem dX8_addBraid_179 : decode cX8_addBraid 179 = .ok (.iconst 1, 1) := by decide +kernel
theorem dX8_addBraid_180 : decode cX8_addBraid 180 = .ok (.iastore, 1) := by decide +kernel
theorem dX8_addBraid_181 : decode cX8_addBraid 181 = .ok (.iload_n 3, 1) := by decide +kernel
theorem dX8_addBraid_182 : decode cX8_addBraid 182 = .ok (.iload 5, 2) := by decide +kernel
theorem dX8_addBraid_184 : decode cX8_addBraid 184 = .ok (.ifCond .ne 17, 3) := by decide +kernel
theorem dX8_addBraid_187 : decode cX8_addBraid 187 = .ok (.aload_n 0, 1) := by decide +kernel
theorem dX8_addBraid_188 : decode cX8_addBraid 188 = .ok (.iload_n 2, 1) := by decide +kernel
theorem dX8_addBraid_189 : decode cX8_addBraid 189 = .ok (.iload 4, 2) := by decide +kernel
theorem dX8_addBraid_191 : decode cX8_addBraid 191 = .ok (.invokevirtual 120, 3) := by decide +kernel
theorem dX8_addBraid_194 : decode cX8_addBraid 194 = .ok (.ifCond .eq 7, 3) := by decide +kernel
theorem dX8_addBraid_197 : decode cX8_addBraid 197 = .ok (.iconst 1, 1) := by decide +kernel
theorem dX8_addBraid_198 : decode cX8_addBraid 198 = .ok (.goto 4, 3) := by decide +kernel
theorem dX8_addBraid_201 : decode cX8_addBraid 201 = .ok (.iconst 0, 1) := by decide +kernel
theorem dX8_addBraid_202 : decode cX8_addBraid 202 = .ok (.iadd, 1) := by decide +kernel
theorem dX8_addBraid_203 : decode cX8_addBraid 203 = .ok (.istore_n 3, 1) := by decide +kernel
theorem dX8_addBraid_204 : decode cX8_addBraid 204 = .ok (.iinc 4 1, 3) := by decide +kernel
theorem dX8_addBraid_207 : decode cX8_addBraid 207 = .ok (.goto (-92), 3) := by decide +kernel
theorem dX8_addBraid_210 : decode cX8_addBraid 210 = .ok (.iload_n 3, 1) := by decide +kernel
theorem dX8_addBraid_211 : decode cX8_addBraid 211 = .ok (.ireturn, 1) := by decide +kernel
theorem dX8_clear_0 : decode cX8_clear 0 = .ok (.iload_n 1, 1) := by decide +kernel
theorem dX8_clear_1 : decode cX8_clear 1 = .ok (.invokestatic 100, 3) := by decide +kernel
theorem dX8_clear_4 : decode cX8_clear 4 = .ok (.ifCond .ne 7, 3) := by decide +kernel
theorem dX8_clear_7 : decode cX8_clear 7 = .ok (.ldc2_w 103, 3) := by decide +kernel
theorem dX8_clear_10 : decode cX8_clear 10 = .ok (.lreturn, 1) := by decide +kernel
theorem dX8_clear_11 : decode cX8_clear 11 = .ok (.aload_n 0, 1) := by decide +kernel
theorem dX8_clear_12 : decode cX8_clear 12 = .ok (.invokevirtual 65, 3) := by decide +kernel
theorem dX8_clear_15 : decode cX8_clear 15 = .ok (.lconst 0, 1) := by decide +kernel
theorem dX8_clear_16 : decode cX8_clear 16 = .ok (.lstore_n 2, 1) := by decide +kernel
theorem dX8_clear_17 : decode cX8_clear 17 = .ok (.iconst 0, 1) := by decide +kernel
theorem dX8_clear_18 : decode cX8_clear 18 = .ok (.istore 4, 2) := by decide +kernel
theorem dX8_clear_20 : decode cX8_clear 20 = .ok (.iload 4, 2) := by decide +kernel
theorem dX8_clear_22 : decode cX8_clear 22 = .ok (.aload_n 0, 1) := by decide +kernel
theorem dX8_clear_23 : decode cX8_clear 23 = .ok (.getfield 7, 3) := by decide +kernel
theorem dX8_clear_26 : decode cX8_clear 26 = .ok (.bipush 6, 2) := by decide +kernel
theorem dX8_clear_28 : decode cX8_clear 28 = .ok (.iaload, 1) := by decide +kernel
theorem dX8_clear_29 : decode cX8_clear 29 = .ok (.if_icmp .ge 19, 3) := by decide +kernel
theorem dX8_clear_32 : decode cX8_clear 32 = .ok (.lload_n 2, 1) := by decide +kernel
theorem dX8_clear_33 : decode cX8_clear 33 = .ok (.aload_n 0, 1) := by decide +kernel
theorem dX8_clear_34 : decode cX8_clear 34 = .ok (.iload_n 1, 1) := by decide +kernel
theorem dX8_clear_35 : decode cX8_clear 35 = .ok (.iload 4, 2) := by decide +kernel
theorem dX8_clear_37 : decode cX8_clear 37 = .ok (.invokevirtual 108, 3) := by decide +kernel
theorem dX8_clear_40 : decode cX8_clear 40 = .ok (.ladd, 1) := by decide +kernel
theorem dX8_clear_41 : decode cX8_clear 41 = .ok (.lstore_n 2, 1) := by decide +kernel
theorem dX8_clear_42 : decode cX8_clear 42 = .ok (.iinc 4 1, 3) := by decide +kernel
theorem dX8_clear_45 : decode cX8_clear 45 = .ok (.goto (-25), 3) := by decide +kernel
theorem dX8_clear_48 : decode cX8_clear 48 = .ok (.aload_n 0, 1) := by decide +kernel
theorem dX8_clear_49 : decode cX8_clear 49 = .ok (.iload_n 1, 1) := by decide +kernel
theorem dX8_clear_50 : decode cX8_clear 50 = .ok (.invokevirtual 68, 3) := by decide +kernel
theorem dX8_clear_53 : decode cX8_clear 53 = .ok (.lload_n 2, 1) := by decide +kernel
theorem dX8_clear_54 : decode cX8_clear 54 = .ok (.lreturn, 1) := by decide +kernel
theorem dX8_truth_0 : decode cX8_truth 0 = .ok (.iload_n 1, 1) := by decide +kernel
theorem dX8_truth_1 : decode cX8_truth 1 = .ok (.invokestatic 100, 3) := by decide +kernel
theorem dX8_truth_4 : decode cX8_truth 4 = .ok (.ifCond .eq 20, 3) := by decide +kernel
theorem dX8_truth_7 : decode cX8_truth 7 = .ok (.aload_n 0, 1) := by decide +kernel
theorem dX8_truth_8 : decode cX8_truth 8 = .ok (.iload_n 2, 1) := by decide +kernel
theorem dX8_truth_9 : decode cX8_truth 9 = .ok (.invokevirtual 79, 3) := by decide +kernel
theorem dX8_truth_12 : decode cX8_truth 12 = .ok (.ifCond .eq 12, 3) := by decide +kernel
theorem dX8_truth_15 : decode cX8_truth 15 = .ok (.aload_n 0, 1) := by decide +kernel
theorem dX8_truth_16 : decode cX8_truth 16 = .ok (.iload_n 1, 1) := by decide +kernel
theorem dX8_truth_17 : decode cX8_truth 17 = .ok (.iload_n 2, 1) := by decide +kernel
theorem dX8_truth_18 : decode cX8_truth 18 = .ok (.invokevirtual 108, 3) := by decide +kernel
theorem dX8_truth_21 : decode cX8_truth 21 = .ok (.goto 6, 3) := by decide +kernel
theorem dX8_truth_24 : decode cX8_truth 24 = .ok (.ldc2_w 103, 3) := by decide +kernel
theorem dX8_truth_27 : decode cX8_truth 27 = .ok (.lreturn, 1) := by decide +kernel
theorem dX8_rest_0 : decode cX8_rest 0 = .ok (.iload_n 1, 1) := by decide +kernel
theorem dX8_rest_1 : decode cX8_rest 1 = .ok (.invokestatic 100, 3) := by decide +kernel
theorem dX8_rest_4 : decode cX8_rest 4 = .ok (.ifCond .eq 20, 3) := by decide +kernel
theorem dX8_rest_7 : decode cX8_rest 7 = .ok (.aload_n 0, 1) := by decide +kernel
theorem dX8_rest_8 : decode cX8_rest 8 = .ok (.iload_n 2, 1) := by decide +kernel
theorem dX8_rest_9 : decode cX8_rest 9 = .ok (.invokevirtual 86, 3) := by decide +kernel
theorem dX8_rest_12 : decode cX8_rest 12 = .ok (.ifCond .eq 12, 3) := by decide +kernel
theorem dX8_rest_15 : decode cX8_rest 15 = .ok (.aload_n 0, 1) := by decide +kernel
theorem dX8_rest_16 : decode cX8_rest 16 = .ok (.iload_n 1, 1) := by decide +kernel
theorem dX8_rest_17 : decode cX8_rest 17 = .ok (.iload_n 2, 1) := by decide +kernel
theorem dX8_rest_18 : decode cX8_rest 18 = .ok (.invokevirtual 92, 3) := by decide +kernel
theorem dX8_rest_21 : decode cX8_rest 21 = .ok (.goto 5, 3) := by decide +kernel
theorem dX8_rest_24 : decode cX8_rest 24 = .ok (.bipush (-2), 2) := by decide +kernel
theorem dX8_rest_26 : decode cX8_rest 26 = .ok (.ireturn, 1) := by decide +kernel
theorem dX8_isMarked_0 : decode cX8_isMarked 0 = .ok (.iload_n 1, 1) := by decide +kernel
theorem dX8_isMarked_1 : decode cX8_isMarked 1 = .ok (.invokestatic 100, 3) := by decide +kernel
theorem dX8_isMarked_4 : decode cX8_isMarked 4 = .ok (.ifCond .eq 11, 3) := by decide +kernel
theorem dX8_isMarked_7 : decode cX8_isMarked 7 = .ok (.aload_n 0, 1) := by decide +kernel
theorem dX8_isMarked_8 : decode cX8_isMarked 8 = .ok (.iload_n 2, 1) := by decide +kernel
theorem dX8_isMarked_9 : decode cX8_isMarked 9 = .ok (.invokevirtual 86, 3) := by decide +kernel
theorem dX8_isMarked_12 : decode cX8_isMarked 12 = .ok (.ifCond .ne 8, 3) := by decide +kernel
theorem dX8_isMarked_15 : decode cX8_isMarked 15 = .ok (.bipush (-2), 2) := by decide +kernel
theorem dX8_isMarked_17 : decode cX8_isMarked 17 = .ok (.goto 17, 3) := by decide +kernel
theorem dX8_isMarked_20 : decode cX8_isMarked 20 = .ok (.aload_n 0, 1) := by decide +kernel
theorem dX8_isMarked_21 : decode cX8_isMarked 21 = .ok (.iload_n 1, 1) := by decide +kernel
theorem dX8_isMarked_22 : decode cX8_isMarked 22 = .ok (.iload_n 2, 1) := by decide +kernel
theorem dX8_isMarked_23 : decode cX8_isMarked 23 = .ok (.invokevirtual 120, 3) := by decide +kernel
theorem dX8_isMarked_26 : decode cX8_isMarked 26 = .ok (.ifCond .eq 7, 3) := by decide +kernel
theorem dX8_isMarked_29 : decode cX8_isMarked 29 = .ok (.iconst 1, 1) := by decide +kernel
theorem dX8_isMarked_30 : decode cX8_isMarked 30 = .ok (.goto 4, 3) := by decide +kernel
theorem dX8_isMarked_33 : decode cX8_isMarked 33 = .ok (.iconst 0, 1) := by decide +kernel
theorem dX8_isMarked_34 : decode cX8_isMarked 34 = .ok (.ireturn, 1) := by decide +kernel
theorem dX8_above_0 : decode cX8_above 0 = .ok (.iload_n 1, 1) := by decide +kernel
theorem dX8_above_1 : decode cX8_above 1 = .ok (.invokestatic 100, 3) := by decide +kernel
theorem dX8_above_4 : decode cX8_above 4 = .ok (.ifCond .eq 28, 3) := by decide +kernel
theorem dX8_above_7 : decode cX8_above 7 = .ok (.iload_n 2, 1) := by decide +kernel
theorem dX8_above_8 : decode cX8_above 8 = .ok (.iconst 0, 1) := by decide +kernel
theorem dX8_above_9 : decode cX8_above 9 = .ok (.aload_n 0, 1) := by decide +kernel
theorem dX8_above_10 : decode cX8_above 10 = .ok (.getfield 7, 3) := by decide +kernel
theorem dX8_above_13 : decode cX8_above 13 = .ok (.iconst 3, 1) := by decide +kernel
theorem dX8_above_14 : decode cX8_above 14 = .ok (.iaload, 1) := by decide +kernel
theorem dX8_above_15 : decode cX8_above 15 = .ok (.iconst 1, 1) := by decide +kernel
theorem dX8_above_16 : decode cX8_above 16 = .ok (.isub, 1) := by decide +kernel
theorem dX8_above_17 : decode cX8_above 17 = .ok (.invokestatic 61, 3) := by decide +kernel
theorem dX8_above_20 : decode cX8_above 20 = .ok (.ifCond .eq 12, 3) := by decide +kernel
theorem dX8_above_23 : decode cX8_above 23 = .ok (.aload_n 0, 1) := by decide +kernel
theorem dX8_above_24 : decode cX8_above 24 = .ok (.iload_n 1, 1) := by decide +kernel
theorem dX8_above_25 : decode cX8_above 25 = .ok (.iload_n 2, 1) := by decide +kernel
theorem dX8_above_26 : decode cX8_above 26 = .ok (.invokevirtual 124, 3) := by decide +kernel
theorem dX8_above_29 : decode cX8_above 29 = .ok (.goto 6, 3) := by decide +kernel
theorem dX8_above_32 : decode cX8_above 32 = .ok (.ldc2_w 103, 3) := by decide +kernel
theorem dX8_above_35 : decode cX8_above 35 = .ok (.lreturn, 1) := by decide +kernel
theorem dX8_begins_0 : decode cX8_begins 0 = .ok (.iconst 0, 1) := by decide +kernel
theorem dX8_begins_1 : decode cX8_begins 1 = .ok (.istore_n 3, 1) := by decide +kernel
theorem dX8_begins_2 : decode cX8_begins 2 = .ok (.iload_n 3, 1) := by decide +kernel
theorem dX8_begins_3 : decode cX8_begins 3 = .ok (.aload_n 0, 1) := by decide +kernel
theorem dX8_begins_4 : decode cX8_begins 4 = .ok (.getfield 127, 3) := by decide +kernel
theorem dX8_begins_7 : decode cX8_begins 7 = .ok (.if_icmp .ge 120, 3) := by decide +kernel
theorem dX8_begins_10 : decode cX8_begins 10 = .ok (.aload_n 0, 1) := by decide +kernel
theorem dX8_begins_11 : decode cX8_begins 11 = .ok (.getfield 20, 3) := by decide +kernel
theorem dX8_begins_14 : decode cX8_begins 14 = .ok (.iload_n 3, 1) := by decide +kernel
theorem dX8_begins_15 : decode cX8_begins 15 = .ok (.lload_n 1, 1) := by decide +kernel
theorem dX8_begins_16 : decode cX8_begins 16 = .ok (.lastore, 1) := by decide +kernel
theorem dX8_begins_17 : decode cX8_begins 17 = .ok (.aload_n 0, 1) := by decide +kernel
theorem dX8_begins_18 : decode cX8_begins 18 = .ok (.getfield 23, 3) := by decide +kernel
theorem dX8_begins_21 : decode cX8_begins 21 = .ok (.iload_n 3, 1) := by decide +kernel
theorem dX8_begins_22 : decode cX8_begins 22 = .ok (.ldc2_w 130, 3) := by decide +kernel
theorem dX8_begins_25 : decode cX8_begins 25 = .ok (.lastore, 1) := by decide +kernel
theorem dX8_begins_26 : decode cX8_begins 26 = .ok (.iconst 0, 1) := by decide +kernel
theorem dX8_begins_27 : decode cX8_begins 27 = .ok (.istore 4, 2) := by decide +kernel
theorem dX8_begins_29 : decode cX8_begins 29 = .ok (.iload 4, 2) := by decide +kernel
theorem dX8_begins_31 : decode cX8_begins 31 = .ok (.bipush 24, 2) := by decide +kernel
theorem dX8_begins_33 : decode cX8_begins 33 = .ok (.if_icmp .ge 88, 3) := by decide +kernel
theorem dX8_begins_36 : decode cX8_begins 36 = .ok (.aload_n 0, 1) := by decide +kernel
theorem dX8_begins_37 : decode cX8_begins 37 = .ok (.getfield 17, 3) := by decide +kernel
theorem dX8_begins_40 : decode cX8_begins 40 = .ok (.iload_n 3, 1) := by decide +kernel
theorem dX8_begins_41 : decode cX8_begins 41 = .ok (.iaload, 1) := by decide +kernel
theorem dX8_begins_42 : decode cX8_begins 42 = .ok (.iload 4, 2) := by decide +kernel
theorem dX8_begins_44 : decode cX8_begins 44 = .ok (.ishr, 1) := by decide +kernel
theorem dX8_begins_45 : decode cX8_begins 45 = .ok (.iconst 1, 1) := by decide +kernel
theorem dX8_begins_46 : decode cX8_begins 46 = .ok (.iand, 1) := by decide +kernel
theorem dX8_begins_47 : decode cX8_begins 47 = .ok (.iconst 1, 1) := by decide +kernel
theorem dX8_begins_48 : decode cX8_begins 48 = .ok (.if_icmp .ne 7, 3) := by decide +kernel
theorem dX8_begins_51 : decode cX8_begins 51 = .ok (.iconst 1, 1) := by decide +kernel
theorem dX8_begins_52 : decode cX8_begins 52 = .ok (.goto 4, 3) := by decide +kernel
theorem dX8_begins_55 : decode cX8_begins 55 = .ok (.iconst 0, 1) := by decide +kernel
theorem dX8_begins_56 : decode cX8_begins 56 = .ok (.istore 5, 2) := by decide +kernel
theorem dX8_begins_58 : decode cX8_begins 58 = .ok (.aload_n 0, 1) := by decide +kernel
theorem dX8_begins_59 : decode cX8_begins 59 = .ok (.getfield 23, 3) := by decide +kernel
theorem dX8_begins_62 : decode cX8_begins 62 = .ok (.iload_n 3, 1) := by decide +kernel
theorem dX8_begins_63 : decode cX8_begins 63 = .ok (.iload 5, 2) := by decide +kernel
theorem dX8_begins_65 : decode cX8_begins 65 = .ok (.ifCond .eq 43, 3) := by decide +kernel
theorem dX8_begins_68 : decode cX8_begins 68 = .ok (.aload_n 0, 1) := by decide +kernel
theorem dX8_begins_69 : decode cX8_begins 69 = .ok (.getfield 23, 3) := by decide +kernel
theorem dX8_begins_72 : decode cX8_begins 72 = .ok (.iload_n 3, 1) := by decide +kernel
theorem dX8_begins_73 : decode cX8_begins 73 = .ok (.laload, 1) := by decide +kernel
theorem dX8_begins_74 : decode cX8_begins 74 = .ok (.ldc2_w 130, 3) := by decide +kernel
theorem dX8_begins_77 : decode cX8_begins 77 = .ok (.lcmp, 1) := by decide +kernel
theorem dX8_begins_78 : decode cX8_begins 78 = .ok (.ifCond .eq 20, 3) := by decide +kernel
theorem dX8_begins_81 : decode cX8_begins 81 = .ok (.aload_n 0, 1) := by decide +kernel
theorem dX8_begins_82 : decode cX8_begins 82 = .ok (.getfield 35, 3) := by decide +kernel
theorem dX8_begins_85 : decode cX8_begins 85 = .ok (.iload 4, 2) := by decide +kernel
theorem dX8_begins_87 : decode cX8_begins 87 = .ok (.laload, 1) := by decide +kernel
theorem dX8_begins_88 : decode cX8_begins 88 = .ok (.aload_n 0, 1) := by decide +kernel
theorem dX8_begins_89 : decode cX8_begins 89 = .ok (.getfield 23, 3) := by decide +kernel
theorem dX8_begins_92 : decode cX8_begins 92 = .ok (.iload_n 3, 1) := by decide +kernel
theorem dX8_begins_93 : decode cX8_begins 93 = .ok (.laload, 1) := by decide +kernel
theorem dX8_begins_94 : decode cX8_begins 94 = .ok (.lcmp, 1) := by decide +kernel
theorem dX8_begins_95 : decode cX8_begins 95 = .ok (.ifCond .ge 13, 3) := by decide +kernel
theorem dX8_begins_98 : decode cX8_begins 98 = .ok (.aload_n 0, 1) := by decide +kernel
theorem dX8_begins_99 : decode cX8_begins 99 = .ok (.getfield 35, 3) := by decide +kernel
theorem dX8_begins_102 : decode cX8_begins 102 = .ok (.iload 4, 2) := by decide +kernel
theorem dX8_begins_104 : decode cX8_begins 104 = .ok (.laload, 1) := by decide +kernel
theorem dX8_begins_105 : decode cX8_begins 105 = .ok (.goto 9, 3) := by decide +kernel
theorem dX8_begins_108 : decode cX8_begins 108 = .ok (.aload_n 0, 1) := by decide +kernel
theorem dX8_begins_109 : decode cX8_begins 109 = .ok (.getfield 23, 3) := by decide +kernel
theorem dX8_begins_112 : decode cX8_begins 112 = .ok (.iload_n 3, 1) := by decide +kernel
theorem dX8_begins_113 : decode cX8_begins 113 = .ok (.laload, 1) := by decide +kernel
theorem dX8_begins_114 : decode cX8_begins 114 = .ok (.lastore, 1) := by decide +kernel
theorem dX8_begins_115 : decode cX8_begins 115 = .ok (.iinc 4 1, 3) := by decide +kernel
theorem dX8_begins_118 : decode cX8_begins 118 = .ok (.goto (-89), 3) := by decide +kernel
theorem dX8_begins_121 : decode cX8_begins 121 = .ok (.iinc 3 1, 3) := by decide +kernel
theorem dX8_begins_124 : decode cX8_begins 124 = .ok (.goto (-122), 3) := by decide +kernel
theorem dX8_begins_127 : decode cX8_begins 127 = .ok (.return_, 1) := by decide +kernel
theorem dX8_others_0 : decode cX8_others 0 = .ok (.lconst 0, 1) := by decide +kernel
theorem dX8_others_1 : decode cX8_others 1 = .ok (.lstore 4, 2) := by decide +kernel
theorem dX8_others_3 : decode cX8_others 3 = .ok (.iconst 0, 1) := by decide +kernel
theorem dX8_others_4 : decode cX8_others 4 = .ok (.istore 6, 2) := by decide +kernel
theorem dX8_others_6 : decode cX8_others 6 = .ok (.iload 6, 2) := by decide +kernel
theorem dX8_others_8 : decode cX8_others 8 = .ok (.aload_n 0, 1) := by decide +kernel
theorem dX8_others_9 : decode cX8_others 9 = .ok (.getfield 127, 3) := by decide +kernel
theorem dX8_others_12 : decode cX8_others 12 = .ok (.if_icmp .ge 72, 3) := by decide +kernel
theorem dX8_others_15 : decode cX8_others 15 = .ok (.iload 6, 2) := by decide +kernel
theorem dX8_others_17 : decode cX8_others 17 = .ok (.iload_n 1, 1) := by decide +kernel
theorem dX8_others_18 : decode cX8_others 18 = .ok (.if_icmp .eq 22, 3) := by decide +kernel
theorem dX8_others_21 : decode cX8_others 21 = .ok (.aload_n 0, 1) := by decide +kernel
theorem dX8_others_22 : decode cX8_others 22 = .ok (.getfield 17, 3) := by decide +kernel
theorem dX8_others_25 : decode cX8_others 25 = .ok (.iload 6, 2) := by decide +kernel
theorem dX8_others_27 : decode cX8_others 27 = .ok (.iaload, 1) := by decide +kernel
theorem dX8_others_28 : decode cX8_others 28 = .ok (.iload_n 2, 1) := by decide +kernel
theorem dX8_others_29 : decode cX8_others 29 = .ok (.ishr, 1) := by decide +kernel
theorem dX8_others_30 : decode cX8_others 30 = .ok (.iconst 1, 1) := by decide +kernel
theorem dX8_others_31 : decode cX8_others 31 = .ok (.iand, 1) := by decide +kernel
theorem dX8_others_32 : decode cX8_others 32 = .ok (.iconst 1, 1) := by decide +kernel
theorem dX8_others_33 : decode cX8_others 33 = .ok (.if_icmp .ne 7, 3) := by decide +kernel
theorem dX8_others_36 : decode cX8_others 36 = .ok (.iconst 1, 1) := by decide +kernel
theorem dX8_others_37 : decode cX8_others 37 = .ok (.goto 4, 3) := by decide +kernel
theorem dX8_others_40 : decode cX8_others 40 = .ok (.iconst 0, 1) := by decide +kernel
theorem dX8_others_41 : decode cX8_others 41 = .ok (.istore 7, 2) := by decide +kernel
theorem dX8_others_43 : decode cX8_others 43 = .ok (.lload 4, 2) := by decide +kernel
theorem dX8_others_45 : decode cX8_others 45 = .ok (.iload 7, 2) := by decide +kernel
theorem dX8_others_47 : decode cX8_others 47 = .ok (.ifCond .eq 27, 3) := by decide +kernel
theorem dX8_others_50 : decode cX8_others 50 = .ok (.iload_n 3, 1) := by decide +kernel
theorem dX8_others_51 : decode cX8_others 51 = .ok (.ifCond .eq 13, 3) := by decide +kernel
theorem dX8_others_54 : decode cX8_others 54 = .ok (.aload_n 0, 1) := by decide +kernel
theorem dX8_others_55 : decode cX8_others 55 = .ok (.getfield 29, 3) := by decide +kernel
theorem dX8_others_58 : decode cX8_others 58 = .ok (.iload 6, 2) := by decide +kernel
theorem dX8_others_60 : decode cX8_others 60 = .ok (.laload, 1) := by decide +kernel
theorem dX8_others_61 : decode cX8_others 61 = .ok (.goto 14, 3) := by decide +kernel
theorem dX8_others_64 : decode cX8_others 64 = .ok (.aload_n 0, 1) := by decide +kernel
theorem dX8_others_65 : decode cX8_others 65 = .ok (.getfield 26, 3) := by decide +kernel
theorem dX8_others_68 : decode cX8_others 68 = .ok (.iload 6, 2) := by decide +kernel
theorem dX8_others_70 : decode cX8_others 70 = .ok (.laload, 1) := by decide +kernel
theorem dX8_others_71 : decode cX8_others 71 = .ok (.goto 4, 3) := by decide +kernel
theorem dX8_others_74 : decode cX8_others 74 = .ok (.lconst 0, 1) := by decide +kernel
theorem dX8_others_75 : decode cX8_others 75 = .ok (.ladd, 1) := by decide +kernel
theorem dX8_others_76 : decode cX8_others 76 = .ok (.lstore 4, 2) := by decide +kernel
theorem dX8_others_78 : decode cX8_others 78 = .ok (.iinc 6 1, 3) := by decide +kernel
theorem dX8_others_81 : decode cX8_others 81 = .ok (.goto (-75), 3) := by decide +kernel
theorem dX8_others_84 : decode cX8_others 84 = .ok (.lload 4, 2) := by decide +kernel
theorem dX8_others_86 : decode cX8_others 86 = .ok (.lreturn, 1) := by decide +kernel
theorem dX8_round_0 : decode cX8_round 0 = .ok (.iconst 0, 1) := by decide +kernel
theorem dX8_round_1 : decode cX8_round 1 = .ok (.istore_n 1, 1) := by decide +kernel
theorem dX8_round_2 : decode cX8_round 2 = .ok (.iconst 0, 1) := by decide +kernel
theorem dX8_round_3 : decode cX8_round 3 = .ok (.istore_n 2, 1) := by decide +kernel
theorem dX8_round_4 : decode cX8_round 4 = .ok (.iload_n 2, 1) := by decide +kernel
theorem dX8_round_5 : decode cX8_round 5 = .ok (.aload_n 0, 1) := by decide +kernel
theorem dX8_round_6 : decode cX8_round 6 = .ok (.getfield 127, 3) := by decide +kernel
theorem dX8_round_9 : decode cX8_round 9 = .ok (.if_icmp .ge 33, 3) := by decide +kernel
theorem dX8_round_12 : decode cX8_round 12 = .ok (.aload_n 0, 1) := by decide +kernel
theorem dX8_round_13 : decode cX8_round 13 = .ok (.getfield 26, 3) := by decide +kernel
theorem dX8_round_16 : decode cX8_round 16 = .ok (.iload_n 2, 1) := by decide +kernel
theorem dX8_round_17 : decode cX8_round 17 = .ok (.aload_n 0, 1) := by decide +kernel
theorem dX8_round_18 : decode cX8_round 18 = .ok (.getfield 20, 3) := by decide +kernel
theorem dX8_round_21 : decode cX8_round 21 = .ok (.iload_n 2, 1) := by decide +kernel
theorem dX8_round_22 : decode cX8_round 22 = .ok (.laload, 1) := by decide +kernel
theorem dX8_round_23 : decode cX8_round 23 = .ok (.lastore, 1) := by decide +kernel
theorem dX8_round_24 : decode cX8_round 24 = .ok (.aload_n 0, 1) := by decide +kernel
theorem dX8_round_25 : decode cX8_round 25 = .ok (.getfield 29, 3) := by decide +kernel
theorem dX8_round_28 : decode cX8_round 28 = .ok (.iload_n 2, 1) := by decide +kernel
theorem dX8_round_29 : decode cX8_round 29 = .ok (.aload_n 0, 1) := by decide +kernel
theorem dX8_round_30 : decode cX8_round 30 = .ok (.getfield 23, 3) := by decide +kernel
theorem dX8_round_33 : decode cX8_round 33 = .ok (.iload_n 2, 1) := by decide +kernel
theorem dX8_round_34 : decode cX8_round 34 = .ok (.laload, 1) := by decide +kernel
theorem dX8_round_35 : decode cX8_round 35 = .ok (.lastore, 1) := by decide +kernel
theorem dX8_round_36 : decode cX8_round 36 = .ok (.iinc 2 1, 3) := by decide +kernel
theorem dX8_round_39 : decode cX8_round 39 = .ok (.goto (-35), 3) := by decide +kernel
theorem dX8_round_42 : decode cX8_round 42 = .ok (.iconst 0, 1) := by decide +kernel
theorem dX8_round_43 : decode cX8_round 43 = .ok (.istore_n 2, 1) := by decide +kernel
theorem dX8_round_44 : decode cX8_round 44 = .ok (.iload_n 2, 1) := by decide +kernel
theorem dX8_round_45 : decode cX8_round 45 = .ok (.aload_n 0, 1) := by decide +kernel
theorem dX8_round_46 : decode cX8_round 46 = .ok (.getfield 127, 3) := by decide +kernel
theorem dX8_round_49 : decode cX8_round 49 = .ok (.if_icmp .ge 161, 3) := by decide +kernel
theorem dX8_round_52 : decode cX8_round 52 = .ok (.iconst 0, 1) := by decide +kernel
theorem dX8_round_53 : decode cX8_round 53 = .ok (.istore_n 3, 1) := by decide +kernel
theorem dX8_round_54 : decode cX8_round 54 = .ok (.iload_n 3, 1) := by decide +kernel
theorem dX8_round_55 : decode cX8_round 55 = .ok (.bipush 24, 2) := by decide +kernel
theorem dX8_round_57 : decode cX8_round 57 = .ok (.if_icmp .ge 147, 3) := by decide +kernel
theorem dX8_round_60 : decode cX8_round 60 = .ok (.aload_n 0, 1) := by decide +kernel
theorem dX8_round_61 : decode cX8_round 61 = .ok (.getfield 17, 3) := by decide +kernel
theorem dX8_round_64 : decode cX8_round 64 = .ok (.iload_n 2, 1) := by decide +kernel
theorem dX8_round_65 : decode cX8_round 65 = .ok (.iaload, 1) := by decide +kernel
theorem dX8_round_66 : decode cX8_round 66 = .ok (.iload_n 3, 1) := by decide +kernel
theorem dX8_round_67 : decode cX8_round 67 = .ok (.ishr, 1) := by decide +kernel
theorem dX8_round_68 : decode cX8_round 68 = .ok (.iconst 1, 1) := by decide +kernel
theorem dX8_round_69 : decode cX8_round 69 = .ok (.iand, 1) := by decide +kernel
theorem dX8_round_70 : decode cX8_round 70 = .ok (.iconst 1, 1) := by decide +kernel
theorem dX8_round_71 : decode cX8_round 71 = .ok (.if_icmp .ne 127, 3) := by decide +kernel
theorem dX8_round_74 : decode cX8_round 74 = .ok (.aload_n 0, 1) := by decide +kernel
theorem dX8_round_75 : decode cX8_round 75 = .ok (.getfield 35, 3) := by decide +kernel
theorem dX8_round_78 : decode cX8_round 78 = .ok (.iload_n 3, 1) := by decide +kernel
theorem dX8_round_79 : decode cX8_round 79 = .ok (.laload, 1) := by decide +kernel
theorem dX8_round_80 : decode cX8_round 80 = .ok (.aload_n 0, 1) := by decide +kernel
theorem dX8_round_81 : decode cX8_round 81 = .ok (.iload_n 2, 1) := by decide +kernel
theorem dX8_round_82 : decode cX8_round 82 = .ok (.iload_n 3, 1) := by decide +kernel
theorem dX8_round_83 : decode cX8_round 83 = .ok (.iconst 0, 1) := by decide +kernel
theorem dX8_round_84 : decode cX8_round 84 = .ok (.invokevirtual 132, 3) := by decide +kernel
theorem dX8_round_87 : decode cX8_round 87 = .ok (.lsub, 1) := by decide +kernel
theorem dX8_round_88 : decode cX8_round 88 = .ok (.lstore 4, 2) := by decide +kernel
theorem dX8_round_90 : decode cX8_round 90 = .ok (.aload_n 0, 1) := by decide +kernel
theorem dX8_round_91 : decode cX8_round 91 = .ok (.getfield 32, 3) := by decide +kernel
theorem dX8_round_94 : decode cX8_round 94 = .ok (.iload_n 3, 1) := by decide +kernel
theorem dX8_round_95 : decode cX8_round 95 = .ok (.laload, 1) := by decide +kernel
theorem dX8_round_96 : decode cX8_round 96 = .ok (.aload_n 0, 1) := by decide +kernel
theorem dX8_round_97 : decode cX8_round 97 = .ok (.iload_n 2, 1) := by decide +kernel
theorem dX8_round_98 : decode cX8_round 98 = .ok (.iload_n 3, 1) := by decide +kernel
theorem dX8_round_99 : decode cX8_round 99 = .ok (.iconst 1, 1) := by decide +kernel
theorem dX8_round_100 : decode cX8_round 100 = .ok (.invokevirtual 132, 3) := by decide +kernel
theorem dX8_round_103 : decode cX8_round 103 = .ok (.lsub, 1) := by decide +kernel
theorem dX8_round_104 : decode cX8_round 104 = .ok (.lstore 6, 2) := by decide +kernel
theorem dX8_round_106 : decode cX8_round 106 = .ok (.iload_n 1, 1) := by decide +kernel
theorem dX8_round_107 : decode cX8_round 107 = .ok (.ifCond .ne 27, 3) := by decide +kernel
theorem dX8_round_110 : decode cX8_round 110 = .ok (.lload 4, 2) := by decide +kernel
theorem dX8_round_112 : decode cX8_round 112 = .ok (.aload_n 0, 1) := by decide +kernel
theorem dX8_round_113 : decode cX8_round 113 = .ok (.getfield 23, 3) := by decide +kernel
theorem dX8_round_116 : decode cX8_round 116 = .ok (.iload_n 2, 1) := by decide +kernel
theorem dX8_round_117 : decode cX8_round 117 = .ok (.laload, 1) := by decide +kernel
theorem dX8_round_118 : decode cX8_round 118 = .ok (.lcmp, 1) := by decide +kernel
theorem dX8_round_119 : decode cX8_round 119 = .ok (.ifCond .lt 15, 3) := by decide +kernel
theorem dX8_round_122 : decode cX8_round 122 = .ok (.lload 6, 2) := by decide +kernel
theorem dX8_round_124 : decode cX8_round 124 = .ok (.aload_n 0, 1) := by decide +kernel
theorem dX8_round_125 : decode cX8_round 125 = .ok (.getfield 20, 3) := by decide +kernel
theorem dX8_round_128 : decode cX8_round 128 = .ok (.iload_n 2, 1) := by decide +kernel
theorem dX8_round_129 : decode cX8_round 129 = .ok (.laload, 1) := by decide +kernel
theorem dX8_round_130 : decode cX8_round 130 = .ok (.lcmp, 1) := by decide +kernel
theorem dX8_round_131 : decode cX8_round 131 = .ok (.ifCond .le 7, 3) := by decide +kernel
theorem dX8_round_134 : decode cX8_round 134 = .ok (.iconst 1, 1) := by decide +kernel
theorem dX8_round_135 : decode cX8_round 135 = .ok (.goto 4, 3) := by decide +kernel
theorem dX8_round_138 : decode cX8_round 138 = .ok (.iconst 0, 1) := by decide +kernel
theorem dX8_round_139 : decode cX8_round 139 = .ok (.istore_n 1, 1) := by decide +kernel
theorem dX8_round_140 : decode cX8_round 140 = .ok (.aload_n 0, 1) := by decide +kernel
theorem dX8_round_141 : decode cX8_round 141 = .ok (.getfield 23, 3) := by decide +kernel
theorem dX8_round_144 : decode cX8_round 144 = .ok (.iload_n 2, 1) := by decide +kernel
theorem dX8_round_145 : decode cX8_round 145 = .ok (.lload 4, 2) := by decide +kernel
theorem dX8_round_147 : decode cX8_round 147 = .ok (.aload_n 0, 1) := by decide +kernel
theorem dX8_round_148 : decode cX8_round 148 = .ok (.getfield 23, 3) := by decide +kernel
theorem dX8_round_151 : decode cX8_round 151 = .ok (.iload_n 2, 1) := by decide +kernel
theorem dX8_round_152 : decode cX8_round 152 = .ok (.laload, 1) := by decide +kernel
theorem dX8_round_153 : decode cX8_round 153 = .ok (.lcmp, 1) := by decide +kernel
theorem dX8_round_154 : decode cX8_round 154 = .ok (.ifCond .ge 8, 3) := by decide +kernel
theorem dX8_round_157 : decode cX8_round 157 = .ok (.lload 4, 2) := by decide +kernel
theorem dX8_round_159 : decode cX8_round 159 = .ok (.goto 9, 3) := by decide +kernel
theorem dX8_round_162 : decode cX8_round 162 = .ok (.aload_n 0, 1) := by decide +kernel
theorem dX8_round_163 : decode cX8_round 163 = .ok (.getfield 23, 3) := by decide +kernel
theorem dX8_round_166 : decode cX8_round 166 = .ok (.iload_n 2, 1) := by decide +kernel
theorem dX8_round_167 : decode cX8_round 167 = .ok (.laload, 1) := by decide +kernel
theorem dX8_round_168 : decode cX8_round 168 = .ok (.lastore, 1) := by decide +kernel
theorem dX8_round_169 : decode cX8_round 169 = .ok (.aload_n 0, 1) := by decide +kernel
theorem dX8_round_170 : decode cX8_round 170 = .ok (.getfield 20, 3) := by decide +kernel
theorem dX8_round_173 : decode cX8_round 173 = .ok (.iload_n 2, 1) := by decide +kernel
theorem dX8_round_174 : decode cX8_round 174 = .ok (.lload 6, 2) := by decide +kernel
theorem dX8_round_176 : decode cX8_round 176 = .ok (.aload_n 0, 1) := by decide +kernel
theorem dX8_round_177 : decode cX8_round 177 = .ok (.getfield 20, 3) := by decide +kernel
theorem dX8_round_180 : decode cX8_round 180 = .ok (.iload_n 2, 1) := by decide +kernel
theorem dX8_round_181 : decode cX8_round 181 = .ok (.laload, 1) := by decide +kernel
theorem dX8_round_182 : decode cX8_round 182 = .ok (.lcmp, 1) := by decide +kernel
theorem dX8_round_183 : decode cX8_round 183 = .ok (.ifCond .le 8, 3) := by decide +kernel
theorem dX8_round_186 : decode cX8_round 186 = .ok (.lload 6, 2) := by decide +kernel
theorem dX8_round_188 : decode cX8_round 188 = .ok (.goto 9, 3) := by decide +kernel
theorem dX8_round_191 : decode cX8_round 191 = .ok (.aload_n 0, 1) := by decide +kernel
theorem dX8_round_192 : decode cX8_round 192 = .ok (.getfield 20, 3) := by decide +kernel
theorem dX8_round_195 : decode cX8_round 195 = .ok (.iload_n 2, 1) := by decide +kernel
theorem dX8_round_196 : decode cX8_round 196 = .ok (.laload, 1) := by decide +kernel
theorem dX8_round_197 : decode cX8_round 197 = .ok (.lastore, 1) := by decide +kernel
theorem dX8_round_198 : decode cX8_round 198 = .ok (.iinc 3 1, 3) := by decide +kernel
theorem dX8_round_201 : decode cX8_round 201 = .ok (.goto (-147), 3) := by decide +kernel
theorem dX8_round_204 : decode cX8_round 204 = .ok (.iinc 2 1, 3) := by decide +kernel
theorem dX8_round_207 : decode cX8_round 207 = .ok (.goto (-163), 3) := by decide +kernel
theorem dX8_round_210 : decode cX8_round 210 = .ok (.iload_n 1, 1) := by decide +kernel
theorem dX8_round_211 : decode cX8_round 211 = .ok (.ireturn, 1) := by decide +kernel
theorem dX8_rounds_0 : decode cX8_rounds 0 = .ok (.aload_n 0, 1) := by decide +kernel
theorem dX8_rounds_1 : decode cX8_rounds 1 = .ok (.iconst 0, 1) := by decide +kernel
theorem dX8_rounds_2 : decode cX8_rounds 2 = .ok (.putfield 136, 3) := by decide +kernel
theorem dX8_rounds_5 : decode cX8_rounds 5 = .ok (.iconst 1, 1) := by decide +kernel
theorem dX8_rounds_6 : decode cX8_rounds 6 = .ok (.istore_n 2, 1) := by decide +kernel
theorem dX8_rounds_7 : decode cX8_rounds 7 = .ok (.iload_n 2, 1) := by decide +kernel
theorem dX8_rounds_8 : decode cX8_rounds 8 = .ok (.iload_n 1, 1) := by decide +kernel
theorem dX8_rounds_9 : decode cX8_rounds 9 = .ok (.if_icmp .gt 28, 3) := by decide +kernel
theorem dX8_rounds_12 : decode cX8_rounds 12 = .ok (.aload_n 0, 1) := by decide +kernel
theorem dX8_rounds_13 : decode cX8_rounds 13 = .ok (.aload_n 0, 1) := by decide +kernel
theorem dX8_rounds_14 : decode cX8_rounds 14 = .ok (.invokevirtual 139, 3) := by decide +kernel
theorem dX8_rounds_17 : decode cX8_rounds 17 = .ok (.ifCond .eq 7, 3) := by decide +kernel
theorem dX8_rounds_20 : decode cX8_rounds 20 = .ok (.iload_n 2, 1) := by decide +kernel
theorem dX8_rounds_21 : decode cX8_rounds 21 = .ok (.goto 7, 3) := by decide +kernel
theorem dX8_rounds_24 : decode cX8_rounds 24 = .ok (.aload_n 0, 1) := by decide +kernel
theorem dX8_rounds_25 : decode cX8_rounds 25 = .ok (.getfield 136, 3) := by decide +kernel
theorem dX8_rounds_28 : decode cX8_rounds 28 = .ok (.putfield 136, 3) := by decide +kernel
theorem dX8_rounds_31 : decode cX8_rounds 31 = .ok (.iinc 2 1, 3) := by decide +kernel
theorem dX8_rounds_34 : decode cX8_rounds 34 = .ok (.goto (-27), 3) := by decide +kernel
theorem dX8_rounds_37 : decode cX8_rounds 37 = .ok (.return_, 1) := by decide +kernel
theorem dX8_findsOverflows_0 : decode cX8_findsOverflows 0 = .ok (.aload_n 0, 1) := by decide +kernel
theorem dX8_findsOverflows_1 : decode cX8_findsOverflows 1 = .ok (.iconst 0, 1) := by decide +kernel
theorem dX8_findsOverflows_2 : decode cX8_findsOverflows 2 = .ok (.putfield 127, 3) := by decide +kernel
theorem dX8_findsOverflows_5 : decode cX8_findsOverflows 5 = .ok (.iconst 0, 1) := by decide +kernel
theorem dX8_findsOverflows_6 : decode cX8_findsOverflows 6 = .ok (.istore_n 2, 1) := by decide +kernel
theorem dX8_findsOverflows_7 : decode cX8_findsOverflows 7 = .ok (.iload_n 2, 1) := by decide +kernel
theorem dX8_findsOverflows_8 : decode cX8_findsOverflows 8 = .ok (.aload_n 0, 1) := by decide +kernel
theorem dX8_findsOverflows_9 : decode cX8_findsOverflows 9 = .ok (.getfield 7, 3) := by decide +kernel
theorem dX8_findsOverflows_12 : decode cX8_findsOverflows 12 = .ok (.iconst 0, 1) := by decide +kernel
theorem dX8_findsOverflows_13 : decode cX8_findsOverflows 13 = .ok (.iaload, 1) := by decide +kernel
theorem dX8_findsOverflows_14 : decode cX8_findsOverflows 14 = .ok (.if_icmp .ge 42, 3) := by decide +kernel
theorem dX8_findsOverflows_17 : decode cX8_findsOverflows 17 = .ok (.aload_n 0, 1) := by decide +kernel
theorem dX8_findsOverflows_18 : decode cX8_findsOverflows 18 = .ok (.iload_n 1, 1) := by decide +kernel
theorem dX8_findsOverflows_19 : decode cX8_findsOverflows 19 = .ok (.iload_n 2, 1) := by decide +kernel
theorem dX8_findsOverflows_20 : decode cX8_findsOverflows 20 = .ok (.invokevirtual 120, 3) := by decide +kernel
theorem dX8_findsOverflows_23 : decode cX8_findsOverflows 23 = .ok (.ifCond .eq 27, 3) := by decide +kernel
theorem dX8_findsOverflows_26 : decode cX8_findsOverflows 26 = .ok (.aload_n 0, 1) := by decide +kernel
theorem dX8_findsOverflows_27 : decode cX8_findsOverflows 27 = .ok (.getfield 17, 3) := by decide +kernel
theorem dX8_findsOverflows_30 : decode cX8_findsOverflows 30 = .ok (.aload_n 0, 1) := by decide +kernel
theorem dX8_findsOverflows_31 : decode cX8_findsOverflows 31 = .ok (.getfield 127, 3) := by decide +kernel
theorem dX8_findsOverflows_34 : decode cX8_findsOverflows 34 = .ok (.aload_n 0, 1) := by decide +kernel
theorem dX8_findsOverflows_35 : decode cX8_findsOverflows 35 = .ok (.iload_n 2, 1) := by decide +kernel
theorem dX8_findsOverflows_36 : decode cX8_findsOverflows 36 = .ok (.invokevirtual 89, 3) := by decide +kernel
theorem dX8_findsOverflows_39 : decode cX8_findsOverflows 39 = .ok (.iastore, 1) := by decide +kernel
theorem dX8_findsOverflows_40 : decode cX8_findsOverflows 40 = .ok (.aload_n 0, 1) := by decide +kernel
theorem dX8_findsOverflows_41 : decode cX8_findsOverflows 41 = .ok (.dup, 1) := by decide +kernel
