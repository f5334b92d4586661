theorem dX4_dropOldest_19 : decode cX4_dropOldest 19 = .ok (.iconst 1, 1) := by decide +kernel
theorem dX4_dropOldest_20 : decode cX4_dropOldest 20 = .ok (.isub, 1) := by decide +kernel
theorem dX4_dropOldest_21 : decode cX4_dropOldest 21 = .ok (.aload_n 0, 1) := by decide +kernel
theorem dX4_dropOldest_22 : decode cX4_dropOldest 22 = .ok (.getfield 11, 3) := by decide +kernel
theorem dX4_dropOldest_25 : decode cX4_dropOldest 25 = .ok (.iload_n 2, 1) := by decide +kernel
theorem dX4_dropOldest_26 : decode cX4_dropOldest 26 = .ok (.aaload, 1) := by decide +kernel
theorem dX4_dropOldest_27 : decode cX4_dropOldest 27 = .ok (.aastore, 1) := by decide +kernel
theorem dX4_dropOldest_28 : decode cX4_dropOldest 28 = .ok (.iinc 2 1, 3) := by decide +kernel
theorem dX4_dropOldest_31 : decode cX4_dropOldest 31 = .ok (.goto (-22), 3) := by decide +kernel
theorem dX4_dropOldest_34 : decode cX4_dropOldest 34 = .ok (.aload_n 0, 1) := by decide +kernel
theorem dX4_dropOldest_35 : decode cX4_dropOldest 35 = .ok (.getfield 11, 3) := by decide +kernel
theorem dX4_dropOldest_38 : decode cX4_dropOldest 38 = .ok (.iconst 4, 1) := by decide +kernel
theorem dX4_dropOldest_39 : decode cX4_dropOldest 39 = .ok (.aload_n 1, 1) := by decide +kernel
theorem dX4_dropOldest_40 : decode cX4_dropOldest 40 = .ok (.aastore, 1) := by decide +kernel
theorem dX4_dropOldest_41 : decode cX4_dropOldest 41 = .ok (.aload_n 0, 1) := by decide +kernel
theorem dX4_dropOldest_42 : decode cX4_dropOldest 42 = .ok (.iconst 4, 1) := by decide +kernel
theorem dX4_dropOldest_43 : decode cX4_dropOldest 43 = .ok (.putfield 18, 3) := by decide +kernel
theorem dX4_dropOldest_46 : decode cX4_dropOldest 46 = .ok (.return_, 1) := by decide +kernel
theorem dX4_pop_0 : decode cX4_pop 0 = .ok (.aload_n 0, 1) := by decide +kernel
theorem dX4_pop_1 : decode cX4_pop 1 = .ok (.getfield 18, 3) := by decide +kernel
theorem dX4_pop_4 : decode cX4_pop 4 = .ok (.iconst 1, 1) := by decide +kernel
theorem dX4_pop_5 : decode cX4_pop 5 = .ok (.if_icmp .ge 6, 3) := by decide +kernel
theorem dX4_pop_8 : decode cX4_pop 8 = .ok (.bipush (-4), 2) := by decide +kernel
theorem dX4_pop_10 : decode cX4_pop 10 = .ok (.ireturn, 1) := by decide +kernel
theorem dX4_pop_11 : decode cX4_pop 11 = .ok (.aload_n 0, 1) := by decide +kernel
theorem dX4_pop_12 : decode cX4_pop 12 = .ok (.dup, 1) := by decide +kernel
theorem dX4_pop_13 : decode cX4_pop 13 = .ok (.getfield 18, 3) := by decide +kernel
theorem dX4_pop_16 : decode cX4_pop 16 = .ok (.iconst 1, 1) := by decide +kernel
theorem dX4_pop_17 : decode cX4_pop 17 = .ok (.isub, 1) := by decide +kernel
theorem dX4_pop_18 : decode cX4_pop 18 = .ok (.putfield 18, 3) := by decide +kernel
theorem dX4_pop_21 : decode cX4_pop 21 = .ok (.aload_n 1, 1) := by decide +kernel
theorem dX4_pop_22 : decode cX4_pop 22 = .ok (.aload_n 0, 1) := by decide +kernel
theorem dX4_pop_23 : decode cX4_pop 23 = .ok (.getfield 11, 3) := by decide +kernel
theorem dX4_pop_26 : decode cX4_pop 26 = .ok (.aload_n 0, 1) := by decide +kernel
theorem dX4_pop_27 : decode cX4_pop 27 = .ok (.getfield 18, 3) := by decide +kernel
theorem dX4_pop_30 : decode cX4_pop 30 = .ok (.aaload, 1) := by decide +kernel
theorem dX4_pop_31 : decode cX4_pop 31 = .ok (.invokevirtual 25, 3) := by decide +kernel
theorem dX4_pop_34 : decode cX4_pop 34 = .ok (.aload_n 0, 1) := by decide +kernel
theorem dX4_pop_35 : decode cX4_pop 35 = .ok (.getfield 18, 3) := by decide +kernel
theorem dX4_pop_38 : decode cX4_pop 38 = .ok (.ireturn, 1) := by decide +kernel
theorem dX5_init_0 : decode cX5_init 0 = .ok (.aload_n 0, 1) := by decide +kernel
theorem dX5_init_1 : decode cX5_init 1 = .ok (.invokespecial 3, 3) := by decide +kernel
theorem dX5_init_4 : decode cX5_init 4 = .ok (.aload_n 0, 1) := by decide +kernel
theorem dX5_init_5 : decode cX5_init 5 = .ok (.new 9, 3) := by decide +kernel
theorem dX5_init_8 : decode cX5_init 8 = .ok (.dup, 1) := by decide +kernel
theorem dX5_init_9 : decode cX5_init 9 = .ok (.invokespecial 11, 3) := by decide +kernel
theorem dX5_init_12 : decode cX5_init 12 = .ok (.putfield 12, 3) := by decide +kernel
theorem dX5_init_15 : decode cX5_init 15 = .ok (.aload_n 0, 1) := by decide +kernel
theorem dX5_init_16 : decode cX5_init 16 = .ok (.bipush 16, 2) := by decide +kernel
theorem dX5_init_18 : decode cX5_init 18 = .ok (.newarray .int, 2) := by decide +kernel
theorem dX5_init_20 : decode cX5_init 20 = .ok (.putfield 18, 3) := by decide +kernel
theorem dX5_init_23 : decode cX5_init 23 = .ok (.aload_n 0, 1) := by decide +kernel
theorem dX5_init_24 : decode cX5_init 24 = .ok (.new 22, 3) := by decide +kernel
theorem dX5_init_27 : decode cX5_init 27 = .ok (.dup, 1) := by decide +kernel
theorem dX5_init_28 : decode cX5_init 28 = .ok (.invokespecial 24, 3) := by decide +kernel
theorem dX5_init_31 : decode cX5_init 31 = .ok (.putfield 25, 3) := by decide +kernel
theorem dX5_init_34 : decode cX5_init 34 = .ok (.aload_n 0, 1) := by decide +kernel
theorem dX5_init_35 : decode cX5_init 35 = .ok (.new 22, 3) := by decide +kernel
theorem dX5_init_38 : decode cX5_init 38 = .ok (.dup, 1) := by decide +kernel
theorem dX5_init_39 : decode cX5_init 39 = .ok (.invokespecial 24, 3) := by decide +kernel
theorem dX5_init_42 : decode cX5_init 42 = .ok (.putfield 29, 3) := by decide +kernel
theorem dX5_init_45 : decode cX5_init 45 = .ok (.return_, 1) := by decide +kernel
theorem dX5_copyFrom_0 : decode cX5_copyFrom 0 = .ok (.aload_n 0, 1) := by decide +kernel
theorem dX5_copyFrom_1 : decode cX5_copyFrom 1 = .ok (.getfield 12, 3) := by decide +kernel
theorem dX5_copyFrom_4 : decode cX5_copyFrom 4 = .ok (.aload_n 1, 1) := by decide +kernel
theorem dX5_copyFrom_5 : decode cX5_copyFrom 5 = .ok (.getfield 12, 3) := by decide +kernel
theorem dX5_copyFrom_8 : decode cX5_copyFrom 8 = .ok (.invokevirtual 32, 3) := by decide +kernel
theorem dX5_copyFrom_11 : decode cX5_copyFrom 11 = .ok (.aload_n 0, 1) := by decide +kernel
theorem dX5_copyFrom_12 : decode cX5_copyFrom 12 = .ok (.aload_n 1, 1) := by decide +kernel
theorem dX5_copyFrom_13 : decode cX5_copyFrom 13 = .ok (.getfield 36, 3) := by decide +kernel
theorem dX5_copyFrom_16 : decode cX5_copyFrom 16 = .ok (.putfield 36, 3) := by decide +kernel
theorem dX5_copyFrom_19 : decode cX5_copyFrom 19 = .ok (.aload_n 1, 1) := by decide +kernel
theorem dX5_copyFrom_20 : decode cX5_copyFrom 20 = .ok (.getfield 18, 3) := by decide +kernel
theorem dX5_copyFrom_23 : decode cX5_copyFrom 23 = .ok (.iconst 0, 1) := by decide +kernel
theorem dX5_copyFrom_24 : decode cX5_copyFrom 24 = .ok (.aload_n 0, 1) := by decide +kernel
theorem dX5_copyFrom_25 : decode cX5_copyFrom 25 = .ok (.getfield 18, 3) := by decide +kernel
theorem dX5_copyFrom_28 : decode cX5_copyFrom 28 = .ok (.iconst 0, 1) := by decide +kernel
theorem dX5_copyFrom_29 : decode cX5_copyFrom 29 = .ok (.bipush 16, 2) := by decide +kernel
theorem dX5_copyFrom_31 : decode cX5_copyFrom 31 = .ok (.invokestatic 40, 3) := by decide +kernel
theorem dX5_copyFrom_34 : decode cX5_copyFrom 34 = .ok (.aload_n 0, 1) := by decide +kernel
theorem dX5_copyFrom_35 : decode cX5_copyFrom 35 = .ok (.getfield 25, 3) := by decide +kernel
theorem dX5_copyFrom_38 : decode cX5_copyFrom 38 = .ok (.aload_n 1, 1) := by decide +kernel
theorem dX5_copyFrom_39 : decode cX5_copyFrom 39 = .ok (.getfield 25, 3) := by decide +kernel
theorem dX5_copyFrom_42 : decode cX5_copyFrom 42 = .ok (.invokevirtual 46, 3) := by decide +kernel
theorem dX5_copyFrom_45 : decode cX5_copyFrom 45 = .ok (.aload_n 0, 1) := by decide +kernel
theorem dX5_copyFrom_46 : decode cX5_copyFrom 46 = .ok (.getfield 29, 3) := by decide +kernel
theorem dX5_copyFrom_49 : decode cX5_copyFrom 49 = .ok (.aload_n 1, 1) := by decide +kernel
theorem dX5_copyFrom_50 : decode cX5_copyFrom 50 = .ok (.getfield 29, 3) := by decide +kernel
theorem dX5_copyFrom_53 : decode cX5_copyFrom 53 = .ok (.invokevirtual 46, 3) := by decide +kernel
theorem dX5_copyFrom_56 : decode cX5_copyFrom 56 = .ok (.return_, 1) := by decide +kernel
theorem dX5_braid_0 : decode cX5_braid 0 = .ok (.iload_n 1, 1) := by decide +kernel
theorem dX5_braid_1 : decode cX5_braid 1 = .ok (.ifCond .ne 10, 3) := by decide +kernel
theorem dX5_braid_4 : decode cX5_braid 4 = .ok (.aload_n 0, 1) := by decide +kernel
theorem dX5_braid_5 : decode cX5_braid 5 = .ok (.getfield 25, 3) := by decide +kernel
theorem dX5_braid_8 : decode cX5_braid 8 = .ok (.goto 7, 3) := by decide +kernel
theorem dX5_braid_11 : decode cX5_braid 11 = .ok (.aload_n 0, 1) := by decide +kernel
theorem dX5_braid_12 : decode cX5_braid 12 = .ok (.getfield 29, 3) := by decide +kernel
theorem dX5_braid_15 : decode cX5_braid 15 = .ok (.areturn, 1) := by decide +kernel
theorem dX5_empty_0 : decode cX5_empty 0 = .ok (.aload_n 0, 1) := by decide +kernel
theorem dX5_empty_1 : decode cX5_empty 1 = .ok (.getfield 25, 3) := by decide +kernel
theorem dX5_empty_4 : decode cX5_empty 4 = .ok (.invokevirtual 49, 3) := by decide +kernel
theorem dX5_empty_7 : decode cX5_empty 7 = .ok (.aload_n 0, 1) := by decide +kernel
theorem dX5_empty_8 : decode cX5_empty 8 = .ok (.getfield 29, 3) := by decide +kernel
theorem dX5_empty_11 : decode cX5_empty 11 = .ok (.invokevirtual 49, 3) := by decide +kernel
theorem dX5_empty_14 : decode cX5_empty 14 = .ok (.return_, 1) := by decide +kernel
theorem dX5_formNumber_0 : decode cX5_formNumber 0 = .ok (.iload_n 1, 1) := by decide +kernel
theorem dX5_formNumber_1 : decode cX5_formNumber 1 = .ok (.tableswitch 87 0 5 #[39, 47, 55, 63, 71, 79], 39) := by decide +kernel
theorem dX5_formNumber_40 : decode cX5_formNumber 40 = .ok (.aload_n 0, 1) := by decide +kernel
theorem dX5_formNumber_41 : decode cX5_formNumber 41 = .ok (.getfield 12, 3) := by decide +kernel
theorem dX5_formNumber_44 : decode cX5_formNumber 44 = .ok (.getfield 52, 3) := by decide +kernel
theorem dX5_formNumber_47 : decode cX5_formNumber 47 = .ok (.ireturn, 1) := by decide +kernel
theorem dX5_formNumber_48 : decode cX5_formNumber 48 = .ok (.aload_n 0, 1) := by decide +kernel
theorem dX5_formNumber_49 : decode cX5_formNumber 49 = .ok (.getfield 12, 3) := by decide +kernel
theorem dX5_formNumber_52 : decode cX5_formNumber 52 = .ok (.getfield 55, 3) := by decide +kernel
theorem dX5_formNumber_55 : decode cX5_formNumber 55 = .ok (.ireturn, 1) := by decide +kernel
theorem dX5_formNumber_56 : decode cX5_formNumber 56 = .ok (.aload_n 0, 1) := by decide +kernel
theorem dX5_formNumber_57 : decode cX5_formNumber 57 = .ok (.getfield 12, 3) := by decide +kernel
theorem dX5_formNumber_60 : decode cX5_formNumber 60 = .ok (.getfield 58, 3) := by decide +kernel
theorem dX5_formNumber_63 : decode cX5_formNumber 63 = .ok (.ireturn, 1) := by decide +kernel
theorem dX5_formNumber_64 : decode cX5_formNumber 64 = .ok (.aload_n 0, 1) := by decide +kernel
theorem dX5_formNumber_65 : decode cX5_formNumber 65 = .ok (.getfield 12, 3) := by decide +kernel
theorem dX5_formNumber_68 : decode cX5_formNumber 68 = .ok (.getfield 61, 3) := by decide +kernel
theorem dX5_formNumber_71 : decode cX5_formNumber 71 = .ok (.ireturn, 1) := by decide +kernel
theorem dX5_formNumber_72 : decode cX5_formNumber 72 = .ok (.aload_n 0, 1) := by decide +kernel
theorem dX5_formNumber_73 : decode cX5_formNumber 73 = .ok (.getfield 12, 3) := by decide +kernel
theorem dX5_formNumber_76 : decode cX5_formNumber 76 = .ok (.getfield 64, 3) := by decide +kernel
theorem dX5_formNumber_79 : decode cX5_formNumber 79 = .ok (.ireturn, 1) := by decide +kernel
theorem dX5_formNumber_80 : decode cX5_formNumber 80 = .ok (.aload_n 0, 1) := by decide +kernel
theorem dX5_formNumber_81 : decode cX5_formNumber 81 = .ok (.getfield 12, 3) := by decide +kernel
theorem dX5_formNumber_84 : decode cX5_formNumber 84 = .ok (.getfield 67, 3) := by decide +kernel
theorem dX5_formNumber_87 : decode cX5_formNumber 87 = .ok (.ireturn, 1) := by decide +kernel
theorem dX5_formNumber_88 : decode cX5_formNumber 88 = .ok (.aload_n 0, 1) := by decide +kernel
theorem dX5_formNumber_89 : decode cX5_formNumber 89 = .ok (.getfield 36, 3) := by decide +kernel
theorem dX5_formNumber_92 : decode cX5_formNumber 92 = .ok (.ireturn, 1) := by decide +kernel
theorem dX5_find_0 : decode cX5_find 0 = .ok (.iconst 0, 1) := by decide +kernel
theorem dX5_find_1 : decode cX5_find 1 = .ok (.istore_n 2, 1) := by decide +kernel
theorem dX5_find_2 : decode cX5_find 2 = .ok (.iload_n 2, 1) := by decide +kernel
theorem dX5_find_3 : decode cX5_find 3 = .ok (.aload_n 0, 1) := by decide +kernel
theorem dX5_find_4 : decode cX5_find 4 = .ok (.getfield 36, 3) := by decide +kernel
theorem dX5_find_7 : decode cX5_find 7 = .ok (.if_icmp .ge 21, 3) := by decide +kernel
theorem dX5_find_10 : decode cX5_find 10 = .ok (.aload_n 0, 1) := by decide +kernel
theorem dX5_find_11 : decode cX5_find 11 = .ok (.getfield 18, 3) := by decide +kernel
theorem dX5_find_14 : decode cX5_find 14 = .ok (.iload_n 2, 1) := by decide +kernel
theorem dX5_find_15 : decode cX5_find 15 = .ok (.iaload, 1) := by decide +kernel
theorem dX5_find_16 : decode cX5_find 16 = .ok (.iload_n 1, 1) := by decide +kernel
theorem dX5_find_17 : decode cX5_find 17 = .ok (.if_icmp .ne 5, 3) := by decide +kernel
theorem dX5_find_20 : decode cX5_find 20 = .ok (.iload_n 2, 1) := by decide +kernel
theorem dX5_find_21 : decode cX5_find 21 = .ok (.ireturn, 1) := by decide +kernel
theorem dX5_find_22 : decode cX5_find 22 = .ok (.iinc 2 1, 3) := by decide +kernel
theorem dX5_find_25 : decode cX5_find 25 = .ok (.goto (-23), 3) := by decide +kernel
theorem dX5_find_28 : decode cX5_find 28 = .ok (.iconst (-1), 1) := by decide +kernel
theorem dX5_find_29 : decode cX5_find 29 = .ok (.ireturn, 1) := by decide +kernel
theorem dX5_findOrAppend_0 : decode cX5_findOrAppend 0 = .ok (.aload_n 0, 1) := by decide +kernel
theorem dX5_findOrAppend_1 : decode cX5_findOrAppend 1 = .ok (.iload_n 1, 1) := by decide +kernel
theorem dX5_findOrAppend_2 : decode cX5_findOrAppend 2 = .ok (.invokevirtual 70, 3) := by decide +kernel
theorem dX5_findOrAppend_5 : decode cX5_findOrAppend 5 = .ok (.istore_n 2, 1) := by decide +kernel
theorem dX5_findOrAppend_6 : decode cX5_findOrAppend 6 = .ok (.iload_n 2, 1) := by decide +kernel
theorem dX5_findOrAppend_7 : decode cX5_findOrAppend 7 = .ok (.iconst (-1), 1) := by decide +kernel
theorem dX5_findOrAppend_8 : decode cX5_findOrAppend 8 = .ok (.if_icmp .ne 34, 3) := by decide +kernel
theorem dX5_findOrAppend_11 : decode cX5_findOrAppend 11 = .ok (.aload_n 0, 1) := by decide +kernel
theorem dX5_findOrAppend_12 : decode cX5_findOrAppend 12 = .ok (.getfield 36, 3) := by decide +kernel
theorem dX5_findOrAppend_15 : decode cX5_findOrAppend 15 = .ok (.bipush 16, 2) := by decide +kernel
theorem dX5_findOrAppend_17 : decode cX5_findOrAppend 17 = .ok (.if_icmp .ge 25, 3) := by decide +kernel
theorem dX5_findOrAppend_20 : decode cX5_findOrAppend 20 = .ok (.aload_n 0, 1) := by decide +kernel
theorem dX5_findOrAppend_21 : decode cX5_findOrAppend 21 = .ok (.getfield 36, 3) := by decide +kernel
theorem dX5_findOrAppend_24 : decode cX5_findOrAppend 24 = .ok (.istore_n 2, 1) := by decide +kernel
theorem dX5_findOrAppend_25 : decode cX5_findOrAppend 25 = .ok (.aload_n 0, 1) := by decide +kernel
theorem dX5_findOrAppend_26 : decode cX5_findOrAppend 26 = .ok (.getfield 18, 3) := by decide +kernel
theorem dX5_findOrAppend_29 : decode cX5_findOrAppend 29 = .ok (.iload_n 2, 1) := by decide +kernel
theorem dX5_findOrAppend_30 : decode cX5_findOrAppend 30 = .ok (.iload_n 1, 1) := by decide +kernel
theorem dX5_findOrAppend_31 : decode cX5_findOrAppend 31 = .ok (.iastore, 1) := by decide +kernel
theorem dX5_findOrAppend_32 : decode cX5_findOrAppend 32 = .ok (.aload_n 0, 1) := by decide +kernel
theorem dX5_findOrAppend_33 : decode cX5_findOrAppend 33 = .ok (.dup, 1) := by decide +kernel
theorem dX5_findOrAppend_34 : decode cX5_findOrAppend 34 = .ok (.getfield 36, 3) := by decide +kernel
theorem dX5_findOrAppend_37 : decode cX5_findOrAppend 37 = .ok (.iconst 1, 1) := by decide +kernel
theorem dX5_findOrAppend_38 : decode cX5_findOrAppend 38 = .ok (.iadd, 1) := by decide +kernel
theorem dX5_findOrAppend_39 : decode cX5_findOrAppend 39 = .ok (.putfield 36, 3) := by decide +kernel
theorem dX5_findOrAppend_42 : decode cX5_findOrAppend 42 = .ok (.iload_n 2, 1) := by decide +kernel
theorem dX5_findOrAppend_43 : decode cX5_findOrAppend 43 = .ok (.ireturn, 1) := by decide +kernel
theorem dX5_countFlow_0 : decode cX5_countFlow 0 = .ok (.iconst 0, 1) := by decide +kernel
theorem dX5_countFlow_1 : decode cX5_countFlow 1 = .ok (.iload_n 2, 1) := by decide +kernel
theorem dX5_countFlow_2 : decode cX5_countFlow 2 = .ok (.aload_n 0, 1) := by decide +kernel
theorem dX5_countFlow_3 : decode cX5_countFlow 3 = .ok (.getfield 36, 3) := by decide +kernel
theorem dX5_countFlow_6 : decode cX5_countFlow 6 = .ok (.iconst 1, 1) := by decide +kernel
theorem dX5_countFlow_7 : decode cX5_countFlow 7 = .ok (.isub, 1) := by decide +kernel
theorem dX5_countFlow_8 : decode cX5_countFlow 8 = .ok (.invokestatic 74, 3) := by decide +kernel
theorem dX5_countFlow_11 : decode cX5_countFlow 11 = .ok (.ifCond .ne 4, 3) := by decide +kernel
theorem dX5_countFlow_14 : decode cX5_countFlow 14 = .ok (.return_, 1) := by decide +kernel
theorem dX5_countFlow_15 : decode cX5_countFlow 15 = .ok (.aload_n 1, 1) := by decide +kernel
theorem dX5_countFlow_16 : decode cX5_countFlow 16 = .ok (.getfield 78, 3) := by decide +kernel
theorem dX5_countFlow_19 : decode cX5_countFlow 19 = .ok (.iload_n 2, 1) := by decide +kernel
theorem dX5_countFlow_20 : decode cX5_countFlow 20 = .ok (.dup2, 1) := by decide +kernel
theorem dX5_countFlow_21 : decode cX5_countFlow 21 = .ok (.laload, 1) := by decide +kernel
theorem dX5_countFlow_22 : decode cX5_countFlow 22 = .ok (.lload_n 3, 1) := by decide +kernel
theorem dX5_countFlow_23 : decode cX5_countFlow 23 = .ok (.ladd, 1) := by decide +kernel
theorem dX5_countFlow_24 : decode cX5_countFlow 24 = .ok (.lastore, 1) := by decide +kernel
theorem dX5_countFlow_25 : decode cX5_countFlow 25 = .ok (.aload_n 0, 1) := by decide +kernel
theorem dX5_countFlow_26 : decode cX5_countFlow 26 = .ok (.getfield 12, 3) := by decide +kernel
theorem dX5_countFlow_29 : decode cX5_countFlow 29 = .ok (.aload_n 0, 1) := by decide +kernel
theorem dX5_countFlow_30 : decode cX5_countFlow 30 = .ok (.getfield 18, 3) := by decide +kernel
theorem dX5_countFlow_33 : decode cX5_countFlow 33 = .ok (.iload_n 2, 1) := by decide +kernel
theorem dX5_countFlow_34 : decode cX5_countFlow 34 = .ok (.iaload, 1) := by decide +kernel
theorem dX5_countFlow_35 : decode cX5_countFlow 35 = .ok (.invokevirtual 82, 3) := by decide +kernel
theorem dX5_countFlow_38 : decode cX5_countFlow 38 = .ok (.istore 5, 2) := by decide +kernel
theorem dX5_countFlow_40 : decode cX5_countFlow 40 = .ok (.iconst 0, 1) := by decide +kernel
theorem dX5_countFlow_41 : decode cX5_countFlow 41 = .ok (.istore 6, 2) := by decide +kernel
theorem dX5_countFlow_43 : decode cX5_countFlow 43 = .ok (.iload 6, 2) := by decide +kernel
theorem dX5_countFlow_45 : decode cX5_countFlow 45 = .ok (.bipush 24, 2) := by decide +kernel
theorem dX5_countFlow_47 : decode cX5_countFlow 47 = .ok (.if_icmp .ge 30, 3) := by decide +kernel
theorem dX5_countFlow_50 : decode cX5_countFlow 50 = .ok (.iload 5, 2) := by decide +kernel
theorem dX5_countFlow_52 : decode cX5_countFlow 52 = .ok (.iload 6, 2) := by decide +kernel
theorem dX5_countFlow_54 : decode cX5_countFlow 54 = .ok (.invokestatic 85, 3) := by decide +kernel
theorem dX5_countFlow_57 : decode cX5_countFlow 57 = .ok (.ifCond .eq 14, 3) := by decide +kernel
theorem dX5_countFlow_60 : decode cX5_countFlow 60 = .ok (.aload_n 1, 1) := by decide +kernel
theorem dX5_countFlow_61 : decode cX5_countFlow 61 = .ok (.aload_n 0, 1) := by decide +kernel
theorem dX5_countFlow_62 : decode cX5_countFlow 62 = .ok (.getfield 12, 3) := by decide +kernel
theorem dX5_countFlow_65 : decode cX5_countFlow 65 = .ok (.iload 6, 2) := by decide +kernel
theorem dX5_countFlow_67 : decode cX5_countFlow 67 = .ok (.lload_n 3, 1) := by decide +kernel
theorem dX5_countFlow_68 : decode cX5_countFlow 68 = .ok (.invokevirtual 89, 3) := by decide +kernel
theorem dX5_countFlow_71 : decode cX5_countFlow 71 = .ok (.iinc 6 1, 3) := by decide +kernel
theorem dX5_countFlow_74 : decode cX5_countFlow 74 = .ok (.goto (-31), 3) := by decide +kernel
theorem dX5_countFlow_77 : decode cX5_countFlow 77 = .ok (.return_, 1) := by decide +kernel
theorem dX6_init_0 : decode cX6_init 0 = .ok (.aload_n 0, 1) := by decide +kernel
theorem dX6_init_1 : decode cX6_init 1 = .ok (.invokespecial 3, 3) := by decide +kernel
theorem dX6_init_4 : decode cX6_init 4 = .ok (.aload_n 0, 1) := by decide +kernel
theorem dX6_init_5 : decode cX6_init 5 = .ok (.bipush 100, 2) := by decide +kernel
theorem dX6_init_7 : decode cX6_init 7 = .ok (.newarray .int, 2) := by decide +kernel
theorem dX6_init_9 : decode cX6_init 9 = .ok (.putfield 9, 3) := by decide +kernel
theorem dX6_init_12 : decode cX6_init 12 = .ok (.aload_n 0, 1) := by decide +kernel
theorem dX6_init_13 : decode cX6_init 13 = .ok (.bipush 50, 2) := by decide +kernel
theorem dX6_init_15 : decode cX6_init 15 = .ok (.newarray .int, 2) := by decide +kernel
theorem dX6_init_17 : decode cX6_init 17 = .ok (.putfield 15, 3) := by decide +kernel
theorem dX6_init_20 : decode cX6_init 20 = .ok (.aload_n 0, 1) := by decide +kernel
theorem dX6_init_21 : decode cX6_init 21 = .ok (.bipush 50, 2) := by decide +kernel
theorem dX6_init_23 : decode cX6_init 23 = .ok (.newarray .int, 2) := by decide +kernel
theorem dX6_init_25 : decode cX6_init 25 = .ok (.putfield 18, 3) := by decide +kernel
theorem dX6_init_28 : decode cX6_init 28 = .ok (.return_, 1) := by decide +kernel
theorem dX6_append_0 : decode cX6_append 0 = .ok (.aload_n 0, 1) := by decide +kernel
theorem dX6_append_1 : decode cX6_append 1 = .ok (.getfield 21, 3) := by decide +kernel
theorem dX6_append_4 : decode cX6_append 4 = .ok (.bipush 100, 2) := by decide +kernel
theorem dX6_append_6 : decode cX6_append 6 = .ok (.if_icmp .lt 6, 3) := by decide +kernel
theorem dX6_append_9 : decode cX6_append 9 = .ok (.bipush (-5), 2) := by decide +kernel
theorem dX6_append_11 : decode cX6_append 11 = .ok (.ireturn, 1) := by decide +kernel
theorem dX6_append_12 : decode cX6_append 12 = .ok (.aload_n 0, 1) := by decide +kernel
theorem dX6_append_13 : decode cX6_append 13 = .ok (.getfield 9, 3) := by decide +kernel
theorem dX6_append_16 : decode cX6_append 16 = .ok (.aload_n 0, 1) := by decide +kernel
theorem dX6_append_17 : decode cX6_append 17 = .ok (.getfield 21, 3) := by decide +kernel
theorem dX6_append_20 : decode cX6_append 20 = .ok (.iload_n 1, 1) := by decide +kernel
theorem dX6_append_21 : decode cX6_append 21 = .ok (.iastore, 1) := by decide +kernel
theorem dX6_append_22 : decode cX6_append 22 = .ok (.aload_n 0, 1) := by decide +kernel
theorem dX6_append_23 : decode cX6_append 23 = .ok (.dup, 1) := by decide +kernel
theorem dX6_append_24 : decode cX6_append 24 = .ok (.getfield 21, 3) := by decide +kernel
theorem dX6_append_27 : decode cX6_append 27 = .ok (.iconst 1, 1) := by decide +kernel
theorem dX6_append_28 : decode cX6_append 28 = .ok (.iadd, 1) := by decide +kernel
theorem dX6_append_29 : decode cX6_append 29 = .ok (.putfield 21, 3) := by decide +kernel
theorem dX6_append_32 : decode cX6_append 32 = .ok (.aload_n 0, 1) := by decide +kernel
theorem dX6_append_33 : decode cX6_append 33 = .ok (.getfield 21, 3) := by decide +kernel
theorem dX6_append_36 : decode cX6_append 36 = .ok (.ireturn, 1) := by decide +kernel
theorem dX6_read_0 : decode cX6_read 0 = .ok (.aload_n 0, 1) := by decide +kernel
theorem dX6_read_1 : decode cX6_read 1 = .ok (.iconst 0, 1) := by decide +kernel
theorem dX6_read_2 : decode cX6_read 2 = .ok (.putfield 25, 3) := by decide +kernel
theorem dX6_read_5 : decode cX6_read 5 = .ok (.aload_n 0, 1) := by decide +kernel
theorem dX6_read_6 : decode cX6_read 6 = .ok (.iconst 0, 1) := by decide +kernel
theorem dX6_read_7 : decode cX6_read 7 = .ok (.putfield 28, 3) := by decide +kernel
theorem dX6_read_10 : decode cX6_read 10 = .ok (.aload_n 0, 1) := by decide +kernel
theorem dX6_read_11 : decode cX6_read 11 = .ok (.iconst 0, 1) := by decide +kernel
theorem dX6_read_12 : decode cX6_read 12 = .ok (.putfield 31, 3) := by decide +kernel
theorem dX6_read_15 : decode cX6_read 15 = .ok (.aload_n 0, 1) := by decide +kernel
theorem dX6_read_16 : decode cX6_read 16 = .ok (.aload_n 1, 1) := by decide +kernel
theorem dX6_read_17 : decode cX6_read 17 = .ok (.invokevirtual 34, 3) := by decide +kernel
theorem dX6_read_20 : decode cX6_read 20 = .ok (.istore_n 2, 1) := by decide +kernel
theorem dX6_read_21 : decode cX6_read 21 = .ok (.iconst 0, 1) := by decide +kernel
theorem dX6_read_22 : decode cX6_read 22 = .ok (.istore_n 3, 1) := by decide +kernel
theorem dX6_read_23 : decode cX6_read 23 = .ok (.iload_n 3, 1) := by decide +kernel
theorem dX6_read_24 : decode cX6_read 24 = .ok (.bipush 100, 2) := by decide +kernel
theorem dX6_read_26 : decode cX6_read 26 = .ok (.if_icmp .ge 47, 3) := by decide +kernel
theorem dX6_read_29 : decode cX6_read 29 = .ok (.iload_n 2, 1) := by decide +kernel
theorem dX6_read_30 : decode cX6_read 30 = .ok (.iconst (-1), 1) := by decide +kernel
theorem dX6_read_31 : decode cX6_read 31 = .ok (.if_icmp .ne 42, 3) := by decide +kernel
theorem dX6_read_34 : decode cX6_read 34 = .ok (.aload_n 0, 1) := by decide +kernel
theorem dX6_read_35 : decode cX6_read 35 = .ok (.getfield 25, 3) := by decide +kernel
theorem dX6_read_38 : decode cX6_read 38 = .ok (.aload_n 0, 1) := by decide +kernel
theorem dX6_read_39 : decode cX6_read 39 = .ok (.getfield 21, 3) := by decide +kernel
theorem dX6_read_42 : decode cX6_read 42 = .ok (.if_icmp .ge 31, 3) := by decide +kernel
theorem dX6_read_45 : decode cX6_read 45 = .ok (.aload_n 0, 1) := by decide +kernel
theorem dX6_read_46 : decode cX6_read 46 = .ok (.bipush 59, 2) := by decide +kernel
theorem dX6_read_48 : decode cX6_read 48 = .ok (.invokevirtual 38, 3) := by decide +kernel
theorem dX6_read_51 : decode cX6_read 51 = .ok (.ifCond .eq 11, 3) := by decide +kernel
theorem dX6_read_54 : decode cX6_read 54 = .ok (.aload_n 0, 1) := by decide +kernel
theorem dX6_read_55 : decode cX6_read 55 = .ok (.aload_n 1, 1) := by decide +kernel
theorem dX6_read_56 : decode cX6_read 56 = .ok (.invokevirtual 34, 3) := by decide +kernel
theorem dX6_read_59 : decode cX6_read 59 = .ok (.goto 7, 3) := by decide +kernel
theorem dX6_read_62 : decode cX6_read 62 = .ok (.aload_n 0, 1) := by decide +kernel
theorem dX6_read_63 : decode cX6_read 63 = .ok (.getfield 25, 3) := by decide +kernel
theorem dX6_read_66 : decode cX6_read 66 = .ok (.istore_n 2, 1) := by decide +kernel
theorem dX6_read_67 : decode cX6_read 67 = .ok (.iinc 3 1, 3) := by decide +kernel
theorem dX6_read_70 : decode cX6_read 70 = .ok (.goto (-47), 3) := by decide +kernel
theorem dX6_read_73 : decode cX6_read 73 = .ok (.iload_n 2, 1) := by decide +kernel
theorem dX6_read_74 : decode cX6_read 74 = .ok (.ireturn, 1) := by decide +kernel
theorem dX6_readItem_0 : decode cX6_readItem 0 = .ok (.aload_n 0, 1) := by decide +kernel
theorem dX6_readItem_1 : decode cX6_readItem 1 = .ok (.invokevirtual 42, 3) := by decide +kernel
theorem dX6_readItem_4 : decode cX6_readItem 4 = .ok (.aload_n 0, 1) := by decide +kernel
theorem dX6_readItem_5 : decode cX6_readItem 5 = .ok (.getfield 25, 3) := by decide +kernel
theorem dX6_readItem_8 : decode cX6_readItem 8 = .ok (.istore_n 2, 1) := by decide +kernel
theorem dX6_readItem_9 : decode cX6_readItem 9 = .ok (.aload_n 0, 1) := by decide +kernel
theorem dX6_readItem_10 : decode cX6_readItem 10 = .ok (.invokevirtual 45, 3) := by decide +kernel
theorem dX6_readItem_13 : decode cX6_readItem 13 = .ok (.istore_n 3, 1) := by decide +kernel
theorem dX6_readItem_14 : decode cX6_readItem 14 = .ok (.iconst 0, 1) := by decide +kernel
theorem dX6_readItem_15 : decode cX6_readItem 15 = .ok (.iload_n 3, 1) := by decide +kernel
theorem dX6_readItem_16 : decode cX6_readItem 16 = .ok (.sipush 999, 3) := by decide +kernel
theorem dX6_readItem_19 : decode cX6_readItem 19 = .ok (.invokestatic 49, 3) := by decide +kernel
theorem dX6_readItem_22 : decode cX6_readItem 22 = .ok (.ifCond .ne 5, 3) := by decide +kernel
theorem dX6_readItem_25 : decode cX6_readItem 25 = .ok (.iload_n 2, 1) := by decide +kernel
theorem dX6_readItem_26 : decode cX6_readItem 26 = .ok (.ireturn, 1) := by decide +kernel
theorem dX6_readItem_27 : decode cX6_readItem 27 = .ok (.aload_n 0, 1) := by decide +kernel
theorem dX6_readItem_28 : decode cX6_readItem 28 = .ok (.iload_n 3, 1) := by decide +kernel
theorem dX6_readItem_29 : decode cX6_readItem 29 = .ok (.aload_n 1, 1) := by decide +kernel
theorem dX6_readItem_30 : decode cX6_readItem 30 = .ok (.invokevirtual 53, 3) := by decide +kernel
theorem dX6_readItem_33 : decode cX6_readItem 33 = .ok (.ifCond .ne 29, 3) := by decide +kernel
theorem dX6_readItem_36 : decode cX6_readItem 36 = .ok (.aload_n 1, 1) := by decide +kernel
theorem dX6_readItem_37 : decode cX6_readItem 37 = .ok (.getfield 57, 3) := by decide +kernel
theorem dX6_readItem_40 : decode cX6_readItem 40 = .ok (.aload_n 0, 1) := by decide +kernel
theorem dX6_readItem_41 : decode cX6_readItem 41 = .ok (.getfield 31, 3) := by decide +kernel
theorem dX6_readItem_44 : decode cX6_readItem 44 = .ok (.iadd, 1) := by decide +kernel
theorem dX6_readItem_45 : decode cX6_readItem 45 = .ok (.bipush 16, 2) := by decide +kernel
theorem dX6_readItem_47 : decode cX6_readItem 47 = .ok (.if_icmp .lt 5, 3) := by decide +kernel
theorem dX6_readItem_50 : decode cX6_readItem 50 = .ok (.iload_n 2, 1) := by decide +kernel
theorem dX6_readItem_51 : decode cX6_readItem 51 = .ok (.ireturn, 1) := by decide +kernel
theorem dX6_readItem_52 : decode cX6_readItem 52 = .ok (.aload_n 0, 1) := by decide +kernel
theorem dX6_readItem_53 : decode cX6_readItem 53 = .ok (.dup, 1) := by decide +kernel
theorem dX6_readItem_54 : decode cX6_readItem 54 = .ok (.getfield 31, 3) := by decide +kernel
theorem dX6_readItem_57 : decode cX6_readItem 57 = .ok (.iconst 1, 1) := by decide +kernel
theorem dX6_readItem_58 : decode cX6_readItem 58 = .ok (.iadd, 1) := by decide +kernel
theorem dX6_readItem_59 : decode cX6_readItem 59 = .ok (.putfield 31, 3) := by decide +kernel
theorem dX6_readItem_62 : decode cX6_readItem 62 = .ok (.iconst 1, 1) := by decide +kernel
theorem dX6_readItem_63 : decode cX6_readItem 63 = .ok (.istore 4, 2) := by decide +kernel
theorem dX6_readItem_65 : decode cX6_readItem 65 = .ok (.aload_n 0, 1) := by decide +kernel
theorem dX6_readItem_66 : decode cX6_readItem 66 = .ok (.invokevirtual 42, 3) := by decide +kernel
theorem dX6_readItem_69 : decode cX6_readItem 69 = .ok (.aload_n 0, 1) := by decide +kernel
theorem dX6_readItem_70 : decode cX6_readItem 70 = .ok (.bipush 43, 2) := by decide +kernel
theorem dX6_readItem_72 : decode cX6_readItem 72 = .ok (.invokevirtual 38, 3) := by decide +kernel
theorem dX6_readItem_75 : decode cX6_readItem 75 = .ok (.ifCond .eq 30, 3) := by decide +kernel
theorem dX6_readItem_78 : decode cX6_readItem 78 = .ok (.aload_n 0, 1) := by decide +kernel
theorem dX6_readItem_79 : decode cX6_readItem 79 = .ok (.invokevirtual 42, 3) := by decide +kernel
theorem dX6_readItem_82 : decode cX6_readItem 82 = .ok (.aload_n 0, 1) := by decide +kernel
theorem dX6_readItem_83 : decode cX6_readItem 83 = .ok (.getfield 25, 3) := by decide +kernel
theorem dX6_readItem_86 : decode cX6_readItem 86 = .ok (.istore_n 2, 1) := by decide +kernel
theorem dX6_readItem_87 : decode cX6_readItem 87 = .ok (.aload_n 0, 1) := by decide +kernel
theorem dX6_readItem_88 : decode cX6_readItem 88 = .ok (.invokevirtual 45, 3) := by decide +kernel
theorem dX6_readItem_91 : decode cX6_readItem 91 = .ok (.istore 4, 2) := by decide +kernel
theorem dX6_readItem_93 : decode cX6_readItem 93 = .ok (.iload 4, 2) := by decide +kernel
theorem dX6_readItem_95 : decode cX6_readItem 95 = .ok (.iconst 1, 1) := by decide +kernel
theorem dX6_readItem_96 : decode cX6_readItem 96 = .ok (.if_icmp .ge 5, 3) := by decide +kernel
theorem dX6_readItem_99 : decode cX6_readItem 99 = .ok (.iload_n 2, 1) := by decide +kernel
theorem dX6_readItem_100 : decode cX6_readItem 100 = .ok (.ireturn, 1) := by decide +kernel
theorem dX6_readItem_101 : decode cX6_readItem 101 = .ok (.aload_n 0, 1) := by decide +kernel
theorem dX6_readItem_102 : decode cX6_readItem 102 = .ok (.invokevirtual 42, 3) := by decide +kernel
theorem dX6_readItem_105 : decode cX6_readItem 105 = .ok (.aload_n 0, 1) := by decide +kernel
theorem dX6_readItem_106 : decode cX6_readItem 106 = .ok (.iload_n 3, 1) := by decide +kernel
theorem dX6_readItem_107 : decode cX6_readItem 107 = .ok (.iload 4, 2) := by decide +kernel
theorem dX6_readItem_109 : decode cX6_readItem 109 = .ok (.invokevirtual 62, 3) := by decide +kernel
theorem dX6_readItem_112 : decode cX6_readItem 112 = .ok (.iconst (-1), 1) := by decide +kernel
theorem dX6_readItem_113 : decode cX6_readItem 113 = .ok (.ireturn, 1) := by decide +kernel
theorem dX6_skipBlanks_0 : decode cX6_skipBlanks 0 = .ok (.aload_n 0, 1) := by decide +kernel
theorem dX6_skipBlanks_1 : decode cX6_skipBlanks 1 = .ok (.getfield 25, 3) := by decide +kernel
theorem dX6_skipBlanks_4 : decode cX6_skipBlanks 4 = .ok (.aload_n 0, 1) := by decide +kernel
theorem dX6_skipBlanks_5 : decode cX6_skipBlanks 5 = .ok (.getfield 21, 3) := by decide +kernel
theorem dX6_skipBlanks_8 : decode cX6_skipBlanks 8 = .ok (.if_icmp .ge 30, 3) := by decide +kernel
theorem dX6_skipBlanks_11 : decode cX6_skipBlanks 11 = .ok (.aload_n 0, 1) := by decide +kernel
theorem dX6_skipBlanks_12 : decode cX6_skipBlanks 12 = .ok (.getfield 9, 3) := by decide +kernel
theorem dX6_skipBlanks_15 : decode cX6_skipBlanks 15 = .ok (.aload_n 0, 1) := by decide +kernel
theorem dX6_skipBlanks_16 : decode cX6_skipBlanks 16 = .ok (.getfield 25, 3) := by decide +kernel
theorem dX6_skipBlanks_19 : decode cX6_skipBlanks 19 = .ok (.iaload, 1) := by decide +kernel
theorem dX6_skipBlanks_20 : decode cX6_skipBlanks 20 = .ok (.bipush 32, 2) := by decide +kernel
theorem dX6_skipBlanks_22 : decode cX6_skipBlanks 22 = .ok (.if_icmp .ne 16, 3) := by decide +kernel
theorem dX6_skipBlanks_25 : decode cX6_skipBlanks 25 = .ok (.aload_n 0, 1) := by decide +kernel
theorem dX6_skipBlanks_26 : decode cX6_skipBlanks 26 = .ok (.dup, 1) := by decide +kernel
theorem dX6_skipBlanks_27 : decode cX6_skipBlanks 27 = .ok (.getfield 25, 3) := by decide +kernel
theorem dX6_skipBlanks_30 : decode cX6_skipBlanks 30 = .ok (.iconst 1, 1) := by decide +kernel
theorem dX6_skipBlanks_31 : decode cX6_skipBlanks 31 = .ok (.iadd, 1) := by decide +kernel
theorem dX6_skipBlanks_32 : decode cX6_skipBlanks 32 = .ok (.putfield 25, 3) := by decide +kernel
theorem dX6_skipBlanks_35 : decode cX6_skipBlanks 35 = .ok (.goto (-35), 3) := by decide +kernel
theorem dX6_skipBlanks_38 : decode cX6_skipBlanks 38 = .ok (.return_, 1) := by decide +kernel
theorem dX6_skipSign_0 : decode cX6_skipSign 0 = .ok (.aload_n 0, 1) := by decide +kernel
theorem dX6_skipSign_1 : decode cX6_skipSign 1 = .ok (.getfield 25, 3) := by decide +kernel
theorem dX6_skipSign_4 : decode cX6_skipSign 4 = .ok (.aload_n 0, 1) := by decide +kernel
theorem dX6_skipSign_5 : decode cX6_skipSign 5 = .ok (.getfield 21, 3) := by decide +kernel
theorem dX6_skipSign_8 : decode cX6_skipSign 8 = .ok (.if_icmp .ge 28, 3) := by decide +kernel
theorem dX6_skipSign_11 : decode cX6_skipSign 11 = .ok (.aload_n 0, 1) := by decide +kernel
theorem dX6_skipSign_12 : decode cX6_skipSign 12 = .ok (.getfield 9, 3) := by decide +kernel
theorem dX6_skipSign_15 : decode cX6_skipSign 15 = .ok (.aload_n 0, 1) := by decide +kernel
theorem dX6_skipSign_16 : decode cX6_skipSign 16 = .ok (.getfield 25, 3) := by decide +kernel
theorem dX6_skipSign_19 : decode cX6_skipSign 19 = .ok (.iaload, 1) := by decide +kernel
theorem dX6_skipSign_20 : decode cX6_skipSign 20 = .ok (.iload_n 1, 1) := by decide +kernel
theorem dX6_skipSign_21 : decode cX6_skipSign 21 = .ok (.if_icmp .ne 15, 3) := by decide +kernel
theorem dX6_skipSign_24 : decode cX6_skipSign 24 = .ok (.aload_n 0, 1) := by decide +kernel
theorem dX6_skipSign_25 : decode cX6_skipSign 25 = .ok (.dup, 1) := by decide +kernel
theorem dX6_skipSign_26 : decode cX6_skipSign 26 = .ok (.getfield 25, 3) := by decide +kernel
theorem dX6_skipSign_29 : decode cX6_skipSign 29 = .ok (.iconst 1, 1) := by decide +kernel
theorem dX6_skipSign_30 : decode cX6_skipSign 30 = .ok (.iadd, 1) := by decide +kernel
theorem dX6_skipSign_31 : decode cX6_skipSign 31 = .ok (.putfield 25, 3) := by decide +kernel
theorem dX6_skipSign_34 : decode cX6_skipSign 34 = .ok (.iconst 1, 1) := by decide +kernel
theorem dX6_skipSign_35 : decode cX6_skipSign 35 = .ok (.ireturn, 1) := by decide +kernel
theorem dX6_skipSign_36 : decode cX6_skipSign 36 = .ok (.iconst 0, 1) := by decide +kernel
theorem dX6_skipSign_37 : decode cX6_skipSign 37 = .ok (.ireturn, 1) := by decide +kernel
theorem dX6_readNumber_0 : decode cX6_readNumber 0 = .ok (.iconst 0, 1) := by decide +kernel
theorem dX6_readNumber_1 : decode cX6_readNumber 1 = .ok (.istore_n 1, 1) := by decide +kernel
theorem dX6_readNumber_2 : decode cX6_readNumber 2 = .ok (.iconst 0, 1) := by decide +kernel
theorem dX6_readNumber_3 : decode cX6_readNumber 3 = .ok (.istore_n 2, 1) := by decide +kernel
theorem dX6_readNumber_4 : decode cX6_readNumber 4 = .ok (.aload_n 0, 1) := by decide +kernel
theorem dX6_readNumber_5 : decode cX6_readNumber 5 = .ok (.getfield 25, 3) := by decide +kernel
theorem dX6_readNumber_8 : decode cX6_readNumber 8 = .ok (.aload_n 0, 1) := by decide +kernel
theorem dX6_readNumber_9 : decode cX6_readNumber 9 = .ok (.getfield 21, 3) := by decide +kernel
theorem dX6_readNumber_12 : decode cX6_readNumber 12 = .ok (.if_icmp .ge 61, 3) := by decide +kernel
theorem dX6_readNumber_15 : decode cX6_readNumber 15 = .ok (.bipush 48, 2) := by decide +kernel
theorem dX6_readNumber_17 : decode cX6_readNumber 17 = .ok (.aload_n 0, 1) := by decide +kernel
theorem dX6_readNumber_18 : decode cX6_readNumber 18 = .ok (.getfield 9, 3) := by decide +kernel
theorem dX6_readNumber_21 : decode cX6_readNumber 21 = .ok (.aload_n 0, 1) := by decide +kernel
theorem dX6_readNumber_22 : decode cX6_readNumber 22 = .ok (.getfield 25, 3) := by decide +kernel
theorem dX6_readNumber_25 : decode cX6_readNumber 25 = .ok (.iaload, 1) := by decide +kernel
theorem dX6_readNumber_26 : decode cX6_readNumber 26 = .ok (.bipush 57, 2) := by decide +kernel
theorem dX6_readNumber_28 : decode cX6_readNumber 28 = .ok (.invokestatic 49, 3) := by decide +kernel
theorem dX6_readNumber_31 : decode cX6_readNumber 31 = .ok (.ifCond .eq 42, 3) := by decide +kernel
theorem dX6_readNumber_34 : decode cX6_readNumber 34 = .ok (.iinc 1 1, 3) := by decide +kernel
theorem dX6_readNumber_37 : decode cX6_readNumber 37 = .ok (.iload_n 1, 1) := by decide +kernel
theorem dX6_readNumber_38 : decode cX6_readNumber 38 = .ok (.iconst 4, 1) := by decide +kernel
theorem dX6_readNumber_39 : decode cX6_readNumber 39 = .ok (.if_icmp .gt 21, 3) := by decide +kernel
theorem dX6_readNumber_42 : decode cX6_readNumber 42 = .ok (.bipush 10, 2) := by decide +kernel
theorem dX6_readNumber_44 : decode cX6_readNumber 44 = .ok (.iload_n 2, 1) := by decide +kernel
theorem dX6_readNumber_45 : decode cX6_readNumber 45 = .ok (.imul, 1) := by decide +kernel
theorem dX6_readNumber_46 : decode cX6_readNumber 46 = .ok (.aload_n 0, 1) := by decide +kernel
theorem dX6_readNumber_47 : decode cX6_readNumber 47 = .ok (.getfield 9, 3) := by decide +kernel
theorem dX6_readNumber_50 : decode cX6_readNumber 50 = .ok (.aload_n 0, 1) := by decide +kernel
theorem dX6_readNumber_51 : decode cX6_readNumber 51 = .ok (.getfield 25, 3) := by decide +kernel
theorem dX6_readNumber_54 : decode cX6_readNumber 54 = .ok (.iaload, 1) := by decide +kernel
theorem dX6_readNumber_55 : decode cX6_readNumber 55 = .ok (.iadd, 1) := by decide +kernel
theorem dX6_readNumber_56 : decode cX6_readNumber 56 = .ok (.bipush 48, 2) := by decide +kernel
theorem dX6_readNumber_58 : decode cX6_readNumber 58 = .ok (.isub, 1) := by decide +kernel
theorem dX6_readNumber_59 : decode cX6_readNumber 59 = .ok (.istore_n 2, 1) := by decide +kernel
theorem dX6_readNumber_60 : decode cX6_readNumber 60 = .ok (.aload_n 0, 1) := by decide +kernel
theorem dX6_readNumber_61 : decode cX6_readNumber 61 = .ok (.dup, 1) := by decide +kernel
theorem dX6_readNumber_62 : decode cX6_readNumber 62 = .ok (.getfield 25, 3) := by decide +kernel
theorem dX6_readNumber_65 : decode cX6_readNumber 65 = .ok (.iconst 1, 1) := by decide +kernel
theorem dX6_readNumber_66 : decode cX6_readNumber 66 = .ok (.iadd, 1) := by decide +kernel
theorem dX6_readNumber_67 : decode cX6_readNumber 67 = .ok (.putfield 25, 3) := by decide +kernel
theorem dX6_readNumber_70 : decode cX6_readNumber 70 = .ok (.goto (-66), 3) := by decide +kernel
theorem dX6_readNumber_73 : decode cX6_readNumber 73 = .ok (.iconst 1, 1) := by decide +kernel
theorem dX6_readNumber_74 : decode cX6_readNumber 74 = .ok (.iload_n 1, 1) := by decide +kernel
theorem dX6_readNumber_75 : decode cX6_readNumber 75 = .ok (.iconst 4, 1) := by decide +kernel
theorem dX6_readNumber_76 : decode cX6_readNumber 76 = .ok (.invokestatic 49, 3) := by decide +kernel
theorem dX6_readNumber_79 : decode cX6_readNumber 79 = .ok (.ifCond .eq 7, 3) := by decide +kernel
theorem dX6_readNumber_82 : decode cX6_readNumber 82 = .ok (.iload_n 2, 1) := by decide +kernel
theorem dX6_readNumber_83 : decode cX6_readNumber 83 = .ok (.goto 4, 3) := by decide +kernel
theorem dX6_readNumber_86 : decode cX6_readNumber 86 = .ok (.iconst (-1), 1) := by decide +kernel
theorem dX6_readNumber_87 : decode cX6_readNumber 87 = .ok (.ireturn, 1) := by decide +kernel
theorem dX6_isKnown_0 : decode cX6_isKnown 0 = .ok (.aload_n 2, 1) := by decide +kernel
theorem dX6_isKnown_1 : decode cX6_isKnown 1 = .ok (.iload_n 1, 1) := by decide +kernel
theorem dX6_isKnown_2 : decode cX6_isKnown 2 = .ok (.invokevirtual 66, 3) := by decide +kernel
theorem dX6_isKnown_5 : decode cX6_isKnown 5 = .ok (.iconst (-1), 1) := by decide +kernel
theorem dX6_isKnown_6 : decode cX6_isKnown 6 = .ok (.if_icmp .eq 5, 3) := by decide +kernel
theorem dX6_isKnown_9 : decode cX6_isKnown 9 = .ok (.iconst 1, 1) := by decide +kernel
theorem dX6_isKnown_10 : decode cX6_isKnown 10 = .ok (.ireturn, 1) := by decide +kernel
theorem dX6_isKnown_11 : decode cX6_isKnown 11 = .ok (.iconst 0, 1) := by decide +kernel
theorem dX6_isKnown_12 : decode cX6_isKnown 12 = .ok (.istore_n 3, 1) := by decide +kernel
theorem dX6_isKnown_13 : decode cX6_isKnown 13 = .ok (.iload_n 3, 1) := by decide +kernel
theorem dX6_isKnown_14 : decode cX6_isKnown 14 = .ok (.aload_n 0, 1) := by decide +kernel
theorem dX6_isKnown_15 : decode cX6_isKnown 15 = .ok (.getfield 28, 3) := by decide +kernel
theorem dX6_isKnown_18 : decode cX6_isKnown 18 = .ok (.if_icmp .ge 21, 3) := by decide +kernel
theorem dX6_isKnown_21 : decode cX6_isKnown 21 = .ok (.aload_n 0, 1) := by decide +kernel
theorem dX6_isKnown_22 : decode cX6_isKnown 22 = .ok (.getfield 15, 3) := by decide +kernel
theorem dX6_isKnown_25 : decode cX6_isKnown 25 = .ok (.iload_n 3, 1) := by decide +kernel
theorem dX6_isKnown_26 : decode cX6_isKnown 26 = .ok (.iaload, 1) := by decide +kernel
theorem dX6_isKnown_27 : decode cX6_isKnown 27 = .ok (.iload_n 1, 1) := by decide +kernel
theorem dX6_isKnown_28 : decode cX6_isKnown 28 = .ok (.if_icmp .ne 5, 3) := by decide +kernel
theorem dX6_isKnown_31 : decode cX6_isKnown 31 = .ok (.iconst 1, 1) := by decide +kernel
theorem dX6_isKnown_32 : decode cX6_isKnown 32 = .ok (.ireturn, 1) := by decide +kernel
theorem dX6_isKnown_33 : decode cX6_isKnown 33 = .ok (.iinc 3 1, 3) := by decide +kernel
theorem dX6_isKnown_36 : decode cX6_isKnown 36 = .ok (.goto (-23), 3) := by decide +kernel
theorem dX6_isKnown_39 : decode cX6_isKnown 39 = .ok (.iconst 0, 1) := by decide +kernel
theorem dX6_isKnown_40 : decode cX6_isKnown 40 = .ok (.ireturn, 1) := by decide +kernel
theorem dX6_keep_0 : decode cX6_keep 0 = .ok (.aload_n 0, 1) := by decide +kernel
theorem dX6_keep_1 : decode cX6_keep 1 = .ok (.getfield 28, 3) := by decide +kernel
theorem dX6_keep_4 : decode cX6_keep 4 = .ok (.bipush 50, 2) := by decide +kernel
theorem dX6_keep_6 : decode cX6_keep 6 = .ok (.if_icmp .ge 33, 3) := by decide +kernel
theorem dX6_keep_9 : decode cX6_keep 9 = .ok (.aload_n 0, 1) := by decide +kernel
theorem dX6_keep_10 : decode cX6_keep 10 = .ok (.getfield 15, 3) := by decide +kernel
theorem dX6_keep_13 : decode cX6_keep 13 = .ok (.aload_n 0, 1) := by decide +kernel
theorem dX6_keep_14 : decode cX6_keep 14 = .ok (.getfield 28, 3) := by decide +kernel
theorem dX6_keep_17 : decode cX6_keep 17 = .ok (.iload_n 1, 1) := by decide +kernel
theorem dX6_keep_18 : decode cX6_keep 18 = .ok (.iastore, 1) := by decide +kernel
theorem dX6_keep_19 : decode cX6_keep 19 = .ok (.aload_n 0, 1) := by decide +kernel
theorem dX6_keep_20 : decode cX6_keep 20 = .ok (.getfield 18, 3) := by decide +kernel
theorem dX6_keep_23 : decode cX6_keep 23 = .ok (.aload_n 0, 1) := by decide +kernel
theorem dX6_keep_24 : decode cX6_keep 24 = .ok (.getfield 28, 3) := by decide +kernel
theorem dX6_keep_27 : decode cX6_keep 27 = .ok (.iload_n 2, 1) := by decide +kernel
theorem dX6_keep_28 : decode cX6_keep 28 = .ok (.iastore, 1) := by decide +kernel
theorem dX6_keep_29 : decode cX6_keep 29 = .ok (.aload_n 0, 1) := by decide +kernel
theorem dX6_keep_30 : decode cX6_keep 30 = .ok (.dup, 1) := by decide +kernel
theorem dX6_keep_31 : decode cX6_keep 31 = .ok (.getfield 28, 3) := by decide +kernel
theorem dX6_keep_34 : decode cX6_keep 34 = .ok (.iconst 1, 1) := by decide +kernel
theorem dX6_keep_35 : decode cX6_keep 35 = .ok (.iadd, 1) := by decide +kernel
theorem dX6_keep_36 : decode cX6_keep 36 = .ok (.putfield 28, 3) := by decide +kernel
theorem dX6_keep_39 : decode cX6_keep 39 = .ok (.return_, 1) := by decide +kernel
theorem dX6_fits_0 : decode cX6_fits 0 = .ok (.iconst 0, 1) := by decide +kernel
theorem dX6_fits_1 : decode cX6_fits 1 = .ok (.istore_n 2, 1) := by decide +kernel
theorem dX6_fits_2 : decode cX6_fits 2 = .ok (.iload_n 2, 1) := by decide +kernel
theorem dX6_fits_3 : decode cX6_fits 3 = .ok (.aload_n 0, 1) := by decide +kernel
theorem dX6_fits_4 : decode cX6_fits 4 = .ok (.getfield 28, 3) := by decide +kernel
theorem dX6_fits_7 : decode cX6_fits 7 = .ok (.if_icmp .ge 55, 3) := by decide +kernel
theorem dX6_fits_10 : decode cX6_fits 10 = .ok (.aload_n 1, 1) := by decide +kernel
theorem dX6_fits_11 : decode cX6_fits 11 = .ok (.aload_n 0, 1) := by decide +kernel
theorem dX6_fits_12 : decode cX6_fits 12 = .ok (.getfield 15, 3) := by decide +kernel
theorem dX6_fits_15 : decode cX6_fits 15 = .ok (.iload_n 2, 1) := by decide +kernel
theorem dX6_fits_16 : decode cX6_fits 16 = .ok (.iaload, 1) := by decide +kernel
theorem dX6_fits_17 : decode cX6_fits 17 = .ok (.invokevirtual 66, 3) := by decide +kernel
theorem dX6_fits_20 : decode cX6_fits 20 = .ok (.istore_n 3, 1) := by decide +kernel
theorem dX6_fits_21 : decode cX6_fits 21 = .ok (.iload_n 3, 1) := by decide +kernel
theorem dX6_fits_22 : decode cX6_fits 22 = .ok (.iconst (-1), 1) := by decide +kernel
theorem dX6_fits_23 : decode cX6_fits 23 = .ok (.if_icmp .eq 33, 3) := by decide +kernel
theorem dX6_fits_26 : decode cX6_fits 26 = .ok (.aload_n 1, 1) := by decide +kernel
theorem dX6_fits_27 : decode cX6_fits 27 = .ok (.iconst 0, 1) := by decide +kernel
theorem dX6_fits_28 : decode cX6_fits 28 = .ok (.invokevirtual 70, 3) := by decide +kernel
theorem dX6_fits_31 : decode cX6_fits 31 = .ok (.getfield 74, 3) := by decide +kernel
theorem dX6_fits_34 : decode cX6_fits 34 = .ok (.iload_n 3, 1) := by decide +kernel
theorem dX6_fits_35 : decode cX6_fits 35 = .ok (.laload, 1) := by decide +kernel
theorem dX6_fits_36 : decode cX6_fits 36 = .ok (.aload_n 0, 1) := by decide +kernel
theorem dX6_fits_37 : decode cX6_fits 37 = .ok (.aload_n 0, 1) := by decide +kernel
theorem dX6_fits_38 : decode cX6_fits 38 = .ok (.getfield 15, 3) := by decide +kernel
theorem dX6_fits_41 : decode cX6_fits 41 = .ok (.iload_n 2, 1) := by decide +kernel
theorem dX6_fits_42 : decode cX6_fits 42 = .ok (.iaload, 1) := by decide +kernel
theorem dX6_fits_43 : decode cX6_fits 43 = .ok (.invokevirtual 80, 3) := by decide +kernel
theorem dX6_fits_46 : decode cX6_fits 46 = .ok (.ladd, 1) := by decide +kernel
theorem dX6_fits_47 : decode cX6_fits 47 = .ok (.ldc2_w 84, 3) := by decide +kernel
theorem dX6_fits_50 : decode cX6_fits 50 = .ok (.lcmp, 1) := by decide +kernel
theorem dX6_fits_51 : decode cX6_fits 51 = .ok (.ifCond .le 5, 3) := by decide +kernel
theorem dX6_fits_54 : decode cX6_fits 54 = .ok (.iconst 0, 1) := by decide +kernel
theorem dX6_fits_55 : decode cX6_fits 55 = .ok (.ireturn, 1) := by decide +kernel
theorem dX6_fits_56 : decode cX6_fits 56 = .ok (.iinc 2 1, 3) := by decide +kernel
theorem dX6_fits_59 : decode cX6_fits 59 = .ok (.goto (-57), 3) := by decide +kernel
theorem dX6_fits_62 : decode cX6_fits 62 = .ok (.iconst 1, 1) := by decide +kernel
theorem dX6_fits_63 : decode cX6_fits 63 = .ok (.ireturn, 1) := by decide +kernel
theorem dX6_sumFor_0 : decode cX6_sumFor 0 = .ok (.lconst 0, 1) := by decide +kernel
theorem dX6_sumFor_1 : decode cX6_sumFor 1 = .ok (.lstore_n 2, 1) := by decide +kernel
theorem dX6_sumFor_2 : decode cX6_sumFor 2 = .ok (.iconst 0, 1) := by decide +kernel
theorem dX6_sumFor_3 : decode cX6_sumFor 3 = .ok (.istore 4, 2) := by decide +kernel
theorem dX6_sumFor_5 : decode cX6_sumFor 5 = .ok (.iload 4, 2) := by decide +kernel
theorem dX6_sumFor_7 : decode cX6_sumFor 7 = .ok (.aload_n 0, 1) := by decide +kernel
theorem dX6_sumFor_8 : decode cX6_sumFor 8 = .ok (.getfield 28, 3) := by decide +kernel
theorem dX6_sumFor_11 : decode cX6_sumFor 11 = .ok (.if_icmp .ge 35, 3) := by decide +kernel
theorem dX6_sumFor_14 : decode cX6_sumFor 14 = .ok (.lload_n 2, 1) := by decide +kernel
theorem dX6_sumFor_15 : decode cX6_sumFor 15 = .ok (.aload_n 0, 1) := by decide +kernel
theorem dX6_sumFor_16 : decode cX6_sumFor 16 = .ok (.getfield 15, 3) := by decide +kernel
theorem dX6_sumFor_19 : decode cX6_sumFor 19 = .ok (.iload 4, 2) := by decide +kernel
theorem dX6_sumFor_21 : decode cX6_sumFor 21 = .ok (.iaload, 1) := by decide +kernel
theorem dX6_sumFor_22 : decode cX6_sumFor 22 = .ok (.iload_n 1, 1) := by decide +kernel
theorem dX6_sumFor_23 : decode cX6_sumFor 23 = .ok (.if_icmp .ne 14, 3) := by decide +kernel
theorem dX6_sumFor_26 : decode cX6_sumFor 26 = .ok (.aload_n 0, 1) := by decide +kernel
theorem dX6_sumFor_27 : decode cX6_sumFor 27 = .ok (.getfield 18, 3) := by decide +kernel
theorem dX6_sumFor_30 : decode cX6_sumFor 30 = .ok (.iload 4, 2) := by decide +kernel
theorem dX6_sumFor_32 : decode cX6_sumFor 32 = .ok (.iaload, 1) := by decide +kernel
theorem dX6_sumFor_33 : decode cX6_sumFor 33 = .ok (.i2l, 1) := by decide +kernel
theorem dX6_sumFor_34 : decode cX6_sumFor 34 = .ok (.goto 4, 3) := by decide +kernel
theorem dX6_sumFor_37 : decode cX6_sumFor 37 = .ok (.lconst 0, 1) := by decide +kernel
theorem dX6_sumFor_38 : decode cX6_sumFor 38 = .ok (.ladd, 1) := by decide +kernel
theorem dX6_sumFor_39 : decode cX6_sumFor 39 = .ok (.lstore_n 2, 1) := by decide +kernel
theorem dX6_sumFor_40 : decode cX6_sumFor 40 = .ok (.iinc 4 1, 3) := by decide +kernel
theorem dX6_sumFor_43 : decode cX6_sumFor 43 = .ok (.goto (-38), 3) := by decide +kernel
theorem dX6_sumFor_46 : decode cX6_sumFor 46 = .ok (.lload_n 2, 1) := by decide +kernel
theorem dX6_sumFor_47 : decode cX6_sumFor 47 = .ok (.lreturn, 1) := by decide +kernel
theorem dX7_init_0 : decode cX7_init 0 = .ok (.aload_n 0, 1) := by decide +kernel
theorem dX7_init_1 : decode cX7_init 1 = .ok (.invokespecial 3, 3) := by decide +kernel
theorem dX7_init_4 : decode cX7_init 4 = .ok (.aload_n 0, 1) := by decide +kernel
theorem dX7_init_5 : decode cX7_init 5 = .ok (.new 9, 3) := by decide +kernel
theorem dX7_init_8 : decode cX7_init 8 = .ok (.dup, 1) := by decide +kernel
theorem dX7_init_9 : decode cX7_init 9 = .ok (.invokespecial 11, 3) := by decide +kernel
theorem dX7_init_12 : decode cX7_init 12 = .ok (.putfield 12, 3) := by decide +kernel
theorem dX7_init_15 : decode cX7_init 15 = .ok (.aload_n 0, 1) := by decide +kernel
theorem dX7_init_16 : decode cX7_init 16 = .ok (.new 16, 3) := by decide +kernel
theorem dX7_init_19 : decode cX7_init 19 = .ok (.dup, 1) := by decide +kernel
theorem dX7_init_20 : decode cX7_init 20 = .ok (.invokespecial 18, 3) := by decide +kernel
theorem dX7_init_23 : decode cX7_init 23 = .ok (.putfield 19, 3) := by decide +kernel
theorem dX7_init_26 : decode cX7_init 26 = .ok (.aload_n 0, 1) := by decide +kernel
theorem dX7_init_27 : decode cX7_init 27 = .ok (.new 23, 3) := by decide +kernel
theorem dX7_init_30 : decode cX7_init 30 = .ok (.dup, 1) := by decide +kernel
theorem dX7_init_31 : decode cX7_init 31 = .ok (.invokespecial 25, 3) := by decide +kernel
theorem dX7_init_34 : decode cX7_init 34 = .ok (.putfield 26, 3) := by decide +kernel
theorem dX7_init_37 : decode cX7_init 37 = .ok (.aload_n 0, 1) := by decide +kernel
theorem dX7_init_38 : decode cX7_init 38 = .ok (.new 30, 3) := by decide +kernel
theorem dX7_init_41 : decode cX7_init 41 = .ok (.dup, 1) := by decide +kernel
theorem dX7_init_42 : decode cX7_init 42 = .ok (.invokespecial 32, 3) := by decide +kernel
theorem dX7_init_45 : decode cX7_init 45 = .ok (.putfield 33, 3) := by decide +kernel
theorem dX7_init_48 : decode cX7_init 48 = .ok (.aload_n 0, 1) := by decide +kernel
theorem dX7_init_49 : decode cX7_init 49 = .ok (.new 9, 3) := by decide +kernel
theorem dX7_init_52 : decode cX7_init 52 = .ok (.dup, 1) := by decide +kernel
theorem dX7_init_53 : decode cX7_init 53 = .ok (.invokespecial 11, 3) := by decide +kernel
theorem dX7_init_56 : decode cX7_init 56 = .ok (.putfield 37, 3) := by decide +kernel
theorem dX7_init_59 : decode cX7_init 59 = .ok (.return_, 1) := by decide +kernel
theorem dX7_setFirst_0 : decode cX7_setFirst 0 = .ok (.iconst 2, 1) := by decide +kernel
theorem dX7_setFirst_1 : decode cX7_setFirst 1 = .ok (.iload_n 1, 1) := by decide +kernel
theorem dX7_setFirst_2 : decode cX7_setFirst 2 = .ok (.bipush 24, 2) := by decide +kernel
theorem dX7_setFirst_4 : decode cX7_setFirst 4 = .ok (.invokestatic 40, 3) := by decide +kernel
theorem dX7_setFirst_7 : decode cX7_setFirst 7 = .ok (.ifCond .eq 22, 3) := by decide +kernel
theorem dX7_setFirst_10 : decode cX7_setFirst 10 = .ok (.iconst 1, 1) := by decide +kernel
theorem dX7_setFirst_11 : decode cX7_setFirst 11 = .ok (.iload_n 2, 1) := by decide +kernel
theorem dX7_setFirst_12 : decode cX7_setFirst 12 = .ok (.bipush 8, 2) := by decide +kernel
theorem dX7_setFirst_14 : decode cX7_setFirst 14 = .ok (.invokestatic 40, 3) := by decide +kernel
theorem dX7_setFirst_17 : decode cX7_setFirst 17 = .ok (.ifCond .eq 12, 3) := by decide +kernel
theorem dX7_setFirst_20 : decode cX7_setFirst 20 = .ok (.iconst 1, 1) := by decide +kernel
theorem dX7_setFirst_21 : decode cX7_setFirst 21 = .ok (.iload_n 3, 1) := by decide +kernel
theorem dX7_setFirst_22 : decode cX7_setFirst 22 = .ok (.iconst 4, 1) := by decide +kernel
theorem dX7_setFirst_23 : decode cX7_setFirst 23 = .ok (.invokestatic 40, 3) := by decide +kernel
theorem dX7_setFirst_26 : decode cX7_setFirst 26 = .ok (.ifCond .ne 6, 3) := by decide +kernel
theorem dX7_setFirst_29 : decode cX7_setFirst 29 = .ok (.bipush (-3), 2) := by decide +kernel
theorem dX7_setFirst_31 : decode cX7_setFirst 31 = .ok (.ireturn, 1) := by decide +kernel
theorem dX7_setFirst_32 : decode cX7_setFirst 32 = .ok (.aload_n 0, 1) := by decide +kernel
theorem dX7_setFirst_33 : decode cX7_setFirst 33 = .ok (.getfield 19, 3) := by decide +kernel
theorem dX7_setFirst_36 : decode cX7_setFirst 36 = .ok (.aload_n 0, 1) := by decide +kernel
theorem dX7_setFirst_37 : decode cX7_setFirst 37 = .ok (.getfield 12, 3) := by decide +kernel
theorem dX7_setFirst_40 : decode cX7_setFirst 40 = .ok (.invokevirtual 44, 3) := by decide +kernel
theorem dX7_setFirst_43 : decode cX7_setFirst 43 = .ok (.aload_n 0, 1) := by decide +kernel
theorem dX7_setFirst_44 : decode cX7_setFirst 44 = .ok (.getfield 12, 3) := by decide +kernel
theorem dX7_setFirst_47 : decode cX7_setFirst 47 = .ok (.getfield 48, 3) := by decide +kernel
theorem dX7_setFirst_50 : decode cX7_setFirst 50 = .ok (.getfield 52, 3) := by decide +kernel
theorem dX7_setFirst_53 : decode cX7_setFirst 53 = .ok (.istore 4, 2) := by decide +kernel
theorem dX7_setFirst_55 : decode cX7_setFirst 55 = .ok (.aload_n 0, 1) := by decide +kernel
theorem dX7_setFirst_56 : decode cX7_setFirst 56 = .ok (.getfield 12, 3) := by decide +kernel
theorem dX7_setFirst_59 : decode cX7_setFirst 59 = .ok (.getfield 48, 3) := by decide +kernel
theorem dX7_setFirst_62 : decode cX7_setFirst 62 = .ok (.iload_n 1, 1) := by decide +kernel
theorem dX7_setFirst_63 : decode cX7_setFirst 63 = .ok (.putfield 52, 3) := by decide +kernel
theorem dX7_setFirst_66 : decode cX7_setFirst 66 = .ok (.aload_n 0, 1) := by decide +kernel
theorem dX7_setFirst_67 : decode cX7_setFirst 67 = .ok (.getfield 12, 3) := by decide +kernel
theorem dX7_setFirst_70 : decode cX7_setFirst 70 = .ok (.getfield 48, 3) := by decide +kernel
theorem dX7_setFirst_73 : decode cX7_setFirst 73 = .ok (.iload_n 2, 1) := by decide +kernel
theorem dX7_setFirst_74 : decode cX7_setFirst 74 = .ok (.putfield 58, 3) := by decide +kernel
theorem dX7_setFirst_77 : decode cX7_setFirst 77 = .ok (.aload_n 0, 1) := by decide +kernel
theorem dX7_setFirst_78 : decode cX7_setFirst 78 = .ok (.getfield 12, 3) := by decide +kernel
theorem dX7_setFirst_81 : decode cX7_setFirst 81 = .ok (.getfield 48, 3) := by decide +kernel
theorem dX7_setFirst_84 : decode cX7_setFirst 84 = .ok (.iload_n 3, 1) := by decide +kernel
theorem dX7_setFirst_85 : decode cX7_setFirst 85 = .ok (.putfield 61, 3) := by decide +kernel
theorem dX7_setFirst_88 : decode cX7_setFirst 88 = .ok (.aload_n 0, 1) := by decide +kernel
theorem dX7_setFirst_89 : decode cX7_setFirst 89 = .ok (.getfield 12, 3) := by decide +kernel
theorem dX7_setFirst_92 : decode cX7_setFirst 92 = .ok (.invokevirtual 64, 3) := by decide +kernel
theorem dX7_setFirst_95 : decode cX7_setFirst 95 = .ok (.iload 4, 2) := by decide +kernel
theorem dX7_setFirst_97 : decode cX7_setFirst 97 = .ok (.ireturn, 1) := by decide +kernel
theorem dX7_setSecond_0 : decode cX7_setSecond 0 = .ok (.iconst 1, 1) := by decide +kernel
theorem dX7_setSecond_1 : decode cX7_setSecond 1 = .ok (.iload_n 1, 1) := by decide +kernel
theorem dX7_setSecond_2 : decode cX7_setSecond 2 = .ok (.bipush 16, 2) := by decide +kernel
theorem dX7_setSecond_4 : decode cX7_setSecond 4 = .ok (.invokestatic 40, 3) := by decide +kernel
theorem dX7_setSecond_7 : decode cX7_setSecond 7 = .ok (.ifCond .eq 12, 3) := by decide +kernel
theorem dX7_setSecond_10 : decode cX7_setSecond 10 = .ok (.iconst 1, 1) := by decide +kernel
theorem dX7_setSecond_11 : decode cX7_setSecond 11 = .ok (.iload_n 2, 1) := by decide +kernel
theorem dX7_setSecond_12 : decode cX7_setSecond 12 = .ok (.iconst 3, 1) := by decide +kernel
theorem dX7_setSecond_13 : decode cX7_setSecond 13 = .ok (.invokestatic 40, 3) := by decide +kernel
theorem dX7_setSecond_16 : decode cX7_setSecond 16 = .ok (.ifCond .ne 6, 3) := by decide +kernel
theorem dX7_setSecond_19 : decode cX7_setSecond 19 = .ok (.bipush (-3), 2) := by decide +kernel
theorem dX7_setSecond_21 : decode cX7_setSecond 21 = .ok (.ireturn, 1) := by decide +kernel
theorem dX7_setSecond_22 : decode cX7_setSecond 22 = .ok (.aload_n 0, 1) := by decide +kernel
theorem dX7_setSecond_23 : decode cX7_setSecond 23 = .ok (.getfield 19, 3) := by decide +kernel
theorem dX7_setSecond_26 : decode cX7_setSecond 26 = .ok (.aload_n 0, 1) := by decide +kernel
theorem dX7_setSecond_27 : decode cX7_setSecond 27 = .ok (.getfield 12, 3) := by decide +kernel
theorem dX7_setSecond_30 : decode cX7_setSecond 30 = .ok (.invokevirtual 44, 3) := by decide +kernel
theorem dX7_setSecond_33 : decode cX7_setSecond 33 = .ok (.aload_n 0, 1) := by decide +kernel
theorem dX7_setSecond_34 : decode cX7_setSecond 34 = .ok (.getfield 12, 3) := by decide +kernel
theorem dX7_setSecond_37 : decode cX7_setSecond 37 = .ok (.getfield 48, 3) := by decide +kernel
theorem dX7_setSecond_40 : decode cX7_setSecond 40 = .ok (.getfield 67, 3) := by decide +kernel
theorem dX7_setSecond_43 : decode cX7_setSecond 43 = .ok (.istore_n 3, 1) := by decide +kernel
theorem dX7_setSecond_44 : decode cX7_setSecond 44 = .ok (.aload_n 0, 1) := by decide +kernel
theorem dX7_setSecond_45 : decode cX7_setSecond 45 = .ok (.getfield 12, 3) := by decide +kernel
theorem dX7_setSecond_48 : decode cX7_setSecond 48 = .ok (.getfield 48, 3) := by decide +kernel
theorem dX7_setSecond_51 : decode cX7_setSecond 51 = .ok (.iload_n 1, 1) := by decide +kernel
theorem dX7_setSecond_52 : decode cX7_setSecond 52 = .ok (.putfield 67, 3) := by decide +kernel
theorem dX7_setSecond_55 : decode cX7_setSecond 55 = .ok (.aload_n 0, 1) := by decide +kernel
theorem dX7_setSecond_56 : decode cX7_setSecond 56 = .ok (.getfield 12, 3) := by decide +kernel
theorem dX7_setSecond_59 : decode cX7_setSecond 59 = .ok (.getfield 48, 3) := by decide +kernel
theorem dX7_setSecond_62 : decode cX7_setSecond 62 = .ok (.iload_n 2, 1) := by decide +kernel
theorem dX7_setSecond_63 : decode cX7_setSecond 63 = .ok (.putfield 70, 3) := by decide +kernel
theorem dX7_setSecond_66 : decode cX7_setSecond 66 = .ok (.aload_n 0, 1) := by decide +kernel
theorem dX7_setSecond_67 : decode cX7_setSecond 67 = .ok (.getfield 12, 3) := by decide +kernel
theorem dX7_setSecond_70 : decode cX7_setSecond 70 = .ok (.invokevirtual 64, 3) := by decide +kernel
theorem dX7_setSecond_73 : decode cX7_setSecond 73 = .ok (.iload_n 3, 1) := by decide +kernel
theorem dX7_setSecond_74 : decode cX7_setSecond 74 = .ok (.ireturn, 1) := by decide +kernel
theorem dX7_setRounds_0 : decode cX7_setRounds 0 = .ok (.iconst 0, 1) := by decide +kernel
theorem dX7_setRounds_1 : decode cX7_setRounds 1 = .ok (.iload_n 1, 1) := by decide +kernel
theorem dX7_setRounds_2 : decode cX7_setRounds 2 = .ok (.bipush 60, 2) := by decide +kernel
theorem dX7_setRounds_4 : decode cX7_setRounds 4 = .ok (.invokestatic 40, 3) := by decide +kernel
theorem dX7_setRounds_7 : decode cX7_setRounds 7 = .ok (.ifCond .ne 6, 3) := by decide +kernel
theorem dX7_setRounds_10 : decode cX7_setRounds 10 = .ok (.bipush (-3), 2) := by decide +kernel
theorem dX7_setRounds_12 : decode cX7_setRounds 12 = .ok (.ireturn, 1) := by decide +kernel
theorem dX7_setRounds_13 : decode cX7_setRounds 13 = .ok (.aload_n 0, 1) := by decide +kernel
theorem dX7_setRounds_14 : decode cX7_setRounds 14 = .ok (.getfield 19, 3) := by decide +kernel
theorem dX7_setRounds_17 : decode cX7_setRounds 17 = .ok (.aload_n 0, 1) := by decide +kernel
theorem dX7_setRounds_18 : decode cX7_setRounds 18 = .ok (.getfield 12, 3) := by decide +kernel
theorem dX7_setRounds_21 : decode cX7_setRounds 21 = .ok (.invokevirtual 44, 3) := by decide +kernel
theorem dX7_setRounds_24 : decode cX7_setRounds 24 = .ok (.aload_n 0, 1) := by decide +kernel
theorem dX7_setRounds_25 : decode cX7_setRounds 25 = .ok (.getfield 12, 3) := by decide +kernel
theorem dX7_setRounds_28 : decode cX7_setRounds 28 = .ok (.getfield 48, 3) := by decide +kernel
theorem dX7_setRounds_31 : decode cX7_setRounds 31 = .ok (.getfield 73, 3) := by decide +kernel
theorem dX7_setRounds_34 : decode cX7_setRounds 34 = .ok (.istore_n 2, 1) := by decide +kernel
theorem dX7_setRounds_35 : decode cX7_setRounds 35 = .ok (.aload_n 0, 1) := by decide +kernel
theorem dX7_setRounds_36 : decode cX7_setRounds 36 = .ok (.getfield 12, 3) := by decide +kernel
theorem dX7_setRounds_39 : decode cX7_setRounds 39 = .ok (.getfield 48, 3) := by decide +kernel
theorem dX7_setRounds_42 : decode cX7_setRounds 42 = .ok (.iload_n 1, 1) := by decide +kernel
theorem dX7_setRounds_43 : decode cX7_setRounds 43 = .ok (.putfield 73, 3) := by decide +kernel
theorem dX7_setRounds_46 : decode cX7_setRounds 46 = .ok (.iload_n 2, 1) := by decide +kernel
theorem dX7_setRounds_47 : decode cX7_setRounds 47 = .ok (.ireturn, 1) := by decide +kernel
theorem dX7_form_0 : decode cX7_form 0 = .ok (.iconst 0, 1) := by decide +kernel
theorem dX7_form_1 : decode cX7_form 1 = .ok (.iload_n 1, 1) := by decide +kernel
theorem dX7_form_2 : decode cX7_form 2 = .ok (.bipush 6, 2) := by decide +kernel
theorem dX7_form_4 : decode cX7_form 4 = .ok (.invokestatic 40, 3) := by decide +kernel
theorem dX7_form_7 : decode cX7_form 7 = .ok (.ifCond .eq 14, 3) := by decide +kernel
theorem dX7_form_10 : decode cX7_form 10 = .ok (.aload_n 0, 1) := by decide +kernel
theorem dX7_form_11 : decode cX7_form 11 = .ok (.getfield 12, 3) := by decide +kernel
theorem dX7_form_14 : decode cX7_form 14 = .ok (.iload_n 1, 1) := by decide +kernel
theorem dX7_form_15 : decode cX7_form 15 = .ok (.invokevirtual 76, 3) := by decide +kernel
theorem dX7_form_18 : decode cX7_form 18 = .ok (.goto 5, 3) := by decide +kernel
theorem dX7_form_21 : decode cX7_form 21 = .ok (.bipush (-3), 2) := by decide +kernel
theorem dX7_form_23 : decode cX7_form 23 = .ok (.ireturn, 1) := by decide +kernel
theorem dX7_addFlow_0 : decode cX7_addFlow 0 = .ok (.iconst 0, 1) := by decide +kernel
theorem dX7_addFlow_1 : decode cX7_addFlow 1 = .ok (.iload_n 1, 1) := by decide +kernel
theorem dX7_addFlow_2 : decode cX7_addFlow 2 = .ok (.sipush 999, 3) := by decide +kernel
theorem dX7_addFlow_5 : decode cX7_addFlow 5 = .ok (.invokestatic 40, 3) := by decide +kernel
theorem dX7_addFlow_8 : decode cX7_addFlow 8 = .ok (.ifCond .ne 6, 3) := by decide +kernel
theorem dX7_addFlow_11 : decode cX7_addFlow 11 = .ok (.bipush (-3), 2) := by decide +kernel
theorem dX7_addFlow_13 : decode cX7_addFlow 13 = .ok (.ireturn, 1) := by decide +kernel
theorem dX7_addFlow_14 : decode cX7_addFlow 14 = .ok (.aload_n 0, 1) := by decide +kernel
theorem dX7_addFlow_15 : decode cX7_addFlow 15 = .ok (.getfield 12, 3) := by decide +kernel
theorem dX7_addFlow_18 : decode cX7_addFlow 18 = .ok (.iload_n 1, 1) := by decide +kernel
theorem dX7_addFlow_19 : decode cX7_addFlow 19 = .ok (.invokevirtual 80, 3) := by decide +kernel
theorem dX7_addFlow_22 : decode cX7_addFlow 22 = .ok (.iconst (-1), 1) := by decide +kernel
theorem dX7_addFlow_23 : decode cX7_addFlow 23 = .ok (.if_icmp .eq 6, 3) := by decide +kernel
theorem dX7_addFlow_26 : decode cX7_addFlow 26 = .ok (.bipush (-4), 2) := by decide +kernel
theorem dX7_addFlow_28 : decode cX7_addFlow 28 = .ok (.ireturn, 1) := by decide +kernel
theorem dX7_addFlow_29 : decode cX7_addFlow 29 = .ok (.aload_n 0, 1) := by decide +kernel
theorem dX7_addFlow_30 : decode cX7_addFlow 30 = .ok (.getfield 12, 3) := by decide +kernel
theorem dX7_addFlow_33 : decode cX7_addFlow 33 = .ok (.getfield 83, 3) := by decide +kernel
theorem dX7_addFlow_36 : decode cX7_addFlow 36 = .ok (.bipush 16, 2) := by decide +kernel
theorem dX7_addFlow_38 : decode cX7_addFlow 38 = .ok (.if_icmp .lt 6, 3) := by decide +kernel
theorem dX7_addFlow_41 : decode cX7_addFlow 41 = .ok (.bipush (-5), 2) := by decide +kernel
theorem dX7_addFlow_43 : decode cX7_addFlow 43 = .ok (.ireturn, 1) := by decide +kernel
theorem dX7_addFlow_44 : decode cX7_addFlow 44 = .ok (.aload_n 0, 1) := by decide +kernel
theorem dX7_addFlow_45 : decode cX7_addFlow 45 = .ok (.getfield 19, 3) := by decide +kernel
theorem dX7_addFlow_48 : decode cX7_addFlow 48 = .ok (.aload_n 0, 1) := by decide +kernel
theorem dX7_addFlow_49 : decode cX7_addFlow 49 = .ok (.getfield 12, 3) := by decide +kernel
theorem dX7_addFlow_52 : decode cX7_addFlow 52 = .ok (.invokevirtual 44, 3) := by decide +kernel
theorem dX7_addFlow_55 : decode cX7_addFlow 55 = .ok (.aload_n 0, 1) := by decide +kernel
theorem dX7_addFlow_56 : decode cX7_addFlow 56 = .ok (.getfield 12, 3) := by decide +kernel
theorem dX7_addFlow_59 : decode cX7_addFlow 59 = .ok (.iload_n 1, 1) := by decide +kernel
theorem dX7_addFlow_60 : decode cX7_addFlow 60 = .ok (.invokevirtual 86, 3) := by decide +kernel
theorem dX7_addFlow_63 : decode cX7_addFlow 63 = .ok (.ireturn, 1) := by decide +kernel
theorem dX7_key_0 : decode cX7_key 0 = .ok (.aload_n 0, 1) := by decide +kernel
theorem dX7_key_1 : decode cX7_key 1 = .ok (.iload_n 1, 1) := by decide +kernel
theorem dX7_key_2 : decode cX7_key 2 = .ok (.invokevirtual 89, 3) := by decide +kernel
theorem dX7_key_5 : decode cX7_key 5 = .ok (.ifCond .eq 15, 3) := by decide +kernel
theorem dX7_key_8 : decode cX7_key 8 = .ok (.aload_n 0, 1) := by decide +kernel
theorem dX7_key_9 : decode cX7_key 9 = .ok (.getfield 12, 3) := by decide +kernel
theorem dX7_key_12 : decode cX7_key 12 = .ok (.getfield 93, 3) := by decide +kernel
theorem dX7_key_15 : decode cX7_key 15 = .ok (.iload_n 1, 1) := by decide +kernel
theorem dX7_key_16 : decode cX7_key 16 = .ok (.iaload, 1) := by decide +kernel
theorem dX7_key_17 : decode cX7_key 17 = .ok (.goto 5, 3) := by decide +kernel
theorem dX7_key_20 : decode cX7_key 20 = .ok (.bipush (-2), 2) := by decide +kernel
theorem dX7_key_22 : decode cX7_key 22 = .ok (.ireturn, 1) := by decide +kernel
theorem dX7_flowOf_0 : decode cX7_flowOf 0 = .ok (.iconst 0, 1) := by decide +kernel
theorem dX7_flowOf_1 : decode cX7_flowOf 1 = .ok (.iload_n 1, 1) := by decide +kernel
theorem dX7_flowOf_2 : decode cX7_flowOf 2 = .ok (.sipush 999, 3) := by decide +kernel
theorem dX7_flowOf_5 : decode cX7_flowOf 5 = .ok (.invokestatic 40, 3) := by decide +kernel
theorem dX7_flowOf_8 : decode cX7_flowOf 8 = .ok (.ifCond .eq 14, 3) := by decide +kernel
theorem dX7_flowOf_11 : decode cX7_flowOf 11 = .ok (.aload_n 0, 1) := by decide +kernel
theorem dX7_flowOf_12 : decode cX7_flowOf 12 = .ok (.getfield 12, 3) := by decide +kernel
theorem dX7_flowOf_15 : decode cX7_flowOf 15 = .ok (.iload_n 1, 1) := by decide +kernel
theorem dX7_flowOf_16 : decode cX7_flowOf 16 = .ok (.invokevirtual 80, 3) := by decide +kernel
theorem dX7_flowOf_19 : decode cX7_flowOf 19 = .ok (.goto 5, 3) := by decide +kernel
theorem dX7_flowOf_22 : decode cX7_flowOf 22 = .ok (.bipush (-3), 2) := by decide +kernel
theorem dX7_flowOf_24 : decode cX7_flowOf 24 = .ok (.ireturn, 1) := by decide +kernel
theorem dX7_places_0 : decode cX7_places 0 = .ok (.aload_n 0, 1) := by decide +kernel
theorem dX7_places_1 : decode cX7_places 1 = .ok (.iload_n 1, 1) := by decide +kernel
theorem dX7_places_2 : decode cX7_places 2 = .ok (.invokevirtual 89, 3) := by decide +kernel
theorem dX7_places_5 : decode cX7_places 5 = .ok (.ifCond .eq 25, 3) := by decide +kernel
theorem dX7_places_8 : decode cX7_places 8 = .ok (.aload_n 0, 1) := by decide +kernel
theorem dX7_places_9 : decode cX7_places 9 = .ok (.getfield 12, 3) := by decide +kernel
theorem dX7_places_12 : decode cX7_places 12 = .ok (.getfield 48, 3) := by decide +kernel
theorem dX7_places_15 : decode cX7_places 15 = .ok (.aload_n 0, 1) := by decide +kernel
theorem dX7_places_16 : decode cX7_places 16 = .ok (.getfield 12, 3) := by decide +kernel
theorem dX7_places_19 : decode cX7_places 19 = .ok (.getfield 93, 3) := by decide +kernel
theorem dX7_places_22 : decode cX7_places 22 = .ok (.iload_n 1, 1) := by decide +kernel
theorem dX7_places_23 : decode cX7_places 23 = .ok (.iaload, 1) := by decide +kernel
theorem dX7_places_24 : decode cX7_places 24 = .ok (.invokevirtual 97, 3) := by decide +kernel
theorem dX7_places_27 : decode cX7_places 27 = .ok (.goto 5, 3) := by decide +kernel
theorem dX7_places_30 : decode cX7_places 30 = .ok (.bipush (-2), 2) := by decide +kernel
theorem dX7_places_32 : decode cX7_places 32 = .ok (.ireturn, 1) := by decide +kernel
theorem dX7_placesAbove_0 : decode cX7_placesAbove 0 = .ok (.aload_n 0, 1) := by decide +kernel
theorem dX7_placesAbove_1 : decode cX7_placesAbove 1 = .ok (.iload_n 1, 1) := by decide +kernel
theorem dX7_placesAbove_2 : decode cX7_placesAbove 2 = .ok (.invokevirtual 100, 3) := by decide +kernel
theorem dX7_placesAbove_5 : decode cX7_placesAbove 5 = .ok (.ifCond .eq 17, 3) := by decide +kernel
theorem dX7_placesAbove_8 : decode cX7_placesAbove 8 = .ok (.aload_n 0, 1) := by decide +kernel
theorem dX7_placesAbove_9 : decode cX7_placesAbove 9 = .ok (.getfield 12, 3) := by decide +kernel
theorem dX7_placesAbove_12 : decode cX7_placesAbove 12 = .ok (.getfield 48, 3) := by decide +kernel
theorem dX7_placesAbove_15 : decode cX7_placesAbove 15 = .ok (.iload_n 1, 1) := by decide +kernel
theorem dX7_placesAbove_16 : decode cX7_placesAbove 16 = .ok (.invokevirtual 103, 3) := by decide +kernel
theorem dX7_placesAbove_19 : decode cX7_placesAbove 19 = .ok (.goto 5, 3) := by decide +kernel
theorem dX7_placesAbove_22 : decode cX7_placesAbove 22 = .ok (.bipush (-2), 2) := by decide +kernel
theorem dX7_placesAbove_24 : decode cX7_placesAbove 24 = .ok (.ireturn, 1) := by decide +kernel
theorem dX7_count_0 : decode cX7_count 0 = .ok (.iload_n 1, 1) := by decide +kernel
theorem dX7_count_1 : decode cX7_count 1 = .ok (.invokestatic 106, 3) := by decide +kernel
theorem dX7_count_4 : decode cX7_count 4 = .ok (.ifCond .eq 11, 3) := by decide +kernel
theorem dX7_count_7 : decode cX7_count 7 = .ok (.aload_n 0, 1) := by decide +kernel
theorem dX7_count_8 : decode cX7_count 8 = .ok (.iload_n 2, 1) := by decide +kernel
theorem dX7_count_9 : decode cX7_count 9 = .ok (.invokevirtual 89, 3) := by decide +kernel
theorem dX7_count_12 : decode cX7_count 12 = .ok (.ifCond .ne 7, 3) := by decide +kernel
theorem dX7_count_15 : decode cX7_count 15 = .ok (.ldc2_w 109, 3) := by decide +kernel
theorem dX7_count_18 : decode cX7_count 18 = .ok (.lreturn, 1) := by decide +kernel
theorem dX7_count_19 : decode cX7_count 19 = .ok (.iconst 1, 1) := by decide +kernel
theorem dX7_count_20 : decode cX7_count 20 = .ok (.iload_n 3, 1) := by decide +kernel
theorem dX7_count_21 : decode cX7_count 21 = .ok (.ldc 111, 2) := by decide +kernel
theorem dX7_count_23 : decode cX7_count 23 = .ok (.invokestatic 40, 3) := by decide +kernel
theorem dX7_count_26 : decode cX7_count 26 = .ok (.ifCond .ne 7, 3) := by decide +kernel
theorem dX7_count_29 : decode cX7_count 29 = .ok (.ldc2_w 112, 3) := by decide +kernel
theorem dX7_count_32 : decode cX7_count 32 = .ok (.lreturn, 1) := by decide +kernel
theorem dX7_count_33 : decode cX7_count 33 = .ok (.aload_n 0, 1) := by decide +kernel
theorem dX7_count_34 : decode cX7_count 34 = .ok (.getfield 12, 3) := by decide +kernel
theorem dX7_count_37 : decode cX7_count 37 = .ok (.iload_n 1, 1) := by decide +kernel
theorem dX7_count_38 : decode cX7_count 38 = .ok (.invokevirtual 114, 3) := by decide +kernel
theorem dX7_count_41 : decode cX7_count 41 = .ok (.astore 4, 2) := by decide +kernel
theorem dX7_count_43 : decode cX7_count 43 = .ok (.aload 4, 2) := by decide +kernel
theorem dX7_count_45 : decode cX7_count 45 = .ok (.getfield 118, 3) := by decide +kernel
theorem dX7_count_48 : decode cX7_count 48 = .ok (.iload_n 2, 1) := by decide +kernel
theorem dX7_count_49 : decode cX7_count 49 = .ok (.laload, 1) := by decide +kernel
theorem dX7_count_50 : decode cX7_count 50 = .ok (.iload_n 3, 1) := by decide +kernel
theorem dX7_count_51 : decode cX7_count 51 = .ok (.i2l, 1) := by decide +kernel
theorem dX7_count_52 : decode cX7_count 52 = .ok (.ladd, 1) := by decide +kernel
theorem dX7_count_53 : decode cX7_count 53 = .ok (.ldc2_w 124, 3) := by decide +kernel
theorem dX7_count_56 : decode cX7_count 56 = .ok (.lcmp, 1) := by decide +kernel
theorem dX7_count_57 : decode cX7_count 57 = .ok (.ifCond .le 7, 3) := by decide +kernel
theorem dX7_count_60 : decode cX7_count 60 = .ok (.ldc2_w 126, 3) := by decide +kernel
theorem dX7_count_63 : decode cX7_count 63 = .ok (.lreturn, 1) := by decide +kernel
theorem dX7_count_64 : decode cX7_count 64 = .ok (.aload_n 0, 1) := by decide +kernel
theorem dX7_count_65 : decode cX7_count 65 = .ok (.getfield 19, 3) := by decide +kernel
theorem dX7_count_68 : decode cX7_count 68 = .ok (.aload_n 0, 1) := by decide +kernel
theorem dX7_count_69 : decode cX7_count 69 = .ok (.getfield 12, 3) := by decide +kernel
theorem dX7_count_72 : decode cX7_count 72 = .ok (.invokevirtual 44, 3) := by decide +kernel
theorem dX7_count_75 : decode cX7_count 75 = .ok (.aload_n 0, 1) := by decide +kernel
theorem dX7_count_76 : decode cX7_count 76 = .ok (.getfield 12, 3) := by decide +kernel
theorem dX7_count_79 : decode cX7_count 79 = .ok (.aload 4, 2) := by decide +kernel
theorem dX7_count_81 : decode cX7_count 81 = .ok (.iload_n 2, 1) := by decide +kernel
theorem dX7_count_82 : decode cX7_count 82 = .ok (.iload_n 3, 1) := by decide +kernel
theorem dX7_count_83 : decode cX7_count 83 = .ok (.i2l, 1) := by decide +kernel
theorem dX7_count_84 : decode cX7_count 84 = .ok (.invokevirtual 128, 3) := by decide +kernel
theorem dX7_count_87 : decode cX7_count 87 = .ok (.aload 4, 2) := by decide +kernel
theorem dX7_count_89 : decode cX7_count 89 = .ok (.getfield 118, 3) := by decide +kernel
theorem dX7_count_92 : decode cX7_count 92 = .ok (.iload_n 2, 1) := by decide +kernel
theorem dX7_count_93 : decode cX7_count 93 = .ok (.laload, 1) := by decide +kernel
theorem dX7_count_94 : decode cX7_count 94 = .ok (.lreturn, 1) := by decide +kernel
theorem dX7_addBraid_0 : decode cX7_addBraid 0 = .ok (.iload_n 1, 1) := by decide +kernel
theorem dX7_addBraid_1 : decode cX7_addBraid 1 = .ok (.invokestatic 106, 3) := by decide +kernel
theorem dX7_addBraid_4 : decode cX7_addBraid 4 = .ok (.ifCond .eq 10, 3) := by decide +kernel
theorem dX7_addBraid_7 : decode cX7_addBraid 7 = .ok (.iload_n 2, 1) := by decide +kernel
theorem dX7_addBraid_8 : decode cX7_addBraid 8 = .ok (.invokestatic 106, 3) := by decide +kernel
theorem dX7_addBraid_11 : decode cX7_addBraid 11 = .ok (.ifCond .ne 6, 3) := by decide +kernel
theorem dX7_addBraid_14 : decode cX7_addBraid 14 = .ok (.bipush (-2), 2) := by decide +kernel
theorem dX7_addBraid_16 : decode cX7_addBraid 16 = .ok (.ireturn, 1) := by decide +kernel
theorem dX7_addBraid_17 : decode cX7_addBraid 17 = .ok (.iload_n 1, 1) := by decide +kernel
theorem dX7_addBraid_18 : decode cX7_addBraid 18 = .ok (.iload_n 2, 1) := by decide +kernel
theorem dX7_addBraid_19 : decode cX7_addBraid 19 = .ok (.if_icmp .ne 6, 3) := by decide +kernel
theorem dX7_addBraid_22 : decode cX7_addBraid 22 = .ok (.bipush (-3), 2) := by decide +kernel
theorem dX7_addBraid_24 : decode cX7_addBraid 24 = .ok (.ireturn, 1) := by decide +kernel
theorem dX7_addBraid_25 : decode cX7_addBraid 25 = .ok (.aload_n 0, 1) := by decide +kernel
theorem dX7_addBraid_26 : decode cX7_addBraid 26 = .ok (.getfield 12, 3) := by decide +kernel
theorem dX7_addBraid_29 : decode cX7_addBraid 29 = .ok (.iload_n 2, 1) := by decide +kernel
theorem dX7_addBraid_30 : decode cX7_addBraid 30 = .ok (.invokevirtual 114, 3) := by decide +kernel
theorem dX7_addBraid_33 : decode cX7_addBraid 33 = .ok (.aload_n 0, 1) := by decide +kernel
theorem dX7_addBraid_34 : decode cX7_addBraid 34 = .ok (.getfield 12, 3) := by decide +kernel
theorem dX7_addBraid_37 : decode cX7_addBraid 37 = .ok (.iload_n 1, 1) := by decide +kernel
theorem dX7_addBraid_38 : decode cX7_addBraid 38 = .ok (.invokevirtual 114, 3) := by decide +kernel
theorem dX7_addBraid_41 : decode cX7_addBraid 41 = .ok (.invokevirtual 132, 3) := by decide +kernel
theorem dX7_addBraid_44 : decode cX7_addBraid 44 = .ok (.ifCond .ne 6, 3) := by decide +kernel
theorem dX7_addBraid_47 : decode cX7_addBraid 47 = .ok (.bipush (-5), 2) := by decide +kernel
theorem dX7_addBraid_49 : decode cX7_addBraid 49 = .ok (.ireturn, 1) := by decide +kernel
theorem dX7_addBraid_50 : decode cX7_addBraid 50 = .ok (.aload_n 0, 1) := by decide +kernel
theorem dX7_addBraid_51 : decode cX7_addBraid 51 = .ok (.getfield 19, 3) := by decide +kernel
theorem dX7_addBraid_54 : decode cX7_addBraid 54 = .ok (.aload_n 0, 1) := by decide +kernel
theorem dX7_addBraid_55 : decode cX7_addBraid 55 = .ok (.getfield 12, 3) := by decide +kernel
theorem dX7_addBraid_58 : decode cX7_addBraid 58 = .ok (.invokevirtual 44, 3) := by decide +kernel
theorem dX7_addBraid_61 : decode cX7_addBraid 61 = .ok (.aload_n 0, 1) := by decide +kernel
theorem dX7_addBraid_62 : decode cX7_addBraid 62 = .ok (.getfield 12, 3) := by decide +kernel
theorem dX7_addBraid_65 : decode cX7_addBraid 65 = .ok (.iload_n 2, 1) := by decide +kernel
theorem dX7_addBraid_66 : decode cX7_addBraid 66 = .ok (.invokevirtual 114, 3) := by decide +kernel
theorem dX7_addBraid_69 : decode cX7_addBraid 69 = .ok (.aload_n 0, 1) := by decide +kernel
theorem dX7_addBraid_70 : decode cX7_addBraid 70 = .ok (.getfield 12, 3) := by decide +kernel
theorem dX7_addBraid_73 : decode cX7_addBraid 73 = .ok (.getfield 48, 3) := by decide +kernel
theorem dX7_addBraid_76 : decode cX7_addBraid 76 = .ok (.aload_n 0, 1) := by decide +kernel
theorem dX7_addBraid_77 : decode cX7_addBraid 77 = .ok (.getfield 12, 3) := by decide +kernel
theorem dX7_addBraid_80 : decode cX7_addBraid 80 = .ok (.iload_n 1, 1) := by decide +kernel
theorem dX7_addBraid_81 : decode cX7_addBraid 81 = .ok (.invokevirtual 114, 3) := by decide +kernel
theorem dX7_addBraid_84 : decode cX7_addBraid 84 = .ok (.invokevirtual 136, 3) := by decide +kernel
theorem dX7_addBraid_87 : decode cX7_addBraid 87 = .ok (.ireturn, 1) := by decide +kernel
theorem dX7_clear_0 : decode cX7_clear 0 = .ok (.iload_n 1, 1) := by decide +kernel
theorem dX7_clear_1 : decode cX7_clear 1 = .ok (.invokestatic 106, 3) := by decide +kernel
theorem dX7_clear_4 : decode cX7_clear 4 = .ok (.ifCond .ne 7, 3) := by decide +kernel
theorem dX7_clear_7 : decode cX7_clear 7 = .ok (.ldc2_w 109, 3) := by decide +kernel
theorem dX7_clear_10 : decode cX7_clear 10 = .ok (.lreturn, 1) := by decide +kernel
theorem dX7_clear_11 : decode cX7_clear 11 = .ok (.aload_n 0, 1) := by decide +kernel
theorem dX7_clear_12 : decode cX7_clear 12 = .ok (.getfield 19, 3) := by decide +kernel
theorem dX7_clear_15 : decode cX7_clear 15 = .ok (.aload_n 0, 1) := by decide +kernel
theorem dX7_clear_16 : decode cX7_clear 16 = .ok (.getfield 12, 3) := by decide +kernel
theorem dX7_clear_19 : decode cX7_clear 19 = .ok (.invokevirtual 44, 3) := by decide +kernel
theorem dX7_clear_22 : decode cX7_clear 22 = .ok (.aload_n 0, 1) := by decide +kernel
theorem dX7_clear_23 : decode cX7_clear 23 = .ok (.getfield 12, 3) := by decide +kernel
theorem dX7_clear_26 : decode cX7_clear 26 = .ok (.iload_n 1, 1) := by decide +kernel
theorem dX7_clear_27 : decode cX7_clear 27 = .ok (.invokevirtual 114, 3) := by decide +kernel
theorem dX7_clear_30 : decode cX7_clear 30 = .ok (.invokevirtual 140, 3) := by decide +kernel
theorem dX7_clear_33 : decode cX7_clear 33 = .ok (.lstore_n 2, 1) := by decide +kernel
theorem dX7_clear_34 : decode cX7_clear 34 = .ok (.aload_n 0, 1) := by decide +kernel
theorem dX7_clear_35 : decode cX7_clear 35 = .ok (.getfield 12, 3) := by decide +kernel
theorem dX7_clear_38 : decode cX7_clear 38 = .ok (.iload_n 1, 1) := by decide +kernel
theorem dX7_clear_39 : decode cX7_clear 39 = .ok (.invokevirtual 114, 3) := by decide +kernel
theorem dX7_clear_42 : decode cX7_clear 42 = .ok (.invokevirtual 144, 3) := by decide +kernel
theorem dX7_clear_45 : decode cX7_clear 45 = .ok (.lload_n 2, 1) := by decide +kernel
theorem dX7_clear_46 : decode cX7_clear 46 = .ok (.lreturn, 1) := by decide +kernel
theorem dX7_truth_0 : decode cX7_truth 0 = .ok (.iload_n 1, 1) := by decide +kernel
theorem dX7_truth_1 : decode cX7_truth 1 = .ok (.invokestatic 106, 3) := by decide +kernel
theorem dX7_truth_4 : decode cX7_truth 4 = .ok (.ifCond .eq 27, 3) := by decide +kernel
theorem dX7_truth_7 : decode cX7_truth 7 = .ok (.aload_n 0, 1) := by decide +kernel
theorem dX7_truth_8 : decode cX7_truth 8 = .ok (.iload_n 2, 1) := by decide +kernel
theorem dX7_truth_9 : decode cX7_truth 9 = .ok (.invokevirtual 89, 3) := by decide +kernel
theorem dX7_truth_12 : decode cX7_truth 12 = .ok (.ifCond .eq 19, 3) := by decide +kernel
theorem dX7_truth_15 : decode cX7_truth 15 = .ok (.aload_n 0, 1) := by decide +kernel
theorem dX7_truth_16 : decode cX7_truth 16 = .ok (.getfield 12, 3) := by decide +kernel
theorem dX7_truth_19 : decode cX7_truth 19 = .ok (.iload_n 1, 1) := by decide +kernel
theorem dX7_truth_20 : decode cX7_truth 20 = .ok (.invokevirtual 114, 3) := by decide +kernel
theorem dX7_truth_23 : decode cX7_truth 23 = .ok (.getfield 118, 3) := by decide +kernel
theorem dX7_truth_26 : decode cX7_truth 26 = .ok (.iload_n 2, 1) := by decide +kernel
theorem dX7_truth_27 : decode cX7_truth 27 = .ok (.laload, 1) := by decide +kernel
theorem dX7_truth_28 : decode cX7_truth 28 = .ok (.goto 6, 3) := by decide +kernel
theorem dX7_truth_31 : decode cX7_truth 31 = .ok (.ldc2_w 109, 3) := by decide +kernel
theorem dX7_truth_34 : decode cX7_truth 34 = .ok (.lreturn, 1) := by decide +kernel
theorem dX7_rest_0 : decode cX7_rest 0 = .ok (.iload_n 1, 1) := by decide +kernel
theorem dX7_rest_1 : decode cX7_rest 1 = .ok (.invokestatic 106, 3) := by decide +kernel
theorem dX7_rest_4 : decode cX7_rest 4 = .ok (.ifCond .eq 27, 3) := by decide +kernel
theorem dX7_rest_7 : decode cX7_rest 7 = .ok (.aload_n 0, 1) := by decide +kernel
theorem dX7_rest_8 : decode cX7_rest 8 = .ok (.iload_n 2, 1) := by decide +kernel
theorem dX7_rest_9 : decode cX7_rest 9 = .ok (.invokevirtual 100, 3) := by decide +kernel
theorem dX7_rest_12 : decode cX7_rest 12 = .ok (.ifCond .eq 19, 3) := by decide +kernel
theorem dX7_rest_15 : decode cX7_rest 15 = .ok (.aload_n 0, 1) := by decide +kernel
theorem dX7_rest_16 : decode cX7_rest 16 = .ok (.getfield 12, 3) := by decide +kernel
theorem dX7_rest_19 : decode cX7_rest 19 = .ok (.iload_n 1, 1) := by decide +kernel
theorem dX7_rest_20 : decode cX7_rest 20 = .ok (.invokevirtual 114, 3) := by decide +kernel
theorem dX7_rest_23 : decode cX7_rest 23 = .ok (.getfield 145, 3) := by decide +kernel
theorem dX7_rest_26 : decode cX7_rest 26 = .ok (.iload_n 2, 1) := by decide +kernel
theorem dX7_rest_27 : decode cX7_rest 27 = .ok (.iaload, 1) := by decide +kernel
theorem dX7_rest_28 : decode cX7_rest 28 = .ok (.goto 5, 3) := by decide +kernel
theorem dX7_rest_31 : decode cX7_rest 31 = .ok (.bipush (-2), 2) := by decide +kernel
theorem dX7_rest_33 : decode cX7_rest 33 = .ok (.ireturn, 1) := by decide +kernel
theorem dX7_isMarked_0 : decode cX7_isMarked 0 = .ok (.iload_n 1, 1) := by decide +kernel
theorem dX7_isMarked_1 : decode cX7_isMarked 1 = .ok (.invokestatic 106, 3) := by decide +kernel
theorem dX7_isMarked_4 : decode cX7_isMarked 4 = .ok (.ifCond .eq 27, 3) := by decide +kernel
theorem dX7_isMarked_7 : decode cX7_isMarked 7 = .ok (.aload_n 0, 1) := by decide +kernel
theorem dX7_isMarked_8 : decode cX7_isMarked 8 = .ok (.iload_n 2, 1) := by decide +kernel
theorem dX7_isMarked_9 : decode cX7_isMarked 9 = .ok (.invokevirtual 100, 3) := by decide +kernel
theorem dX7_isMarked_12 : decode cX7_isMarked 12 = .ok (.ifCond .eq 19, 3) := by decide +kernel
theorem dX7_isMarked_15 : decode cX7_isMarked 15 = .ok (.aload_n 0, 1) := by decide +kernel
theorem dX7_isMarked_16 : decode cX7_isMarked 16 = .ok (.getfield 12, 3) := by decide +kernel
theorem dX7_isMarked_19 : decode cX7_isMarked 19 = .ok (.iload_n 1, 1) := by decide +kernel
theorem dX7_isMarked_20 : decode cX7_isMarked 20 = .ok (.invokevirtual 114, 3) := by decide +kernel
theorem dX7_isMarked_23 : decode cX7_isMarked 23 = .ok (.getfield 148, 3) := by decide +kernel
theorem dX7_isMarked_26 : decode cX7_isMarked 26 = .ok (.iload_n 2, 1) := by decide +kernel
theorem dX7_isMarked_27 : decode cX7_isMarked 27 = .ok (.iaload, 1) := by decide +kernel
theorem dX7_isMarked_28 : decode cX7_isMarked 28 = .ok (.goto 5, 3) := by decide +kernel
theorem dX7_isMarked_31 : decode cX7_isMarked 31 = .ok (.bipush (-2), 2) := by decide +kernel
theorem dX7_isMarked_33 : decode cX7_isMarked 33 = .ok (.ireturn, 1) := by decide +kernel
theorem dX7_above_0 : decode cX7_above 0 = .ok (.iload_n 1, 1) := by decide +kernel
theorem dX7_above_1 : decode cX7_above 1 = .ok (.invokestatic 106, 3) := by decide +kernel
theorem dX7_above_4 : decode cX7_above 4 = .ok (.ifCond .eq 23, 3) := by decide +kernel
theorem dX7_above_7 : decode cX7_above 7 = .ok (.iconst 0, 1) := by decide +kernel
theorem dX7_above_8 : decode cX7_above 8 = .ok (.iload_n 2, 1) := by decide +kernel
theorem dX7_above_9 : decode cX7_above 9 = .ok (.aload_n 0, 1) := by decide +kernel
theorem dX7_above_10 : decode cX7_above 10 = .ok (.getfield 12, 3) := by decide +kernel
theorem dX7_above_13 : decode cX7_above 13 = .ok (.getfield 48, 3) := by decide +kernel
theorem dX7_above_16 : decode cX7_above 16 = .ok (.getfield 67, 3) := by decide +kernel
theorem dX7_above_19 : decode cX7_above 19 = .ok (.iconst 1, 1) := by decide +kernel
theorem dX7_above_20 : decode cX7_above 20 = .ok (.isub, 1) := by decide +kernel
theorem dX7_above_21 : decode cX7_above 21 = .ok (.invokestatic 40, 3) := by decide +kernel
theorem dX7_above_24 : decode cX7_above 24 = .ok (.ifCond .ne 7, 3) := by decide +kernel
theorem dX7_above_27 : decode cX7_above 27 = .ok (.ldc2_w 109, 3) := by decide +kernel
theorem dX7_above_30 : decode cX7_above 30 = .ok (.lreturn, 1) := by decide +kernel
theorem dX7_above_31 : decode cX7_above 31 = .ok (.aload_n 0, 1) := by decide +kernel
theorem dX7_above_32 : decode cX7_above 32 = .ok (.getfield 12, 3) := by decide +kernel
theorem dX7_above_35 : decode cX7_above 35 = .ok (.iload_n 1, 1) := by decide +kernel
theorem dX7_above_36 : decode cX7_above 36 = .ok (.invokevirtual 114, 3) := by decide +kernel
theorem dX7_above_39 : decode cX7_above 39 = .ok (.getfield 151, 3) := by decide +kernel
theorem dX7_above_42 : decode cX7_above 42 = .ok (.iload_n 2, 1) := by decide +kernel
theorem dX7_above_43 : decode cX7_above 43 = .ok (.laload, 1) := by decide +kernel
theorem dX7_above_44 : decode cX7_above 44 = .ok (.lreturn, 1) := by decide +kernel
theorem dX7_overflow_0 : decode cX7_overflow 0 = .ok (.iload_n 1, 1) := by decide +kernel
theorem dX7_overflow_1 : decode cX7_overflow 1 = .ok (.invokestatic 106, 3) := by decide +kernel
theorem dX7_overflow_4 : decode cX7_overflow 4 = .ok (.ifCond .eq 11, 3) := by decide +kernel
theorem dX7_overflow_7 : decode cX7_overflow 7 = .ok (.aload_n 0, 1) := by decide +kernel
theorem dX7_overflow_8 : decode cX7_overflow 8 = .ok (.iload_n 2, 1) := by decide +kernel
theorem dX7_overflow_9 : decode cX7_overflow 9 = .ok (.invokevirtual 100, 3) := by decide +kernel
theorem dX7_overflow_12 : decode cX7_overflow 12 = .ok (.ifCond .ne 7, 3) := by decide +kernel
theorem dX7_overflow_15 : decode cX7_overflow 15 = .ok (.ldc2_w 109, 3) := by decide +kernel
theorem dX7_overflow_18 : decode cX7_overflow 18 = .ok (.lreturn, 1) := by decide +kernel
theorem dX7_overflow_19 : decode cX7_overflow 19 = .ok (.aload_n 0, 1) := by decide +kernel
theorem dX7_overflow_20 : decode cX7_overflow 20 = .ok (.getfield 33, 3) := by decide +kernel
theorem dX7_overflow_23 : decode cX7_overflow 23 = .ok (.aload_n 0, 1) := by decide +kernel
theorem dX7_overflow_24 : decode cX7_overflow 24 = .ok (.getfield 12, 3) := by decide +kernel
theorem dX7_overflow_27 : decode cX7_overflow 27 = .ok (.getfield 48, 3) := by decide +kernel
theorem dX7_overflow_30 : decode cX7_overflow 30 = .ok (.aload_n 0, 1) := by decide +kernel
theorem dX7_overflow_31 : decode cX7_overflow 31 = .ok (.getfield 12, 3) := by decide +kernel
theorem dX7_overflow_34 : decode cX7_overflow 34 = .ok (.iload_n 1, 1) := by decide +kernel
theorem dX7_overflow_35 : decode cX7_overflow 35 = .ok (.invokevirtual 114, 3) := by decide +kernel
theorem dX7_overflow_38 : decode cX7_overflow 38 = .ok (.invokevirtual 154, 3) := by decide +kernel
