theorem dX5_countFlow_65 : decode cX5_countFlow 65 = .ok (.iload 6, 2) := by decide +kernel
theorem dX5_countFlow_67 : decode cX5_countFlow 67 = .ok (.lload_n 3, 1) := by decide +kernel
theorem dX5_countFlow_68 : decode cX5_countFlow 68 = .ok (.invokevirtual 89, 3) := by decide +kernel
theorem dX5_countFlow_71 : decode cX5_countFlow 71 = .ok (.iinc 6 1, 3) := by decide +kernel
theorem dX5_countFlow_74 : decode cX5_countFlow 74 = .ok (.goto (-31), 3) := by decide +kernel
theorem dX5_countFlow_77 : decode cX5_countFlow 77 = .ok (.return_, 1) := by decide +kernel
theorem dX6_init_0 : decode cX6_init 0 = .ok (.aload_n 0, 1) := by decide +kernel
theorem dX6_init_1 : decode cX6_init 1 = .ok (.invokespecial 3, 3) := by decide +kernel
theorem dX6_init_4 : decode cX6_init 4 = .ok (.aload_n 0, 1) := by decide +kernel
theorem dX6_init_5 : decode cX6_init 5 = .ok (.bipush 100, 2) := by decide +kernel
theorem dX6_init_7 : decode cX6_init 7 = .ok (.newarray .int, 2) := by decide +kernel
theorem dX6_init_9 : decode cX6_init 9 = .ok (.putfield 9, 3) := by decide +kernel
theorem dX6_init_12 : decode cX6_init 12 = .ok (.aload_n 0, 1) := by decide +kernel
theorem dX6_init_13 : decode cX6_init 13 = .ok (.bipush 50, 2) := by decide +kernel
theorem dX6_init_15 : decode cX6_init 15 = .ok (.newarray .int, 2) := by decide +kernel
theorem dX6_init_17 : decode cX6_init 17 = .ok (.putfield 15, 3) := by decide +kernel
theorem dX6_init_20 : decode cX6_init 20 = .ok (.aload_n 0, 1) := by decide +kernel
theorem dX6_init_21 : decode cX6_init 21 = .ok (.bipush 50, 2) := by decide +kernel
theorem dX6_init_23 : decode cX6_init 23 = .ok (.newarray .int, 2) := by decide +kernel
theorem dX6_init_25 : decode cX6_init 25 = .ok (.putfield 18, 3) := by decide +kernel
theorem dX6_init_28 : decode cX6_init 28 = .ok (.return_, 1) := by decide +kernel
theorem dX6_read_0 : decode cX6_read 0 = .ok (.aload_n 0, 1) := by decide +kernel
theorem dX6_read_1 : decode cX6_read 1 = .ok (.iconst 0, 1) := by decide +kernel
theorem dX6_read_2 : decode cX6_read 2 = .ok (.putfield 25, 3) := by decide +kernel
theorem dX6_read_5 : decode cX6_read 5 = .ok (.aload_n 0, 1) := by decide +kernel
theorem dX6_read_6 : decode cX6_read 6 = .ok (.iconst 0, 1) := by decide +kernel
theorem dX6_read_7 : decode cX6_read 7 = .ok (.putfield 28, 3) := by decide +kernel
theorem dX6_read_10 : decode cX6_read 10 = .ok (.aload_n 0, 1) := by decide +kernel
theorem dX6_read_11 : decode cX6_read 11 = .ok (.iconst 0, 1) := by decide +kernel
theorem dX6_read_12 : decode cX6_read 12 = .ok (.putfield 31, 3) := by decide +kernel
theorem dX6_read_15 : decode cX6_read 15 = .ok (.aload_n 0, 1) := by decide +kernel
theorem dX6_read_16 : decode cX6_read 16 = .ok (.aload_n 1, 1) := by decide +kernel
theorem dX6_read_17 : decode cX6_read 17 = .ok (.invokevirtual 34, 3) := by decide +kernel
theorem dX6_read_20 : decode cX6_read 20 = .ok (.istore_n 2, 1) := by decide +kernel
theorem dX6_read_21 : decode cX6_read 21 = .ok (.iconst 0, 1) := by decide +kernel
theorem dX6_read_22 : decode cX6_read 22 = .ok (.istore_n 3, 1) := by decide +kernel
theorem dX6_read_23 : decode cX6_read 23 = .ok (.iload_n 3, 1) := by decide +kernel
theorem dX6_read_24 : decode cX6_read 24 = .ok (.bipush 100, 2) := by decide +kernel
theorem dX6_read_26 : decode cX6_read 26 = .ok (.if_icmp .ge 47, 3) := by decide +kernel
theorem dX6_read_29 : decode cX6_read 29 = .ok (.iload_n 2, 1) := by decide +kernel
theorem dX6_read_30 : decode cX6_read 30 = .ok (.iconst (-1), 1) := by decide +kernel
theorem dX6_read_31 : decode cX6_read 31 = .ok (.if_icmp .ne 42, 3) := by decide +kernel
theorem dX6_read_34 : decode cX6_read 34 = .ok (.aload_n 0, 1) := by decide +kernel
theorem dX6_read_35 : decode cX6_read 35 = .ok (.getfield 25, 3) := by decide +kernel
theorem dX6_read_38 : decode cX6_read 38 = .ok (.aload_n 0, 1) := by decide +kernel
theorem dX6_read_39 : decode cX6_read 39 = .ok (.getfield 21, 3) := by decide +kernel
theorem dX6_read_42 : decode cX6_read 42 = .ok (.if_icmp .ge 31, 3) := by decide +kernel
theorem dX6_read_45 : decode cX6_read 45 = .ok (.aload_n 0, 1) := by decide +kernel
theorem dX6_read_46 : decode cX6_read 46 = .ok (.bipush 59, 2) := by decide +kernel
theorem dX6_read_48 : decode cX6_read 48 = .ok (.invokevirtual 38, 3) := by decide +kernel
theorem dX6_read_51 : decode cX6_read 51 = .ok (.ifCond .eq 11, 3) := by decide +kernel
theorem dX6_read_54 : decode cX6_read 54 = .ok (.aload_n 0, 1) := by decide +kernel
theorem dX6_read_55 : decode cX6_read 55 = .ok (.aload_n 1, 1) := by decide +kernel
theorem dX6_read_56 : decode cX6_read 56 = .ok (.invokevirtual 34, 3) := by decide +kernel
theorem dX6_read_59 : decode cX6_read 59 = .ok (.goto 7, 3) := by decide +kernel
theorem dX6_read_62 : decode cX6_read 62 = .ok (.aload_n 0, 1) := by decide +kernel
theorem dX6_read_63 : decode cX6_read 63 = .ok (.getfield 25, 3) := by decide +kernel
theorem dX6_read_66 : decode cX6_read 66 = .ok (.istore_n 2, 1) := by decide +kernel
theorem dX6_read_67 : decode cX6_read 67 = .ok (.iinc 3 1, 3) := by decide +kernel
theorem dX6_read_70 : decode cX6_read 70 = .ok (.goto (-47), 3) := by decide +kernel
theorem dX6_read_73 : decode cX6_read 73 = .ok (.iload_n 2, 1) := by decide +kernel
theorem dX6_read_74 : decode cX6_read 74 = .ok (.ireturn, 1) := by decide +kernel
theorem dX6_readItem_0 : decode cX6_readItem 0 = .ok (.aload_n 0, 1) := by decide +kernel
theorem dX6_readItem_1 : decode cX6_readItem 1 = .ok (.invokevirtual 42, 3) := by decide +kernel
theorem dX6_readItem_4 : decode cX6_readItem 4 = .ok (.aload_n 0, 1) := by decide +kernel
theorem dX6_readItem_5 : decode cX6_readItem 5 = .ok (.getfield 25, 3) := by decide +kernel
theorem dX6_readItem_8 : decode cX6_readItem 8 = .ok (.istore_n 2, 1) := by decide +kernel
theorem dX6_readItem_9 : decode cX6_readItem 9 = .ok (.aload_n 0, 1) := by decide +kernel
theorem dX6_readItem_10 : decode cX6_readItem 10 = .ok (.invokevirtual 45, 3) := by decide +kernel
theorem dX6_readItem_13 : decode cX6_readItem 13 = .ok (.istore_n 3, 1) := by decide +kernel
theorem dX6_readItem_14 : decode cX6_readItem 14 = .ok (.iconst 0, 1) := by decide +kernel
theorem dX6_readItem_15 : decode cX6_readItem 15 = .ok (.iload_n 3, 1) := by decide +kernel
theorem dX6_readItem_16 : decode cX6_readItem 16 = .ok (.sipush 999, 3) := by decide +kernel
theorem dX6_readItem_19 : decode cX6_readItem 19 = .ok (.invokestatic 49, 3) := by decide +kernel
theorem dX6_readItem_22 : decode cX6_readItem 22 = .ok (.ifCond .ne 5, 3) := by decide +kernel
theorem dX6_readItem_25 : decode cX6_readItem 25 = .ok (.iload_n 2, 1) := by decide +kernel
theorem dX6_readItem_26 : decode cX6_readItem 26 = .ok (.ireturn, 1) := by decide +kernel
theorem dX6_readItem_27 : decode cX6_readItem 27 = .ok (.aload_n 0, 1) := by decide +kernel
theorem dX6_readItem_28 : decode cX6_readItem 28 = .ok (.iload_n 3, 1) := by decide +kernel
theorem dX6_readItem_29 : decode cX6_readItem 29 = .ok (.aload_n 1, 1) := by decide +kernel
theorem dX6_readItem_30 : decode cX6_readItem 30 = .ok (.invokevirtual 53, 3) := by decide +kernel
theorem dX6_readItem_33 : decode cX6_readItem 33 = .ok (.ifCond .ne 29, 3) := by decide +kernel
theorem dX6_readItem_36 : decode cX6_readItem 36 = .ok (.aload_n 1, 1) := by decide +kernel
theorem dX6_readItem_37 : decode cX6_readItem 37 = .ok (.getfield 57, 3) := by decide +kernel
theorem dX6_readItem_40 : decode cX6_readItem 40 = .ok (.aload_n 0, 1) := by decide +kernel
theorem dX6_readItem_41 : decode cX6_readItem 41 = .ok (.getfield 31, 3) := by decide +kernel
theorem dX6_readItem_44 : decode cX6_readItem 44 = .ok (.iadd, 1) := by decide +kernel
theorem dX6_readItem_45 : decode cX6_readItem 45 = .ok (.bipush 16, 2) := by decide +kernel
theorem dX6_readItem_47 : decode cX6_readItem 47 = .ok (.if_icmp .lt 5, 3) := by decide +kernel
theorem dX6_readItem_50 : decode cX6_readItem 50 = .ok (.iload_n 2, 1) := by decide +kernel
theorem dX6_readItem_51 : decode cX6_readItem 51 = .ok (.ireturn, 1) := by decide +kernel
theorem dX6_readItem_52 : decode cX6_readItem 52 = .ok (.aload_n 0, 1) := by decide +kernel
theorem dX6_readItem_53 : decode cX6_readItem 53 = .ok (.dup, 1) := by decide +kernel
theorem dX6_readItem_54 : decode cX6_readItem 54 = .ok (.getfield 31, 3) := by decide +kernel
theorem dX6_readItem_57 : decode cX6_readItem 57 = .ok (.iconst 1, 1) := by decide +kernel
theorem dX6_readItem_58 : decode cX6_readItem 58 = .ok (.iadd, 1) := by decide +kernel
theorem dX6_readItem_59 : decode cX6_readItem 59 = .ok (.putfield 31, 3) := by decide +kernel
theorem dX6_readItem_62 : decode cX6_readItem 62 = .ok (.iconst 1, 1) := by decide +kernel
theorem dX6_readItem_63 : decode cX6_readItem 63 = .ok (.istore 4, 2) := by decide +kernel
theorem dX6_readItem_65 : decode cX6_readItem 65 = .ok (.aload_n 0, 1) := by decide +kernel
theorem dX6_readItem_66 : decode cX6_readItem 66 = .ok (.invokevirtual 42, 3) := by decide +kernel
theorem dX6_readItem_69 : decode cX6_readItem 69 = .ok (.aload_n 0, 1) := by decide +kernel
theorem dX6_readItem_70 : decode cX6_readItem 70 = .ok (.bipush 43, 2) := by decide +kernel
theorem dX6_readItem_72 : decode cX6_readItem 72 = .ok (.invokevirtual 38, 3) := by decide +kernel
theorem dX6_readItem_75 : decode cX6_readItem 75 = .ok (.ifCond .eq 30, 3) := by decide +kernel
theorem dX6_readItem_78 : decode cX6_readItem 78 = .ok (.aload_n 0, 1) := by decide +kernel
theorem dX6_readItem_79 : decode cX6_readItem 79 = .ok (.invokevirtual 42, 3) := by decide +kernel
theorem dX6_readItem_82 : decode cX6_readItem 82 = .ok (.aload_n 0, 1) := by decide +kernel
theorem dX6_readItem_83 : decode cX6_readItem 83 = .ok (.getfield 25, 3) := by decide +kernel
theorem dX6_readItem_86 : decode cX6_readItem 86 = .ok (.istore_n 2, 1) := by decide +kernel
theorem dX6_readItem_87 : decode cX6_readItem 87 = .ok (.aload_n 0, 1) := by decide +kernel
theorem dX6_readItem_88 : decode cX6_readItem 88 = .ok (.invokevirtual 45, 3) := by decide +kernel
theorem dX6_readItem_91 : decode cX6_readItem 91 = .ok (.istore 4, 2) := by decide +kernel
theorem dX6_readItem_93 : decode cX6_readItem 93 = .ok (.iload 4, 2) := by decide +kernel
theorem dX6_readItem_95 : decode cX6_readItem 95 = .ok (.iconst 1, 1) := by decide +kernel
theorem dX6_readItem_96 : decode cX6_readItem 96 = .ok (.if_icmp .ge 5, 3) := by decide +kernel
theorem dX6_readItem_99 : decode cX6_readItem 99 = .ok (.iload_n 2, 1) := by decide +kernel
theorem dX6_readItem_100 : decode cX6_readItem 100 = .ok (.ireturn, 1) := by decide +kernel
theorem dX6_readItem_101 : decode cX6_readItem 101 = .ok (.aload_n 0, 1) := by decide +kernel
theorem dX6_readItem_102 : decode cX6_readItem 102 = .ok (.invokevirtual 42, 3) := by decide +kernel
theorem dX6_readItem_105 : decode cX6_readItem 105 = .ok (.aload_n 0, 1) := by decide +kernel
theorem dX6_readItem_106 : decode cX6_readItem 106 = .ok (.iload_n 3, 1) := by decide +kernel
theorem dX6_readItem_107 : decode cX6_readItem 107 = .ok (.iload 4, 2) := by decide +kernel
theorem dX6_readItem_109 : decode cX6_readItem 109 = .ok (.invokevirtual 62, 3) := by decide +kernel
theorem dX6_readItem_112 : decode cX6_readItem 112 = .ok (.iconst (-1), 1) := by decide +kernel
theorem dX6_readItem_113 : decode cX6_readItem 113 = .ok (.ireturn, 1) := by decide +kernel
theorem dX6_skipBlanks_0 : decode cX6_skipBlanks 0 = .ok (.aload_n 0, 1) := by decide +kernel
theorem dX6_skipBlanks_1 : decode cX6_skipBlanks 1 = .ok (.getfield 25, 3) := by decide +kernel
theorem dX6_skipBlanks_4 : decode cX6_skipBlanks 4 = .ok (.aload_n 0, 1) := by decide +kernel
theorem dX6_skipBlanks_5 : decode cX6_skipBlanks 5 = .ok (.getfield 21, 3) := by decide +kernel
theorem dX6_skipBlanks_8 : decode cX6_skipBlanks 8 = .ok (.if_icmp .ge 30, 3) := by decide +kernel
theorem dX6_skipBlanks_11 : decode cX6_skipBlanks 11 = .ok (.aload_n 0, 1) := by decide +kernel
theorem dX6_skipBlanks_12 : decode cX6_skipBlanks 12 = .ok (.getfield 9, 3) := by decide +kernel
theorem dX6_skipBlanks_15 : decode cX6_skipBlanks 15 = .ok (.aload_n 0, 1) := by decide +kernel
theorem dX6_skipBlanks_16 : decode cX6_skipBlanks 16 = .ok (.getfield 25, 3) := by decide +kernel
theorem dX6_skipBlanks_19 : decode cX6_skipBlanks 19 = .ok (.iaload, 1) := by decide +kernel
theorem dX6_skipBlanks_20 : decode cX6_skipBlanks 20 = .ok (.bipush 32, 2) := by decide +kernel
theorem dX6_skipBlanks_22 : decode cX6_skipBlanks 22 = .ok (.if_icmp .ne 16, 3) := by decide +kernel
theorem dX6_skipBlanks_25 : decode cX6_skipBlanks 25 = .ok (.aload_n 0, 1) := by decide +kernel
theorem dX6_skipBlanks_26 : decode cX6_skipBlanks 26 = .ok (.dup, 1) := by decide +kernel
theorem dX6_skipBlanks_27 : decode cX6_skipBlanks 27 = .ok (.getfield 25, 3) := by decide +kernel
theorem dX6_skipBlanks_30 : decode cX6_skipBlanks 30 = .ok (.iconst 1, 1) := by decide +kernel
theorem dX6_skipBlanks_31 : decode cX6_skipBlanks 31 = .ok (.iadd, 1) := by decide +kernel
theorem dX6_skipBlanks_32 : decode cX6_skipBlanks 32 = .ok (.putfield 25, 3) := by decide +kernel
theorem dX6_skipBlanks_35 : decode cX6_skipBlanks 35 = .ok (.goto (-35), 3) := by decide +kernel
theorem dX6_skipBlanks_38 : decode cX6_skipBlanks 38 = .ok (.return_, 1) := by decide +kernel
theorem dX6_skipSign_0 : decode cX6_skipSign 0 = .ok (.aload_n 0, 1) := by decide +kernel
theorem dX6_skipSign_1 : decode cX6_skipSign 1 = .ok (.getfield 25, 3) := by decide +kernel
theorem dX6_skipSign_4 : decode cX6_skipSign 4 = .ok (.aload_n 0, 1) := by decide +kernel
theorem dX6_skipSign_5 : decode cX6_skipSign 5 = .ok (.getfield 21, 3) := by decide +kernel
theorem dX6_skipSign_8 : decode cX6_skipSign 8 = .ok (.if_icmp .ge 28, 3) := by decide +kernel
theorem dX6_skipSign_11 : decode cX6_skipSign 11 = .ok (.aload_n 0, 1) := by decide +kernel
theorem dX6_skipSign_12 : decode cX6_skipSign 12 = .ok (.getfield 9, 3) := by decide +kernel
theorem dX6_skipSign_15 : decode cX6_skipSign 15 = .ok (.aload_n 0, 1) := by decide +kernel
theorem dX6_skipSign_16 : decode cX6_skipSign 16 = .ok (.getfield 25, 3) := by decide +kernel
theorem dX6_skipSign_19 : decode cX6_skipSign 19 = .ok (.iaload, 1) := by decide +kernel
theorem dX6_skipSign_20 : decode cX6_skipSign 20 = .ok (.iload_n 1, 1) := by decide +kernel
theorem dX6_skipSign_21 : decode cX6_skipSign 21 = .ok (.if_icmp .ne 15, 3) := by decide +kernel
theorem dX6_skipSign_24 : decode cX6_skipSign 24 = .ok (.aload_n 0, 1) := by decide +kernel
theorem dX6_skipSign_25 : decode cX6_skipSign 25 = .ok (.dup, 1) := by decide +kernel
theorem dX6_skipSign_26 : decode cX6_skipSign 26 = .ok (.getfield 25, 3) := by decide +kernel
theorem dX6_skipSign_29 : decode cX6_skipSign 29 = .ok (.iconst 1, 1) := by decide +kernel
theorem dX6_skipSign_30 : decode cX6_skipSign 30 = .ok (.iadd, 1) := by decide +kernel
theorem dX6_skipSign_31 : decode cX6_skipSign 31 = .ok (.putfield 25, 3) := by decide +kernel
theorem dX6_skipSign_34 : decode cX6_skipSign 34 = .ok (.iconst 1, 1) := by decide +kernel
theorem dX6_skipSign_35 : decode cX6_skipSign 35 = .ok (.ireturn, 1) := by decide +kernel
theorem dX6_skipSign_36 : decode cX6_skipSign 36 = .ok (.iconst 0, 1) := by decide +kernel
theorem dX6_skipSign_37 : decode cX6_skipSign 37 = .ok (.ireturn, 1) := by decide +kernel
theorem dX6_readNumber_0 : decode cX6_readNumber 0 = .ok (.iconst 0, 1) := by decide +kernel
theorem dX6_readNumber_1 : decode cX6_readNumber 1 = .ok (.istore_n 1, 1) := by decide +kernel
theorem dX6_readNumber_2 : decode cX6_readNumber 2 = .ok (.iconst 0, 1) := by decide +kernel
theorem dX6_readNumber_3 : decode cX6_readNumber 3 = .ok (.istore_n 2, 1) := by decide +kernel
theorem dX6_readNumber_4 : decode cX6_readNumber 4 = .ok (.aload_n 0, 1) := by decide +kernel
theorem dX6_readNumber_5 : decode cX6_readNumber 5 = .ok (.getfield 25, 3) := by decide +kernel
theorem dX6_readNumber_8 : decode cX6_readNumber 8 = .ok (.aload_n 0, 1) := by decide +kernel
theorem dX6_readNumber_9 : decode cX6_readNumber 9 = .ok (.getfield 21, 3) := by decide +kernel
theorem dX6_readNumber_12 : decode cX6_readNumber 12 = .ok (.if_icmp .ge 61, 3) := by decide +kernel
theorem dX6_readNumber_15 : decode cX6_readNumber 15 = .ok (.bipush 48, 2) := by decide +kernel
theorem dX6_readNumber_17 : decode cX6_readNumber 17 = .ok (.aload_n 0, 1) := by decide +kernel
theorem dX6_readNumber_18 : decode cX6_readNumber 18 = .ok (.getfield 9, 3) := by decide +kernel
theorem dX6_readNumber_21 : decode cX6_readNumber 21 = .ok (.aload_n 0, 1) := by decide +kernel
theorem dX6_readNumber_22 : decode cX6_readNumber 22 = .ok (.getfield 25, 3) := by decide +kernel
theorem dX6_readNumber_25 : decode cX6_readNumber 25 = .ok (.iaload, 1) := by decide +kernel
theorem dX6_readNumber_26 : decode cX6_readNumber 26 = .ok (.bipush 57, 2) := by decide +kernel
theorem dX6_readNumber_28 : decode cX6_readNumber 28 = .ok (.invokestatic 49, 3) := by decide +kernel
theorem dX6_readNumber_31 : decode cX6_readNumber 31 = .ok (.ifCond .eq 42, 3) := by decide +kernel
theorem dX6_readNumber_34 : decode cX6_readNumber 34 = .ok (.iinc 1 1, 3) := by decide +kernel
theorem dX6_readNumber_37 : decode cX6_readNumber 37 = .ok (.iload_n 1, 1) := by decide +kernel
theorem dX6_readNumber_38 : decode cX6_readNumber 38 = .ok (.iconst 4, 1) := by decide +kernel
theorem dX6_readNumber_39 : decode cX6_readNumber 39 = .ok (.if_icmp .gt 21, 3) := by decide +kernel
theorem dX6_readNumber_42 : decode cX6_readNumber 42 = .ok (.bipush 10, 2) := by decide +kernel
theorem dX6_readNumber_44 : decode cX6_readNumber 44 = .ok (.iload_n 2, 1) := by decide +kernel
theorem dX6_readNumber_45 : decode cX6_readNumber 45 = .ok (.imul, 1) := by decide +kernel
theorem dX6_readNumber_46 : decode cX6_readNumber 46 = .ok (.aload_n 0, 1) := by decide +kernel
theorem dX6_readNumber_47 : decode cX6_readNumber 47 = .ok (.getfield 9, 3) := by decide +kernel
theorem dX6_readNumber_50 : decode cX6_readNumber 50 = .ok (.aload_n 0, 1) := by decide +kernel
theorem dX6_readNumber_51 : decode cX6_readNumber 51 = .ok (.getfield 25, 3) := by decide +kernel
theorem dX6_readNumber_54 : decode cX6_readNumber 54 = .ok (.iaload, 1) := by decide +kernel
theorem dX6_readNumber_55 : decode cX6_readNumber 55 = .ok (.iadd, 1) := by decide +kernel
theorem dX6_readNumber_56 : decode cX6_readNumber 56 = .ok (.bipush 48, 2) := by decide +kernel
theorem dX6_readNumber_58 : decode cX6_readNumber 58 = .ok (.isub, 1) := by decide +kernel
theorem dX6_readNumber_59 : decode cX6_readNumber 59 = .ok (.istore_n 2, 1) := by decide +kernel
theorem dX6_readNumber_60 : decode cX6_readNumber 60 = .ok (.aload_n 0, 1) := by decide +kernel
theorem dX6_readNumber_61 : decode cX6_readNumber 61 = .ok (.dup, 1) := by decide +kernel
theorem dX6_readNumber_62 : decode cX6_readNumber 62 = .ok (.getfield 25, 3) := by decide +kernel
theorem dX6_readNumber_65 : decode cX6_readNumber 65 = .ok (.iconst 1, 1) := by decide +kernel
theorem dX6_readNumber_66 : decode cX6_readNumber 66 = .ok (.iadd, 1) := by decide +kernel
theorem dX6_readNumber_67 : decode cX6_readNumber 67 = .ok (.putfield 25, 3) := by decide +kernel
theorem dX6_readNumber_70 : decode cX6_readNumber 70 = .ok (.goto (-66), 3) := by decide +kernel
theorem dX6_readNumber_73 : decode cX6_readNumber 73 = .ok (.iconst 1, 1) := by decide +kernel
theorem dX6_readNumber_74 : decode cX6_readNumber 74 = .ok (.iload_n 1, 1) := by decide +kernel
theorem dX6_readNumber_75 : decode cX6_readNumber 75 = .ok (.iconst 4, 1) := by decide +kernel
theorem dX6_readNumber_76 : decode cX6_readNumber 76 = .ok (.invokestatic 49, 3) := by decide +kernel
theorem dX6_readNumber_79 : decode cX6_readNumber 79 = .ok (.ifCond .eq 7, 3) := by decide +kernel
theorem dX6_readNumber_82 : decode cX6_readNumber 82 = .ok (.iload_n 2, 1) := by decide +kernel
theorem dX6_readNumber_83 : decode cX6_readNumber 83 = .ok (.goto 4, 3) := by decide +kernel
theorem dX6_readNumber_86 : decode cX6_readNumber 86 = .ok (.iconst (-1), 1) := by decide +kernel
theorem dX6_readNumber_87 : decode cX6_readNumber 87 = .ok (.ireturn, 1) := by decide +kernel
theorem dX6_isKnown_0 : decode cX6_isKnown 0 = .ok (.aload_n 2, 1) := by decide +kernel
theorem dX6_isKnown_1 : decode cX6_isKnown 1 = .ok (.iload_n 1, 1) := by decide +kernel
theorem dX6_isKnown_2 : decode cX6_isKnown 2 = .ok (.invokevirtual 66, 3) := by decide +kernel
theorem dX6_isKnown_5 : decode cX6_isKnown 5 = .ok (.iconst (-1), 1) := by decide +kernel
theorem dX6_isKnown_6 : decode cX6_isKnown 6 = .ok (.if_icmp .eq 5, 3) := by decide +kernel
theorem dX6_isKnown_9 : decode cX6_isKnown 9 = .ok (.iconst 1, 1) := by decide +kernel
theorem dX6_isKnown_10 : decode cX6_isKnown 10 = .ok (.ireturn, 1) := by decide +kernel
theorem dX6_isKnown_11 : decode cX6_isKnown 11 = .ok (.iconst 0, 1) := by decide +kernel
theorem dX6_isKnown_12 : decode cX6_isKnown 12 = .ok (.istore_n 3, 1) := by decide +kernel
theorem dX6_isKnown_13 : decode cX6_isKnown 13 = .ok (.iload_n 3, 1) := by decide +kernel
theorem dX6_isKnown_14 : decode cX6_isKnown 14 = .ok (.aload_n 0, 1) := by decide +kernel
theorem dX6_isKnown_15 : decode cX6_isKnown 15 = .ok (.getfield 28, 3) := by decide +kernel
theorem dX6_isKnown_18 : decode cX6_isKnown 18 = .ok (.if_icmp .ge 21, 3) := by decide +kernel
theorem dX6_isKnown_21 : decode cX6_isKnown 21 = .ok (.aload_n 0, 1) := by decide +kernel
theorem dX6_isKnown_22 : decode cX6_isKnown 22 = .ok (.getfield 15, 3) := by decide +kernel
theorem dX6_isKnown_25 : decode cX6_isKnown 25 = .ok (.iload_n 3, 1) := by decide +kernel
theorem dX6_isKnown_26 : decode cX6_isKnown 26 = .ok (.iaload, 1) := by decide +kernel
theorem dX6_isKnown_27 : decode cX6_isKnown 27 = .ok (.iload_n 1, 1) := by decide +kernel
theorem dX6_isKnown_28 : decode cX6_isKnown 28 = .ok (.if_icmp .ne 5, 3) := by decide +kernel
theorem dX6_isKnown_31 : decode cX6_isKnown 31 = .ok (.iconst 1, 1) := by decide +kernel
theorem dX6_isKnown_32 : decode cX6_isKnown 32 = .ok (.ireturn, 1) := by decide +kernel
theorem dX6_isKnown_33 : decode cX6_isKnown 33 = .ok (.iinc 3 1, 3) := by decide +kernel
theorem dX6_isKnown_36 : decode cX6_isKnown 36 = .ok (.goto (-23), 3) := by decide +kernel
theorem dX6_isKnown_39 : decode cX6_isKnown 39 = .ok (.iconst 0, 1) := by decide +kernel
theorem dX6_isKnown_40 : decode cX6_isKnown 40 = .ok (.ireturn, 1) := by decide +kernel
theorem dX6_keep_0 : decode cX6_keep 0 = .ok (.aload_n 0, 1) := by decide +kernel
theorem dX6_keep_1 : decode cX6_keep 1 = .ok (.getfield 28, 3) := by decide +kernel
theorem dX6_keep_4 : decode cX6_keep 4 = .ok (.bipush 50, 2) := by decide +kernel
theorem dX6_keep_6 : decode cX6_keep 6 = .ok (.if_icmp .ge 33, 3) := by decide +kernel
theorem dX6_keep_9 : decode cX6_keep 9 = .ok (.aload_n 0, 1) := by decide +kernel
theorem dX6_keep_10 : decode cX6_keep 10 = .ok (.getfield 15, 3) := by decide +kernel
theorem dX6_keep_13 : decode cX6_keep 13 = .ok (.aload_n 0, 1) := by decide +kernel
theorem dX6_keep_14 : decode cX6_keep 14 = .ok (.getfield 28, 3) := by decide +kernel
theorem dX6_keep_17 : decode cX6_keep 17 = .ok (.iload_n 1, 1) := by decide +kernel
theorem dX6_keep_18 : decode cX6_keep 18 = .ok (.iastore, 1) := by decide +kernel
theorem dX6_keep_19 : decode cX6_keep 19 = .ok (.aload_n 0, 1) := by decide +kernel
theorem dX6_keep_20 : decode cX6_keep 20 = .ok (.getfield 18, 3) := by decide +kernel
theorem dX6_keep_23 : decode cX6_keep 23 = .ok (.aload_n 0, 1) := by decide +kernel
theorem dX6_keep_24 : decode cX6_keep 24 = .ok (.getfield 28, 3) := by decide +kernel
theorem dX6_keep_27 : decode cX6_keep 27 = .ok (.iload_n 2, 1) := by decide +kernel
theorem dX6_keep_28 : decode cX6_keep 28 = .ok (.iastore, 1) := by decide +kernel
theorem dX6_keep_29 : decode cX6_keep 29 = .ok (.aload_n 0, 1) := by decide +kernel
theorem dX6_keep_30 : decode cX6_keep 30 = .ok (.dup, 1) := by decide +kernel
theorem dX6_keep_31 : decode cX6_keep 31 = .ok (.getfield 28, 3) := by decide +kernel
theorem dX6_keep_34 : decode cX6_keep 34 = .ok (.iconst 1, 1) := by decide +kernel
theorem dX6_keep_35 : decode cX6_keep 35 = .ok (.iadd, 1) := by decide +kernel
theorem dX6_keep_36 : decode cX6_keep 36 = .ok (.putfield 28, 3) := by decide +kernel
theorem dX6_keep_39 : decode cX6_keep 39 = .ok (.return_, 1) := by decide +kernel
theorem dX6_fits_0 : decode cX6_fits 0 = .ok (.iconst 0, 1) := by decide +kernel
theorem dX6_fits_1 : decode cX6_fits 1 = .ok (.istore_n 2, 1) := by decide +kernel
theorem dX6_fits_2 : decode cX6_fits 2 = .ok (.iload_n 2, 1) := by decide +kernel
theorem dX6_fits_3 : decode cX6_fits 3 = .ok (.aload_n 0, 1) := by decide +kernel
theorem dX6_fits_4 : decode cX6_fits 4 = .ok (.getfield 28, 3) := by decide +kernel
theorem dX6_fits_7 : decode cX6_fits 7 = .ok (.if_icmp .ge 55, 3) := by decide +kernel
theorem dX6_fits_10 : decode cX6_fits 10 = .ok (.aload_n 1, 1) := by decide +kernel
theorem dX6_fits_11 : decode cX6_fits 11 = .ok (.aload_n 0, 1) := by decide +kernel
theorem dX6_fits_12 : decode cX6_fits 12 = .ok (.getfield 15, 3) := by decide +kernel
theorem dX6_fits_15 : decode cX6_fits 15 = .ok (.iload_n 2, 1) := by decide +kernel
theorem dX6_fits_16 : decode cX6_fits 16 = .ok (.iaload, 1) := by decide +kernel
theorem dX6_fits_17 : decode cX6_fits 17 = .ok (.invokevirtual 66, 3) := by decide +kernel
theorem dX6_fits_20 : decode cX6_fits 20 = .ok (.istore_n 3, 1) := by decide +kernel
theorem dX6_fits_21 : decode cX6_fits 21 = .ok (.iload_n 3, 1) := by decide +kernel
theorem dX6_fits_22 : decode cX6_fits 22 = .ok (.iconst (-1), 1) := by decide +kernel
theorem dX6_fits_23 : decode cX6_fits 23 = .ok (.if_icmp .eq 33, 3) := by decide +kernel
theorem dX6_fits_26 : decode cX6_fits 26 = .ok (.aload_n 1, 1) := by decide +kernel
theorem dX6_fits_27 : decode cX6_fits 27 = .ok (.iconst 0, 1) := by decide +kernel
theorem dX6_fits_28 : decode cX6_fits 28 = .ok (.invokevirtual 70, 3) := by decide +kernel
theorem dX6_fits_31 : decode cX6_fits 31 = .ok (.getfield 74, 3) := by decide +kernel
theorem dX6_fits_34 : decode cX6_fits 34 = .ok (.iload_n 3, 1) := by decide +kernel
theorem dX6_fits_35 : decode cX6_fits 35 = .ok (.laload, 1) := by decide +kernel
theorem dX6_fits_36 : decode cX6_fits 36 = .ok (.aload_n 0, 1) := by decide +kernel
theorem dX6_fits_37 : decode cX6_fits 37 = .ok (.aload_n 0, 1) := by decide +kernel
theorem dX6_fits_38 : decode cX6_fits 38 = .ok (.getfield 15, 3) := by decide +kernel
theorem dX6_fits_41 : decode cX6_fits 41 = .ok (.iload_n 2, 1) := by decide +kernel
theorem dX6_fits_42 : decode cX6_fits 42 = .ok (.iaload, 1) := by decide +kernel
theorem dX6_fits_43 : decode cX6_fits 43 = .ok (.invokevirtual 80, 3) := by decide +kernel
theorem dX6_fits_46 : decode cX6_fits 46 = .ok (.ladd, 1) := by decide +kernel
theorem dX6_fits_47 : decode cX6_fits 47 = .ok (.ldc2_w 84, 3) := by decide +kernel
theorem dX6_fits_50 : decode cX6_fits 50 = .ok (.lcmp, 1) := by decide +kernel
theorem dX6_fits_51 : decode cX6_fits 51 = .ok (.ifCond .le 5, 3) := by decide +kernel
theorem dX6_fits_54 : decode cX6_fits 54 = .ok (.iconst 0, 1) := by decide +kernel
theorem dX6_fits_55 : decode cX6_fits 55 = .ok (.ireturn, 1) := by decide +kernel
theorem dX6_fits_56 : decode cX6_fits 56 = .ok (.iinc 2 1, 3) := by decide +kernel
theorem dX6_fits_59 : decode cX6_fits 59 = .ok (.goto (-57), 3) := by decide +kernel
theorem dX6_fits_62 : decode cX6_fits 62 = .ok (.iconst 1, 1) := by decide +kernel
theorem dX6_fits_63 : decode cX6_fits 63 = .ok (.ireturn, 1) := by decide +kernel
theorem dX6_sumFor_0 : decode cX6_sumFor 0 = .ok (.lconst 0, 1) := by decide +kernel
theorem dX6_sumFor_1 : decode cX6_sumFor 1 = .ok (.lstore_n 2, 1) := by decide +kernel
theorem dX6_sumFor_2 : decode cX6_sumFor 2 = .ok (.iconst 0, 1) := by decide +kernel
theorem dX6_sumFor_3 : decode cX6_sumFor 3 = .ok (.istore 4, 2) := by decide +kernel
theorem dX6_sumFor_5 : decode cX6_sumFor 5 = .ok (.iload 4, 2) := by decide +kernel
theorem dX6_sumFor_7 : decode cX6_sumFor 7 = .ok (.aload_n 0, 1) := by decide +kernel
theorem dX6_sumFor_8 : decode cX6_sumFor 8 = .ok (.getfield 28, 3) := by decide +kernel
theorem dX6_sumFor_11 : decode cX6_sumFor 11 = .ok (.if_icmp .ge 35, 3) := by decide +kernel
theorem dX6_sumFor_14 : decode cX6_sumFor 14 = .ok (.lload_n 2, 1) := by decide +kernel
theorem dX6_sumFor_15 : decode cX6_sumFor 15 = .ok (.aload_n 0, 1) := by decide +kernel
theorem dX6_sumFor_16 : decode cX6_sumFor 16 = .ok (.getfield 15, 3) := by decide +kernel
theorem dX6_sumFor_19 : decode cX6_sumFor 19 = .ok (.iload 4, 2) := by decide +kernel
theorem dX6_sumFor_21 : decode cX6_sumFor 21 = .ok (.iaload, 1) := by decide +kernel
theorem dX6_sumFor_22 : decode cX6_sumFor 22 = .ok (.iload_n 1, 1) := by decide +kernel
theorem dX6_sumFor_23 : decode cX6_sumFor 23 = .ok (.if_icmp .ne 14, 3) := by decide +kernel
theorem dX6_sumFor_26 : decode cX6_sumFor 26 = .ok (.aload_n 0, 1) := by decide +kernel
theorem dX6_sumFor_27 : decode cX6_sumFor 27 = .ok (.getfield 18, 3) := by decide +kernel
theorem dX6_sumFor_30 : decode cX6_sumFor 30 = .ok (.iload 4, 2) := by decide +kernel
theorem dX6_sumFor_32 : decode cX6_sumFor 32 = .ok (.iaload, 1) := by decide +kernel
theorem dX6_sumFor_33 : decode cX6_sumFor 33 = .ok (.i2l, 1) := by decide +kernel
theorem dX6_sumFor_34 : decode cX6_sumFor 34 = .ok (.goto 4, 3) := by decide +kernel
theorem dX6_sumFor_37 : decode cX6_sumFor 37 = .ok (.lconst 0, 1) := by decide +kernel
theorem dX6_sumFor_38 : decode cX6_sumFor 38 = .ok (.ladd, 1) := by decide +kernel
theorem dX6_sumFor_39 : decode cX6_sumFor 39 = .ok (.lstore_n 2, 1) := by decide +kernel
theorem dX6_sumFor_40 : decode cX6_sumFor 40 = .ok (.iinc 4 1, 3) := by decide +kernel
theorem dX6_sumFor_43 : decode cX6_sumFor 43 = .ok (.goto (-38), 3) := by decide +kernel
theorem dX6_sumFor_46 : decode cX6_sumFor 46 = .ok (.lload_n 2, 1) := by decide +kernel
theorem dX6_sumFor_47 : decode cX6_sumFor 47 = .ok (.lreturn, 1) := by decide +kernel
theorem dX7_init_0 : decode cX7_init 0 = .ok (.aload_n 0, 1) := by decide +kernel
theorem dX7_init_1 : decode cX7_init 1 = .ok (.invokespecial 3, 3) := by decide +kernel
theorem dX7_init_4 : decode cX7_init 4 = .ok (.aload_n 0, 1) := by decide +kernel
theorem dX7_init_5 : decode cX7_init 5 = .ok (.new 9, 3) := by decide +kernel
theorem dX7_init_8 : decode cX7_init 8 = .ok (.dup, 1) := by decide +kernel
theorem dX7_init_9 : decode cX7_init 9 = .ok (.invokespecial 11, 3) := by decide +kernel
theorem dX7_init_12 : decode cX7_init 12 = .ok (.putfield 12, 3) := by decide +kernel
theorem dX7_init_15 : decode cX7_init 15 = .ok (.aload_n 0, 1) := by decide +kernel
theorem dX7_init_16 : decode cX7_init 16 = .ok (.new 16, 3) := by decide +kernel
theorem dX7_init_19 : decode cX7_init 19 = .ok (.dup, 1) := by decide +kernel
theorem dX7_init_20 : decode cX7_init 20 = .ok (.invokespecial 18, 3) := by decide +kernel
theorem dX7_init_23 : decode cX7_init 23 = .ok (.putfield 19, 3) := by decide +kernel
theorem dX7_init_26 : decode cX7_init 26 = .ok (.aload_n 0, 1) := by decide +kernel
theorem dX7_init_27 : decode cX7_init 27 = .ok (.new 23, 3) := by decide +kernel
theorem dX7_init_30 : decode cX7_init 30 = .ok (.dup, 1) := by decide +kernel
theorem dX7_init_31 : decode cX7_init 31 = .ok (.invokespecial 25, 3) := by decide +kernel
theorem dX7_init_34 : decode cX7_init 34 = .ok (.putfield 26, 3) := by decide +kernel
theorem dX7_init_37 : decode cX7_init 37 = .ok (.aload_n 0, 1) := by decide +kernel
theorem dX7_init_38 : decode cX7_init 38 = .ok (.new 30, 3) := by decide +kernel
theorem dX7_init_41 : decode cX7_init 41 = .ok (.dup, 1) := by decide +kernel
theorem dX7_init_42 : decode cX7_init 42 = .ok (.invokespecial 32, 3) := by decide +kernel
theorem dX7_init_45 : decode cX7_init 45 = .ok (.putfield 33, 3) := by decide +kernel
theorem dX7_init_48 : decode cX7_init 48 = .ok (.aload_n 0, 1) := by decide +kernel
theorem dX7_init_49 : decode cX7_init 49 = .ok (.new 9, 3) := by decide +kernel
theorem dX7_init_52 : decode cX7_init 52 = .ok (.dup, 1) := by decide +kernel
theorem dX7_init_53 : decode cX7_init 53 = .ok (.invokespecial 11, 3) := by decide +kernel
theorem dX7_init_56 : decode cX7_init 56 = .ok (.putfield 37, 3) := by decide +kernel
theorem dX7_init_59 : decode cX7_init 59 = .ok (.return_, 1) := by decide +kernel
theorem dX7_setFirst_0 : decode cX7_setFirst 0 = .ok (.iconst 2, 1) := by decide +kernel
theorem dX7_setFirst_1 : decode cX7_setFirst 1 = .ok (.iload_n 1, 1) := by decide +kernel
theorem dX7_setFirst_2 : decode cX7_setFirst 2 = .ok (.bipush 24, 2) := by decide +kernel
theorem dX7_setFirst_4 : decode cX7_setFirst 4 = .ok (.invokestatic 40, 3) := by decide +kernel
theorem dX7_setFirst_7 : decode cX7_setFirst 7 = .ok (.ifCond .eq 22, 3) := by decide +kernel
theorem dX7_setFirst_10 : decode cX7_setFirst 10 = .ok (.iconst 1, 1) := by decide +kernel
theorem dX7_setFirst_11 : decode cX7_setFirst 11 = .ok (.iload_n 2, 1) := by decide +kernel
theorem dX7_setFirst_12 : decode cX7_setFirst 12 = .ok (.bipush 8, 2) := by decide +kernel
theorem dX7_setFirst_14 : decode cX7_setFirst 14 = .ok (.invokestatic 40, 3) := by decide +kernel
theorem dX7_setFirst_17 : decode cX7_setFirst 17 = .ok (.ifCond .eq 12, 3) := by decide +kernel
theorem dX7_setFirst_20 : decode cX7_setFirst 20 = .ok (.iconst 1, 1) := by decide +kernel
theorem dX7_setFirst_21 : decode cX7_setFirst 21 = .ok (.iload_n 3, 1) := by decide +kernel
theorem dX7_setFirst_22 : decode cX7_setFirst 22 = .ok (.iconst 4, 1) := by decide +kernel
theorem dX7_setFirst_23 : decode cX7_setFirst 23 = .ok (.invokestatic 40, 3) := by decide +kernel
theorem dX7_setFirst_26 : decode cX7_setFirst 26 = .ok (.ifCond .ne 6, 3) := by decide +kernel
theorem dX7_setFirst_29 : decode cX7_setFirst 29 = .ok (.bipush (-3), 2) := by decide +kernel
theorem dX7_setFirst_31 : decode cX7_setFirst 31 = .ok (.ireturn, 1) := by decide +kernel
theorem dX7_setFirst_32 : decode cX7_setFirst 32 = .ok (.aload_n 0, 1) := by decide +kernel
theorem dX7_setFirst_33 : decode cX7_setFirst 33 = .ok (.getfield 19, 3) := by decide +kernel
theorem dX7_setFirst_36 : decode cX7_setFirst 36 = .ok (.aload_n 0, 1) := by decide +kernel
theorem dX7_setFirst_37 : decode cX7_setFirst 37 = .ok (.getfield 12, 3) := by decide +kernel
theorem dX7_setFirst_40 : decode cX7_setFirst 40 = .ok (.invokevirtual 44, 3) := by decide +kernel
theorem dX7_setFirst_43 : decode cX7_setFirst 43 = .ok (.aload_n 0, 1) := by decide +kernel
theorem dX7_setFirst_44 : decode cX7_setFirst 44 = .ok (.getfield 12, 3) := by decide +kernel
theorem dX7_setFirst_47 : decode cX7_setFirst 47 = .ok (.getfield 48, 3) := by decide +kernel
theorem dX7_setFirst_50 : decode cX7_setFirst 50 = .ok (.getfield 52, 3) := by decide +kernel
theorem dX7_setFirst_53 : decode cX7_setFirst 53 = .ok (.istore 4, 2) := by decide +kernel
theorem dX7_setFirst_55 : decode cX7_setFirst 55 = .ok (.aload_n 0, 1) := by decide +kernel
theorem dX7_setFirst_56 : decode cX7_setFirst 56 = .ok (.getfield 12, 3) := by decide +kernel
theorem dX7_setFirst_59 : decode cX7_setFirst 59 = .ok (.getfield 48, 3) := by decide +kernel
theorem dX7_setFirst_62 : decode cX7_setFirst 62 = .ok (.iload_n 1, 1) := by decide +kernel
theorem dX7_setFirst_63 : decode cX7_setFirst 63 = .ok (.putfield 52, 3) := by decide +kernel
theorem dX7_setFirst_66 : decode cX7_setFirst 66 = .ok (.aload_n 0, 1) := by decide +kernel
theorem dX7_setFirst_67 : decode cX7_setFirst 67 = .ok (.getfield 12, 3) := by decide +kernel
theorem dX7_setFirst_70 : decode cX7_setFirst 70 = .ok (.getfield 48, 3) := by decide +kernel
theorem dX7_setFirst_73 : decode cX7_setFirst 73 = .ok (.iload_n 2, 1) := by decide +kernel
theorem dX7_setFirst_74 : decode cX7_setFirst 74 = .ok (.putfield 58, 3) := by decide +kernel
theorem dX7_setFirst_77 : decode cX7_setFirst 77 = .ok (.aload_n 0, 1) := by decide +kernel
theorem dX7_setFirst_78 : decode cX7_setFirst 78 = .ok (.getfield 12, 3) := by decide +kernel
theorem dX7_setFirst_81 : decode cX7_setFirst 81 = .ok (.getfield 48, 3) := by decide +kernel
theorem dX7_setFirst_84 : decode cX7_setFirst 84 = .ok (.iload_n 3, 1) := by decide +kernel
theorem dX7_setFirst_85 : decode cX7_setFirst 85 = .ok (.putfield 61, 3) := by decide +kernel
theorem dX7_setFirst_88 : decode cX7_setFirst 88 = .ok (.aload_n 0, 1) := by decide +kernel
theorem dX7_setFirst_89 : decode cX7_setFirst 89 = .ok (.getfield 12, 3) := by decide +kernel
theorem dX7_setFirst_92 : decode cX7_setFirst 92 = .ok (.invokevirtual 64, 3) := by decide +kernel
theorem dX7_setFirst_95 : decode cX7_setFirst 95 = .ok (.iload 4, 2) := by decide +kernel
theorem dX7_setFirst_97 : decode cX7_setFirst 97 = .ok (.ireturn, 1) := by decide +kernel
theorem dX7_setSecond_0 : decode cX7_setSecond 0 = .ok (.iconst 1, 1) := by decide +kernel
theorem dX7_setSecond_1 : decode cX7_setSecond 1 = .ok (.iload_n 1, 1) := by decide +kernel
theorem dX7_setSecond_2 : decode cX7_setSecond 2 = .ok (.bipush 16, 2) := by decide +kernel
theorem dX7_setSecond_4 : decode cX7_setSecond 4 = .ok (.invokestatic 40, 3) := by decide +kernel
theorem dX7_setSecond_7 : decode cX7_setSecond 7 = .ok (.ifCond .eq 12, 3) := by decide +kernel
theorem dX7_setSecond_10 : decode cX7_setSecond 10 = .ok (.iconst 1, 1) := by decide +kernel
theorem dX7_setSecond_11 : decode cX7_setSecond 11 = .ok (.iload_n 2, 1) := by decide +kernel
theorem dX7_setSecond_12 : decode cX7_setSecond 12 = .ok (.iconst 3, 1) := by decide +kernel
theorem dX7_setSecond_13 : decode cX7_setSecond 13 = .ok (.invokestatic 40, 3) := by decide +kernel
theorem dX7_setSecond_16 : decode cX7_setSecond 16 = .ok (.ifCond .ne 6, 3) := by decide +kernel
theorem dX7_setSecond_19 : decode cX7_setSecond 19 = .ok (.bipush (-3), 2) := by decide +kernel
theorem dX7_setSecond_21 : decode cX7_setSecond 21 = .ok (.ireturn, 1) := by decide +kernel
theorem dX7_setSecond_22 : decode cX7_setSecond 22 = .ok (.aload_n 0, 1) := by decide +kernel
theorem dX7_setSecond_23 : decode cX7_setSecond 23 = .ok (.getfield 19, 3) := by decide +kernel
theorem dX7_setSecond_26 : decode cX7_setSecond 26 = .ok (.aload_n 0, 1) := by decide +kernel
theorem dX7_setSecond_27 : decode cX7_setSecond 27 = .ok (.getfield 12, 3) := by decide +kernel
theorem dX7_setSecond_30 : decode cX7_setSecond 30 = .ok (.invokevirtual 44, 3) := by decide +kernel
theorem dX7_setSecond_33 : decode cX7_setSecond 33 = .ok (.aload_n 0, 1) := by decide +kernel
theorem dX7_setSecond_34 : decode cX7_setSecond 34 = .ok (.getfield 12, 3) := by decide +kernel
theorem dX7_setSecond_37 : decode cX7_setSecond 37 = .ok (.getfield 48, 3) := by decide +kernel
theorem dX7_setSecond_40 : decode cX7_setSecond 40 = .ok (.getfield 67, 3) := by decide +kernel
theorem dX7_setSecond_43 : decode cX7_setSecond 43 = .ok (.istore_n 3, 1) := by decide +kernel
theorem dX7_setSecond_44 : decode cX7_setSecond 44 = .ok (.aload_n 0, 1) := by decide +kernel
theorem dX7_setSecond_45 : decode cX7_setSecond 45 = .ok (.getfield 12, 3) := by decide +kernel
theorem dX7_setSecond_48 : decode cX7_setSecond 48 = .ok (.getfield 48, 3) := by decide +kernel
theorem dX7_setSecond_51 : decode cX7_setSecond 51 = .ok (.iload_n 1, 1) := by decide +kernel
theorem dX7_setSecond_52 : decode cX7_setSecond 52 = .ok (.putfield 67, 3) := by decide +kernel
theorem dX7_setSecond_55 : decode cX7_setSecond 55 = .ok (.aload_n 0, 1) := by decide +kernel
theorem dX7_setSecond_56 : decode cX7_setSecond 56 = .ok (.getfield 12, 3) := by decide +kernel
theorem dX7_setSecond_59 : decode cX7_setSecond 59 = .ok (.getfield 48, 3) := by decide +kernel
theorem dX7_setSecond_62 : decode cX7_setSecond 62 = .ok (.iload_n 2, 1) := by decide +kernel
theorem dX7_setSecond_63 : decode cX7_setSecond 63 = .ok (.putfield 70, 3) := by decide +kernel
theorem dX7_setSecond_66 : decode cX7_setSecond 66 = .ok (.aload_n 0, 1) := by decide +kernel
theorem dX7_setSecond_67 : decode cX7_setSecond 67 = .ok (.getfield 12, 3) := by decide +kernel
theorem dX7_setSecond_70 : decode cX7_setSecond 70 = .ok (.invokevirtual 64, 3) := by decide +kernel
theorem dX7_setSecond_73 : decode cX7_setSecond 73 = .ok (.iload_n 3, 1) := by decide +kernel
theorem dX7_setSecond_74 : decode cX7_setSecond 74 = .ok (.ireturn, 1) := by decide +kernel
theorem dX7_setRounds_0 : decode cX7_setRounds 0 = .ok (.iconst 0, 1) := by decide +kernel
theorem dX7_setRounds_1 : decode cX7_setRounds 1 = .ok (.iload_n 1, 1) := by decide +kernel
theorem dX7_setRounds_2 : decode cX7_setRounds 2 = .ok (.bipush 60, 2) := by decide +kernel
theorem dX7_setRounds_4 : decode cX7_setRounds 4 = .ok (.invokestatic 40, 3) := by decide +kernel
theorem dX7_setRounds_7 : decode cX7_setRounds 7 = .ok (.ifCond .ne 6, 3) := by decide +kernel
theorem dX7_setRounds_10 : decode cX7_setRounds 10 = .ok (.bipush (-3), 2) := by decide +kernel
theorem dX7_setRounds_12 : decode cX7_setRounds 12 = .ok (.ireturn, 1) := by decide +kernel
theorem dX7_setRounds_13 : decode cX7_setRounds 13 = .ok (.aload_n 0, 1) := by decide +kernel
theorem dX7_setRounds_14 : decode cX7_setRounds 14 = .ok (.getfield 19, 3) := by decide +kernel
theorem dX7_setRounds_17 : decode cX7_setRounds 17 = .ok (.aload_n 0, 1) := by decide +kernel
theorem dX7_setRounds_18 : decode cX7_setRounds 18 = .ok (.getfield 12, 3) := by decide +kernel
theorem dX7_setRounds_21 : decode cX7_setRounds 21 = .ok (.invokevirtual 44, 3) := by decide +kernel
theorem dX7_setRounds_24 : decode cX7_setRounds 24 = .ok (.aload_n 0, 1) := by decide +kernel
theorem dX7_setRounds_25 : decode cX7_setRounds 25 = .ok (.getfield 12, 3) := by decide +kernel
theorem dX7_setRounds_28 : decode cX7_setRounds 28 = .ok (.getfield 48, 3) := by decide +kernel
theorem dX7_setRounds_31 : decode cX7_setRounds 31 = .ok (.getfield 73, 3) := by decide +kernel
theorem dX7_setRounds_34 : decode cX7_setRounds 34 = .ok (.istore_n 2, 1) := by decide +kernel
theorem dX7_setRounds_35 : decode cX7_setRounds 35 = .ok (.aload_n 0, 1) := by decide +kernel
theorem dX7_setRounds_36 : decode cX7_setRounds 36 = .ok (.getfield 12, 3) := by decide +kernel
theorem dX7_setRounds_39 : decode cX7_setRounds 39 = .ok (.getfield 48, 3) := by decide +kernel
theorem dX7_setRounds_42 : decode cX7_setRounds 42 = .ok (.iload_n 1, 1) := by decide +kernel
theorem dX7_setRounds_43 : decode cX7_setRounds 43 = .ok (.putfield 73, 3) := by decide +kernel
theorem dX7_setRounds_46 : decode cX7_setRounds 46 = .ok (.iload_n 2, 1) := by decide +kernel
theorem dX7_setRounds_47 : decode cX7_setRounds 47 = .ok (.ireturn, 1) := by decide +kernel
theorem dX7_form_0 : decode cX7_form 0 = .ok (.iconst 0, 1) := by decide +kernel
theorem dX7_form_1 : decode cX7_form 1 = .ok (.iload_n 1, 1) := by decide +kernel
theorem dX7_form_2 : decode cX7_form 2 = .ok (.bipush 6, 2) := by decide +kernel
theorem dX7_form_4 : decode cX7_form 4 = .ok (.invokestatic 40, 3) := by decide +kernel
theorem dX7_form_7 : decode cX7_form 7 = .ok (.ifCond .eq 14, 3) := by decide +kernel
theorem dX7_form_10 : decode cX7_form 10 = .ok (.aload_n 0, 1) := by decide +kernel
theorem dX7_form_11 : decode cX7_form 11 = .ok (.getfield 12, 3) := by decide +kernel
theorem dX7_form_14 : decode cX7_form 14 = .ok (.iload_n 1, 1) := by decide +kernel
theorem dX7_form_15 : decode cX7_form 15 = .ok (.invokevirtual 76, 3) := by decide +kernel
theorem dX7_form_18 : decode cX7_form 18 = .ok (.goto 5, 3) := by decide +kernel
theorem dX7_form_21 : decode cX7_form 21 = .ok (.bipush (-3), 2) := by decide +kernel
theorem dX7_form_23 : decode cX7_form 23 = .ok (.ireturn, 1) := by decide +kernel
theorem dX7_addFlow_0 : decode cX7_addFlow 0 = .ok (.iconst 0, 1) := by decide +kernel
theorem dX7_addFlow_1 : decode cX7_addFlow 1 = .ok (.iload_n 1, 1) := by decide +kernel
theorem dX7_addFlow_2 : decode cX7_addFlow 2 = .ok (.sipush 999, 3) := by decide +kernel
theorem dX7_addFlow_5 : decode cX7_addFlow 5 = .ok (.invokestatic 40, 3) := by decide +kernel
theorem dX7_addFlow_8 : decode cX7_addFlow 8 = .ok (.ifCond .ne 6, 3) := by decide +kernel
theorem dX7_addFlow_11 : decode cX7_addFlow 11 = .ok (.bipush (-3), 2) := by decide +kernel
theorem dX7_addFlow_13 : decode cX7_addFlow 13 = .ok (.ireturn, 1) := by decide +kernel
theorem dX7_addFlow_14 : decode cX7_addFlow 14 = .ok (.aload_n 0, 1) := by decide +kernel
theorem dX7_addFlow_15 : decode cX7_addFlow 15 = .ok (.getfield 12, 3) := by decide +kernel
theorem dX7_addFlow_18 : decode cX7_addFlow 18 = .ok (.iload_n 1, 1) := by decide +kernel
theorem dX7_addFlow_19 : decode cX7_addFlow 19 = .ok (.invokevirtual 80, 3) := by decide +kernel
theorem dX7_addFlow_22 : decode cX7_addFlow 22 = .ok (.iconst (-1), 1) := by decide +kernel
theorem dX7_addFlow_23 : decode cX7_addFlow 23 = .ok (.if_icmp .eq 6, 3) := by decide +kernel
theorem dX7_addFlow_26 : decode cX7_addFlow 26 = .ok (.bipush (-4), 2) := by decide +kernel
theorem dX7_addFlow_28 : decode cX7_addFlow 28 = .ok (.ireturn, 1) := by decide +kernel
theorem dX7_addFlow_29 : decode cX7_addFlow 29 = .ok (.aload_n 0, 1) := by decide +kernel
theorem dX7_addFlow_30 : decode cX7_addFlow 30 = .ok (.getfield 12, 3) := by decide +kernel
theorem dX7_addFlow_33 : decode cX7_addFlow 33 = .ok (.getfield 83, 3) := by decide +kernel
theorem dX7_addFlow_36 : decode cX7_addFlow 36 = .ok (.bipush 16, 2) := by decide +kernel
theorem dX7_addFlow_38 : decode cX7_addFlow 38 = .ok (.if_icmp .lt 6, 3) := by decide +kernel
theorem dX7_addFlow_41 : decode cX7_addFlow 41 = .ok (.bipush (-5), 2) := by decide +kernel
theorem dX7_addFlow_43 : decode cX7_addFlow 43 = .ok (.ireturn, 1) := by decide +kernel
theorem dX7_addFlow_44 : decode cX7_addFlow 44 = .ok (.aload_n 0, 1) := by decide +kernel
theorem dX7_addFlow_45 : decode cX7_addFlow 45 = .ok (.getfield 19, 3) := by decide +kernel
theorem dX7_addFlow_48 : decode cX7_addFlow 48 = .ok (.aload_n 0, 1) := by decide +kernel
theorem dX7_addFlow_49 : decode cX7_addFlow 49 = .ok (.getfield 12, 3) := by decide +kernel
theorem dX7_addFlow_52 : decode cX7_addFlow 52 = .ok (.invokevirtual 44, 3) := by decide +kernel
theorem dX7_addFlow_55 : decode cX7_addFlow 55 = .ok (.aload_n 0, 1) := by decide +kernel
theorem dX7_addFlow_56 : decode cX7_addFlow 56 = .ok (.getfield 12, 3) := by decide +kernel
theorem dX7_addFlow_59 : decode cX7_addFlow 59 = .ok (.iload_n 1, 1) := by decide +kernel
theorem dX7_addFlow_60 : decode cX7_addFlow 60 = .ok (.invokevirtual 86, 3) := by decide +kernel
theorem dX7_addFlow_63 : decode cX7_addFlow 63 = .ok (.ireturn, 1) := by decide +kernel
theorem dX7_key_0 : decode cX7_key 0 = .ok (.aload_n 0, 1) := by decide +kernel
theorem dX7_key_1 : decode cX7_key 1 = .ok (.iload_n 1, 1) := by decide +kernel
theorem dX7_key_2 : decode cX7_key 2 = .ok (.invokevirtual 89, 3) := by decide +kernel
theorem dX7_key_5 : decode cX7_key 5 = .ok (.ifCond .eq 15, 3) := by decide +kernel
theorem dX7_key_8 : decode cX7_key 8 = .ok (.aload_n 0, 1) := by decide +kernel
theorem dX7_key_9 : decode cX7_key 9 = .ok (.getfield 12, 3) := by decide +kernel
theorem dX7_key_12 : decode cX7_key 12 = .ok (.getfield 93, 3) := by decide +kernel
theorem dX7_key_15 : decode cX7_key 15 = .ok (.iload_n 1, 1) := by decide +kernel
theorem dX7_key_16 : decode cX7_key 16 = .ok (.iaload, 1) := by decide +kernel
theorem dX7_key_17 : decode cX7_key 17 = .ok (.goto 5, 3) := by decide +kernel
theorem dX7_key_20 : decode cX7_key 20 = .ok (.bipush (-2), 2) := by decide +kernel
theorem dX7_key_22 : decode cX7_key 22 = .ok (.ireturn, 1) := by decide +kernel
theorem dX7_flowOf_0 : decode cX7_flowOf 0 = .ok (.iconst 0, 1) := by decide +kernel
theorem dX7_flowOf_1 : decode cX7_flowOf 1 = .ok (.iload_n 1, 1) := by decide +kernel
theorem dX7_flowOf_2 : decode cX7_flowOf 2 = .ok (.sipush 999, 3) := by decide +kernel
theorem dX7_flowOf_5 : decode cX7_flowOf 5 = .ok (.invokestatic 40, 3) := by decide +kernel
theorem dX7_flowOf_8 : decode cX7_flowOf 8 = .ok (.ifCond .eq 14, 3) := by decide +kernel
theorem dX7_flowOf_11 : decode cX7_flowOf 11 = .ok (.aload_n 0, 1) := by decide +kernel
theorem dX7_flowOf_12 : decode cX7_flowOf 12 = .ok (.getfield 12, 3) := by decide +kernel
theorem dX7_flowOf_15 : decode cX7_flowOf 15 = .ok (.iload_n 1, 1) := by decide +kernel
theorem dX7_flowOf_16 : decode cX7_flowOf 16 = .ok (.invokevirtual 80, 3) := by decide +kernel
theorem dX7_flowOf_19 : decode cX7_flowOf 19 = .ok (.goto 5, 3) := by decide +kernel
theorem dX7_flowOf_22 : decode cX7_flowOf 22 = .ok (.bipush (-3), 2) := by decide +kernel
theorem dX7_flowOf_24 : decode cX7_flowOf 24 = .ok (.ireturn, 1) := by decide +kernel
theorem dX7_places_0 : decode cX7_places 0 = .ok (.aload_n 0, 1) := by decide +kernel
theorem dX7_places_1 : decode cX7_places 1 = .ok (.iload_n 1, 1) := by decide +kernel
theorem dX7_places_2 : decode cX7_places 2 = .ok (.invokevirtual 89, 3) := by decide +kernel
theorem dX7_places_5 : decode cX7_places 5 = .ok (.ifCond .eq 25, 3) := by decide +kernel
theorem dX7_places_8 : decode cX7_places 8 = .ok (.aload_n 0, 1) := by decide +kernel
theorem dX7_places_9 : decode cX7_places 9 = .ok (.getfield 12, 3) := by decide +kernel
theorem dX7_places_12 : decode cX7_places 12 = .ok (.getfield 48, 3) := by decide +kernel
theorem dX7_places_15 : decode cX7_places 15 = .ok (.aload_n 0, 1) := by decide +kernel
theorem dX7_places_16 : decode cX7_places 16 = .ok (.getfield 12, 3) := by decide +kernel
theorem dX7_places_19 : decode cX7_places 19 = .ok (.getfield 93, 3) := by decide +kernel
theorem dX7_places_22 : decode cX7_places 22 = .ok (.iload_n 1, 1) := by decide +kernel
theorem dX7_places_23 : decode cX7_places 23 = .ok (.iaload, 1) := by decide +kernel
theorem dX7_places_24 : decode cX7_places 24 = .ok (.invokevirtual 97, 3) := by decide +kernel
theorem dX7_places_27 : decode cX7_places 27 = .ok (.goto 5, 3) := by decide +kernel
theorem dX7_places_30 : decode cX7_places 30 = .ok (.bipush (-2), 2) := by decide +kernel
theorem dX7_places_32 : decode cX7_places 32 = .ok (.ireturn, 1) := by decide +kernel
theorem dX7_placesAbove_0 : decode cX7_placesAbove 0 = .ok (.aload_n 0, 1) := by decide +kernel
theorem dX7_placesAbove_1 : decode cX7_placesAbove 1 = .ok (.iload_n 1, 1) := by decide +kernel
theorem dX7_placesAbove_2 : decode cX7_placesAbove 2 = .ok (.invokevirtual 100, 3) := by decide +kernel
theorem dX7_placesAbove_5 : decode cX7_placesAbove 5 = .ok (.ifCond .eq 17, 3) := by decide +kernel
theorem dX7_placesAbove_8 : decode cX7_placesAbove 8 = .ok (.aload_n 0, 1) := by decide +kernel
theorem dX7_placesAbove_9 : decode cX7_placesAbove 9 = .ok (.getfield 12, 3) := by decide +kernel
theorem dX7_placesAbove_12 : decode cX7_placesAbove 12 = .ok (.getfield 48, 3) := by decide +kernel
theorem dX7_placesAbove_15 : decode cX7_placesAbove 15 = .ok (.iload_n 1, 1) := by decide +kernel
theorem dX7_placesAbove_16 : decode cX7_placesAbove 16 = .ok (.invokevirtual 103, 3) := by decide +kernel
theorem dX7_placesAbove_19 : decode cX7_placesAbove 19 = .ok (.goto 5, 3) := by decide +kernel
theorem dX7_placesAbove_22 : decode cX7_placesAbove 22 = .ok (.bipush (-2), 2) := by decide +kernel
theorem dX7_placesAbove_24 : decode cX7_placesAbove 24 = .ok (.ireturn, 1) := by decide +kernel
theorem dX7_count_0 : decode cX7_count 0 = .ok (.iload_n 1, 1) := by decide +kernel
theorem dX7_count_1 : decode cX7_count 1 = .ok (.invokestatic 106, 3) := by decide +kernel
theorem dX7_count_4 : decode cX7_count 4 = .ok (.ifCond .eq 11, 3) := by decide +kernel
theorem dX7_count_7 : decode cX7_count 7 = .ok (.aload_n 0, 1) := by decide +kernel
theorem dX7_count_8 : decode cX7_count 8 = .ok (.iload_n 2, 1) := by decide +kernel
theorem dX7_count_9 : decode cX7_count 9 = .ok (.invokevirtual 89, 3) := by decide +kernel
theorem dX7_count_12 : decode cX7_count 12 = .ok (.ifCond .ne 7, 3) := by decide +kernel
theorem dX7_count_15 : decode cX7_count 15 = .ok (.ldc2_w 109, 3) := by decide +kernel
theorem dX7_count_18 : decode cX7_count 18 = .ok (.lreturn, 1) := by decide +kernel
theorem dX7_count_19 : decode cX7_count 19 = .ok (.iconst 1, 1) := by decide +kernel
theorem dX7_count_20 : decode cX7_count 20 = .ok (.iload_n 3, 1) := by decide +kernel
theorem dX7_count_21 : decode cX7_count 21 = .ok (.ldc 111, 2) := by decide +kernel
theorem dX7_count_23 : decode cX7_count 23 = .ok (.invokestatic 40, 3) := by decide +kernel
theorem dX7_count_26 : decode cX7_count 26 = .ok (.ifCond .ne 7, 3) := by decide +kernel
theorem dX7_count_29 : decode cX7_count 29 = .ok (.ldc2_w 112, 3) := by decide +kernel
theorem dX7_count_32 : decode cX7_count 32 = .ok (.lreturn, 1) := by decide +kernel
theorem dX7_count_33 : decode cX7_count 33 = .ok (.aload_n 0, 1) := by decide +kernel
theorem dX7_count_34 : decode cX7_count 34 = .ok (.getfield 12, 3) := by decide +kernel
theorem dX7_count_37 : decode cX7_count 37 = .ok (.iload_n 1, 1) := by decide +kernel
theorem dX7_count_38 : decode cX7_count 38 = .ok (.invokevirtual 114, 3) := by decide +kernel
theorem dX7_count_41 : decode cX7_count 41 = .ok (.astore 4, 2) := by decide +kernel
theorem dX7_count_43 : decode cX7_count 43 = .ok (.aload 4, 2) := by decide +kernel
theorem dX7_count_45 : decode cX7_count 45 = .ok (.getfield 118, 3) := by decide +kernel
theorem dX7_count_48 : decode cX7_count 48 = .ok (.iload_n 2, 1) := by decide +kernel
theorem dX7_count_49 : decode cX7_count 49 = .ok (.laload, 1) := by decide +kernel
theorem dX7_count_50 : decode cX7_count 50 = .ok (.iload_n 3, 1) := by decide +kernel
theorem dX7_count_51 : decode cX7_count 51 = .ok (.i2l, 1) := by decide +kernel
theorem dX7_count_52 : decode cX7_count 52 = .ok (.ladd, 1) := by decide +kernel
theorem dX7_count_53 : decode cX7_count 53 = .ok (.ldc2_w 124, 3) := by decide +kernel
theorem dX7_count_56 : decode cX7_count 56 = .ok (.lcmp, 1) := by decide +kernel
theorem dX7_count_57 : decode cX7_count 57 = .ok (.ifCond .le 7, 3) := by decide +kernel
theorem dX7_count_60 : decode cX7_count 60 = .ok (.ldc2_w 126, 3) := by decide +kernel
theorem dX7_count_63 : decode cX7_count 63 = .ok (.lreturn, 1) := by decide +kernel
theorem dX7_count_64 : decode cX7_count 64 = .ok (.aload_n 0, 1) := by decide +kernel
theorem dX7_count_65 : decode cX7_count 65 = .ok (.getfield 19, 3) := by decide +kernel
theorem dX7_count_68 : decode cX7_count 68 = .ok (.aload_n 0, 1) := by decide +kernel
theorem dX7_count_69 : decode cX7_count 69 = .ok (.getfield 12, 3) := by decide +kernel
theorem dX7_count_72 : decode cX7_count 72 = .ok (.invokevirtual 44, 3) := by decide +kernel
theorem dX7_count_75 : decode cX7_count 75 = .ok (.aload_n 0, 1) := by decide +kernel
theorem dX7_count_76 : decode cX7_count 76 = .ok (.getfield 12, 3) := by decide +kernel
theorem dX7_count_79 : decode cX7_count 79 = .ok (.aload 4, 2) := by decide +kernel
theorem dX7_count_81 : decode cX7_count 81 = .ok (.iload_n 2, 1) := by decide +kernel
theorem dX7_count_82 : decode cX7_count 82 = .ok (.iload_n 3, 1) := by decide +kernel
theorem dX7_count_83 : decode cX7_count 83 = .ok (.i2l, 1) := by decide +kernel
theorem dX7_count_84 : decode cX7_count 84 = .ok (.invokevirtual 128, 3) := by decide +kernel
theorem dX7_count_87 : decode cX7_count 87 = .ok (.aload 4, 2) := by decide +kernel
theorem dX7_count_89 : decode cX7_count 89 = .ok (.getfield 118, 3) := by decide +kernel
theorem dX7_count_92 : decode cX7_count 92 = .ok (.iload_n 2, 1) := by decide +kernel
theorem dX7_count_93 : decode cX7_count 93 = .ok (.laload, 1) := by decide +kernel
