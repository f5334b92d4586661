theorem dX1_join_98 : decode cX1_join 98 = .ok (.iload 4, 2) := by decide +kernel
theorem dX1_join_100 : decode cX1_join 100 = .ok (.iaload, 1) := by decide +kernel
theorem dX1_join_101 : decode cX1_join 101 = .ok (.iload 5, 2) := by decide +kernel
theorem dX1_join_103 : decode cX1_join 103 = .ok (.isub, 1) := by decide +kernel
theorem dX1_join_104 : decode cX1_join 104 = .ok (.iadd, 1) := by decide +kernel
theorem dX1_join_105 : decode cX1_join 105 = .ok (.istore_n 3, 1) := by decide +kernel
theorem dX1_join_106 : decode cX1_join 106 = .ok (.iinc 4 1, 3) := by decide +kernel
theorem dX1_join_109 : decode cX1_join 109 = .ok (.goto (-71), 3) := by decide +kernel
theorem dX1_join_112 : decode cX1_join 112 = .ok (.iconst 0, 1) := by decide +kernel
theorem dX1_join_113 : decode cX1_join 113 = .ok (.istore 4, 2) := by decide +kernel
theorem dX1_join_115 : decode cX1_join 115 = .ok (.iload 4, 2) := by decide +kernel
theorem dX1_join_117 : decode cX1_join 117 = .ok (.bipush 16, 2) := by decide +kernel
theorem dX1_join_119 : decode cX1_join 119 = .ok (.if_icmp .ge 26, 3) := by decide +kernel
theorem dX1_join_122 : decode cX1_join 122 = .ok (.aload_n 0, 1) := by decide +kernel
theorem dX1_join_123 : decode cX1_join 123 = .ok (.getfield 9, 3) := by decide +kernel
theorem dX1_join_126 : decode cX1_join 126 = .ok (.iload 4, 2) := by decide +kernel
theorem dX1_join_128 : decode cX1_join 128 = .ok (.dup2, 1) := by decide +kernel
theorem dX1_join_129 : decode cX1_join 129 = .ok (.laload, 1) := by decide +kernel
theorem dX1_join_130 : decode cX1_join 130 = .ok (.aload_n 2, 1) := by decide +kernel
theorem dX1_join_131 : decode cX1_join 131 = .ok (.getfield 9, 3) := by decide +kernel
theorem dX1_join_134 : decode cX1_join 134 = .ok (.iload 4, 2) := by decide +kernel
theorem dX1_join_136 : decode cX1_join 136 = .ok (.laload, 1) := by decide +kernel
theorem dX1_join_137 : decode cX1_join 137 = .ok (.ladd, 1) := by decide +kernel
theorem dX1_join_138 : decode cX1_join 138 = .ok (.lastore, 1) := by decide +kernel
theorem dX1_join_139 : decode cX1_join 139 = .ok (.iinc 4 1, 3) := by decide +kernel
theorem dX1_join_142 : decode cX1_join 142 = .ok (.goto (-27), 3) := by decide +kernel
theorem dX1_join_145 : decode cX1_join 145 = .ok (.iload_n 3, 1) := by decide +kernel
theorem dX1_join_146 : decode cX1_join 146 = .ok (.ireturn, 1) := by decide +kernel
theorem dX1_sumOfTruths_0 : decode cX1_sumOfTruths 0 = .ok (.lconst 0, 1) := by decide +kernel
theorem dX1_sumOfTruths_1 : decode cX1_sumOfTruths 1 = .ok (.lstore_n 1, 1) := by decide +kernel
theorem dX1_sumOfTruths_2 : decode cX1_sumOfTruths 2 = .ok (.iconst 0, 1) := by decide +kernel
theorem dX1_sumOfTruths_3 : decode cX1_sumOfTruths 3 = .ok (.istore_n 3, 1) := by decide +kernel
theorem dX1_sumOfTruths_4 : decode cX1_sumOfTruths 4 = .ok (.iload_n 3, 1) := by decide +kernel
theorem dX1_sumOfTruths_5 : decode cX1_sumOfTruths 5 = .ok (.bipush 16, 2) := by decide +kernel
theorem dX1_sumOfTruths_7 : decode cX1_sumOfTruths 7 = .ok (.if_icmp .ge 18, 3) := by decide +kernel
theorem dX1_sumOfTruths_10 : decode cX1_sumOfTruths 10 = .ok (.lload_n 1, 1) := by decide +kernel
theorem dX1_sumOfTruths_11 : decode cX1_sumOfTruths 11 = .ok (.aload_n 0, 1) := by decide +kernel
theorem dX1_sumOfTruths_12 : decode cX1_sumOfTruths 12 = .ok (.getfield 9, 3) := by decide +kernel
theorem dX1_sumOfTruths_15 : decode cX1_sumOfTruths 15 = .ok (.iload_n 3, 1) := by decide +kernel
theorem dX1_sumOfTruths_16 : decode cX1_sumOfTruths 16 = .ok (.laload, 1) := by decide +kernel
theorem dX1_sumOfTruths_17 : decode cX1_sumOfTruths 17 = .ok (.ladd, 1) := by decide +kernel
theorem dX1_sumOfTruths_18 : decode cX1_sumOfTruths 18 = .ok (.lstore_n 1, 1) := by decide +kernel
theorem dX1_sumOfTruths_19 : decode cX1_sumOfTruths 19 = .ok (.iinc 3 1, 3) := by decide +kernel
theorem dX1_sumOfTruths_22 : decode cX1_sumOfTruths 22 = .ok (.goto (-18), 3) := by decide +kernel
theorem dX1_sumOfTruths_25 : decode cX1_sumOfTruths 25 = .ok (.lload_n 1, 1) := by decide +kernel
theorem dX1_sumOfTruths_26 : decode cX1_sumOfTruths 26 = .ok (.lreturn, 1) := by decide +kernel
theorem dX1_sumOfNumbers_0 : decode cX1_sumOfNumbers 0 = .ok (.lconst 0, 1) := by decide +kernel
theorem dX1_sumOfNumbers_1 : decode cX1_sumOfNumbers 1 = .ok (.lstore_n 1, 1) := by decide +kernel
theorem dX1_sumOfNumbers_2 : decode cX1_sumOfNumbers 2 = .ok (.iconst 0, 1) := by decide +kernel
theorem dX1_sumOfNumbers_3 : decode cX1_sumOfNumbers 3 = .ok (.istore_n 3, 1) := by decide +kernel
theorem dX1_sumOfNumbers_4 : decode cX1_sumOfNumbers 4 = .ok (.iload_n 3, 1) := by decide +kernel
theorem dX1_sumOfNumbers_5 : decode cX1_sumOfNumbers 5 = .ok (.bipush 16, 2) := by decide +kernel
theorem dX1_sumOfNumbers_7 : decode cX1_sumOfNumbers 7 = .ok (.if_icmp .ge 18, 3) := by decide +kernel
theorem dX1_sumOfNumbers_10 : decode cX1_sumOfNumbers 10 = .ok (.lload_n 1, 1) := by decide +kernel
theorem dX1_sumOfNumbers_11 : decode cX1_sumOfNumbers 11 = .ok (.aload_n 0, 1) := by decide +kernel
theorem dX1_sumOfNumbers_12 : decode cX1_sumOfNumbers 12 = .ok (.getfield 22, 3) := by decide +kernel
theorem dX1_sumOfNumbers_15 : decode cX1_sumOfNumbers 15 = .ok (.iload_n 3, 1) := by decide +kernel
theorem dX1_sumOfNumbers_16 : decode cX1_sumOfNumbers 16 = .ok (.laload, 1) := by decide +kernel
theorem dX1_sumOfNumbers_17 : decode cX1_sumOfNumbers 17 = .ok (.ladd, 1) := by decide +kernel
theorem dX1_sumOfNumbers_18 : decode cX1_sumOfNumbers 18 = .ok (.lstore_n 1, 1) := by decide +kernel
theorem dX1_sumOfNumbers_19 : decode cX1_sumOfNumbers 19 = .ok (.iinc 3 1, 3) := by decide +kernel
theorem dX1_sumOfNumbers_22 : decode cX1_sumOfNumbers 22 = .ok (.goto (-18), 3) := by decide +kernel
theorem dX1_sumOfNumbers_25 : decode cX1_sumOfNumbers 25 = .ok (.lload_n 1, 1) := by decide +kernel
theorem dX1_sumOfNumbers_26 : decode cX1_sumOfNumbers 26 = .ok (.lreturn, 1) := by decide +kernel
theorem dX2_init_0 : decode cX2_init 0 = .ok (.aload_n 0, 1) := by decide +kernel
theorem dX2_init_1 : decode cX2_init 1 = .ok (.invokespecial 3, 3) := by decide +kernel
theorem dX2_init_4 : decode cX2_init 4 = .ok (.aload_n 0, 1) := by decide +kernel
theorem dX2_init_5 : decode cX2_init 5 = .ok (.new 9, 3) := by decide +kernel
theorem dX2_init_8 : decode cX2_init 8 = .ok (.dup, 1) := by decide +kernel
theorem dX2_init_9 : decode cX2_init 9 = .ok (.invokespecial 11, 3) := by decide +kernel
theorem dX2_init_12 : decode cX2_init 12 = .ok (.putfield 12, 3) := by decide +kernel
theorem dX2_init_15 : decode cX2_init 15 = .ok (.aload_n 0, 1) := by decide +kernel
theorem dX2_init_16 : decode cX2_init 16 = .ok (.new 9, 3) := by decide +kernel
theorem dX2_init_19 : decode cX2_init 19 = .ok (.dup, 1) := by decide +kernel
theorem dX2_init_20 : decode cX2_init 20 = .ok (.invokespecial 11, 3) := by decide +kernel
theorem dX2_init_23 : decode cX2_init 23 = .ok (.putfield 18, 3) := by decide +kernel
theorem dX2_init_26 : decode cX2_init 26 = .ok (.return_, 1) := by decide +kernel
theorem dX2_decodeOverflows_0 : decode cX2_decodeOverflows 0 = .ok (.aload_n 0, 1) := by decide +kernel
theorem dX2_decodeOverflows_1 : decode cX2_decodeOverflows 1 = .ok (.getfield 12, 3) := by decide +kernel
theorem dX2_decodeOverflows_4 : decode cX2_decodeOverflows 4 = .ok (.invokevirtual 21, 3) := by decide +kernel
theorem dX2_decodeOverflows_7 : decode cX2_decodeOverflows 7 = .ok (.iconst 0, 1) := by decide +kernel
theorem dX2_decodeOverflows_8 : decode cX2_decodeOverflows 8 = .ok (.istore_n 3, 1) := by decide +kernel
theorem dX2_decodeOverflows_9 : decode cX2_decodeOverflows 9 = .ok (.iload_n 3, 1) := by decide +kernel
theorem dX2_decodeOverflows_10 : decode cX2_decodeOverflows 10 = .ok (.bipush 16, 2) := by decide +kernel
theorem dX2_decodeOverflows_12 : decode cX2_decodeOverflows 12 = .ok (.if_icmp .ge 39, 3) := by decide +kernel
theorem dX2_decodeOverflows_15 : decode cX2_decodeOverflows 15 = .ok (.aload_n 0, 1) := by decide +kernel
theorem dX2_decodeOverflows_16 : decode cX2_decodeOverflows 16 = .ok (.getfield 12, 3) := by decide +kernel
theorem dX2_decodeOverflows_19 : decode cX2_decodeOverflows 19 = .ok (.getfield 24, 3) := by decide +kernel
theorem dX2_decodeOverflows_22 : decode cX2_decodeOverflows 22 = .ok (.iload_n 3, 1) := by decide +kernel
theorem dX2_decodeOverflows_23 : decode cX2_decodeOverflows 23 = .ok (.aload_n 2, 1) := by decide +kernel
theorem dX2_decodeOverflows_24 : decode cX2_decodeOverflows 24 = .ok (.getfield 28, 3) := by decide +kernel
theorem dX2_decodeOverflows_27 : decode cX2_decodeOverflows 27 = .ok (.iload_n 3, 1) := by decide +kernel
theorem dX2_decodeOverflows_28 : decode cX2_decodeOverflows 28 = .ok (.laload, 1) := by decide +kernel
theorem dX2_decodeOverflows_29 : decode cX2_decodeOverflows 29 = .ok (.lastore, 1) := by decide +kernel
theorem dX2_decodeOverflows_30 : decode cX2_decodeOverflows 30 = .ok (.aload_n 0, 1) := by decide +kernel
theorem dX2_decodeOverflows_31 : decode cX2_decodeOverflows 31 = .ok (.getfield 12, 3) := by decide +kernel
theorem dX2_decodeOverflows_34 : decode cX2_decodeOverflows 34 = .ok (.getfield 33, 3) := by decide +kernel
theorem dX2_decodeOverflows_37 : decode cX2_decodeOverflows 37 = .ok (.iload_n 3, 1) := by decide +kernel
theorem dX2_decodeOverflows_38 : decode cX2_decodeOverflows 38 = .ok (.aload_n 2, 1) := by decide +kernel
theorem dX2_decodeOverflows_39 : decode cX2_decodeOverflows 39 = .ok (.getfield 28, 3) := by decide +kernel
theorem dX2_decodeOverflows_42 : decode cX2_decodeOverflows 42 = .ok (.iload_n 3, 1) := by decide +kernel
theorem dX2_decodeOverflows_43 : decode cX2_decodeOverflows 43 = .ok (.laload, 1) := by decide +kernel
theorem dX2_decodeOverflows_44 : decode cX2_decodeOverflows 44 = .ok (.lastore, 1) := by decide +kernel
theorem dX2_decodeOverflows_45 : decode cX2_decodeOverflows 45 = .ok (.iinc 3 1, 3) := by decide +kernel
theorem dX2_decodeOverflows_48 : decode cX2_decodeOverflows 48 = .ok (.goto (-39), 3) := by decide +kernel
theorem dX2_decodeOverflows_51 : decode cX2_decodeOverflows 51 = .ok (.iconst 0, 1) := by decide +kernel
theorem dX2_decodeOverflows_52 : decode cX2_decodeOverflows 52 = .ok (.istore_n 3, 1) := by decide +kernel
theorem dX2_decodeOverflows_53 : decode cX2_decodeOverflows 53 = .ok (.iload_n 3, 1) := by decide +kernel
theorem dX2_decodeOverflows_54 : decode cX2_decodeOverflows 54 = .ok (.aload_n 1, 1) := by decide +kernel
theorem dX2_decodeOverflows_55 : decode cX2_decodeOverflows 55 = .ok (.getfield 36, 3) := by decide +kernel
theorem dX2_decodeOverflows_58 : decode cX2_decodeOverflows 58 = .ok (.if_icmp .ge 42, 3) := by decide +kernel
theorem dX2_decodeOverflows_61 : decode cX2_decodeOverflows 61 = .ok (.aload_n 2, 1) := by decide +kernel
theorem dX2_decodeOverflows_62 : decode cX2_decodeOverflows 62 = .ok (.getfield 42, 3) := by decide +kernel
theorem dX2_decodeOverflows_65 : decode cX2_decodeOverflows 65 = .ok (.iload_n 3, 1) := by decide +kernel
theorem dX2_decodeOverflows_66 : decode cX2_decodeOverflows 66 = .ok (.iaload, 1) := by decide +kernel
theorem dX2_decodeOverflows_67 : decode cX2_decodeOverflows 67 = .ok (.istore 4, 2) := by decide +kernel
theorem dX2_decodeOverflows_69 : decode cX2_decodeOverflows 69 = .ok (.aload_n 0, 1) := by decide +kernel
theorem dX2_decodeOverflows_70 : decode cX2_decodeOverflows 70 = .ok (.getfield 12, 3) := by decide +kernel
theorem dX2_decodeOverflows_73 : decode cX2_decodeOverflows 73 = .ok (.iload 4, 2) := by decide +kernel
theorem dX2_decodeOverflows_75 : decode cX2_decodeOverflows 75 = .ok (.iconst 1, 1) := by decide +kernel
theorem dX2_decodeOverflows_76 : decode cX2_decodeOverflows 76 = .ok (.if_icmp .ne 11, 3) := by decide +kernel
theorem dX2_decodeOverflows_79 : decode cX2_decodeOverflows 79 = .ok (.aload_n 1, 1) := by decide +kernel
theorem dX2_decodeOverflows_80 : decode cX2_decodeOverflows 80 = .ok (.iload_n 3, 1) := by decide +kernel
theorem dX2_decodeOverflows_81 : decode cX2_decodeOverflows 81 = .ok (.invokevirtual 46, 3) := by decide +kernel
theorem dX2_decodeOverflows_84 : decode cX2_decodeOverflows 84 = .ok (.goto 4, 3) := by decide +kernel
theorem dX2_decodeOverflows_87 : decode cX2_decodeOverflows 87 = .ok (.iconst 0, 1) := by decide +kernel
theorem dX2_decodeOverflows_88 : decode cX2_decodeOverflows 88 = .ok (.iload 4, 2) := by decide +kernel
theorem dX2_decodeOverflows_90 : decode cX2_decodeOverflows 90 = .ok (.i2l, 1) := by decide +kernel
theorem dX2_decodeOverflows_91 : decode cX2_decodeOverflows 91 = .ok (.invokevirtual 50, 3) := by decide +kernel
theorem dX2_decodeOverflows_94 : decode cX2_decodeOverflows 94 = .ok (.iinc 3 1, 3) := by decide +kernel
theorem dX2_decodeOverflows_97 : decode cX2_decodeOverflows 97 = .ok (.goto (-44), 3) := by decide +kernel
theorem dX2_decodeOverflows_100 : decode cX2_decodeOverflows 100 = .ok (.aload_n 0, 1) := by decide +kernel
theorem dX2_decodeOverflows_101 : decode cX2_decodeOverflows 101 = .ok (.getfield 12, 3) := by decide +kernel
theorem dX2_decodeOverflows_104 : decode cX2_decodeOverflows 104 = .ok (.aload_n 1, 1) := by decide +kernel
theorem dX2_decodeOverflows_105 : decode cX2_decodeOverflows 105 = .ok (.getfield 54, 3) := by decide +kernel
theorem dX2_decodeOverflows_108 : decode cX2_decodeOverflows 108 = .ok (.invokevirtual 57, 3) := by decide +kernel
theorem dX2_decodeOverflows_111 : decode cX2_decodeOverflows 111 = .ok (.pop, 1) := by decide +kernel
theorem dX2_decodeOverflows_112 : decode cX2_decodeOverflows 112 = .ok (.return_, 1) := by decide +kernel
theorem dX2_decode_0 : decode cX2_decode 0 = .ok (.aload_n 1, 1) := by decide +kernel
theorem dX2_decode_1 : decode cX2_decode 1 = .ok (.getfield 60, 3) := by decide +kernel
theorem dX2_decode_4 : decode cX2_decode 4 = .ok (.astore 4, 2) := by decide +kernel
theorem dX2_decode_6 : decode cX2_decode 6 = .ok (.aload_n 0, 1) := by decide +kernel
theorem dX2_decode_7 : decode cX2_decode 7 = .ok (.aload 4, 2) := by decide +kernel
theorem dX2_decode_9 : decode cX2_decode 9 = .ok (.aload_n 2, 1) := by decide +kernel
theorem dX2_decode_10 : decode cX2_decode 10 = .ok (.invokevirtual 66, 3) := by decide +kernel
theorem dX2_decode_13 : decode cX2_decode 13 = .ok (.aload_n 0, 1) := by decide +kernel
theorem dX2_decode_14 : decode cX2_decode 14 = .ok (.getfield 18, 3) := by decide +kernel
theorem dX2_decode_17 : decode cX2_decode 17 = .ok (.invokevirtual 21, 3) := by decide +kernel
theorem dX2_decode_20 : decode cX2_decode 20 = .ok (.iconst 0, 1) := by decide +kernel
theorem dX2_decode_21 : decode cX2_decode 21 = .ok (.istore 5, 2) := by decide +kernel
theorem dX2_decode_23 : decode cX2_decode 23 = .ok (.iload 5, 2) := by decide +kernel
theorem dX2_decode_25 : decode cX2_decode 25 = .ok (.aload 4, 2) := by decide +kernel
theorem dX2_decode_27 : decode cX2_decode 27 = .ok (.getfield 36, 3) := by decide +kernel
theorem dX2_decode_30 : decode cX2_decode 30 = .ok (.if_icmp .ge 79, 3) := by decide +kernel
theorem dX2_decode_33 : decode cX2_decode 33 = .ok (.aload_n 0, 1) := by decide +kernel
theorem dX2_decode_34 : decode cX2_decode 34 = .ok (.getfield 18, 3) := by decide +kernel
theorem dX2_decode_37 : decode cX2_decode 37 = .ok (.getfield 24, 3) := by decide +kernel
theorem dX2_decode_40 : decode cX2_decode 40 = .ok (.iload 5, 2) := by decide +kernel
theorem dX2_decode_42 : decode cX2_decode 42 = .ok (.aload_n 2, 1) := by decide +kernel
theorem dX2_decode_43 : decode cX2_decode 43 = .ok (.getfield 70, 3) := by decide +kernel
theorem dX2_decode_46 : decode cX2_decode 46 = .ok (.iload 5, 2) := by decide +kernel
theorem dX2_decode_48 : decode cX2_decode 48 = .ok (.iaload, 1) := by decide +kernel
theorem dX2_decode_49 : decode cX2_decode 49 = .ok (.i2l, 1) := by decide +kernel
theorem dX2_decode_50 : decode cX2_decode 50 = .ok (.aload_n 0, 1) := by decide +kernel
theorem dX2_decode_51 : decode cX2_decode 51 = .ok (.getfield 12, 3) := by decide +kernel
theorem dX2_decode_54 : decode cX2_decode 54 = .ok (.iload 5, 2) := by decide +kernel
theorem dX2_decode_56 : decode cX2_decode 56 = .ok (.iconst 0, 1) := by decide +kernel
theorem dX2_decode_57 : decode cX2_decode 57 = .ok (.invokevirtual 73, 3) := by decide +kernel
theorem dX2_decode_60 : decode cX2_decode 60 = .ok (.aload 4, 2) := by decide +kernel
theorem dX2_decode_62 : decode cX2_decode 62 = .ok (.getfield 77, 3) := by decide +kernel
theorem dX2_decode_65 : decode cX2_decode 65 = .ok (.lshl, 1) := by decide +kernel
theorem dX2_decode_66 : decode cX2_decode 66 = .ok (.ladd, 1) := by decide +kernel
theorem dX2_decode_67 : decode cX2_decode 67 = .ok (.lastore, 1) := by decide +kernel
theorem dX2_decode_68 : decode cX2_decode 68 = .ok (.aload_n 0, 1) := by decide +kernel
theorem dX2_decode_69 : decode cX2_decode 69 = .ok (.getfield 18, 3) := by decide +kernel
theorem dX2_decode_72 : decode cX2_decode 72 = .ok (.getfield 33, 3) := by decide +kernel
theorem dX2_decode_75 : decode cX2_decode 75 = .ok (.iload 5, 2) := by decide +kernel
theorem dX2_decode_77 : decode cX2_decode 77 = .ok (.aload_n 2, 1) := by decide +kernel
theorem dX2_decode_78 : decode cX2_decode 78 = .ok (.getfield 70, 3) := by decide +kernel
theorem dX2_decode_81 : decode cX2_decode 81 = .ok (.iload 5, 2) := by decide +kernel
theorem dX2_decode_83 : decode cX2_decode 83 = .ok (.iaload, 1) := by decide +kernel
theorem dX2_decode_84 : decode cX2_decode 84 = .ok (.i2l, 1) := by decide +kernel
theorem dX2_decode_85 : decode cX2_decode 85 = .ok (.aload_n 0, 1) := by decide +kernel
theorem dX2_decode_86 : decode cX2_decode 86 = .ok (.getfield 12, 3) := by decide +kernel
theorem dX2_decode_89 : decode cX2_decode 89 = .ok (.iload 5, 2) := by decide +kernel
theorem dX2_decode_91 : decode cX2_decode 91 = .ok (.iconst 1, 1) := by decide +kernel
theorem dX2_decode_92 : decode cX2_decode 92 = .ok (.invokevirtual 73, 3) := by decide +kernel
theorem dX2_decode_95 : decode cX2_decode 95 = .ok (.aload 4, 2) := by decide +kernel
theorem dX2_decode_97 : decode cX2_decode 97 = .ok (.getfield 77, 3) := by decide +kernel
theorem dX2_decode_100 : decode cX2_decode 100 = .ok (.lshl, 1) := by decide +kernel
theorem dX2_decode_101 : decode cX2_decode 101 = .ok (.ladd, 1) := by decide +kernel
theorem dX2_decode_102 : decode cX2_decode 102 = .ok (.lastore, 1) := by decide +kernel
theorem dX2_decode_103 : decode cX2_decode 103 = .ok (.iinc 5 1, 3) := by decide +kernel
theorem dX2_decode_106 : decode cX2_decode 106 = .ok (.goto (-83), 3) := by decide +kernel
theorem dX2_decode_109 : decode cX2_decode 109 = .ok (.iconst 0, 1) := by decide +kernel
theorem dX2_decode_110 : decode cX2_decode 110 = .ok (.istore 5, 2) := by decide +kernel
theorem dX2_decode_112 : decode cX2_decode 112 = .ok (.iload 5, 2) := by decide +kernel
theorem dX2_decode_114 : decode cX2_decode 114 = .ok (.aload_n 1, 1) := by decide +kernel
theorem dX2_decode_115 : decode cX2_decode 115 = .ok (.getfield 80, 3) := by decide +kernel
theorem dX2_decode_118 : decode cX2_decode 118 = .ok (.if_icmp .ge 29, 3) := by decide +kernel
theorem dX2_decode_121 : decode cX2_decode 121 = .ok (.aload_n 0, 1) := by decide +kernel
theorem dX2_decode_122 : decode cX2_decode 122 = .ok (.getfield 18, 3) := by decide +kernel
theorem dX2_decode_125 : decode cX2_decode 125 = .ok (.aload 4, 2) := by decide +kernel
theorem dX2_decode_127 : decode cX2_decode 127 = .ok (.aload_n 1, 1) := by decide +kernel
theorem dX2_decode_128 : decode cX2_decode 128 = .ok (.getfield 83, 3) := by decide +kernel
theorem dX2_decode_131 : decode cX2_decode 131 = .ok (.iload 5, 2) := by decide +kernel
theorem dX2_decode_133 : decode cX2_decode 133 = .ok (.iaload, 1) := by decide +kernel
theorem dX2_decode_134 : decode cX2_decode 134 = .ok (.invokevirtual 86, 3) := by decide +kernel
theorem dX2_decode_137 : decode cX2_decode 137 = .ok (.lconst 0, 1) := by decide +kernel
theorem dX2_decode_138 : decode cX2_decode 138 = .ok (.invokevirtual 50, 3) := by decide +kernel
theorem dX2_decode_141 : decode cX2_decode 141 = .ok (.iinc 5 1, 3) := by decide +kernel
theorem dX2_decode_144 : decode cX2_decode 144 = .ok (.goto (-32), 3) := by decide +kernel
theorem dX2_decode_147 : decode cX2_decode 147 = .ok (.aload_n 0, 1) := by decide +kernel
theorem dX2_decode_148 : decode cX2_decode 148 = .ok (.getfield 18, 3) := by decide +kernel
theorem dX2_decode_151 : decode cX2_decode 151 = .ok (.iload_n 3, 1) := by decide +kernel
theorem dX2_decode_152 : decode cX2_decode 152 = .ok (.invokevirtual 57, 3) := by decide +kernel
theorem dX2_decode_155 : decode cX2_decode 155 = .ok (.ireturn, 1) := by decide +kernel
theorem dX3_init_0 : decode cX3_init 0 = .ok (.aload_n 0, 1) := by decide +kernel
theorem dX3_init_1 : decode cX3_init 1 = .ok (.invokespecial 3, 3) := by decide +kernel
theorem dX3_init_4 : decode cX3_init 4 = .ok (.aload_n 0, 1) := by decide +kernel
theorem dX3_init_5 : decode cX3_init 5 = .ok (.bipush 12, 2) := by decide +kernel
theorem dX3_init_7 : decode cX3_init 7 = .ok (.putfield 9, 3) := by decide +kernel
theorem dX3_init_10 : decode cX3_init 10 = .ok (.aload_n 0, 1) := by decide +kernel
theorem dX3_init_11 : decode cX3_init 11 = .ok (.iconst 3, 1) := by decide +kernel
theorem dX3_init_12 : decode cX3_init 12 = .ok (.putfield 15, 3) := by decide +kernel
theorem dX3_init_15 : decode cX3_init 15 = .ok (.aload_n 0, 1) := by decide +kernel
theorem dX3_init_16 : decode cX3_init 16 = .ok (.iconst 3, 1) := by decide +kernel
theorem dX3_init_17 : decode cX3_init 17 = .ok (.putfield 18, 3) := by decide +kernel
theorem dX3_init_20 : decode cX3_init 20 = .ok (.aload_n 0, 1) := by decide +kernel
theorem dX3_init_21 : decode cX3_init 21 = .ok (.bipush 6, 2) := by decide +kernel
theorem dX3_init_23 : decode cX3_init 23 = .ok (.putfield 21, 3) := by decide +kernel
theorem dX3_init_26 : decode cX3_init 26 = .ok (.aload_n 0, 1) := by decide +kernel
theorem dX3_init_27 : decode cX3_init 27 = .ok (.iconst 2, 1) := by decide +kernel
theorem dX3_init_28 : decode cX3_init 28 = .ok (.putfield 24, 3) := by decide +kernel
theorem dX3_init_31 : decode cX3_init 31 = .ok (.aload_n 0, 1) := by decide +kernel
theorem dX3_init_32 : decode cX3_init 32 = .ok (.bipush 20, 2) := by decide +kernel
theorem dX3_init_34 : decode cX3_init 34 = .ok (.putfield 27, 3) := by decide +kernel
theorem dX3_init_37 : decode cX3_init 37 = .ok (.return_, 1) := by decide +kernel
theorem dX3_copyFrom_0 : decode cX3_copyFrom 0 = .ok (.aload_n 0, 1) := by decide +kernel
theorem dX3_copyFrom_1 : decode cX3_copyFrom 1 = .ok (.aload_n 1, 1) := by decide +kernel
theorem dX3_copyFrom_2 : decode cX3_copyFrom 2 = .ok (.getfield 9, 3) := by decide +kernel
theorem dX3_copyFrom_5 : decode cX3_copyFrom 5 = .ok (.putfield 9, 3) := by decide +kernel
theorem dX3_copyFrom_8 : decode cX3_copyFrom 8 = .ok (.aload_n 0, 1) := by decide +kernel
theorem dX3_copyFrom_9 : decode cX3_copyFrom 9 = .ok (.aload_n 1, 1) := by decide +kernel
theorem dX3_copyFrom_10 : decode cX3_copyFrom 10 = .ok (.getfield 15, 3) := by decide +kernel
theorem dX3_copyFrom_13 : decode cX3_copyFrom 13 = .ok (.putfield 15, 3) := by decide +kernel
theorem dX3_copyFrom_16 : decode cX3_copyFrom 16 = .ok (.aload_n 0, 1) := by decide +kernel
theorem dX3_copyFrom_17 : decode cX3_copyFrom 17 = .ok (.aload_n 1, 1) := by decide +kernel
theorem dX3_copyFrom_18 : decode cX3_copyFrom 18 = .ok (.getfield 18, 3) := by decide +kernel
theorem dX3_copyFrom_21 : decode cX3_copyFrom 21 = .ok (.putfield 18, 3) := by decide +kernel
theorem dX3_copyFrom_24 : decode cX3_copyFrom 24 = .ok (.aload_n 0, 1) := by decide +kernel
theorem dX3_copyFrom_25 : decode cX3_copyFrom 25 = .ok (.aload_n 1, 1) := by decide +kernel
theorem dX3_copyFrom_26 : decode cX3_copyFrom 26 = .ok (.getfield 21, 3) := by decide +kernel
theorem dX3_copyFrom_29 : decode cX3_copyFrom 29 = .ok (.putfield 21, 3) := by decide +kernel
theorem dX3_copyFrom_32 : decode cX3_copyFrom 32 = .ok (.aload_n 0, 1) := by decide +kernel
theorem dX3_copyFrom_33 : decode cX3_copyFrom 33 = .ok (.aload_n 1, 1) := by decide +kernel
theorem dX3_copyFrom_34 : decode cX3_copyFrom 34 = .ok (.getfield 24, 3) := by decide +kernel
theorem dX3_copyFrom_37 : decode cX3_copyFrom 37 = .ok (.putfield 24, 3) := by decide +kernel
theorem dX3_copyFrom_40 : decode cX3_copyFrom 40 = .ok (.aload_n 0, 1) := by decide +kernel
theorem dX3_copyFrom_41 : decode cX3_copyFrom 41 = .ok (.aload_n 1, 1) := by decide +kernel
theorem dX3_copyFrom_42 : decode cX3_copyFrom 42 = .ok (.getfield 27, 3) := by decide +kernel
theorem dX3_copyFrom_45 : decode cX3_copyFrom 45 = .ok (.putfield 27, 3) := by decide +kernel
theorem dX3_copyFrom_48 : decode cX3_copyFrom 48 = .ok (.return_, 1) := by decide +kernel
theorem dX3_placesOfKey_0 : decode cX3_placesOfKey 0 = .ok (.iconst 0, 1) := by decide +kernel
theorem dX3_placesOfKey_1 : decode cX3_placesOfKey 1 = .ok (.istore_n 2, 1) := by decide +kernel
theorem dX3_placesOfKey_2 : decode cX3_placesOfKey 2 = .ok (.iconst 0, 1) := by decide +kernel
theorem dX3_placesOfKey_3 : decode cX3_placesOfKey 3 = .ok (.istore_n 3, 1) := by decide +kernel
theorem dX3_placesOfKey_4 : decode cX3_placesOfKey 4 = .ok (.iload_n 3, 1) := by decide +kernel
theorem dX3_placesOfKey_5 : decode cX3_placesOfKey 5 = .ok (.aload_n 0, 1) := by decide +kernel
theorem dX3_placesOfKey_6 : decode cX3_placesOfKey 6 = .ok (.getfield 18, 3) := by decide +kernel
theorem dX3_placesOfKey_9 : decode cX3_placesOfKey 9 = .ok (.if_icmp .ge 47, 3) := by decide +kernel
theorem dX3_placesOfKey_12 : decode cX3_placesOfKey 12 = .ok (.iload_n 3, 1) := by decide +kernel
theorem dX3_placesOfKey_13 : decode cX3_placesOfKey 13 = .ok (.iconst 4, 1) := by decide +kernel
theorem dX3_placesOfKey_14 : decode cX3_placesOfKey 14 = .ok (.if_icmp .ge 42, 3) := by decide +kernel
theorem dX3_placesOfKey_17 : decode cX3_placesOfKey 17 = .ok (.iload_n 1, 1) := by decide +kernel
theorem dX3_placesOfKey_18 : decode cX3_placesOfKey 18 = .ok (.getstatic 30, 3) := by decide +kernel
theorem dX3_placesOfKey_21 : decode cX3_placesOfKey 21 = .ok (.iload_n 3, 1) := by decide +kernel
theorem dX3_placesOfKey_22 : decode cX3_placesOfKey 22 = .ok (.iaload, 1) := by decide +kernel
theorem dX3_placesOfKey_23 : decode cX3_placesOfKey 23 = .ok (.imul, 1) := by decide +kernel
theorem dX3_placesOfKey_24 : decode cX3_placesOfKey 24 = .ok (.getstatic 34, 3) := by decide +kernel
theorem dX3_placesOfKey_27 : decode cX3_placesOfKey 27 = .ok (.iload_n 3, 1) := by decide +kernel
theorem dX3_placesOfKey_28 : decode cX3_placesOfKey 28 = .ok (.iaload, 1) := by decide +kernel
theorem dX3_placesOfKey_29 : decode cX3_placesOfKey 29 = .ok (.iadd, 1) := by decide +kernel
theorem dX3_placesOfKey_30 : decode cX3_placesOfKey 30 = .ok (.istore 4, 2) := by decide +kernel
theorem dX3_placesOfKey_32 : decode cX3_placesOfKey 32 = .ok (.iload_n 2, 1) := by decide +kernel
theorem dX3_placesOfKey_33 : decode cX3_placesOfKey 33 = .ok (.iconst 1, 1) := by decide +kernel
theorem dX3_placesOfKey_34 : decode cX3_placesOfKey 34 = .ok (.iload 4, 2) := by decide +kernel
theorem dX3_placesOfKey_36 : decode cX3_placesOfKey 36 = .ok (.sipush 1009, 3) := by decide +kernel
theorem dX3_placesOfKey_39 : decode cX3_placesOfKey 39 = .ok (.irem, 1) := by decide +kernel
theorem dX3_placesOfKey_40 : decode cX3_placesOfKey 40 = .ok (.aload_n 0, 1) := by decide +kernel
theorem dX3_placesOfKey_41 : decode cX3_placesOfKey 41 = .ok (.getfield 9, 3) := by decide +kernel
theorem dX3_placesOfKey_44 : decode cX3_placesOfKey 44 = .ok (.invokestatic 37, 3) := by decide +kernel
theorem dX3_placesOfKey_47 : decode cX3_placesOfKey 47 = .ok (.ishl, 1) := by decide +kernel
theorem dX3_placesOfKey_48 : decode cX3_placesOfKey 48 = .ok (.ior, 1) := by decide +kernel
theorem dX3_placesOfKey_49 : decode cX3_placesOfKey 49 = .ok (.istore_n 2, 1) := by decide +kernel
theorem dX3_placesOfKey_50 : decode cX3_placesOfKey 50 = .ok (.iinc 3 1, 3) := by decide +kernel
theorem dX3_placesOfKey_53 : decode cX3_placesOfKey 53 = .ok (.goto (-49), 3) := by decide +kernel
theorem dX3_placesOfKey_56 : decode cX3_placesOfKey 56 = .ok (.iload_n 2, 1) := by decide +kernel
theorem dX3_placesOfKey_57 : decode cX3_placesOfKey 57 = .ok (.ireturn, 1) := by decide +kernel
theorem dX3_placesOfCounter_0 : decode cX3_placesOfCounter 0 = .ok (.iconst 0, 1) := by decide +kernel
theorem dX3_placesOfCounter_1 : decode cX3_placesOfCounter 1 = .ok (.istore_n 2, 1) := by decide +kernel
theorem dX3_placesOfCounter_2 : decode cX3_placesOfCounter 2 = .ok (.iconst 0, 1) := by decide +kernel
theorem dX3_placesOfCounter_3 : decode cX3_placesOfCounter 3 = .ok (.istore_n 3, 1) := by decide +kernel
theorem dX3_placesOfCounter_4 : decode cX3_placesOfCounter 4 = .ok (.iload_n 3, 1) := by decide +kernel
theorem dX3_placesOfCounter_5 : decode cX3_placesOfCounter 5 = .ok (.aload_n 0, 1) := by decide +kernel
theorem dX3_placesOfCounter_6 : decode cX3_placesOfCounter 6 = .ok (.getfield 24, 3) := by decide +kernel
theorem dX3_placesOfCounter_9 : decode cX3_placesOfCounter 9 = .ok (.if_icmp .ge 46, 3) := by decide +kernel
theorem dX3_placesOfCounter_12 : decode cX3_placesOfCounter 12 = .ok (.iload_n 3, 1) := by decide +kernel
theorem dX3_placesOfCounter_13 : decode cX3_placesOfCounter 13 = .ok (.iconst 3, 1) := by decide +kernel
theorem dX3_placesOfCounter_14 : decode cX3_placesOfCounter 14 = .ok (.if_icmp .ge 41, 3) := by decide +kernel
theorem dX3_placesOfCounter_17 : decode cX3_placesOfCounter 17 = .ok (.iload_n 1, 1) := by decide +kernel
theorem dX3_placesOfCounter_18 : decode cX3_placesOfCounter 18 = .ok (.getstatic 41, 3) := by decide +kernel
theorem dX3_placesOfCounter_21 : decode cX3_placesOfCounter 21 = .ok (.iload_n 3, 1) := by decide +kernel
theorem dX3_placesOfCounter_22 : decode cX3_placesOfCounter 22 = .ok (.iaload, 1) := by decide +kernel
theorem dX3_placesOfCounter_23 : decode cX3_placesOfCounter 23 = .ok (.imul, 1) := by decide +kernel
theorem dX3_placesOfCounter_24 : decode cX3_placesOfCounter 24 = .ok (.getstatic 44, 3) := by decide +kernel
theorem dX3_placesOfCounter_27 : decode cX3_placesOfCounter 27 = .ok (.iload_n 3, 1) := by decide +kernel
theorem dX3_placesOfCounter_28 : decode cX3_placesOfCounter 28 = .ok (.iaload, 1) := by decide +kernel
theorem dX3_placesOfCounter_29 : decode cX3_placesOfCounter 29 = .ok (.iadd, 1) := by decide +kernel
theorem dX3_placesOfCounter_30 : decode cX3_placesOfCounter 30 = .ok (.istore 4, 2) := by decide +kernel
theorem dX3_placesOfCounter_32 : decode cX3_placesOfCounter 32 = .ok (.iload_n 2, 1) := by decide +kernel
theorem dX3_placesOfCounter_33 : decode cX3_placesOfCounter 33 = .ok (.iconst 1, 1) := by decide +kernel
theorem dX3_placesOfCounter_34 : decode cX3_placesOfCounter 34 = .ok (.iload 4, 2) := by decide +kernel
theorem dX3_placesOfCounter_36 : decode cX3_placesOfCounter 36 = .ok (.bipush 103, 2) := by decide +kernel
theorem dX3_placesOfCounter_38 : decode cX3_placesOfCounter 38 = .ok (.irem, 1) := by decide +kernel
theorem dX3_placesOfCounter_39 : decode cX3_placesOfCounter 39 = .ok (.aload_n 0, 1) := by decide +kernel
theorem dX3_placesOfCounter_40 : decode cX3_placesOfCounter 40 = .ok (.getfield 21, 3) := by decide +kernel
theorem dX3_placesOfCounter_43 : decode cX3_placesOfCounter 43 = .ok (.invokestatic 37, 3) := by decide +kernel
theorem dX3_placesOfCounter_46 : decode cX3_placesOfCounter 46 = .ok (.ishl, 1) := by decide +kernel
theorem dX3_placesOfCounter_47 : decode cX3_placesOfCounter 47 = .ok (.ior, 1) := by decide +kernel
theorem dX3_placesOfCounter_48 : decode cX3_placesOfCounter 48 = .ok (.istore_n 2, 1) := by decide +kernel
theorem dX3_placesOfCounter_49 : decode cX3_placesOfCounter 49 = .ok (.iinc 3 1, 3) := by decide +kernel
theorem dX3_placesOfCounter_52 : decode cX3_placesOfCounter 52 = .ok (.goto (-48), 3) := by decide +kernel
theorem dX3_placesOfCounter_55 : decode cX3_placesOfCounter 55 = .ok (.iload_n 2, 1) := by decide +kernel
theorem dX3_placesOfCounter_56 : decode cX3_placesOfCounter 56 = .ok (.ireturn, 1) := by decide +kernel
theorem dX3_remainder_0 : decode cX3_remainder 0 = .ok (.iload_n 1, 1) := by decide +kernel
theorem dX3_remainder_1 : decode cX3_remainder 1 = .ok (.ifCond .le 9, 3) := by decide +kernel
theorem dX3_remainder_4 : decode cX3_remainder 4 = .ok (.iload_n 0, 1) := by decide +kernel
theorem dX3_remainder_5 : decode cX3_remainder 5 = .ok (.iload_n 1, 1) := by decide +kernel
theorem dX3_remainder_6 : decode cX3_remainder 6 = .ok (.irem, 1) := by decide +kernel
theorem dX3_remainder_7 : decode cX3_remainder 7 = .ok (.goto 4, 3) := by decide +kernel
theorem dX3_remainder_10 : decode cX3_remainder 10 = .ok (.iconst 0, 1) := by decide +kernel
theorem dX3_remainder_11 : decode cX3_remainder 11 = .ok (.ireturn, 1) := by decide +kernel
theorem dX4_init_0 : decode cX4_init 0 = .ok (.aload_n 0, 1) := by decide +kernel
theorem dX4_init_1 : decode cX4_init 1 = .ok (.invokespecial 3, 3) := by decide +kernel
theorem dX4_init_4 : decode cX4_init 4 = .ok (.aload_n 0, 1) := by decide +kernel
theorem dX4_init_5 : decode cX4_init 5 = .ok (.iconst 5, 1) := by decide +kernel
theorem dX4_init_6 : decode cX4_init 6 = .ok (.anewarray 9, 3) := by decide +kernel
theorem dX4_init_9 : decode cX4_init 9 = .ok (.putfield 11, 3) := by decide +kernel
theorem dX4_init_12 : decode cX4_init 12 = .ok (.iconst 0, 1) := by decide +kernel
theorem dX4_init_13 : decode cX4_init 13 = .ok (.istore_n 1, 1) := by decide +kernel
theorem dX4_init_14 : decode cX4_init 14 = .ok (.iload_n 1, 1) := by decide +kernel
theorem dX4_init_15 : decode cX4_init 15 = .ok (.iconst 5, 1) := by decide +kernel
theorem dX4_init_16 : decode cX4_init 16 = .ok (.if_icmp .ge 22, 3) := by decide +kernel
theorem dX4_init_19 : decode cX4_init 19 = .ok (.aload_n 0, 1) := by decide +kernel
theorem dX4_init_20 : decode cX4_init 20 = .ok (.getfield 11, 3) := by decide +kernel
theorem dX4_init_23 : decode cX4_init 23 = .ok (.iload_n 1, 1) := by decide +kernel
theorem dX4_init_24 : decode cX4_init 24 = .ok (.new 9, 3) := by decide +kernel
theorem dX4_init_27 : decode cX4_init 27 = .ok (.dup, 1) := by decide +kernel
theorem dX4_init_28 : decode cX4_init 28 = .ok (.invokespecial 17, 3) := by decide +kernel
theorem dX4_init_31 : decode cX4_init 31 = .ok (.aastore, 1) := by decide +kernel
theorem dX4_init_32 : decode cX4_init 32 = .ok (.iinc 1 1, 3) := by decide +kernel
theorem dX4_init_35 : decode cX4_init 35 = .ok (.goto (-21), 3) := by decide +kernel
theorem dX4_init_38 : decode cX4_init 38 = .ok (.return_, 1) := by decide +kernel
theorem dX4_push_0 : decode cX4_push 0 = .ok (.aload_n 0, 1) := by decide +kernel
theorem dX4_push_1 : decode cX4_push 1 = .ok (.getfield 18, 3) := by decide +kernel
theorem dX4_push_4 : decode cX4_push 4 = .ok (.iconst 5, 1) := by decide +kernel
theorem dX4_push_5 : decode cX4_push 5 = .ok (.if_icmp .lt 7, 3) := by decide +kernel
theorem dX4_push_8 : decode cX4_push 8 = .ok (.aload_n 0, 1) := by decide +kernel
theorem dX4_push_9 : decode cX4_push 9 = .ok (.invokevirtual 22, 3) := by decide +kernel
theorem dX4_push_12 : decode cX4_push 12 = .ok (.aload_n 0, 1) := by decide +kernel
theorem dX4_push_13 : decode cX4_push 13 = .ok (.getfield 11, 3) := by decide +kernel
theorem dX4_push_16 : decode cX4_push 16 = .ok (.aload_n 0, 1) := by decide +kernel
theorem dX4_push_17 : decode cX4_push 17 = .ok (.getfield 18, 3) := by decide +kernel
theorem dX4_push_20 : decode cX4_push 20 = .ok (.aaload, 1) := by decide +kernel
theorem dX4_push_21 : decode cX4_push 21 = .ok (.aload_n 1, 1) := by decide +kernel
theorem dX4_push_22 : decode cX4_push 22 = .ok (.invokevirtual 25, 3) := by decide +kernel
theorem dX4_push_25 : decode cX4_push 25 = .ok (.aload_n 0, 1) := by decide +kernel
theorem dX4_push_26 : decode cX4_push 26 = .ok (.dup, 1) := by decide +kernel
theorem dX4_push_27 : decode cX4_push 27 = .ok (.getfield 18, 3) := by decide +kernel
theorem dX4_push_30 : decode cX4_push 30 = .ok (.iconst 1, 1) := by decide +kernel
theorem dX4_push_31 : decode cX4_push 31 = .ok (.iadd, 1) := by decide +kernel
theorem dX4_push_32 : decode cX4_push 32 = .ok (.putfield 18, 3) := by decide +kernel
theorem dX4_push_35 : decode cX4_push 35 = .ok (.return_, 1) := by decide +kernel
theorem dX4_dropOldest_0 : decode cX4_dropOldest 0 = .ok (.aload_n 0, 1) := by decide +kernel
theorem dX4_dropOldest_1 : decode cX4_dropOldest 1 = .ok (.getfield 11, 3) := by decide +kernel
theorem dX4_dropOldest_4 : decode cX4_dropOldest 4 = .ok (.iconst 0, 1) := by decide +kernel
theorem dX4_dropOldest_5 : decode cX4_dropOldest 5 = .ok (.aaload, 1) := by decide +kernel
theorem dX4_dropOldest_6 : decode cX4_dropOldest 6 = .ok (.astore_n 1, 1) := by decide +kernel
theorem dX4_dropOldest_7 : decode cX4_dropOldest 7 = .ok (.iconst 1, 1) := by decide +kernel
theorem dX4_dropOldest_8 : decode cX4_dropOldest 8 = .ok (.istore_n 2, 1) := by decide +kernel
theorem dX4_dropOldest_9 : decode cX4_dropOldest 9 = .ok (.iload_n 2, 1) := by decide +kernel
theorem dX4_dropOldest_10 : decode cX4_dropOldest 10 = .ok (.iconst 5, 1) := by decide +kernel
theorem dX4_dropOldest_11 : decode cX4_dropOldest 11 = .ok (.if_icmp .ge 23, 3) := by decide +kernel
theorem dX4_dropOldest_14 : decode cX4_dropOldest 14 = .ok (.aload_n 0, 1) := by decide +kernel
theorem dX4_dropOldest_15 : decode cX4_dropOldest 15 = .ok (.getfield 11, 3) := by decide +kernel
theorem dX4_dropOldest_18 : decode cX4_dropOldest 18 = .ok (.iload_n 2, 1) := by decide +kernel
theorem dX4_dropOldest_19 : decode cX4_dropOldest 19 = .ok (.iconst 1, 1) := by decide +kernel
theorem dX4_dropOldest_20 : decode cX4_dropOldest 20 = .ok (.isub, 1) := by decide +kernel
theorem dX4_dropOldest_21 : decode cX4_dropOldest 21 = .ok (.aload_n 0, 1) := by decide +kernel
theorem dX4_dropOldest_22 : decode cX4_dropOldest 22 = .ok (.getfield 11, 3) := by decide +kernel
theorem dX4_dropOldest_25 : decode cX4_dropOldest 25 = .ok (.iload_n 2, 1) := by decide +kernel
theorem dX4_dropOldest_26 : decode cX4_dropOldest 26 = .ok (.aaload, 1) := by decide +kernel
theorem dX4_dropOldest_27 : decode cX4_dropOldest 27 = .ok (.aastore, 1) := by decide +kernel
theorem dX4_dropOldest_28 : decode cX4_dropOldest 28 = .ok (.iinc 2 1, 3) := by decide +kernel
theorem dX4_dropOldest_31 : decode cX4_dropOldest 31 = .ok (.goto (-22), 3) := by decide +kernel
theorem dX4_dropOldest_34 : decode cX4_dropOldest 34 = .ok (.aload_n 0, 1) := by decide +kernel
theorem dX4_dropOldest_35 : decode cX4_dropOldest 35 = .ok (.getfield 11, 3) := by decide +kernel
theorem dX4_dropOldest_38 : decode cX4_dropOldest 38 = .ok (.iconst 4, 1) := by decide +kernel
theorem dX4_dropOldest_39 : decode cX4_dropOldest 39 = .ok (.aload_n 1, 1) := by decide +kernel
theorem dX4_dropOldest_40 : decode cX4_dropOldest 40 = .ok (.aastore, 1) := by decide +kernel
theorem dX4_dropOldest_41 : decode cX4_dropOldest 41 = .ok (.aload_n 0, 1) := by decide +kernel
theorem dX4_dropOldest_42 : decode cX4_dropOldest 42 = .ok (.iconst 4, 1) := by decide +kernel
theorem dX4_dropOldest_43 : decode cX4_dropOldest 43 = .ok (.putfield 18, 3) := by decide +kernel
theorem dX4_dropOldest_46 : decode cX4_dropOldest 46 = .ok (.return_, 1) := by decide +kernel
theorem dX4_pop_0 : decode cX4_pop 0 = .ok (.aload_n 0, 1) := by decide +kernel
theorem dX4_pop_1 : decode cX4_pop 1 = .ok (.getfield 18, 3) := by decide +kernel
theorem dX4_pop_4 : decode cX4_pop 4 = .ok (.iconst 1, 1) := by decide +kernel
theorem dX4_pop_5 : decode cX4_pop 5 = .ok (.if_icmp .ge 6, 3) := by decide +kernel
theorem dX4_pop_8 : decode cX4_pop 8 = .ok (.bipush (-4), 2) := by decide +kernel
theorem dX4_pop_10 : decode cX4_pop 10 = .ok (.ireturn, 1) := by decide +kernel
theorem dX4_pop_11 : decode cX4_pop 11 = .ok (.aload_n 0, 1) := by decide +kernel
theorem dX4_pop_12 : decode cX4_pop 12 = .ok (.dup, 1) := by decide +kernel
theorem dX4_pop_13 : decode cX4_pop 13 = .ok (.getfield 18, 3) := by decide +kernel
theorem dX4_pop_16 : decode cX4_pop 16 = .ok (.iconst 1, 1) := by decide +kernel
theorem dX4_pop_17 : decode cX4_pop 17 = .ok (.isub, 1) := by decide +kernel
theorem dX4_pop_18 : decode cX4_pop 18 = .ok (.putfield 18, 3) := by decide +kernel
theorem dX4_pop_21 : decode cX4_pop 21 = .ok (.aload_n 1, 1) := by decide +kernel
theorem dX4_pop_22 : decode cX4_pop 22 = .ok (.aload_n 0, 1) := by decide +kernel
theorem dX4_pop_23 : decode cX4_pop 23 = .ok (.getfield 11, 3) := by decide +kernel
theorem dX4_pop_26 : decode cX4_pop 26 = .ok (.aload_n 0, 1) := by decide +kernel
theorem dX4_pop_27 : decode cX4_pop 27 = .ok (.getfield 18, 3) := by decide +kernel
theorem dX4_pop_30 : decode cX4_pop 30 = .ok (.aaload, 1) := by decide +kernel
theorem dX4_pop_31 : decode cX4_pop 31 = .ok (.invokevirtual 25, 3) := by decide +kernel
theorem dX4_pop_34 : decode cX4_pop 34 = .ok (.aload_n 0, 1) := by decide +kernel
theorem dX4_pop_35 : decode cX4_pop 35 = .ok (.getfield 18, 3) := by decide +kernel
theorem dX4_pop_38 : decode cX4_pop 38 = .ok (.ireturn, 1) := by decide +kernel
theorem dX5_init_0 : decode cX5_init 0 = .ok (.aload_n 0, 1) := by decide +kernel
theorem dX5_init_1 : decode cX5_init 1 = .ok (.invokespecial 3, 3) := by decide +kernel
theorem dX5_init_4 : decode cX5_init 4 = .ok (.aload_n 0, 1) := by decide +kernel
theorem dX5_init_5 : decode cX5_init 5 = .ok (.new 9, 3) := by decide +kernel
theorem dX5_init_8 : decode cX5_init 8 = .ok (.dup, 1) := by decide +kernel
theorem dX5_init_9 : decode cX5_init 9 = .ok (.invokespecial 11, 3) := by decide +kernel
theorem dX5_init_12 : decode cX5_init 12 = .ok (.putfield 12, 3) := by decide +kernel
theorem dX5_init_15 : decode cX5_init 15 = .ok (.aload_n 0, 1) := by decide +kernel
theorem dX5_init_16 : decode cX5_init 16 = .ok (.bipush 16, 2) := by decide +kernel
theorem dX5_init_18 : decode cX5_init 18 = .ok (.newarray .int, 2) := by decide +kernel
theorem dX5_init_20 : decode cX5_init 20 = .ok (.putfield 18, 3) := by decide +kernel
theorem dX5_init_23 : decode cX5_init 23 = .ok (.aload_n 0, 1) := by decide +kernel
theorem dX5_init_24 : decode cX5_init 24 = .ok (.new 22, 3) := by decide +kernel
theorem dX5_init_27 : decode cX5_init 27 = .ok (.dup, 1) := by decide +kernel
theorem dX5_init_28 : decode cX5_init 28 = .ok (.invokespecial 24, 3) := by decide +kernel
theorem dX5_init_31 : decode cX5_init 31 = .ok (.putfield 25, 3) := by decide +kernel
theorem dX5_init_34 : decode cX5_init 34 = .ok (.aload_n 0, 1) := by decide +kernel
theorem dX5_init_35 : decode cX5_init 35 = .ok (.new 22, 3) := by decide +kernel
theorem dX5_init_38 : decode cX5_init 38 = .ok (.dup, 1) := by decide +kernel
theorem dX5_init_39 : decode cX5_init 39 = .ok (.invokespecial 24, 3) := by decide +kernel
theorem dX5_init_42 : decode cX5_init 42 = .ok (.putfield 29, 3) := by decide +kernel
theorem dX5_init_45 : decode cX5_init 45 = .ok (.return_, 1) := by decide +kernel
theorem dX5_copyFrom_0 : decode cX5_copyFrom 0 = .ok (.aload_n 0, 1) := by decide +kernel
theorem dX5_copyFrom_1 : decode cX5_copyFrom 1 = .ok (.getfield 12, 3) := by decide +kernel
theorem dX5_copyFrom_4 : decode cX5_copyFrom 4 = .ok (.aload_n 1, 1) := by decide +kernel
theorem dX5_copyFrom_5 : decode cX5_copyFrom 5 = .ok (.getfield 12, 3) := by decide +kernel
theorem dX5_copyFrom_8 : decode cX5_copyFrom 8 = .ok (.invokevirtual 32, 3) := by decide +kernel
theorem dX5_copyFrom_11 : decode cX5_copyFrom 11 = .ok (.aload_n 0, 1) := by decide +kernel
theorem dX5_copyFrom_12 : decode cX5_copyFrom 12 = .ok (.aload_n 1, 1) := by decide +kernel
theorem dX5_copyFrom_13 : decode cX5_copyFrom 13 = .ok (.getfield 36, 3) := by decide +kernel
theorem dX5_copyFrom_16 : decode cX5_copyFrom 16 = .ok (.putfield 36, 3) := by decide +kernel
theorem dX5_copyFrom_19 : decode cX5_copyFrom 19 = .ok (.aload_n 1, 1) := by decide +kernel
theorem dX5_copyFrom_20 : decode cX5_copyFrom 20 = .ok (.getfield 18, 3) := by decide +kernel
theorem dX5_copyFrom_23 : decode cX5_copyFrom 23 = .ok (.iconst 0, 1) := by decide +kernel
theorem dX5_copyFrom_24 : decode cX5_copyFrom 24 = .ok (.aload_n 0, 1) := by decide +kernel
theorem dX5_copyFrom_25 : decode cX5_copyFrom 25 = .ok (.getfield 18, 3) := by decide +kernel
theorem dX5_copyFrom_28 : decode cX5_copyFrom 28 = .ok (.iconst 0, 1) := by decide +kernel
theorem dX5_copyFrom_29 : decode cX5_copyFrom 29 = .ok (.bipush 16, 2) := by decide +kernel
theorem dX5_copyFrom_31 : decode cX5_copyFrom 31 = .ok (.invokestatic 40, 3) := by decide +kernel
theorem dX5_copyFrom_34 : decode cX5_copyFrom 34 = .ok (.aload_n 0, 1) := by decide +kernel
theorem dX5_copyFrom_35 : decode cX5_copyFrom 35 = .ok (.getfield 25, 3) := by decide +kernel
theorem dX5_copyFrom_38 : decode cX5_copyFrom 38 = .ok (.aload_n 1, 1) := by decide +kernel
theorem dX5_copyFrom_39 : decode cX5_copyFrom 39 = .ok (.getfield 25, 3) := by decide +kernel
theorem dX5_copyFrom_42 : decode cX5_copyFrom 42 = .ok (.invokevirtual 46, 3) := by decide +kernel
theorem dX5_copyFrom_45 : decode cX5_copyFrom 45 = .ok (.aload_n 0, 1) := by decide +kernel
theorem dX5_copyFrom_46 : decode cX5_copyFrom 46 = .ok (.getfield 29, 3) := by decide +kernel
theorem dX5_copyFrom_49 : decode cX5_copyFrom 49 = .ok (.aload_n 1, 1) := by decide +kernel
theorem dX5_copyFrom_50 : decode cX5_copyFrom 50 = .ok (.getfield 29, 3) := by decide +kernel
theorem dX5_copyFrom_53 : decode cX5_copyFrom 53 = .ok (.invokevirtual 46, 3) := by decide +kernel
theorem dX5_copyFrom_56 : decode cX5_copyFrom 56 = .ok (.return_, 1) := by decide +kernel
theorem dX5_braid_0 : decode cX5_braid 0 = .ok (.iload_n 1, 1) := by decide +kernel
theorem dX5_braid_1 : decode cX5_braid 1 = .ok (.ifCond .ne 10, 3) := by decide +kernel
theorem dX5_braid_4 : decode cX5_braid 4 = .ok (.aload_n 0, 1) := by decide +kernel
theorem dX5_braid_5 : decode cX5_braid 5 = .ok (.getfield 25, 3) := by decide +kernel
theorem dX5_braid_8 : decode cX5_braid 8 = .ok (.goto 7, 3) := by decide +kernel
theorem dX5_braid_11 : decode cX5_braid 11 = .ok (.aload_n 0, 1) := by decide +kernel
theorem dX5_braid_12 : decode cX5_braid 12 = .ok (.getfield 29, 3) := by decide +kernel
theorem dX5_braid_15 : decode cX5_braid 15 = .ok (.areturn, 1) := by decide +kernel
theorem dX5_empty_0 : decode cX5_empty 0 = .ok (.aload_n 0, 1) := by decide +kernel
theorem dX5_empty_1 : decode cX5_empty 1 = .ok (.getfield 25, 3) := by decide +kernel
theorem dX5_empty_4 : decode cX5_empty 4 = .ok (.invokevirtual 49, 3) := by decide +kernel
theorem dX5_empty_7 : decode cX5_empty 7 = .ok (.aload_n 0, 1) := by decide +kernel
theorem dX5_empty_8 : decode cX5_empty 8 = .ok (.getfield 29, 3) := by decide +kernel
theorem dX5_empty_11 : decode cX5_empty 11 = .ok (.invokevirtual 49, 3) := by decide +kernel
theorem dX5_empty_14 : decode cX5_empty 14 = .ok (.return_, 1) := by decide +kernel
theorem dX5_formNumber_0 : decode cX5_formNumber 0 = .ok (.iload_n 1, 1) := by decide +kernel
theorem dX5_formNumber_1 : decode cX5_formNumber 1 = .ok (.tableswitch 87 0 5 #[39, 47, 55, 63, 71, 79], 39) := by decide +kernel
theorem dX5_formNumber_40 : decode cX5_formNumber 40 = .ok (.aload_n 0, 1) := by decide +kernel
theorem dX5_formNumber_41 : decode cX5_formNumber 41 = .ok (.getfield 12, 3) := by decide +kernel
theorem dX5_formNumber_44 : decode cX5_formNumber 44 = .ok (.getfield 52, 3) := by decide +kernel
theorem dX5_formNumber_47 : decode cX5_formNumber 47 = .ok (.ireturn, 1) := by decide +kernel
theorem dX5_formNumber_48 : decode cX5_formNumber 48 = .ok (.aload_n 0, 1) := by decide +kernel
theorem dX5_formNumber_49 : decode cX5_formNumber 49 = .ok (.getfield 12, 3) := by decide +kernel
theorem dX5_formNumber_52 : decode cX5_formNumber 52 = .ok (.getfield 55, 3) := by decide +kernel
theorem dX5_formNumber_55 : decode cX5_formNumber 55 = .ok (.ireturn, 1) := by decide +kernel
theorem dX5_formNumber_56 : decode cX5_formNumber 56 = .ok (.aload_n 0, 1) := by decide +kernel
theorem dX5_formNumber_57 : decode cX5_formNumber 57 = .ok (.getfield 12, 3) := by decide +kernel
theorem dX5_formNumber_60 : decode cX5_formNumber 60 = .ok (.getfield 58, 3) := by decide +kernel
theorem dX5_formNumber_63 : decode cX5_formNumber 63 = .ok (.ireturn, 1) := by decide +kernel
theorem dX5_formNumber_64 : decode cX5_formNumber 64 = .ok (.aload_n 0, 1) := by decide +kernel
theorem dX5_formNumber_65 : decode cX5_formNumber 65 = .ok (.getfield 12, 3) := by decide +kernel
theorem dX5_formNumber_68 : decode cX5_formNumber 68 = .ok (.getfield 61, 3) := by decide +kernel
theorem dX5_formNumber_71 : decode cX5_formNumber 71 = .ok (.ireturn, 1) := by decide +kernel
theorem dX5_formNumber_72 : decode cX5_formNumber 72 = .ok (.aload_n 0, 1) := by decide +kernel
theorem dX5_formNumber_73 : decode cX5_formNumber 73 = .ok (.getfield 12, 3) := by decide +kernel
theorem dX5_formNumber_76 : decode cX5_formNumber 76 = .ok (.getfield 64, 3) := by decide +kernel
theorem dX5_formNumber_79 : decode cX5_formNumber 79 = .ok (.ireturn, 1) := by decide +kernel
theorem dX5_formNumber_80 : decode cX5_formNumber 80 = .ok (.aload_n 0, 1) := by decide +kernel
theorem dX5_formNumber_81 : decode cX5_formNumber 81 = .ok (.getfield 12, 3) := by decide +kernel
theorem dX5_formNumber_84 : decode cX5_formNumber 84 = .ok (.getfield 67, 3) := by decide +kernel
theorem dX5_formNumber_87 : decode cX5_formNumber 87 = .ok (.ireturn, 1) := by decide +kernel
theorem dX5_formNumber_88 : decode cX5_formNumber 88 = .ok (.aload_n 0, 1) := by decide +kernel
theorem dX5_formNumber_89 : decode cX5_formNumber 89 = .ok (.getfield 36, 3) := by decide +kernel
theorem dX5_formNumber_92 : decode cX5_formNumber 92 = .ok (.ireturn, 1) := by decide +kernel
theorem dX5_find_0 : decode cX5_find 0 = .ok (.iconst 0, 1) := by decide +kernel
theorem dX5_find_1 : decode cX5_find 1 = .ok (.istore_n 2, 1) := by decide +kernel
theorem dX5_find_2 : decode cX5_find 2 = .ok (.iload_n 2, 1) := by decide +kernel
theorem dX5_find_3 : decode cX5_find 3 = .ok (.aload_n 0, 1) := by decide +kernel
theorem dX5_find_4 : decode cX5_find 4 = .ok (.getfield 36, 3) := by decide +kernel
theorem dX5_find_7 : decode cX5_find 7 = .ok (.if_icmp .ge 21, 3) := by decide +kernel
theorem dX5_find_10 : decode cX5_find 10 = .ok (.aload_n 0, 1) := by decide +kernel
theorem dX5_find_11 : decode cX5_find 11 = .ok (.getfield 18, 3) := by decide +kernel
theorem dX5_find_14 : decode cX5_find 14 = .ok (.iload_n 2, 1) := by decide +kernel
theorem dX5_find_15 : decode cX5_find 15 = .ok (.iaload, 1) := by decide +kernel
theorem dX5_find_16 : decode cX5_find 16 = .ok (.iload_n 1, 1) := by decide +kernel
theorem dX5_find_17 : decode cX5_find 17 = .ok (.if_icmp .ne 5, 3) := by decide +kernel
theorem dX5_find_20 : decode cX5_find 20 = .ok (.iload_n 2, 1) := by decide +kernel
theorem dX5_find_21 : decode cX5_find 21 = .ok (.ireturn, 1) := by decide +kernel
theorem dX5_find_22 : decode cX5_find 22 = .ok (.iinc 2 1, 3) := by decide +kernel
theorem dX5_find_25 : decode cX5_find 25 = .ok (.goto (-23), 3) := by decide +kernel
theorem dX5_find_28 : decode cX5_find 28 = .ok (.iconst (-1), 1) := by decide +kernel
theorem dX5_find_29 : decode cX5_find 29 = .ok (.ireturn, 1) := by decide +kernel
theorem dX5_findOrAppend_0 : decode cX5_findOrAppend 0 = .ok (.aload_n 0, 1) := by decide +kernel
theorem dX5_findOrAppend_1 : decode cX5_findOrAppend 1 = .ok (.iload_n 1, 1) := by decide +kernel
theorem dX5_findOrAppend_2 : decode cX5_findOrAppend 2 = .ok (.invokevirtual 70, 3) := by decide +kernel
theorem dX5_findOrAppend_5 : decode cX5_findOrAppend 5 = .ok (.istore_n 2, 1) := by decide +kernel
theorem dX5_findOrAppend_6 : decode cX5_findOrAppend 6 = .ok (.iload_n 2, 1) := by decide +kernel
theorem dX5_findOrAppend_7 : decode cX5_findOrAppend 7 = .ok (.iconst (-1), 1) := by decide +kernel
theorem dX5_findOrAppend_8 : decode cX5_findOrAppend 8 = .ok (.if_icmp .ne 34, 3) := by decide +kernel
theorem dX5_findOrAppend_11 : decode cX5_findOrAppend 11 = .ok (.aload_n 0, 1) := by decide +kernel
theorem dX5_findOrAppend_12 : decode cX5_findOrAppend 12 = .ok (.getfield 36, 3) := by decide +kernel
theorem dX5_findOrAppend_15 : decode cX5_findOrAppend 15 = .ok (.bipush 16, 2) := by decide +kernel
theorem dX5_findOrAppend_17 : decode cX5_findOrAppend 17 = .ok (.if_icmp .ge 25, 3) := by decide +kernel
theorem dX5_findOrAppend_20 : decode cX5_findOrAppend 20 = .ok (.aload_n 0, 1) := by decide +kernel
theorem dX5_findOrAppend_21 : decode cX5_findOrAppend 21 = .ok (.getfield 36, 3) := by decide +kernel
theorem dX5_findOrAppend_24 : decode cX5_findOrAppend 24 = .ok (.istore_n 2, 1) := by decide +kernel
theorem dX5_findOrAppend_25 : decode cX5_findOrAppend 25 = .ok (.aload_n 0, 1) := by decide +kernel
theorem dX5_findOrAppend_26 : decode cX5_findOrAppend 26 = .ok (.getfield 18, 3) := by decide +kernel
theorem dX5_findOrAppend_29 : decode cX5_findOrAppend 29 = .ok (.iload_n 2, 1) := by decide +kernel
theorem dX5_findOrAppend_30 : decode cX5_findOrAppend 30 = .ok (.iload_n 1, 1) := by decide +kernel
theorem dX5_findOrAppend_31 : decode cX5_findOrAppend 31 = .ok (.iastore, 1) := by decide +kernel
theorem dX5_findOrAppend_32 : decode cX5_findOrAppend 32 = .ok (.aload_n 0, 1) := by decide +kernel
theorem dX5_findOrAppend_33 : decode cX5_findOrAppend 33 = .ok (.dup, 1) := by decide +kernel
theorem dX5_findOrAppend_34 : decode cX5_findOrAppend 34 = .ok (.getfield 36, 3) := by decide +kernel
theorem dX5_findOrAppend_37 : decode cX5_findOrAppend 37 = .ok (.iconst 1, 1) := by decide +kernel
theorem dX5_findOrAppend_38 : decode cX5_findOrAppend 38 = .ok (.iadd, 1) := by decide +kernel
theorem dX5_findOrAppend_39 : decode cX5_findOrAppend 39 = .ok (.putfield 36, 3) := by decide +kernel
theorem dX5_findOrAppend_42 : decode cX5_findOrAppend 42 = .ok (.iload_n 2, 1) := by decide +kernel
theorem dX5_findOrAppend_43 : decode cX5_findOrAppend 43 = .ok (.ireturn, 1) := by decide +kernel
theorem dX5_countFlow_0 : decode cX5_countFlow 0 = .ok (.iconst 0, 1) := by decide +kernel
theorem dX5_countFlow_1 : decode cX5_countFlow 1 = .ok (.iload_n 2, 1) := by decide +kernel
theorem dX5_countFlow_2 : decode cX5_countFlow 2 = .ok (.aload_n 0, 1) := by decide +kernel
theorem dX5_countFlow_3 : decode cX5_countFlow 3 = .ok (.getfield 36, 3) := by decide +kernel
theorem dX5_countFlow_6 : decode cX5_countFlow 6 = .ok (.iconst 1, 1) := by decide +kernel
theorem dX5_countFlow_7 : decode cX5_countFlow 7 = .ok (.isub, 1) := by decide +kernel
theorem dX5_countFlow_8 : decode cX5_countFlow 8 = .ok (.invokestatic 74, 3) := by decide +kernel
theorem dX5_countFlow_11 : decode cX5_countFlow 11 = .ok (.ifCond .ne 4, 3) := by decide +kernel
theorem dX5_countFlow_14 : decode cX5_countFlow 14 = .ok (.return_, 1) := by decide +kernel
theorem dX5_countFlow_15 : decode cX5_countFlow 15 = .ok (.aload_n 1, 1) := by decide +kernel
theorem dX5_countFlow_16 : decode cX5_countFlow 16 = .ok (.getfield 78, 3) := by decide +kernel
theorem dX5_countFlow_19 : decode cX5_countFlow 19 = .ok (.iload_n 2, 1) := by decide +kernel
theorem dX5_countFlow_20 : decode cX5_countFlow 20 = .ok (.dup2, 1) := by decide +kernel
theorem dX5_countFlow_21 : decode cX5_countFlow 21 = .ok (.laload, 1) := by decide +kernel
theorem dX5_countFlow_22 : decode cX5_countFlow 22 = .ok (.lload_n 3, 1) := by decide +kernel
theorem dX5_countFlow_23 : decode cX5_countFlow 23 = .ok (.ladd, 1) := by decide +kernel
theorem dX5_countFlow_24 : decode cX5_countFlow 24 = .ok (.lastore, 1) := by decide +kernel
theorem dX5_countFlow_25 : decode cX5_countFlow 25 = .ok (.aload_n 0, 1) := by decide +kernel
theorem dX5_countFlow_26 : decode cX5_countFlow 26 = .ok (.getfield 12, 3) := by decide +kernel
theorem dX5_countFlow_29 : decode cX5_countFlow 29 = .ok (.aload_n 0, 1) := by decide +kernel
theorem dX5_countFlow_30 : decode cX5_countFlow 30 = .ok (.getfield 18, 3) := by decide +kernel
theorem dX5_countFlow_33 : decode cX5_countFlow 33 = .ok (.iload_n 2, 1) := by decide +kernel
theorem dX5_countFlow_34 : decode cX5_countFlow 34 = .ok (.iaload, 1) := by decide +kernel
theorem dX5_countFlow_35 : decode cX5_countFlow 35 = .ok (.invokevirtual 82, 3) := by decide +kernel
theorem dX5_countFlow_38 : decode cX5_countFlow 38 = .ok (.istore 5, 2) := by decide +kernel
theorem dX5_countFlow_40 : decode cX5_countFlow 40 = .ok (.iconst 0, 1) := by decide +kernel
theorem dX5_countFlow_41 : decode cX5_countFlow 41 = .ok (.istore 6, 2) := by decide +kernel
theorem dX5_countFlow_43 : decode cX5_countFlow 43 = .ok (.iload 6, 2) := by decide +kernel
theorem dX5_countFlow_45 : decode cX5_countFlow 45 = .ok (.bipush 24, 2) := by decide +kernel
theorem dX5_countFlow_47 : decode cX5_countFlow 47 = .ok (.if_icmp .ge 30, 3) := by decide +kernel
theorem dX5_countFlow_50 : decode cX5_countFlow 50 = .ok (.iload 5, 2) := by decide +kernel
theorem dX5_countFlow_52 : decode cX5_countFlow 52 = .ok (.iload 6, 2) := by decide +kernel
theorem dX5_countFlow_54 : decode cX5_countFlow 54 = .ok (.invokestatic 85, 3) := by decide +kernel
theorem dX5_countFlow_57 : decode cX5_countFlow 57 = .ok (.ifCond .eq 14, 3) := by decide +kernel
theorem dX5_countFlow_60 : decode cX5_countFlow 60 = .ok (.aload_n 1, 1) := by decide +kernel
theorem dX5_countFlow_61 : decode cX5_countFlow 61 = .ok (.aload_n 0, 1) := by decide +kernel
theorem dX5_countFlow_62 : decode cX5_countFlow 62 = .ok (.getfield 12, 3) := by decide +kernel
