theorem dX7_hashOfBraid_58 : decode cX7_hashOfBraid 58 = .ok (.ldc2_w 235, 3) := by decide +kernel
theorem dX7_hashOfBraid_61 : decode cX7_hashOfBraid 61 = .ok (.lload 4, 2) := by decide +kernel
theorem dX7_hashOfBraid_63 : decode cX7_hashOfBraid 63 = .ok (.lmul, 1) := by decide +kernel
theorem dX7_hashOfBraid_64 : decode cX7_hashOfBraid 64 = .ok (.aload_n 3, 1) := by decide +kernel
theorem dX7_hashOfBraid_65 : decode cX7_hashOfBraid 65 = .ok (.getfield 145, 3) := by decide +kernel
theorem dX7_hashOfBraid_68 : decode cX7_hashOfBraid 68 = .ok (.iload 6, 2) := by decide +kernel
theorem dX7_hashOfBraid_70 : decode cX7_hashOfBraid 70 = .ok (.iaload, 1) := by decide +kernel
theorem dX7_hashOfBraid_71 : decode cX7_hashOfBraid 71 = .ok (.i2l, 1) := by decide +kernel
theorem dX7_hashOfBraid_72 : decode cX7_hashOfBraid 72 = .ok (.ladd, 1) := by decide +kernel
theorem dX7_hashOfBraid_73 : decode cX7_hashOfBraid 73 = .ok (.lstore 4, 2) := by decide +kernel
theorem dX7_hashOfBraid_75 : decode cX7_hashOfBraid 75 = .ok (.ldc2_w 235, 3) := by decide +kernel
theorem dX7_hashOfBraid_78 : decode cX7_hashOfBraid 78 = .ok (.lload 4, 2) := by decide +kernel
theorem dX7_hashOfBraid_80 : decode cX7_hashOfBraid 80 = .ok (.lmul, 1) := by decide +kernel
theorem dX7_hashOfBraid_81 : decode cX7_hashOfBraid 81 = .ok (.aload_n 3, 1) := by decide +kernel
theorem dX7_hashOfBraid_82 : decode cX7_hashOfBraid 82 = .ok (.getfield 148, 3) := by decide +kernel
theorem dX7_hashOfBraid_85 : decode cX7_hashOfBraid 85 = .ok (.iload 6, 2) := by decide +kernel
theorem dX7_hashOfBraid_87 : decode cX7_hashOfBraid 87 = .ok (.iaload, 1) := by decide +kernel
theorem dX7_hashOfBraid_88 : decode cX7_hashOfBraid 88 = .ok (.i2l, 1) := by decide +kernel
theorem dX7_hashOfBraid_89 : decode cX7_hashOfBraid 89 = .ok (.ladd, 1) := by decide +kernel
theorem dX7_hashOfBraid_90 : decode cX7_hashOfBraid 90 = .ok (.lstore 4, 2) := by decide +kernel
theorem dX7_hashOfBraid_92 : decode cX7_hashOfBraid 92 = .ok (.iinc 6 1, 3) := by decide +kernel
theorem dX7_hashOfBraid_95 : decode cX7_hashOfBraid 95 = .ok (.goto (-52), 3) := by decide +kernel
theorem dX7_hashOfBraid_98 : decode cX7_hashOfBraid 98 = .ok (.iconst 0, 1) := by decide +kernel
theorem dX7_hashOfBraid_99 : decode cX7_hashOfBraid 99 = .ok (.istore 6, 2) := by decide +kernel
theorem dX7_hashOfBraid_101 : decode cX7_hashOfBraid 101 = .ok (.iload 6, 2) := by decide +kernel
theorem dX7_hashOfBraid_103 : decode cX7_hashOfBraid 103 = .ok (.aload_n 0, 1) := by decide +kernel
theorem dX7_hashOfBraid_104 : decode cX7_hashOfBraid 104 = .ok (.getfield 12, 3) := by decide +kernel
theorem dX7_hashOfBraid_107 : decode cX7_hashOfBraid 107 = .ok (.getfield 48, 3) := by decide +kernel
theorem dX7_hashOfBraid_110 : decode cX7_hashOfBraid 110 = .ok (.getfield 67, 3) := by decide +kernel
theorem dX7_hashOfBraid_113 : decode cX7_hashOfBraid 113 = .ok (.if_icmp .ge 25, 3) := by decide +kernel
theorem dX7_hashOfBraid_116 : decode cX7_hashOfBraid 116 = .ok (.ldc2_w 235, 3) := by decide +kernel
theorem dX7_hashOfBraid_119 : decode cX7_hashOfBraid 119 = .ok (.lload 4, 2) := by decide +kernel
theorem dX7_hashOfBraid_121 : decode cX7_hashOfBraid 121 = .ok (.lmul, 1) := by decide +kernel
theorem dX7_hashOfBraid_122 : decode cX7_hashOfBraid 122 = .ok (.aload_n 3, 1) := by decide +kernel
theorem dX7_hashOfBraid_123 : decode cX7_hashOfBraid 123 = .ok (.getfield 151, 3) := by decide +kernel
theorem dX7_hashOfBraid_126 : decode cX7_hashOfBraid 126 = .ok (.iload 6, 2) := by decide +kernel
theorem dX7_hashOfBraid_128 : decode cX7_hashOfBraid 128 = .ok (.laload, 1) := by decide +kernel
theorem dX7_hashOfBraid_129 : decode cX7_hashOfBraid 129 = .ok (.ladd, 1) := by decide +kernel
theorem dX7_hashOfBraid_130 : decode cX7_hashOfBraid 130 = .ok (.lstore 4, 2) := by decide +kernel
theorem dX7_hashOfBraid_132 : decode cX7_hashOfBraid 132 = .ok (.iinc 6 1, 3) := by decide +kernel
theorem dX7_hashOfBraid_135 : decode cX7_hashOfBraid 135 = .ok (.goto (-34), 3) := by decide +kernel
theorem dX7_hashOfBraid_138 : decode cX7_hashOfBraid 138 = .ok (.lload 4, 2) := by decide +kernel
theorem dX7_hashOfBraid_140 : decode cX7_hashOfBraid 140 = .ok (.lreturn, 1) := by decide +kernel
theorem dX7_bitsOfFloat_0 : decode cX7_bitsOfFloat 0 = .ok (.fload_n 0, 1) := by decide +kernel
theorem dX7_bitsOfFloat_1 : decode cX7_bitsOfFloat 1 = .ok (.fstore_n 1, 1) := by decide +kernel
theorem dX7_bitsOfFloat_2 : decode cX7_bitsOfFloat 2 = .ok (.bipush 127, 2) := by decide +kernel
theorem dX7_bitsOfFloat_4 : decode cX7_bitsOfFloat 4 = .ok (.istore_n 2, 1) := by decide +kernel
theorem dX7_bitsOfFloat_5 : decode cX7_bitsOfFloat 5 = .ok (.fload_n 1, 1) := by decide +kernel
theorem dX7_bitsOfFloat_6 : decode cX7_bitsOfFloat 6 = .ok (.fconst 2, 1) := by decide +kernel
theorem dX7_bitsOfFloat_7 : decode cX7_bitsOfFloat 7 = .ok (.fcmp .l, 1) := by decide +kernel
theorem dX7_bitsOfFloat_8 : decode cX7_bitsOfFloat 8 = .ok (.ifCond .lt 20, 3) := by decide +kernel
theorem dX7_bitsOfFloat_11 : decode cX7_bitsOfFloat 11 = .ok (.iload_n 2, 1) := by decide +kernel
theorem dX7_bitsOfFloat_12 : decode cX7_bitsOfFloat 12 = .ok (.sipush 254, 3) := by decide +kernel
theorem dX7_bitsOfFloat_15 : decode cX7_bitsOfFloat 15 = .ok (.if_icmp .ge 13, 3) := by decide +kernel
theorem dX7_bitsOfFloat_18 : decode cX7_bitsOfFloat 18 = .ok (.fload_n 1, 1) := by decide +kernel
theorem dX7_bitsOfFloat_19 : decode cX7_bitsOfFloat 19 = .ok (.fconst 2, 1) := by decide +kernel
theorem dX7_bitsOfFloat_20 : decode cX7_bitsOfFloat 20 = .ok (.fdiv, 1) := by decide +kernel
theorem dX7_bitsOfFloat_21 : decode cX7_bitsOfFloat 21 = .ok (.fstore_n 1, 1) := by decide +kernel
theorem dX7_bitsOfFloat_22 : decode cX7_bitsOfFloat 22 = .ok (.iinc 2 1, 3) := by decide +kernel
theorem dX7_bitsOfFloat_25 : decode cX7_bitsOfFloat 25 = .ok (.goto (-20), 3) := by decide +kernel
theorem dX7_bitsOfFloat_28 : decode cX7_bitsOfFloat 28 = .ok (.ldc 241, 2) := by decide +kernel
theorem dX7_bitsOfFloat_30 : decode cX7_bitsOfFloat 30 = .ok (.istore_n 3, 1) := by decide +kernel
theorem dX7_bitsOfFloat_31 : decode cX7_bitsOfFloat 31 = .ok (.iload_n 2, 1) := by decide +kernel
theorem dX7_bitsOfFloat_32 : decode cX7_bitsOfFloat 32 = .ok (.bipush 23, 2) := by decide +kernel
theorem dX7_bitsOfFloat_34 : decode cX7_bitsOfFloat 34 = .ok (.ishl, 1) := by decide +kernel
theorem dX7_bitsOfFloat_35 : decode cX7_bitsOfFloat 35 = .ok (.fload_n 1, 1) := by decide +kernel
theorem dX7_bitsOfFloat_36 : decode cX7_bitsOfFloat 36 = .ok (.fconst 1, 1) := by decide +kernel
theorem dX7_bitsOfFloat_37 : decode cX7_bitsOfFloat 37 = .ok (.fsub, 1) := by decide +kernel
theorem dX7_bitsOfFloat_38 : decode cX7_bitsOfFloat 38 = .ok (.iload_n 3, 1) := by decide +kernel
theorem dX7_bitsOfFloat_39 : decode cX7_bitsOfFloat 39 = .ok (.i2f, 1) := by decide +kernel
theorem dX7_bitsOfFloat_40 : decode cX7_bitsOfFloat 40 = .ok (.fmul, 1) := by decide +kernel
theorem dX7_bitsOfFloat_41 : decode cX7_bitsOfFloat 41 = .ok (.f2i, 1) := by decide +kernel
theorem dX7_bitsOfFloat_42 : decode cX7_bitsOfFloat 42 = .ok (.iadd, 1) := by decide +kernel
theorem dX7_bitsOfFloat_43 : decode cX7_bitsOfFloat 43 = .ok (.ireturn, 1) := by decide +kernel
theorem dX7_isIn_0 : decode cX7_isIn 0 = .ok (.iload_n 0, 1) := by decide +kernel
theorem dX7_isIn_1 : decode cX7_isIn 1 = .ok (.iload_n 1, 1) := by decide +kernel
theorem dX7_isIn_2 : decode cX7_isIn 2 = .ok (.ishr, 1) := by decide +kernel
theorem dX7_isIn_3 : decode cX7_isIn 3 = .ok (.iconst 1, 1) := by decide +kernel
theorem dX7_isIn_4 : decode cX7_isIn 4 = .ok (.iand, 1) := by decide +kernel
theorem dX7_isIn_5 : decode cX7_isIn 5 = .ok (.iconst 1, 1) := by decide +kernel
theorem dX7_isIn_6 : decode cX7_isIn 6 = .ok (.if_icmp .ne 7, 3) := by decide +kernel
theorem dX7_isIn_9 : decode cX7_isIn 9 = .ok (.iconst 1, 1) := by decide +kernel
theorem dX7_isIn_10 : decode cX7_isIn 10 = .ok (.goto 4, 3) := by decide +kernel
theorem dX7_isIn_13 : decode cX7_isIn 13 = .ok (.iconst 0, 1) := by decide +kernel
theorem dX7_isIn_14 : decode cX7_isIn 14 = .ok (.ireturn, 1) := by decide +kernel
theorem dJ9_max_7cf53_0 : decode cJ9_max_7cf53 0 = .ok (.iload_n 0, 1) := by decide +kernel
theorem dJ9_max_7cf53_1 : decode cJ9_max_7cf53 1 = .ok (.iload_n 1, 1) := by decide +kernel
theorem dJ9_max_7cf53_2 : decode cJ9_max_7cf53 2 = .ok (.if_icmp .lt 7, 3) := by decide +kernel
theorem dJ9_max_7cf53_5 : decode cJ9_max_7cf53 5 = .ok (.iload_n 0, 1) := by decide +kernel
theorem dJ9_max_7cf53_6 : decode cJ9_max_7cf53 6 = .ok (.goto 4, 3) := by decide +kernel
theorem dJ9_max_7cf53_9 : decode cJ9_max_7cf53 9 = .ok (.iload_n 1, 1) := by decide +kernel
theorem dJ9_max_7cf53_10 : decode cJ9_max_7cf53 10 = .ok (.ireturn, 1) := by decide +kernel
theorem dJ9_min_f86c9_0 : decode cJ9_min_f86c9 0 = .ok (.lload_n 0, 1) := by decide +kernel
theorem dJ9_min_f86c9_1 : decode cJ9_min_f86c9 1 = .ok (.lload_n 2, 1) := by decide +kernel
theorem dJ9_min_f86c9_2 : decode cJ9_min_f86c9 2 = .ok (.lcmp, 1) := by decide +kernel
theorem dJ9_min_f86c9_3 : decode cJ9_min_f86c9 3 = .ok (.ifCond .gt 7, 3) := by decide +kernel
theorem dJ9_min_f86c9_6 : decode cJ9_min_f86c9 6 = .ok (.lload_n 0, 1) := by decide +kernel
theorem dJ9_min_f86c9_7 : decode cJ9_min_f86c9 7 = .ok (.goto 4, 3) := by decide +kernel
theorem dJ9_min_f86c9_10 : decode cJ9_min_f86c9 10 = .ok (.lload_n 2, 1) := by decide +kernel
theorem dJ9_min_f86c9_11 : decode cJ9_min_f86c9 11 = .ok (.lreturn, 1) := by decide +kernel
theorem dJ7_fill_d0a16_0 : decode cJ7_fill_d0a16 0 = .ok (.iconst 0, 1) := by decide +kernel
theorem dJ7_fill_d0a16_1 : decode cJ7_fill_d0a16 1 = .ok (.istore_n 3, 1) := by decide +kernel
theorem dJ7_fill_d0a16_2 : decode cJ7_fill_d0a16 2 = .ok (.aload_n 0, 1) := by decide +kernel
theorem dJ7_fill_d0a16_3 : decode cJ7_fill_d0a16 3 = .ok (.arraylength, 1) := by decide +kernel
theorem dJ7_fill_d0a16_4 : decode cJ7_fill_d0a16 4 = .ok (.istore 4, 2) := by decide +kernel
theorem dJ7_fill_d0a16_6 : decode cJ7_fill_d0a16 6 = .ok (.iload_n 3, 1) := by decide +kernel
theorem dJ7_fill_d0a16_7 : decode cJ7_fill_d0a16 7 = .ok (.iload 4, 2) := by decide +kernel
theorem dJ7_fill_d0a16_9 : decode cJ7_fill_d0a16 9 = .ok (.if_icmp .ge 13, 3) := by decide +kernel
theorem dJ7_fill_d0a16_12 : decode cJ7_fill_d0a16 12 = .ok (.aload_n 0, 1) := by decide +kernel
theorem dJ7_fill_d0a16_13 : decode cJ7_fill_d0a16 13 = .ok (.iload_n 3, 1) := by decide +kernel
theorem dJ7_fill_d0a16_14 : decode cJ7_fill_d0a16 14 = .ok (.lload_n 1, 1) := by decide +kernel
theorem dJ7_fill_d0a16_15 : decode cJ7_fill_d0a16 15 = .ok (.lastore, 1) := by decide +kernel
theorem dJ7_fill_d0a16_16 : decode cJ7_fill_d0a16 16 = .ok (.iinc 3 1, 3) := by decide +kernel
theorem dJ7_fill_d0a16_19 : decode cJ7_fill_d0a16 19 = .ok (.goto (-13), 3) := by decide +kernel
theorem dJ7_fill_d0a16_22 : decode cJ7_fill_d0a16 22 = .ok (.return_, 1) := by decide +kernel
theorem dJ7_fill_53178_0 : decode cJ7_fill_53178 0 = .ok (.iconst 0, 1) := by decide +kernel
theorem dJ7_fill_53178_1 : decode cJ7_fill_53178 1 = .ok (.istore_n 2, 1) := by decide +kernel
theorem dJ7_fill_53178_2 : decode cJ7_fill_53178 2 = .ok (.aload_n 0, 1) := by decide +kernel
theorem dJ7_fill_53178_3 : decode cJ7_fill_53178 3 = .ok (.arraylength, 1) := by decide +kernel
theorem dJ7_fill_53178_4 : decode cJ7_fill_53178 4 = .ok (.istore_n 3, 1) := by decide +kernel
theorem dJ7_fill_53178_5 : decode cJ7_fill_53178 5 = .ok (.iload_n 2, 1) := by decide +kernel
theorem dJ7_fill_53178_6 : decode cJ7_fill_53178 6 = .ok (.iload_n 3, 1) := by decide +kernel
theorem dJ7_fill_53178_7 : decode cJ7_fill_53178 7 = .ok (.if_icmp .ge 13, 3) := by decide +kernel
theorem dJ7_fill_53178_10 : decode cJ7_fill_53178 10 = .ok (.aload_n 0, 1) := by decide +kernel
theorem dJ7_fill_53178_11 : decode cJ7_fill_53178 11 = .ok (.iload_n 2, 1) := by decide +kernel
theorem dJ7_fill_53178_12 : decode cJ7_fill_53178 12 = .ok (.iload_n 1, 1) := by decide +kernel
theorem dJ7_fill_53178_13 : decode cJ7_fill_53178 13 = .ok (.iastore, 1) := by decide +kernel
theorem dJ7_fill_53178_14 : decode cJ7_fill_53178 14 = .ok (.iinc 2 1, 3) := by decide +kernel
theorem dJ7_fill_53178_17 : decode cJ7_fill_53178 17 = .ok (.goto (-12), 3) := by decide +kernel
theorem dJ7_fill_53178_20 : decode cJ7_fill_53178 20 = .ok (.return_, 1) := by decide +kernel
theorem dL_cell_0 : decode cL_cell 0 = .ok (.iload_n 1, 1) := by decide +kernel
theorem dL_cell_1 : decode cL_cell 1 = .ok (.aload_n 0, 1) := by decide +kernel
theorem dL_cell_2 : decode cL_cell 2 = .ok (.arraylength, 1) := by decide +kernel
theorem dL_cell_3 : decode cL_cell 3 = .ok (.if_icmp .ge 9, 3) := by decide +kernel
theorem dL_cell_6 : decode cL_cell 6 = .ok (.aload_n 0, 1) := by decide +kernel
theorem dL_cell_7 : decode cL_cell 7 = .ok (.iload_n 1, 1) := by decide +kernel
theorem dL_cell_8 : decode cL_cell 8 = .ok (.iaload, 1) := by decide +kernel
theorem dL_cell_9 : decode cL_cell 9 = .ok (.goto 15, 3) := by decide +kernel
theorem dL_cell_12 : decode cL_cell 12 = .ok (.sipush 7919, 3) := by decide +kernel
theorem dL_cell_15 : decode cL_cell 15 = .ok (.iload_n 1, 1) := by decide +kernel
theorem dL_cell_16 : decode cL_cell 16 = .ok (.iconst 3, 1) := by decide +kernel
theorem dL_cell_17 : decode cL_cell 17 = .ok (.iadd, 1) := by decide +kernel
theorem dL_cell_18 : decode cL_cell 18 = .ok (.imul, 1) := by decide +kernel
theorem dL_cell_19 : decode cL_cell 19 = .ok (.iload_n 1, 1) := by decide +kernel
theorem dL_cell_20 : decode cL_cell 20 = .ok (.bipush 11, 2) := by decide +kernel
theorem dL_cell_22 : decode cL_cell 22 = .ok (.iadd, 1) := by decide +kernel
theorem dL_cell_23 : decode cL_cell 23 = .ok (.imul, 1) := by decide +kernel
theorem dL_cell_24 : decode cL_cell 24 = .ok (.ireturn, 1) := by decide +kernel
theorem dL_low_0 : decode cL_low 0 = .ok (.iload_n 0, 1) := by decide +kernel
theorem dL_low_1 : decode cL_low 1 = .ok (.ldc 7, 2) := by decide +kernel
theorem dL_low_3 : decode cL_low 3 = .ok (.iand, 1) := by decide +kernel
theorem dL_low_4 : decode cL_low 4 = .ok (.iload_n 1, 1) := by decide +kernel
theorem dL_low_5 : decode cL_low 5 = .ok (.irem, 1) := by decide +kernel
theorem dL_low_6 : decode cL_low 6 = .ok (.ireturn, 1) := by decide +kernel
theorem dL_areBoundsSound_0 : decode cL_areBoundsSound 0 = .ok (.aload_n 0, 1) := by decide +kernel
theorem dL_areBoundsSound_1 : decode cL_areBoundsSound 1 = .ok (.iload_n 1, 1) := by decide +kernel
theorem dL_areBoundsSound_2 : decode cL_areBoundsSound 2 = .ok (.invokevirtual 8, 3) := by decide +kernel
theorem dL_areBoundsSound_5 : decode cL_areBoundsSound 5 = .ok (.istore_n 3, 1) := by decide +kernel
theorem dL_areBoundsSound_6 : decode cL_areBoundsSound 6 = .ok (.aload_n 0, 1) := by decide +kernel
theorem dL_areBoundsSound_7 : decode cL_areBoundsSound 7 = .ok (.bipush 6, 2) := by decide +kernel
theorem dL_areBoundsSound_9 : decode cL_areBoundsSound 9 = .ok (.invokevirtual 14, 3) := by decide +kernel
theorem dL_areBoundsSound_12 : decode cL_areBoundsSound 12 = .ok (.istore 4, 2) := by decide +kernel
theorem dL_areBoundsSound_14 : decode cL_areBoundsSound 14 = .ok (.aload_n 0, 1) := by decide +kernel
theorem dL_areBoundsSound_15 : decode cL_areBoundsSound 15 = .ok (.iconst 5, 1) := by decide +kernel
theorem dL_areBoundsSound_16 : decode cL_areBoundsSound 16 = .ok (.invokevirtual 14, 3) := by decide +kernel
theorem dL_areBoundsSound_19 : decode cL_areBoundsSound 19 = .ok (.istore 5, 2) := by decide +kernel
theorem dL_areBoundsSound_21 : decode cL_areBoundsSound 21 = .ok (.lconst 0, 1) := by decide +kernel
theorem dL_areBoundsSound_22 : decode cL_areBoundsSound 22 = .ok (.lstore 6, 2) := by decide +kernel
theorem dL_areBoundsSound_24 : decode cL_areBoundsSound 24 = .ok (.lconst 0, 1) := by decide +kernel
theorem dL_areBoundsSound_25 : decode cL_areBoundsSound 25 = .ok (.lstore 8, 2) := by decide +kernel
theorem dL_areBoundsSound_27 : decode cL_areBoundsSound 27 = .ok (.lconst 0, 1) := by decide +kernel
theorem dL_areBoundsSound_28 : decode cL_areBoundsSound 28 = .ok (.lstore 10, 2) := by decide +kernel
theorem dL_areBoundsSound_30 : decode cL_areBoundsSound 30 = .ok (.lconst 0, 1) := by decide +kernel
theorem dL_areBoundsSound_31 : decode cL_areBoundsSound 31 = .ok (.lstore 12, 2) := by decide +kernel
theorem dL_areBoundsSound_33 : decode cL_areBoundsSound 33 = .ok (.iconst (-1), 1) := by decide +kernel
theorem dL_areBoundsSound_34 : decode cL_areBoundsSound 34 = .ok (.istore 14, 2) := by decide +kernel
theorem dL_areBoundsSound_36 : decode cL_areBoundsSound 36 = .ok (.iconst 0, 1) := by decide +kernel
theorem dL_areBoundsSound_37 : decode cL_areBoundsSound 37 = .ok (.istore 15, 2) := by decide +kernel
theorem dL_areBoundsSound_39 : decode cL_areBoundsSound 39 = .ok (.iload 15, 2) := by decide +kernel
theorem dL_areBoundsSound_41 : decode cL_areBoundsSound 41 = .ok (.iload 4, 2) := by decide +kernel
theorem dL_areBoundsSound_43 : decode cL_areBoundsSound 43 = .ok (.if_icmp .ge 321, 3) := by decide +kernel
theorem dL_areBoundsSound_46 : decode cL_areBoundsSound 46 = .ok (.aload_n 0, 1) := by decide +kernel
theorem dL_areBoundsSound_47 : decode cL_areBoundsSound 47 = .ok (.iload_n 1, 1) := by decide +kernel
theorem dL_areBoundsSound_48 : decode cL_areBoundsSound 48 = .ok (.iload 15, 2) := by decide +kernel
theorem dL_areBoundsSound_50 : decode cL_areBoundsSound 50 = .ok (.invokevirtual 17, 3) := by decide +kernel
theorem dL_areBoundsSound_53 : decode cL_areBoundsSound 53 = .ok (.lstore 16, 2) := by decide +kernel
theorem dL_areBoundsSound_55 : decode cL_areBoundsSound 55 = .ok (.aload_n 0, 1) := by decide +kernel
theorem dL_areBoundsSound_56 : decode cL_areBoundsSound 56 = .ok (.iload_n 1, 1) := by decide +kernel
theorem dL_areBoundsSound_57 : decode cL_areBoundsSound 57 = .ok (.iload 15, 2) := by decide +kernel
theorem dL_areBoundsSound_59 : decode cL_areBoundsSound 59 = .ok (.iconst 0, 1) := by decide +kernel
theorem dL_areBoundsSound_60 : decode cL_areBoundsSound 60 = .ok (.invokevirtual 21, 3) := by decide +kernel
theorem dL_areBoundsSound_63 : decode cL_areBoundsSound 63 = .ok (.lstore 18, 2) := by decide +kernel
theorem dL_areBoundsSound_65 : decode cL_areBoundsSound 65 = .ok (.aload_n 0, 1) := by decide +kernel
theorem dL_areBoundsSound_66 : decode cL_areBoundsSound 66 = .ok (.iload_n 1, 1) := by decide +kernel
theorem dL_areBoundsSound_67 : decode cL_areBoundsSound 67 = .ok (.iload 15, 2) := by decide +kernel
theorem dL_areBoundsSound_69 : decode cL_areBoundsSound 69 = .ok (.iconst 1, 1) := by decide +kernel
theorem dL_areBoundsSound_70 : decode cL_areBoundsSound 70 = .ok (.invokevirtual 21, 3) := by decide +kernel
theorem dL_areBoundsSound_73 : decode cL_areBoundsSound 73 = .ok (.lstore 20, 2) := by decide +kernel
theorem dL_areBoundsSound_75 : decode cL_areBoundsSound 75 = .ok (.iload_n 2, 1) := by decide +kernel
theorem dL_areBoundsSound_76 : decode cL_areBoundsSound 76 = .ok (.iload 5, 2) := by decide +kernel
theorem dL_areBoundsSound_78 : decode cL_areBoundsSound 78 = .ok (.if_icmp .ge 7, 3) := by decide +kernel
theorem dL_areBoundsSound_81 : decode cL_areBoundsSound 81 = .ok (.iload_n 2, 1) := by decide +kernel
theorem dL_areBoundsSound_82 : decode cL_areBoundsSound 82 = .ok (.goto 5, 3) := by decide +kernel
theorem dL_areBoundsSound_85 : decode cL_areBoundsSound 85 = .ok (.iload 5, 2) := by decide +kernel
theorem dL_areBoundsSound_87 : decode cL_areBoundsSound 87 = .ok (.istore 22, 2) := by decide +kernel
theorem dL_areBoundsSound_89 : decode cL_areBoundsSound 89 = .ok (.iload_n 2, 1) := by decide +kernel
theorem dL_areBoundsSound_90 : decode cL_areBoundsSound 90 = .ok (.iload 5, 2) := by decide +kernel
theorem dL_areBoundsSound_92 : decode cL_areBoundsSound 92 = .ok (.if_icmp .le 7, 3) := by decide +kernel
theorem dL_areBoundsSound_95 : decode cL_areBoundsSound 95 = .ok (.iload_n 2, 1) := by decide +kernel
theorem dL_areBoundsSound_96 : decode cL_areBoundsSound 96 = .ok (.goto 5, 3) := by decide +kernel
theorem dL_areBoundsSound_99 : decode cL_areBoundsSound 99 = .ok (.iload 5, 2) := by decide +kernel
theorem dL_areBoundsSound_101 : decode cL_areBoundsSound 101 = .ok (.istore 23, 2) := by decide +kernel
theorem dL_areBoundsSound_103 : decode cL_areBoundsSound 103 = .ok (.lload 18, 2) := by decide +kernel
theorem dL_areBoundsSound_105 : decode cL_areBoundsSound 105 = .ok (.lconst 0, 1) := by decide +kernel
theorem dL_areBoundsSound_106 : decode cL_areBoundsSound 106 = .ok (.lcmp, 1) := by decide +kernel
theorem dL_areBoundsSound_107 : decode cL_areBoundsSound 107 = .ok (.ifCond .lt 70, 3) := by decide +kernel
theorem dL_areBoundsSound_110 : decode cL_areBoundsSound 110 = .ok (.lload 18, 2) := by decide +kernel
theorem dL_areBoundsSound_112 : decode cL_areBoundsSound 112 = .ok (.lload 16, 2) := by decide +kernel
theorem dL_areBoundsSound_114 : decode cL_areBoundsSound 114 = .ok (.lcmp, 1) := by decide +kernel
theorem dL_areBoundsSound_115 : decode cL_areBoundsSound 115 = .ok (.ifCond .gt 62, 3) := by decide +kernel
theorem dL_areBoundsSound_118 : decode cL_areBoundsSound 118 = .ok (.lload 20, 2) := by decide +kernel
theorem dL_areBoundsSound_120 : decode cL_areBoundsSound 120 = .ok (.lload 16, 2) := by decide +kernel
theorem dL_areBoundsSound_122 : decode cL_areBoundsSound 122 = .ok (.lcmp, 1) := by decide +kernel
theorem dL_areBoundsSound_123 : decode cL_areBoundsSound 123 = .ok (.ifCond .lt 54, 3) := by decide +kernel
theorem dL_areBoundsSound_126 : decode cL_areBoundsSound 126 = .ok (.iload_n 3, 1) := by decide +kernel
theorem dL_areBoundsSound_127 : decode cL_areBoundsSound 127 = .ok (.iload 15, 2) := by decide +kernel
theorem dL_areBoundsSound_129 : decode cL_areBoundsSound 129 = .ok (.ishr, 1) := by decide +kernel
theorem dL_areBoundsSound_130 : decode cL_areBoundsSound 130 = .ok (.iconst 1, 1) := by decide +kernel
theorem dL_areBoundsSound_131 : decode cL_areBoundsSound 131 = .ok (.iand, 1) := by decide +kernel
theorem dL_areBoundsSound_132 : decode cL_areBoundsSound 132 = .ok (.iconst 1, 1) := by decide +kernel
theorem dL_areBoundsSound_133 : decode cL_areBoundsSound 133 = .ok (.if_icmp .ne 7, 3) := by decide +kernel
theorem dL_areBoundsSound_136 : decode cL_areBoundsSound 136 = .ok (.iconst 1, 1) := by decide +kernel
theorem dL_areBoundsSound_137 : decode cL_areBoundsSound 137 = .ok (.goto 4, 3) := by decide +kernel
theorem dL_areBoundsSound_140 : decode cL_areBoundsSound 140 = .ok (.iconst 0, 1) := by decide +kernel
theorem dL_areBoundsSound_141 : decode cL_areBoundsSound 141 = .ok (.lload 18, 2) := by decide +kernel
theorem dL_areBoundsSound_143 : decode cL_areBoundsSound 143 = .ok (.lload 20, 2) := by decide +kernel
theorem dL_areBoundsSound_145 : decode cL_areBoundsSound 145 = .ok (.lcmp, 1) := by decide +kernel
theorem dL_areBoundsSound_146 : decode cL_areBoundsSound 146 = .ok (.ifCond .ne 7, 3) := by decide +kernel
theorem dL_areBoundsSound_149 : decode cL_areBoundsSound 149 = .ok (.iconst 1, 1) := by decide +kernel
theorem dL_areBoundsSound_150 : decode cL_areBoundsSound 150 = .ok (.goto 4, 3) := by decide +kernel
theorem dL_areBoundsSound_153 : decode cL_areBoundsSound 153 = .ok (.iconst 0, 1) := by decide +kernel
theorem dL_areBoundsSound_154 : decode cL_areBoundsSound 154 = .ok (.if_icmp .ne 23, 3) := by decide +kernel
theorem dL_areBoundsSound_157 : decode cL_areBoundsSound 157 = .ok (.aload_n 0, 1) := by decide +kernel
theorem dL_areBoundsSound_158 : decode cL_areBoundsSound 158 = .ok (.iload_n 1, 1) := by decide +kernel
theorem dL_areBoundsSound_159 : decode cL_areBoundsSound 159 = .ok (.iload 15, 2) := by decide +kernel
theorem dL_areBoundsSound_161 : decode cL_areBoundsSound 161 = .ok (.invokevirtual 25, 3) := by decide +kernel
theorem dL_areBoundsSound_164 : decode cL_areBoundsSound 164 = .ok (.lload 18, 2) := by decide +kernel
theorem dL_areBoundsSound_166 : decode cL_areBoundsSound 166 = .ok (.lload 20, 2) := by decide +kernel
theorem dL_areBoundsSound_168 : decode cL_areBoundsSound 168 = .ok (.ladd, 1) := by decide +kernel
theorem dL_areBoundsSound_169 : decode cL_areBoundsSound 169 = .ok (.ldc2_w 28, 3) := by decide +kernel
theorem dL_areBoundsSound_172 : decode cL_areBoundsSound 172 = .ok (.ldiv, 1) := by decide +kernel
theorem dL_areBoundsSound_173 : decode cL_areBoundsSound 173 = .ok (.lcmp, 1) := by decide +kernel
theorem dL_areBoundsSound_174 : decode cL_areBoundsSound 174 = .ok (.ifCond .eq 5, 3) := by decide +kernel
theorem dL_areBoundsSound_177 : decode cL_areBoundsSound 177 = .ok (.iconst 0, 1) := by decide +kernel
theorem dL_areBoundsSound_178 : decode cL_areBoundsSound 178 = .ok (.ireturn, 1) := by decide +kernel
theorem dL_areBoundsSound_179 : decode cL_areBoundsSound 179 = .ok (.aload_n 0, 1) := by decide +kernel
theorem dL_areBoundsSound_180 : decode cL_areBoundsSound 180 = .ok (.iload_n 1, 1) := by decide +kernel
theorem dL_areBoundsSound_181 : decode cL_areBoundsSound 181 = .ok (.iload 15, 2) := by decide +kernel
theorem dL_areBoundsSound_183 : decode cL_areBoundsSound 183 = .ok (.iconst 0, 1) := by decide +kernel
theorem dL_areBoundsSound_184 : decode cL_areBoundsSound 184 = .ok (.iload 22, 2) := by decide +kernel
theorem dL_areBoundsSound_186 : decode cL_areBoundsSound 186 = .ok (.invokevirtual 30, 3) := by decide +kernel
theorem dL_areBoundsSound_189 : decode cL_areBoundsSound 189 = .ok (.lload 18, 2) := by decide +kernel
theorem dL_areBoundsSound_191 : decode cL_areBoundsSound 191 = .ok (.lcmp, 1) := by decide +kernel
theorem dL_areBoundsSound_192 : decode cL_areBoundsSound 192 = .ok (.ifCond .gt 51, 3) := by decide +kernel
theorem dL_areBoundsSound_195 : decode cL_areBoundsSound 195 = .ok (.aload_n 0, 1) := by decide +kernel
theorem dL_areBoundsSound_196 : decode cL_areBoundsSound 196 = .ok (.iload_n 1, 1) := by decide +kernel
theorem dL_areBoundsSound_197 : decode cL_areBoundsSound 197 = .ok (.iload 15, 2) := by decide +kernel
theorem dL_areBoundsSound_199 : decode cL_areBoundsSound 199 = .ok (.iconst 1, 1) := by decide +kernel
theorem dL_areBoundsSound_200 : decode cL_areBoundsSound 200 = .ok (.iload 22, 2) := by decide +kernel
theorem dL_areBoundsSound_202 : decode cL_areBoundsSound 202 = .ok (.invokevirtual 30, 3) := by decide +kernel
theorem dL_areBoundsSound_205 : decode cL_areBoundsSound 205 = .ok (.lload 20, 2) := by decide +kernel
theorem dL_areBoundsSound_207 : decode cL_areBoundsSound 207 = .ok (.lcmp, 1) := by decide +kernel
theorem dL_areBoundsSound_208 : decode cL_areBoundsSound 208 = .ok (.ifCond .lt 35, 3) := by decide +kernel
theorem dL_areBoundsSound_211 : decode cL_areBoundsSound 211 = .ok (.aload_n 0, 1) := by decide +kernel
theorem dL_areBoundsSound_212 : decode cL_areBoundsSound 212 = .ok (.iload_n 1, 1) := by decide +kernel
theorem dL_areBoundsSound_213 : decode cL_areBoundsSound 213 = .ok (.iload 15, 2) := by decide +kernel
theorem dL_areBoundsSound_215 : decode cL_areBoundsSound 215 = .ok (.iconst 0, 1) := by decide +kernel
theorem dL_areBoundsSound_216 : decode cL_areBoundsSound 216 = .ok (.iload 23, 2) := by decide +kernel
theorem dL_areBoundsSound_218 : decode cL_areBoundsSound 218 = .ok (.invokevirtual 30, 3) := by decide +kernel
theorem dL_areBoundsSound_221 : decode cL_areBoundsSound 221 = .ok (.lload 18, 2) := by decide +kernel
theorem dL_areBoundsSound_223 : decode cL_areBoundsSound 223 = .ok (.lcmp, 1) := by decide +kernel
theorem dL_areBoundsSound_224 : decode cL_areBoundsSound 224 = .ok (.ifCond .lt 19, 3) := by decide +kernel
theorem dL_areBoundsSound_227 : decode cL_areBoundsSound 227 = .ok (.aload_n 0, 1) := by decide +kernel
theorem dL_areBoundsSound_228 : decode cL_areBoundsSound 228 = .ok (.iload_n 1, 1) := by decide +kernel
theorem dL_areBoundsSound_229 : decode cL_areBoundsSound 229 = .ok (.iload 15, 2) := by decide +kernel
theorem dL_areBoundsSound_231 : decode cL_areBoundsSound 231 = .ok (.iconst 1, 1) := by decide +kernel
theorem dL_areBoundsSound_232 : decode cL_areBoundsSound 232 = .ok (.iload 23, 2) := by decide +kernel
theorem dL_areBoundsSound_234 : decode cL_areBoundsSound 234 = .ok (.invokevirtual 30, 3) := by decide +kernel
theorem dL_areBoundsSound_237 : decode cL_areBoundsSound 237 = .ok (.lload 20, 2) := by decide +kernel
theorem dL_areBoundsSound_239 : decode cL_areBoundsSound 239 = .ok (.lcmp, 1) := by decide +kernel
theorem dL_areBoundsSound_240 : decode cL_areBoundsSound 240 = .ok (.ifCond .le 5, 3) := by decide +kernel
theorem dL_areBoundsSound_243 : decode cL_areBoundsSound 243 = .ok (.iconst 0, 1) := by decide +kernel
theorem dL_areBoundsSound_244 : decode cL_areBoundsSound 244 = .ok (.ireturn, 1) := by decide +kernel
theorem dL_areBoundsSound_245 : decode cL_areBoundsSound 245 = .ok (.aload_n 0, 1) := by decide +kernel
theorem dL_areBoundsSound_246 : decode cL_areBoundsSound 246 = .ok (.iload_n 1, 1) := by decide +kernel
theorem dL_areBoundsSound_247 : decode cL_areBoundsSound 247 = .ok (.iload 15, 2) := by decide +kernel
theorem dL_areBoundsSound_249 : decode cL_areBoundsSound 249 = .ok (.iconst 1, 1) := by decide +kernel
theorem dL_areBoundsSound_250 : decode cL_areBoundsSound 250 = .ok (.iconst 0, 1) := by decide +kernel
theorem dL_areBoundsSound_251 : decode cL_areBoundsSound 251 = .ok (.invokevirtual 30, 3) := by decide +kernel
theorem dL_areBoundsSound_254 : decode cL_areBoundsSound 254 = .ok (.aload_n 0, 1) := by decide +kernel
theorem dL_areBoundsSound_255 : decode cL_areBoundsSound 255 = .ok (.iload_n 1, 1) := by decide +kernel
theorem dL_areBoundsSound_256 : decode cL_areBoundsSound 256 = .ok (.iload 15, 2) := by decide +kernel
theorem dL_areBoundsSound_258 : decode cL_areBoundsSound 258 = .ok (.invokevirtual 34, 3) := by decide +kernel
theorem dL_areBoundsSound_261 : decode cL_areBoundsSound 261 = .ok (.lcmp, 1) := by decide +kernel
theorem dL_areBoundsSound_262 : decode cL_areBoundsSound 262 = .ok (.ifCond .ne 30, 3) := by decide +kernel
theorem dL_areBoundsSound_265 : decode cL_areBoundsSound 265 = .ok (.aload_n 0, 1) := by decide +kernel
theorem dL_areBoundsSound_266 : decode cL_areBoundsSound 266 = .ok (.iload_n 1, 1) := by decide +kernel
theorem dL_areBoundsSound_267 : decode cL_areBoundsSound 267 = .ok (.iload 15, 2) := by decide +kernel
theorem dL_areBoundsSound_269 : decode cL_areBoundsSound 269 = .ok (.iconst 0, 1) := by decide +kernel
theorem dL_areBoundsSound_270 : decode cL_areBoundsSound 270 = .ok (.iconst 0, 1) := by decide +kernel
theorem dL_areBoundsSound_271 : decode cL_areBoundsSound 271 = .ok (.invokevirtual 30, 3) := by decide +kernel
theorem dL_areBoundsSound_274 : decode cL_areBoundsSound 274 = .ok (.lconst 0, 1) := by decide +kernel
theorem dL_areBoundsSound_275 : decode cL_areBoundsSound 275 = .ok (.lcmp, 1) := by decide +kernel
theorem dL_areBoundsSound_276 : decode cL_areBoundsSound 276 = .ok (.ifCond .ne 16, 3) := by decide +kernel
theorem dL_areBoundsSound_279 : decode cL_areBoundsSound 279 = .ok (.aload_n 0, 1) := by decide +kernel
theorem dL_areBoundsSound_280 : decode cL_areBoundsSound 280 = .ok (.iload_n 1, 1) := by decide +kernel
theorem dL_areBoundsSound_281 : decode cL_areBoundsSound 281 = .ok (.iload 15, 2) := by decide +kernel
theorem dL_areBoundsSound_283 : decode cL_areBoundsSound 283 = .ok (.invokevirtual 34, 3) := by decide +kernel
theorem dL_areBoundsSound_286 : decode cL_areBoundsSound 286 = .ok (.lload 20, 2) := by decide +kernel
theorem dL_areBoundsSound_288 : decode cL_areBoundsSound 288 = .ok (.lcmp, 1) := by decide +kernel
theorem dL_areBoundsSound_289 : decode cL_areBoundsSound 289 = .ok (.ifCond .ge 5, 3) := by decide +kernel
theorem dL_areBoundsSound_292 : decode cL_areBoundsSound 292 = .ok (.iconst 0, 1) := by decide +kernel
theorem dL_areBoundsSound_293 : decode cL_areBoundsSound 293 = .ok (.ireturn, 1) := by decide +kernel
theorem dL_areBoundsSound_294 : decode cL_areBoundsSound 294 = .ok (.lload 6, 2) := by decide +kernel
theorem dL_areBoundsSound_296 : decode cL_areBoundsSound 296 = .ok (.lload 16, 2) := by decide +kernel
theorem dL_areBoundsSound_298 : decode cL_areBoundsSound 298 = .ok (.ladd, 1) := by decide +kernel
theorem dL_areBoundsSound_299 : decode cL_areBoundsSound 299 = .ok (.lstore 6, 2) := by decide +kernel
theorem dL_areBoundsSound_301 : decode cL_areBoundsSound 301 = .ok (.lload 8, 2) := by decide +kernel
theorem dL_areBoundsSound_303 : decode cL_areBoundsSound 303 = .ok (.lload 18, 2) := by decide +kernel
theorem dL_areBoundsSound_305 : decode cL_areBoundsSound 305 = .ok (.ladd, 1) := by decide +kernel
theorem dL_areBoundsSound_306 : decode cL_areBoundsSound 306 = .ok (.lstore 8, 2) := by decide +kernel
theorem dL_areBoundsSound_308 : decode cL_areBoundsSound 308 = .ok (.lload 10, 2) := by decide +kernel
theorem dL_areBoundsSound_310 : decode cL_areBoundsSound 310 = .ok (.lload 20, 2) := by decide +kernel
theorem dL_areBoundsSound_312 : decode cL_areBoundsSound 312 = .ok (.ladd, 1) := by decide +kernel
theorem dL_areBoundsSound_313 : decode cL_areBoundsSound 313 = .ok (.lstore 10, 2) := by decide +kernel
theorem dL_areBoundsSound_315 : decode cL_areBoundsSound 315 = .ok (.lload 20, 2) := by decide +kernel
theorem dL_areBoundsSound_317 : decode cL_areBoundsSound 317 = .ok (.lload 18, 2) := by decide +kernel
theorem dL_areBoundsSound_319 : decode cL_areBoundsSound 319 = .ok (.lsub, 1) := by decide +kernel
theorem dL_areBoundsSound_320 : decode cL_areBoundsSound 320 = .ok (.lload 12, 2) := by decide +kernel
theorem dL_areBoundsSound_322 : decode cL_areBoundsSound 322 = .ok (.lcmp, 1) := by decide +kernel
theorem dL_areBoundsSound_323 : decode cL_areBoundsSound 323 = .ok (.ifCond .le 8, 3) := by decide +kernel
theorem dL_areBoundsSound_326 : decode cL_areBoundsSound 326 = .ok (.iload 15, 2) := by decide +kernel
theorem dL_areBoundsSound_328 : decode cL_areBoundsSound 328 = .ok (.goto 5, 3) := by decide +kernel
theorem dL_areBoundsSound_331 : decode cL_areBoundsSound 331 = .ok (.iload 14, 2) := by decide +kernel
theorem dL_areBoundsSound_333 : decode cL_areBoundsSound 333 = .ok (.istore 14, 2) := by decide +kernel
theorem dL_areBoundsSound_335 : decode cL_areBoundsSound 335 = .ok (.lload 20, 2) := by decide +kernel
theorem dL_areBoundsSound_337 : decode cL_areBoundsSound 337 = .ok (.lload 18, 2) := by decide +kernel
theorem dL_areBoundsSound_339 : decode cL_areBoundsSound 339 = .ok (.lsub, 1) := by decide +kernel
theorem dL_areBoundsSound_340 : decode cL_areBoundsSound 340 = .ok (.lload 12, 2) := by decide +kernel
theorem dL_areBoundsSound_342 : decode cL_areBoundsSound 342 = .ok (.lcmp, 1) := by decide +kernel
theorem dL_areBoundsSound_343 : decode cL_areBoundsSound 343 = .ok (.ifCond .le 11, 3) := by decide +kernel
theorem dL_areBoundsSound_346 : decode cL_areBoundsSound 346 = .ok (.lload 20, 2) := by decide +kernel
theorem dL_areBoundsSound_348 : decode cL_areBoundsSound 348 = .ok (.lload 18, 2) := by decide +kernel
theorem dL_areBoundsSound_350 : decode cL_areBoundsSound 350 = .ok (.lsub, 1) := by decide +kernel
theorem dL_areBoundsSound_351 : decode cL_areBoundsSound 351 = .ok (.goto 5, 3) := by decide +kernel
theorem dL_areBoundsSound_354 : decode cL_areBoundsSound 354 = .ok (.lload 12, 2) := by decide +kernel
theorem dL_areBoundsSound_356 : decode cL_areBoundsSound 356 = .ok (.lstore 12, 2) := by decide +kernel
theorem dL_areBoundsSound_358 : decode cL_areBoundsSound 358 = .ok (.iinc 15 1, 3) := by decide +kernel
theorem dL_areBoundsSound_361 : decode cL_areBoundsSound 361 = .ok (.goto (-322), 3) := by decide +kernel
theorem dL_areBoundsSound_364 : decode cL_areBoundsSound 364 = .ok (.iload_n 3, 1) := by decide +kernel
theorem dL_areBoundsSound_365 : decode cL_areBoundsSound 365 = .ok (.iload 4, 2) := by decide +kernel
theorem dL_areBoundsSound_367 : decode cL_areBoundsSound 367 = .ok (.ishr, 1) := by decide +kernel
theorem dL_areBoundsSound_368 : decode cL_areBoundsSound 368 = .ok (.ifCond .ne 49, 3) := by decide +kernel
theorem dL_areBoundsSound_371 : decode cL_areBoundsSound 371 = .ok (.aload_n 0, 1) := by decide +kernel
theorem dL_areBoundsSound_372 : decode cL_areBoundsSound 372 = .ok (.iload_n 1, 1) := by decide +kernel
theorem dL_areBoundsSound_373 : decode cL_areBoundsSound 373 = .ok (.invokevirtual 37, 3) := by decide +kernel
theorem dL_areBoundsSound_376 : decode cL_areBoundsSound 376 = .ok (.iload 14, 2) := by decide +kernel
theorem dL_areBoundsSound_378 : decode cL_areBoundsSound 378 = .ok (.if_icmp .ne 39, 3) := by decide +kernel
theorem dL_areBoundsSound_381 : decode cL_areBoundsSound 381 = .ok (.aload_n 0, 1) := by decide +kernel
theorem dL_areBoundsSound_382 : decode cL_areBoundsSound 382 = .ok (.iload_n 1, 1) := by decide +kernel
theorem dL_areBoundsSound_383 : decode cL_areBoundsSound 383 = .ok (.iconst 0, 1) := by decide +kernel
theorem dL_areBoundsSound_384 : decode cL_areBoundsSound 384 = .ok (.invokevirtual 40, 3) := by decide +kernel
theorem dL_areBoundsSound_387 : decode cL_areBoundsSound 387 = .ok (.lload 6, 2) := by decide +kernel
theorem dL_areBoundsSound_389 : decode cL_areBoundsSound 389 = .ok (.lcmp, 1) := by decide +kernel
theorem dL_areBoundsSound_390 : decode cL_areBoundsSound 390 = .ok (.ifCond .ne 27, 3) := by decide +kernel
theorem dL_areBoundsSound_393 : decode cL_areBoundsSound 393 = .ok (.aload_n 0, 1) := by decide +kernel
theorem dL_areBoundsSound_394 : decode cL_areBoundsSound 394 = .ok (.iload_n 1, 1) := by decide +kernel
theorem dL_areBoundsSound_395 : decode cL_areBoundsSound 395 = .ok (.iconst 1, 1) := by decide +kernel
theorem dL_areBoundsSound_396 : decode cL_areBoundsSound 396 = .ok (.invokevirtual 40, 3) := by decide +kernel
theorem dL_areBoundsSound_399 : decode cL_areBoundsSound 399 = .ok (.lload 8, 2) := by decide +kernel
theorem dL_areBoundsSound_401 : decode cL_areBoundsSound 401 = .ok (.lcmp, 1) := by decide +kernel
theorem dL_areBoundsSound_402 : decode cL_areBoundsSound 402 = .ok (.ifCond .ne 15, 3) := by decide +kernel
theorem dL_areBoundsSound_405 : decode cL_areBoundsSound 405 = .ok (.aload_n 0, 1) := by decide +kernel
theorem dL_areBoundsSound_406 : decode cL_areBoundsSound 406 = .ok (.iload_n 1, 1) := by decide +kernel
theorem dL_areBoundsSound_407 : decode cL_areBoundsSound 407 = .ok (.iconst 2, 1) := by decide +kernel
theorem dL_areBoundsSound_408 : decode cL_areBoundsSound 408 = .ok (.invokevirtual 40, 3) := by decide +kernel
theorem dL_areBoundsSound_411 : decode cL_areBoundsSound 411 = .ok (.lload 10, 2) := by decide +kernel
theorem dL_areBoundsSound_413 : decode cL_areBoundsSound 413 = .ok (.lcmp, 1) := by decide +kernel
theorem dL_areBoundsSound_414 : decode cL_areBoundsSound 414 = .ok (.ifCond .eq 5, 3) := by decide +kernel
theorem dL_areBoundsSound_417 : decode cL_areBoundsSound 417 = .ok (.iconst 0, 1) := by decide +kernel
theorem dL_areBoundsSound_418 : decode cL_areBoundsSound 418 = .ok (.ireturn, 1) := by decide +kernel
theorem dL_areBoundsSound_419 : decode cL_areBoundsSound 419 = .ok (.aload_n 0, 1) := by decide +kernel
theorem dL_areBoundsSound_420 : decode cL_areBoundsSound 420 = .ok (.iload_n 1, 1) := by decide +kernel
theorem dL_areBoundsSound_421 : decode cL_areBoundsSound 421 = .ok (.invokevirtual 43, 3) := by decide +kernel
theorem dL_areBoundsSound_424 : decode cL_areBoundsSound 424 = .ok (.istore 15, 2) := by decide +kernel
theorem dL_areBoundsSound_426 : decode cL_areBoundsSound 426 = .ok (.iload 15, 2) := by decide +kernel
theorem dL_areBoundsSound_428 : decode cL_areBoundsSound 428 = .ok (.ifCond .lt 10, 3) := by decide +kernel
theorem dL_areBoundsSound_431 : decode cL_areBoundsSound 431 = .ok (.iload 15, 2) := by decide +kernel
theorem dL_areBoundsSound_433 : decode cL_areBoundsSound 433 = .ok (.iload 5, 2) := by decide +kernel
theorem dL_areBoundsSound_435 : decode cL_areBoundsSound 435 = .ok (.if_icmp .le 5, 3) := by decide +kernel
theorem dL_areBoundsSound_438 : decode cL_areBoundsSound 438 = .ok (.iconst 0, 1) := by decide +kernel
theorem dL_areBoundsSound_439 : decode cL_areBoundsSound 439 = .ok (.ireturn, 1) := by decide +kernel
theorem dL_areBoundsSound_440 : decode cL_areBoundsSound 440 = .ok (.iconst 0, 1) := by decide +kernel
theorem dL_areBoundsSound_441 : decode cL_areBoundsSound 441 = .ok (.istore 16, 2) := by decide +kernel
theorem dL_areBoundsSound_443 : decode cL_areBoundsSound 443 = .ok (.iload 16, 2) := by decide +kernel
theorem dL_areBoundsSound_445 : decode cL_areBoundsSound 445 = .ok (.iload 4, 2) := by decide +kernel
theorem dL_areBoundsSound_447 : decode cL_areBoundsSound 447 = .ok (.if_icmp .ge 55, 3) := by decide +kernel
theorem dL_areBoundsSound_450 : decode cL_areBoundsSound 450 = .ok (.aload_n 0, 1) := by decide +kernel
theorem dL_areBoundsSound_451 : decode cL_areBoundsSound 451 = .ok (.iload_n 1, 1) := by decide +kernel
theorem dL_areBoundsSound_452 : decode cL_areBoundsSound 452 = .ok (.iload 16, 2) := by decide +kernel
theorem dL_areBoundsSound_454 : decode cL_areBoundsSound 454 = .ok (.iconst 1, 1) := by decide +kernel
theorem dL_areBoundsSound_455 : decode cL_areBoundsSound 455 = .ok (.iload 15, 2) := by decide +kernel
theorem dL_areBoundsSound_457 : decode cL_areBoundsSound 457 = .ok (.invokevirtual 30, 3) := by decide +kernel
theorem dL_areBoundsSound_460 : decode cL_areBoundsSound 460 = .ok (.aload_n 0, 1) := by decide +kernel
theorem dL_areBoundsSound_461 : decode cL_areBoundsSound 461 = .ok (.iload_n 1, 1) := by decide +kernel
theorem dL_areBoundsSound_462 : decode cL_areBoundsSound 462 = .ok (.iload 16, 2) := by decide +kernel
theorem dL_areBoundsSound_464 : decode cL_areBoundsSound 464 = .ok (.iconst 1, 1) := by decide +kernel
theorem dL_areBoundsSound_465 : decode cL_areBoundsSound 465 = .ok (.invokevirtual 21, 3) := by decide +kernel
theorem dL_areBoundsSound_468 : decode cL_areBoundsSound 468 = .ok (.lcmp, 1) := by decide +kernel
theorem dL_areBoundsSound_469 : decode cL_areBoundsSound 469 = .ok (.ifCond .ne 25, 3) := by decide +kernel
theorem dL_areBoundsSound_472 : decode cL_areBoundsSound 472 = .ok (.aload_n 0, 1) := by decide +kernel
theorem dL_areBoundsSound_473 : decode cL_areBoundsSound 473 = .ok (.iload_n 1, 1) := by decide +kernel
theorem dL_areBoundsSound_474 : decode cL_areBoundsSound 474 = .ok (.iload 16, 2) := by decide +kernel
theorem dL_areBoundsSound_476 : decode cL_areBoundsSound 476 = .ok (.iconst 0, 1) := by decide +kernel
theorem dL_areBoundsSound_477 : decode cL_areBoundsSound 477 = .ok (.iload 15, 2) := by decide +kernel
theorem dL_areBoundsSound_479 : decode cL_areBoundsSound 479 = .ok (.invokevirtual 30, 3) := by decide +kernel
theorem dL_areBoundsSound_482 : decode cL_areBoundsSound 482 = .ok (.aload_n 0, 1) := by decide +kernel
theorem dL_areBoundsSound_483 : decode cL_areBoundsSound 483 = .ok (.iload_n 1, 1) := by decide +kernel
theorem dL_areBoundsSound_484 : decode cL_areBoundsSound 484 = .ok (.iload 16, 2) := by decide +kernel
theorem dL_areBoundsSound_486 : decode cL_areBoundsSound 486 = .ok (.iconst 0, 1) := by decide +kernel
theorem dL_areBoundsSound_487 : decode cL_areBoundsSound 487 = .ok (.invokevirtual 21, 3) := by decide +kernel
theorem dL_areBoundsSound_490 : decode cL_areBoundsSound 490 = .ok (.lcmp, 1) := by decide +kernel
theorem dL_areBoundsSound_491 : decode cL_areBoundsSound 491 = .ok (.ifCond .eq 5, 3) := by decide +kernel
theorem dL_areBoundsSound_494 : decode cL_areBoundsSound 494 = .ok (.iconst 0, 1) := by decide +kernel
theorem dL_areBoundsSound_495 : decode cL_areBoundsSound 495 = .ok (.ireturn, 1) := by decide +kernel
theorem dL_areBoundsSound_496 : decode cL_areBoundsSound 496 = .ok (.iinc 16 1, 3) := by decide +kernel
theorem dL_areBoundsSound_499 : decode cL_areBoundsSound 499 = .ok (.goto (-56), 3) := by decide +kernel
theorem dL_areBoundsSound_502 : decode cL_areBoundsSound 502 = .ok (.iconst 1, 1) := by decide +kernel
theorem dL_areBoundsSound_503 : decode cL_areBoundsSound 503 = .ok (.ireturn, 1) := by decide +kernel
theorem dL_areCountersSound_0 : decode cL_areCountersSound 0 = .ok (.lconst 0, 1) := by decide +kernel
theorem dL_areCountersSound_1 : decode cL_areCountersSound 1 = .ok (.lstore_n 2, 1) := by decide +kernel
theorem dL_areCountersSound_2 : decode cL_areCountersSound 2 = .ok (.lconst 0, 1) := by decide +kernel
theorem dL_areCountersSound_3 : decode cL_areCountersSound 3 = .ok (.lstore 4, 2) := by decide +kernel
theorem dL_areCountersSound_5 : decode cL_areCountersSound 5 = .ok (.aload_n 0, 1) := by decide +kernel
theorem dL_areCountersSound_6 : decode cL_areCountersSound 6 = .ok (.iload_n 1, 1) := by decide +kernel
theorem dL_areCountersSound_7 : decode cL_areCountersSound 7 = .ok (.invokevirtual 46, 3) := by decide +kernel
theorem dL_areCountersSound_10 : decode cL_areCountersSound 10 = .ok (.istore 6, 2) := by decide +kernel
theorem dL_areCountersSound_12 : decode cL_areCountersSound 12 = .ok (.iconst 0, 1) := by decide +kernel
theorem dL_areCountersSound_13 : decode cL_areCountersSound 13 = .ok (.istore 7, 2) := by decide +kernel
theorem dL_areCountersSound_15 : decode cL_areCountersSound 15 = .ok (.iload 7, 2) := by decide +kernel
theorem dL_areCountersSound_17 : decode cL_areCountersSound 17 = .ok (.aload_n 0, 1) := by decide +kernel
theorem dL_areCountersSound_18 : decode cL_areCountersSound 18 = .ok (.iconst 0, 1) := by decide +kernel
theorem dL_areCountersSound_19 : decode cL_areCountersSound 19 = .ok (.invokevirtual 14, 3) := by decide +kernel
theorem dL_areCountersSound_22 : decode cL_areCountersSound 22 = .ok (.if_icmp .ge 286, 3) := by decide +kernel
theorem dL_areCountersSound_25 : decode cL_areCountersSound 25 = .ok (.lconst 0, 1) := by decide +kernel
theorem dL_areCountersSound_26 : decode cL_areCountersSound 26 = .ok (.lstore 8, 2) := by decide +kernel
theorem dL_areCountersSound_28 : decode cL_areCountersSound 28 = .ok (.iconst 0, 1) := by decide +kernel
theorem dL_areCountersSound_29 : decode cL_areCountersSound 29 = .ok (.istore 10, 2) := by decide +kernel
theorem dL_areCountersSound_31 : decode cL_areCountersSound 31 = .ok (.iload 10, 2) := by decide +kernel
theorem dL_areCountersSound_33 : decode cL_areCountersSound 33 = .ok (.aload_n 0, 1) := by decide +kernel
theorem dL_areCountersSound_34 : decode cL_areCountersSound 34 = .ok (.bipush 6, 2) := by decide +kernel
theorem dL_areCountersSound_36 : decode cL_areCountersSound 36 = .ok (.invokevirtual 14, 3) := by decide +kernel
theorem dL_areCountersSound_39 : decode cL_areCountersSound 39 = .ok (.if_icmp .ge 40, 3) := by decide +kernel
theorem dL_areCountersSound_42 : decode cL_areCountersSound 42 = .ok (.lload 8, 2) := by decide +kernel
theorem dL_areCountersSound_44 : decode cL_areCountersSound 44 = .ok (.aload_n 0, 1) := by decide +kernel
theorem dL_areCountersSound_45 : decode cL_areCountersSound 45 = .ok (.iload 10, 2) := by decide +kernel
theorem dL_areCountersSound_47 : decode cL_areCountersSound 47 = .ok (.invokevirtual 49, 3) := by decide +kernel
theorem dL_areCountersSound_50 : decode cL_areCountersSound 50 = .ok (.iload 7, 2) := by decide +kernel
theorem dL_areCountersSound_52 : decode cL_areCountersSound 52 = .ok (.ishr, 1) := by decide +kernel
theorem dL_areCountersSound_53 : decode cL_areCountersSound 53 = .ok (.iconst 1, 1) := by decide +kernel
theorem dL_areCountersSound_54 : decode cL_areCountersSound 54 = .ok (.iand, 1) := by decide +kernel
theorem dL_areCountersSound_55 : decode cL_areCountersSound 55 = .ok (.iconst 1, 1) := by decide +kernel
theorem dL_areCountersSound_56 : decode cL_areCountersSound 56 = .ok (.if_icmp .ne 13, 3) := by decide +kernel
theorem dL_areCountersSound_59 : decode cL_areCountersSound 59 = .ok (.aload_n 0, 1) := by decide +kernel
theorem dL_areCountersSound_60 : decode cL_areCountersSound 60 = .ok (.iload_n 1, 1) := by decide +kernel
theorem dL_areCountersSound_61 : decode cL_areCountersSound 61 = .ok (.iload 10, 2) := by decide +kernel
theorem dL_areCountersSound_63 : decode cL_areCountersSound 63 = .ok (.invokevirtual 17, 3) := by decide +kernel
theorem dL_areCountersSound_66 : decode cL_areCountersSound 66 = .ok (.goto 4, 3) := by decide +kernel
theorem dL_areCountersSound_69 : decode cL_areCountersSound 69 = .ok (.lconst 0, 1) := by decide +kernel
theorem dL_areCountersSound_70 : decode cL_areCountersSound 70 = .ok (.ladd, 1) := by decide +kernel
theorem dL_areCountersSound_71 : decode cL_areCountersSound 71 = .ok (.lstore 8, 2) := by decide +kernel
theorem dL_areCountersSound_73 : decode cL_areCountersSound 73 = .ok (.iinc 10 1, 3) := by decide +kernel
theorem dL_areCountersSound_76 : decode cL_areCountersSound 76 = .ok (.goto (-45), 3) := by decide +kernel
theorem dL_areCountersSound_79 : decode cL_areCountersSound 79 = .ok (.lload 8, 2) := by decide +kernel
theorem dL_areCountersSound_81 : decode cL_areCountersSound 81 = .ok (.aload_n 0, 1) := by decide +kernel
theorem dL_areCountersSound_82 : decode cL_areCountersSound 82 = .ok (.iconst 1, 1) := by decide +kernel
theorem dL_areCountersSound_83 : decode cL_areCountersSound 83 = .ok (.invokevirtual 14, 3) := by decide +kernel
theorem dL_areCountersSound_86 : decode cL_areCountersSound 86 = .ok (.lshr, 1) := by decide +kernel
theorem dL_areCountersSound_87 : decode cL_areCountersSound 87 = .ok (.lstore 10, 2) := by decide +kernel
theorem dL_areCountersSound_89 : decode cL_areCountersSound 89 = .ok (.iconst 0, 1) := by decide +kernel
theorem dL_areCountersSound_90 : decode cL_areCountersSound 90 = .ok (.istore 12, 2) := by decide +kernel
theorem dL_areCountersSound_92 : decode cL_areCountersSound 92 = .ok (.iconst 0, 1) := by decide +kernel
theorem dL_areCountersSound_93 : decode cL_areCountersSound 93 = .ok (.istore 13, 2) := by decide +kernel
theorem dL_areCountersSound_95 : decode cL_areCountersSound 95 = .ok (.iload 13, 2) := by decide +kernel
theorem dL_areCountersSound_97 : decode cL_areCountersSound 97 = .ok (.aload_n 0, 1) := by decide +kernel
theorem dL_areCountersSound_98 : decode cL_areCountersSound 98 = .ok (.iconst 3, 1) := by decide +kernel
theorem dL_areCountersSound_99 : decode cL_areCountersSound 99 = .ok (.invokevirtual 14, 3) := by decide +kernel
theorem dL_areCountersSound_102 : decode cL_areCountersSound 102 = .ok (.if_icmp .ge 25, 3) := by decide +kernel
theorem dL_areCountersSound_105 : decode cL_areCountersSound 105 = .ok (.iload 12, 2) := by decide +kernel
theorem dL_areCountersSound_107 : decode cL_areCountersSound 107 = .ok (.aload_n 0, 1) := by decide +kernel
theorem dL_areCountersSound_108 : decode cL_areCountersSound 108 = .ok (.iload 7, 2) := by decide +kernel
theorem dL_areCountersSound_110 : decode cL_areCountersSound 110 = .ok (.invokevirtual 52, 3) := by decide +kernel
theorem dL_areCountersSound_113 : decode cL_areCountersSound 113 = .ok (.iload 13, 2) := by decide +kernel
theorem dL_areCountersSound_115 : decode cL_areCountersSound 115 = .ok (.ishr, 1) := by decide +kernel
theorem dL_areCountersSound_116 : decode cL_areCountersSound 116 = .ok (.iconst 1, 1) := by decide +kernel
theorem dL_areCountersSound_117 : decode cL_areCountersSound 117 = .ok (.iand, 1) := by decide +kernel
theorem dL_areCountersSound_118 : decode cL_areCountersSound 118 = .ok (.iadd, 1) := by decide +kernel
theorem dL_areCountersSound_119 : decode cL_areCountersSound 119 = .ok (.istore 12, 2) := by decide +kernel
theorem dL_areCountersSound_121 : decode cL_areCountersSound 121 = .ok (.iinc 13 1, 3) := by decide +kernel
theorem dL_areCountersSound_124 : decode cL_areCountersSound 124 = .ok (.goto (-29), 3) := by decide +kernel
theorem dL_areCountersSound_127 : decode cL_areCountersSound 127 = .ok (.lload 4, 2) := by decide +kernel
theorem dL_areCountersSound_129 : decode cL_areCountersSound 129 = .ok (.iload 12, 2) := by decide +kernel
theorem dL_areCountersSound_131 : decode cL_areCountersSound 131 = .ok (.i2l, 1) := by decide +kernel
theorem dL_areCountersSound_132 : decode cL_areCountersSound 132 = .ok (.lload 10, 2) := by decide +kernel
theorem dL_areCountersSound_134 : decode cL_areCountersSound 134 = .ok (.lmul, 1) := by decide +kernel
theorem dL_areCountersSound_135 : decode cL_areCountersSound 135 = .ok (.ladd, 1) := by decide +kernel
theorem dL_areCountersSound_136 : decode cL_areCountersSound 136 = .ok (.lstore 4, 2) := by decide +kernel
theorem dL_areCountersSound_138 : decode cL_areCountersSound 138 = .ok (.aload_n 0, 1) := by decide +kernel
theorem dL_areCountersSound_139 : decode cL_areCountersSound 139 = .ok (.iload_n 1, 1) := by decide +kernel
theorem dL_areCountersSound_140 : decode cL_areCountersSound 140 = .ok (.iload 7, 2) := by decide +kernel
theorem dL_areCountersSound_142 : decode cL_areCountersSound 142 = .ok (.iconst 0, 1) := by decide +kernel
theorem dL_areCountersSound_143 : decode cL_areCountersSound 143 = .ok (.invokevirtual 55, 3) := by decide +kernel
theorem dL_areCountersSound_146 : decode cL_areCountersSound 146 = .ok (.lstore 13, 2) := by decide +kernel
theorem dL_areCountersSound_148 : decode cL_areCountersSound 148 = .ok (.aload_n 0, 1) := by decide +kernel
theorem dL_areCountersSound_149 : decode cL_areCountersSound 149 = .ok (.iload_n 1, 1) := by decide +kernel
theorem dL_areCountersSound_150 : decode cL_areCountersSound 150 = .ok (.iload 7, 2) := by decide +kernel
theorem dL_areCountersSound_152 : decode cL_areCountersSound 152 = .ok (.iconst 1, 1) := by decide +kernel
theorem dL_areCountersSound_153 : decode cL_areCountersSound 153 = .ok (.invokevirtual 55, 3) := by decide +kernel
theorem dL_areCountersSound_156 : decode cL_areCountersSound 156 = .ok (.lstore 15, 2) := by decide +kernel
theorem dL_areCountersSound_158 : decode cL_areCountersSound 158 = .ok (.aload_n 0, 1) := by decide +kernel
theorem dL_areCountersSound_159 : decode cL_areCountersSound 159 = .ok (.iload_n 1, 1) := by decide +kernel
theorem dL_areCountersSound_160 : decode cL_areCountersSound 160 = .ok (.iload 7, 2) := by decide +kernel
theorem dL_areCountersSound_162 : decode cL_areCountersSound 162 = .ok (.invokevirtual 58, 3) := by decide +kernel
theorem dL_areCountersSound_165 : decode cL_areCountersSound 165 = .ok (.lload 8, 2) := by decide +kernel
theorem dL_areCountersSound_167 : decode cL_areCountersSound 167 = .ok (.lload 10, 2) := by decide +kernel
theorem dL_areCountersSound_169 : decode cL_areCountersSound 169 = .ok (.aload_n 0, 1) := by decide +kernel
theorem dL_areCountersSound_170 : decode cL_areCountersSound 170 = .ok (.iconst 1, 1) := by decide +kernel
theorem dL_areCountersSound_171 : decode cL_areCountersSound 171 = .ok (.invokevirtual 14, 3) := by decide +kernel
theorem dL_areCountersSound_174 : decode cL_areCountersSound 174 = .ok (.lshl, 1) := by decide +kernel
theorem dL_areCountersSound_175 : decode cL_areCountersSound 175 = .ok (.lsub, 1) := by decide +kernel
theorem dL_areCountersSound_176 : decode cL_areCountersSound 176 = .ok (.l2i, 1) := by decide +kernel
theorem dL_areCountersSound_177 : decode cL_areCountersSound 177 = .ok (.if_icmp .ne 38, 3) := by decide +kernel
theorem dL_areCountersSound_180 : decode cL_areCountersSound 180 = .ok (.lload 10, 2) := by decide +kernel
theorem dL_areCountersSound_182 : decode cL_areCountersSound 182 = .ok (.lconst 0, 1) := by decide +kernel
theorem dL_areCountersSound_183 : decode cL_areCountersSound 183 = .ok (.lcmp, 1) := by decide +kernel
theorem dL_areCountersSound_184 : decode cL_areCountersSound 184 = .ok (.ifCond .le 14, 3) := by decide +kernel
theorem dL_areCountersSound_187 : decode cL_areCountersSound 187 = .ok (.aload_n 0, 1) := by decide +kernel
theorem dL_areCountersSound_188 : decode cL_areCountersSound 188 = .ok (.iload_n 1, 1) := by decide +kernel
theorem dL_areCountersSound_189 : decode cL_areCountersSound 189 = .ok (.iload 7, 2) := by decide +kernel
theorem dL_areCountersSound_191 : decode cL_areCountersSound 191 = .ok (.invokevirtual 62, 3) := by decide +kernel
theorem dL_areCountersSound_194 : decode cL_areCountersSound 194 = .ok (.iconst 1, 1) := by decide +kernel
theorem dL_areCountersSound_195 : decode cL_areCountersSound 195 = .ok (.if_icmp .ne 20, 3) := by decide +kernel
theorem dL_areCountersSound_198 : decode cL_areCountersSound 198 = .ok (.lload 10, 2) := by decide +kernel
theorem dL_areCountersSound_200 : decode cL_areCountersSound 200 = .ok (.lconst 0, 1) := by decide +kernel
theorem dL_areCountersSound_201 : decode cL_areCountersSound 201 = .ok (.lcmp, 1) := by decide +kernel
theorem dL_areCountersSound_202 : decode cL_areCountersSound 202 = .ok (.ifCond .ne 15, 3) := by decide +kernel
theorem dL_areCountersSound_205 : decode cL_areCountersSound 205 = .ok (.aload_n 0, 1) := by decide +kernel
theorem dL_areCountersSound_206 : decode cL_areCountersSound 206 = .ok (.iload_n 1, 1) := by decide +kernel
theorem dL_areCountersSound_207 : decode cL_areCountersSound 207 = .ok (.iload 7, 2) := by decide +kernel
theorem dL_areCountersSound_209 : decode cL_areCountersSound 209 = .ok (.invokevirtual 62, 3) := by decide +kernel
theorem dL_areCountersSound_212 : decode cL_areCountersSound 212 = .ok (.ifCond .eq 5, 3) := by decide +kernel
theorem dL_areCountersSound_215 : decode cL_areCountersSound 215 = .ok (.iconst 0, 1) := by decide +kernel
theorem dL_areCountersSound_216 : decode cL_areCountersSound 216 = .ok (.ireturn, 1) := by decide +kernel
theorem dL_areCountersSound_217 : decode cL_areCountersSound 217 = .ok (.lload 13, 2) := by decide +kernel
theorem dL_areCountersSound_219 : decode cL_areCountersSound 219 = .ok (.lload 10, 2) := by decide +kernel
theorem dL_areCountersSound_221 : decode cL_areCountersSound 221 = .ok (.lcmp, 1) := by decide +kernel
theorem dL_areCountersSound_222 : decode cL_areCountersSound 222 = .ok (.ifCond .gt 78, 3) := by decide +kernel
theorem dL_areCountersSound_225 : decode cL_areCountersSound 225 = .ok (.lload 15, 2) := by decide +kernel
theorem dL_areCountersSound_227 : decode cL_areCountersSound 227 = .ok (.lload 10, 2) := by decide +kernel
theorem dL_areCountersSound_229 : decode cL_areCountersSound 229 = .ok (.lcmp, 1) := by decide +kernel
theorem dL_areCountersSound_230 : decode cL_areCountersSound 230 = .ok (.ifCond .lt 70, 3) := by decide +kernel
theorem dL_areCountersSound_233 : decode cL_areCountersSound 233 = .ok (.aload_n 0, 1) := by decide +kernel
theorem dL_areCountersSound_234 : decode cL_areCountersSound 234 = .ok (.iload_n 1, 1) := by decide +kernel
theorem dL_areCountersSound_235 : decode cL_areCountersSound 235 = .ok (.iload 7, 2) := by decide +kernel
theorem dL_areCountersSound_237 : decode cL_areCountersSound 237 = .ok (.invokevirtual 62, 3) := by decide +kernel
theorem dL_areCountersSound_240 : decode cL_areCountersSound 240 = .ok (.ifCond .ne 10, 3) := by decide +kernel
theorem dL_areCountersSound_243 : decode cL_areCountersSound 243 = .ok (.lload 15, 2) := by decide +kernel
theorem dL_areCountersSound_245 : decode cL_areCountersSound 245 = .ok (.lconst 0, 1) := by decide +kernel
theorem dL_areCountersSound_246 : decode cL_areCountersSound 246 = .ok (.lcmp, 1) := by decide +kernel
theorem dL_areCountersSound_247 : decode cL_areCountersSound 247 = .ok (.ifCond .ne 53, 3) := by decide +kernel
theorem dL_areCountersSound_250 : decode cL_areCountersSound 250 = .ok (.aload_n 0, 1) := by decide +kernel
theorem dL_areCountersSound_251 : decode cL_areCountersSound 251 = .ok (.iload_n 1, 1) := by decide +kernel
theorem dL_areCountersSound_252 : decode cL_areCountersSound 252 = .ok (.iload 7, 2) := by decide +kernel
theorem dL_areCountersSound_254 : decode cL_areCountersSound 254 = .ok (.invokevirtual 62, 3) := by decide +kernel
theorem dL_areCountersSound_257 : decode cL_areCountersSound 257 = .ok (.iconst 1, 1) := by decide +kernel
theorem dL_areCountersSound_258 : decode cL_areCountersSound 258 = .ok (.if_icmp .ne 10, 3) := by decide +kernel
theorem dL_areCountersSound_261 : decode cL_areCountersSound 261 = .ok (.lload 13, 2) := by decide +kernel
theorem dL_areCountersSound_263 : decode cL_areCountersSound 263 = .ok (.lconst 1, 1) := by decide +kernel
theorem dL_areCountersSound_264 : decode cL_areCountersSound 264 = .ok (.lcmp, 1) := by decide +kernel
theorem dL_areCountersSound_265 : decode cL_areCountersSound 265 = .ok (.ifCond .lt 35, 3) := by decide +kernel
theorem dL_areCountersSound_268 : decode cL_areCountersSound 268 = .ok (.iload 6, 2) := by decide +kernel
theorem dL_areCountersSound_270 : decode cL_areCountersSound 270 = .ok (.iload 7, 2) := by decide +kernel
theorem dL_areCountersSound_272 : decode cL_areCountersSound 272 = .ok (.ishr, 1) := by decide +kernel
theorem dL_areCountersSound_273 : decode cL_areCountersSound 273 = .ok (.iconst 1, 1) := by decide +kernel
theorem dL_areCountersSound_274 : decode cL_areCountersSound 274 = .ok (.iand, 1) := by decide +kernel
theorem dL_areCountersSound_275 : decode cL_areCountersSound 275 = .ok (.iconst 1, 1) := by decide +kernel
theorem dL_areCountersSound_276 : decode cL_areCountersSound 276 = .ok (.if_icmp .ne 7, 3) := by decide +kernel
theorem dL_areCountersSound_279 : decode cL_areCountersSound 279 = .ok (.iconst 1, 1) := by decide +kernel
theorem dL_areCountersSound_280 : decode cL_areCountersSound 280 = .ok (.goto 4, 3) := by decide +kernel
theorem dL_areCountersSound_283 : decode cL_areCountersSound 283 = .ok (.iconst 0, 1) := by decide +kernel
theorem dL_areCountersSound_284 : decode cL_areCountersSound 284 = .ok (.lload 13, 2) := by decide +kernel
theorem dL_areCountersSound_286 : decode cL_areCountersSound 286 = .ok (.lload 15, 2) := by decide +kernel
theorem dL_areCountersSound_288 : decode cL_areCountersSound 288 = .ok (.lcmp, 1) := by decide +kernel
theorem dL_areCountersSound_289 : decode cL_areCountersSound 289 = .ok (.ifCond .ne 7, 3) := by decide +kernel
theorem dL_areCountersSound_292 : decode cL_areCountersSound 292 = .ok (.iconst 1, 1) := by decide +kernel
theorem dL_areCountersSound_293 : decode cL_areCountersSound 293 = .ok (.goto 4, 3) := by decide +kernel
theorem dL_areCountersSound_296 : decode cL_areCountersSound 296 = .ok (.iconst 0, 1) := by decide +kernel
theorem dL_areCountersSound_297 : decode cL_areCountersSound 297 = .ok (.if_icmp .eq 5, 3) := by decide +kernel
theorem dL_areCountersSound_300 : decode cL_areCountersSound 300 = .ok (.iconst 0, 1) := by decide +kernel
theorem dL_areCountersSound_301 : decode cL_areCountersSound 301 = .ok (.ireturn, 1) := by decide +kernel
theorem dL_areCountersSound_302 : decode cL_areCountersSound 302 = .ok (.iinc 7 1, 3) := by decide +kernel
theorem dL_areCountersSound_305 : decode cL_areCountersSound 305 = .ok (.goto (-290), 3) := by decide +kernel
theorem dL_areCountersSound_308 : decode cL_areCountersSound 308 = .ok (.iconst 0, 1) := by decide +kernel
