theorem dX8_findsOverflows_42 : decode cX8_findsOverflows 42 = .ok (.getfield 127, 3) := by decide +kernel
theorem dX8_findsOverflows_45 : decode cX8_findsOverflows 45 = .ok (.iconst 1, 1) := by decide +kernel
theorem dX8_findsOverflows_46 : decode cX8_findsOverflows 46 = .ok (.iadd, 1) := by decide +kernel
theorem dX8_findsOverflows_47 : decode cX8_findsOverflows 47 = .ok (.putfield 127, 3) := by decide +kernel
theorem dX8_findsOverflows_50 : decode cX8_findsOverflows 50 = .ok (.iinc 2 1, 3) := by decide +kernel
theorem dX8_findsOverflows_53 : decode cX8_findsOverflows 53 = .ok (.goto (-46), 3) := by decide +kernel
theorem dX8_findsOverflows_56 : decode cX8_findsOverflows 56 = .ok (.iconst 0, 1) := by decide +kernel
theorem dX8_findsOverflows_57 : decode cX8_findsOverflows 57 = .ok (.istore_n 2, 1) := by decide +kernel
theorem dX8_findsOverflows_58 : decode cX8_findsOverflows 58 = .ok (.iload_n 2, 1) := by decide +kernel
theorem dX8_findsOverflows_59 : decode cX8_findsOverflows 59 = .ok (.aload_n 0, 1) := by decide +kernel
theorem dX8_findsOverflows_60 : decode cX8_findsOverflows 60 = .ok (.getfield 7, 3) := by decide +kernel
theorem dX8_findsOverflows_63 : decode cX8_findsOverflows 63 = .ok (.iconst 3, 1) := by decide +kernel
theorem dX8_findsOverflows_64 : decode cX8_findsOverflows 64 = .ok (.iaload, 1) := by decide +kernel
theorem dX8_findsOverflows_65 : decode cX8_findsOverflows 65 = .ok (.if_icmp .ge 33, 3) := by decide +kernel
theorem dX8_findsOverflows_68 : decode cX8_findsOverflows 68 = .ok (.aload_n 0, 1) := by decide +kernel
theorem dX8_findsOverflows_69 : decode cX8_findsOverflows 69 = .ok (.getfield 32, 3) := by decide +kernel
theorem dX8_findsOverflows_72 : decode cX8_findsOverflows 72 = .ok (.iload_n 2, 1) := by decide +kernel
theorem dX8_findsOverflows_73 : decode cX8_findsOverflows 73 = .ok (.aload_n 0, 1) := by decide +kernel
theorem dX8_findsOverflows_74 : decode cX8_findsOverflows 74 = .ok (.iload_n 1, 1) := by decide +kernel
theorem dX8_findsOverflows_75 : decode cX8_findsOverflows 75 = .ok (.iload_n 2, 1) := by decide +kernel
theorem dX8_findsOverflows_76 : decode cX8_findsOverflows 76 = .ok (.invokevirtual 124, 3) := by decide +kernel
theorem dX8_findsOverflows_79 : decode cX8_findsOverflows 79 = .ok (.lastore, 1) := by decide +kernel
theorem dX8_findsOverflows_80 : decode cX8_findsOverflows 80 = .ok (.aload_n 0, 1) := by decide +kernel
theorem dX8_findsOverflows_81 : decode cX8_findsOverflows 81 = .ok (.getfield 35, 3) := by decide +kernel
theorem dX8_findsOverflows_84 : decode cX8_findsOverflows 84 = .ok (.iload_n 2, 1) := by decide +kernel
theorem dX8_findsOverflows_85 : decode cX8_findsOverflows 85 = .ok (.aload_n 0, 1) := by decide +kernel
theorem dX8_findsOverflows_86 : decode cX8_findsOverflows 86 = .ok (.iload_n 1, 1) := by decide +kernel
theorem dX8_findsOverflows_87 : decode cX8_findsOverflows 87 = .ok (.iload_n 2, 1) := by decide +kernel
theorem dX8_findsOverflows_88 : decode cX8_findsOverflows 88 = .ok (.invokevirtual 124, 3) := by decide +kernel
theorem dX8_findsOverflows_91 : decode cX8_findsOverflows 91 = .ok (.lastore, 1) := by decide +kernel
theorem dX8_findsOverflows_92 : decode cX8_findsOverflows 92 = .ok (.iinc 2 1, 3) := by decide +kernel
theorem dX8_findsOverflows_95 : decode cX8_findsOverflows 95 = .ok (.goto (-37), 3) := by decide +kernel
theorem dX8_findsOverflows_98 : decode cX8_findsOverflows 98 = .ok (.aload_n 0, 1) := by decide +kernel
theorem dX8_findsOverflows_99 : decode cX8_findsOverflows 99 = .ok (.lconst 1, 1) := by decide +kernel
theorem dX8_findsOverflows_100 : decode cX8_findsOverflows 100 = .ok (.invokevirtual 143, 3) := by decide +kernel
theorem dX8_findsOverflows_103 : decode cX8_findsOverflows 103 = .ok (.aload_n 0, 1) := by decide +kernel
theorem dX8_findsOverflows_104 : decode cX8_findsOverflows 104 = .ok (.aload_n 0, 1) := by decide +kernel
theorem dX8_findsOverflows_105 : decode cX8_findsOverflows 105 = .ok (.getfield 7, 3) := by decide +kernel
theorem dX8_findsOverflows_108 : decode cX8_findsOverflows 108 = .ok (.iconst 5, 1) := by decide +kernel
theorem dX8_findsOverflows_109 : decode cX8_findsOverflows 109 = .ok (.iaload, 1) := by decide +kernel
theorem dX8_findsOverflows_110 : decode cX8_findsOverflows 110 = .ok (.invokevirtual 147, 3) := by decide +kernel
theorem dX8_findsOverflows_113 : decode cX8_findsOverflows 113 = .ok (.iconst 0, 1) := by decide +kernel
theorem dX8_findsOverflows_114 : decode cX8_findsOverflows 114 = .ok (.istore_n 2, 1) := by decide +kernel
theorem dX8_findsOverflows_115 : decode cX8_findsOverflows 115 = .ok (.iconst 0, 1) := by decide +kernel
theorem dX8_findsOverflows_116 : decode cX8_findsOverflows 116 = .ok (.istore_n 3, 1) := by decide +kernel
theorem dX8_findsOverflows_117 : decode cX8_findsOverflows 117 = .ok (.iload_n 3, 1) := by decide +kernel
theorem dX8_findsOverflows_118 : decode cX8_findsOverflows 118 = .ok (.aload_n 0, 1) := by decide +kernel
theorem dX8_findsOverflows_119 : decode cX8_findsOverflows 119 = .ok (.getfield 7, 3) := by decide +kernel
theorem dX8_findsOverflows_122 : decode cX8_findsOverflows 122 = .ok (.iconst 0, 1) := by decide +kernel
theorem dX8_findsOverflows_123 : decode cX8_findsOverflows 123 = .ok (.iaload, 1) := by decide +kernel
theorem dX8_findsOverflows_124 : decode cX8_findsOverflows 124 = .ok (.if_icmp .ge 72, 3) := by decide +kernel
theorem dX8_findsOverflows_127 : decode cX8_findsOverflows 127 = .ok (.aload_n 0, 1) := by decide +kernel
theorem dX8_findsOverflows_128 : decode cX8_findsOverflows 128 = .ok (.iload_n 1, 1) := by decide +kernel
theorem dX8_findsOverflows_129 : decode cX8_findsOverflows 129 = .ok (.iload_n 3, 1) := by decide +kernel
theorem dX8_findsOverflows_130 : decode cX8_findsOverflows 130 = .ok (.invokevirtual 120, 3) := by decide +kernel
theorem dX8_findsOverflows_133 : decode cX8_findsOverflows 133 = .ok (.istore 4, 2) := by decide +kernel
theorem dX8_findsOverflows_135 : decode cX8_findsOverflows 135 = .ok (.aload_n 0, 1) := by decide +kernel
theorem dX8_findsOverflows_136 : decode cX8_findsOverflows 136 = .ok (.getfield 38, 3) := by decide +kernel
theorem dX8_findsOverflows_139 : decode cX8_findsOverflows 139 = .ok (.iload_n 3, 1) := by decide +kernel
theorem dX8_findsOverflows_140 : decode cX8_findsOverflows 140 = .ok (.iload 4, 2) := by decide +kernel
theorem dX8_findsOverflows_142 : decode cX8_findsOverflows 142 = .ok (.ifCond .eq 12, 3) := by decide +kernel
theorem dX8_findsOverflows_145 : decode cX8_findsOverflows 145 = .ok (.aload_n 0, 1) := by decide +kernel
theorem dX8_findsOverflows_146 : decode cX8_findsOverflows 146 = .ok (.getfield 20, 3) := by decide +kernel
theorem dX8_findsOverflows_149 : decode cX8_findsOverflows 149 = .ok (.iload_n 2, 1) := by decide +kernel
theorem dX8_findsOverflows_150 : decode cX8_findsOverflows 150 = .ok (.laload, 1) := by decide +kernel
theorem dX8_findsOverflows_151 : decode cX8_findsOverflows 151 = .ok (.goto 4, 3) := by decide +kernel
theorem dX8_findsOverflows_154 : decode cX8_findsOverflows 154 = .ok (.lconst 0, 1) := by decide +kernel
theorem dX8_findsOverflows_155 : decode cX8_findsOverflows 155 = .ok (.lastore, 1) := by decide +kernel
theorem dX8_findsOverflows_156 : decode cX8_findsOverflows 156 = .ok (.aload_n 0, 1) := by decide +kernel
theorem dX8_findsOverflows_157 : decode cX8_findsOverflows 157 = .ok (.getfield 41, 3) := by decide +kernel
theorem dX8_findsOverflows_160 : decode cX8_findsOverflows 160 = .ok (.iload_n 3, 1) := by decide +kernel
theorem dX8_findsOverflows_161 : decode cX8_findsOverflows 161 = .ok (.iload 4, 2) := by decide +kernel
theorem dX8_findsOverflows_163 : decode cX8_findsOverflows 163 = .ok (.ifCond .eq 12, 3) := by decide +kernel
theorem dX8_findsOverflows_166 : decode cX8_findsOverflows 166 = .ok (.aload_n 0, 1) := by decide +kernel
theorem dX8_findsOverflows_167 : decode cX8_findsOverflows 167 = .ok (.getfield 23, 3) := by decide +kernel
theorem dX8_findsOverflows_170 : decode cX8_findsOverflows 170 = .ok (.iload_n 2, 1) := by decide +kernel
theorem dX8_findsOverflows_171 : decode cX8_findsOverflows 171 = .ok (.laload, 1) := by decide +kernel
theorem dX8_findsOverflows_172 : decode cX8_findsOverflows 172 = .ok (.goto 4, 3) := by decide +kernel
theorem dX8_findsOverflows_175 : decode cX8_findsOverflows 175 = .ok (.lconst 0, 1) := by decide +kernel
theorem dX8_findsOverflows_176 : decode cX8_findsOverflows 176 = .ok (.lastore, 1) := by decide +kernel
theorem dX8_findsOverflows_177 : decode cX8_findsOverflows 177 = .ok (.iload_n 2, 1) := by decide +kernel
theorem dX8_findsOverflows_178 : decode cX8_findsOverflows 178 = .ok (.iload 4, 2) := by decide +kernel
theorem dX8_findsOverflows_180 : decode cX8_findsOverflows 180 = .ok (.ifCond .eq 7, 3) := by decide +kernel
theorem dX8_findsOverflows_183 : decode cX8_findsOverflows 183 = .ok (.iconst 1, 1) := by decide +kernel
theorem dX8_findsOverflows_184 : decode cX8_findsOverflows 184 = .ok (.goto 4, 3) := by decide +kernel
theorem dX8_findsOverflows_187 : decode cX8_findsOverflows 187 = .ok (.iconst 0, 1) := by decide +kernel
theorem dX8_findsOverflows_188 : decode cX8_findsOverflows 188 = .ok (.iadd, 1) := by decide +kernel
theorem dX8_findsOverflows_189 : decode cX8_findsOverflows 189 = .ok (.istore_n 2, 1) := by decide +kernel
theorem dX8_findsOverflows_190 : decode cX8_findsOverflows 190 = .ok (.iinc 3 1, 3) := by decide +kernel
theorem dX8_findsOverflows_193 : decode cX8_findsOverflows 193 = .ok (.goto (-76), 3) := by decide +kernel
theorem dX8_findsOverflows_196 : decode cX8_findsOverflows 196 = .ok (.return_, 1) := by decide +kernel
theorem dX8_findsFlows_0 : decode cX8_findsFlows 0 = .ok (.aload_n 0, 1) := by decide +kernel
theorem dX8_findsFlows_1 : decode cX8_findsFlows 1 = .ok (.iload_n 1, 1) := by decide +kernel
theorem dX8_findsFlows_2 : decode cX8_findsFlows 2 = .ok (.invokevirtual 150, 3) := by decide +kernel
theorem dX8_findsFlows_5 : decode cX8_findsFlows 5 = .ok (.iconst 0, 1) := by decide +kernel
theorem dX8_findsFlows_6 : decode cX8_findsFlows 6 = .ok (.istore_n 3, 1) := by decide +kernel
theorem dX8_findsFlows_7 : decode cX8_findsFlows 7 = .ok (.iload_n 3, 1) := by decide +kernel
theorem dX8_findsFlows_8 : decode cX8_findsFlows 8 = .ok (.aload_n 0, 1) := by decide +kernel
theorem dX8_findsFlows_9 : decode cX8_findsFlows 9 = .ok (.getfield 7, 3) := by decide +kernel
theorem dX8_findsFlows_12 : decode cX8_findsFlows 12 = .ok (.iconst 0, 1) := by decide +kernel
theorem dX8_findsFlows_13 : decode cX8_findsFlows 13 = .ok (.iaload, 1) := by decide +kernel
theorem dX8_findsFlows_14 : decode cX8_findsFlows 14 = .ok (.if_icmp .ge 63, 3) := by decide +kernel
theorem dX8_findsFlows_17 : decode cX8_findsFlows 17 = .ok (.aload_n 0, 1) := by decide +kernel
theorem dX8_findsFlows_18 : decode cX8_findsFlows 18 = .ok (.getfield 32, 3) := by decide +kernel
theorem dX8_findsFlows_21 : decode cX8_findsFlows 21 = .ok (.iload_n 3, 1) := by decide +kernel
theorem dX8_findsFlows_22 : decode cX8_findsFlows 22 = .ok (.aload_n 0, 1) := by decide +kernel
theorem dX8_findsFlows_23 : decode cX8_findsFlows 23 = .ok (.iload_n 1, 1) := by decide +kernel
theorem dX8_findsFlows_24 : decode cX8_findsFlows 24 = .ok (.iload_n 3, 1) := by decide +kernel
theorem dX8_findsFlows_25 : decode cX8_findsFlows 25 = .ok (.invokevirtual 92, 3) := by decide +kernel
theorem dX8_findsFlows_28 : decode cX8_findsFlows 28 = .ok (.i2l, 1) := by decide +kernel
theorem dX8_findsFlows_29 : decode cX8_findsFlows 29 = .ok (.aload_n 0, 1) := by decide +kernel
theorem dX8_findsFlows_30 : decode cX8_findsFlows 30 = .ok (.getfield 38, 3) := by decide +kernel
theorem dX8_findsFlows_33 : decode cX8_findsFlows 33 = .ok (.iload_n 3, 1) := by decide +kernel
theorem dX8_findsFlows_34 : decode cX8_findsFlows 34 = .ok (.laload, 1) := by decide +kernel
theorem dX8_findsFlows_35 : decode cX8_findsFlows 35 = .ok (.aload_n 0, 1) := by decide +kernel
theorem dX8_findsFlows_36 : decode cX8_findsFlows 36 = .ok (.getfield 7, 3) := by decide +kernel
theorem dX8_findsFlows_39 : decode cX8_findsFlows 39 = .ok (.iconst 1, 1) := by decide +kernel
theorem dX8_findsFlows_40 : decode cX8_findsFlows 40 = .ok (.iaload, 1) := by decide +kernel
theorem dX8_findsFlows_41 : decode cX8_findsFlows 41 = .ok (.lshl, 1) := by decide +kernel
theorem dX8_findsFlows_42 : decode cX8_findsFlows 42 = .ok (.ladd, 1) := by decide +kernel
theorem dX8_findsFlows_43 : decode cX8_findsFlows 43 = .ok (.lastore, 1) := by decide +kernel
theorem dX8_findsFlows_44 : decode cX8_findsFlows 44 = .ok (.aload_n 0, 1) := by decide +kernel
theorem dX8_findsFlows_45 : decode cX8_findsFlows 45 = .ok (.getfield 35, 3) := by decide +kernel
theorem dX8_findsFlows_48 : decode cX8_findsFlows 48 = .ok (.iload_n 3, 1) := by decide +kernel
theorem dX8_findsFlows_49 : decode cX8_findsFlows 49 = .ok (.aload_n 0, 1) := by decide +kernel
theorem dX8_findsFlows_50 : decode cX8_findsFlows 50 = .ok (.iload_n 1, 1) := by decide +kernel
theorem dX8_findsFlows_51 : decode cX8_findsFlows 51 = .ok (.iload_n 3, 1) := by decide +kernel
theorem dX8_findsFlows_52 : decode cX8_findsFlows 52 = .ok (.invokevirtual 92, 3) := by decide +kernel
theorem dX8_findsFlows_55 : decode cX8_findsFlows 55 = .ok (.i2l, 1) := by decide +kernel
theorem dX8_findsFlows_56 : decode cX8_findsFlows 56 = .ok (.aload_n 0, 1) := by decide +kernel
theorem dX8_findsFlows_57 : decode cX8_findsFlows 57 = .ok (.getfield 41, 3) := by decide +kernel
theorem dX8_findsFlows_60 : decode cX8_findsFlows 60 = .ok (.iload_n 3, 1) := by decide +kernel
theorem dX8_findsFlows_61 : decode cX8_findsFlows 61 = .ok (.laload, 1) := by decide +kernel
theorem dX8_findsFlows_62 : decode cX8_findsFlows 62 = .ok (.aload_n 0, 1) := by decide +kernel
theorem dX8_findsFlows_63 : decode cX8_findsFlows 63 = .ok (.getfield 7, 3) := by decide +kernel
theorem dX8_findsFlows_66 : decode cX8_findsFlows 66 = .ok (.iconst 1, 1) := by decide +kernel
theorem dX8_findsFlows_67 : decode cX8_findsFlows 67 = .ok (.iaload, 1) := by decide +kernel
theorem dX8_findsFlows_68 : decode cX8_findsFlows 68 = .ok (.lshl, 1) := by decide +kernel
theorem dX8_findsFlows_69 : decode cX8_findsFlows 69 = .ok (.ladd, 1) := by decide +kernel
theorem dX8_findsFlows_70 : decode cX8_findsFlows 70 = .ok (.lastore, 1) := by decide +kernel
theorem dX8_findsFlows_71 : decode cX8_findsFlows 71 = .ok (.iinc 3 1, 3) := by decide +kernel
theorem dX8_findsFlows_74 : decode cX8_findsFlows 74 = .ok (.goto (-67), 3) := by decide +kernel
theorem dX8_findsFlows_77 : decode cX8_findsFlows 77 = .ok (.aload_n 0, 1) := by decide +kernel
theorem dX8_findsFlows_78 : decode cX8_findsFlows 78 = .ok (.aload_n 0, 1) := by decide +kernel
theorem dX8_findsFlows_79 : decode cX8_findsFlows 79 = .ok (.getfield 7, 3) := by decide +kernel
theorem dX8_findsFlows_82 : decode cX8_findsFlows 82 = .ok (.bipush 6, 2) := by decide +kernel
theorem dX8_findsFlows_84 : decode cX8_findsFlows 84 = .ok (.iaload, 1) := by decide +kernel
theorem dX8_findsFlows_85 : decode cX8_findsFlows 85 = .ok (.putfield 127, 3) := by decide +kernel
theorem dX8_findsFlows_88 : decode cX8_findsFlows 88 = .ok (.iconst 0, 1) := by decide +kernel
theorem dX8_findsFlows_89 : decode cX8_findsFlows 89 = .ok (.istore_n 3, 1) := by decide +kernel
theorem dX8_findsFlows_90 : decode cX8_findsFlows 90 = .ok (.iload_n 3, 1) := by decide +kernel
theorem dX8_findsFlows_91 : decode cX8_findsFlows 91 = .ok (.aload_n 0, 1) := by decide +kernel
theorem dX8_findsFlows_92 : decode cX8_findsFlows 92 = .ok (.getfield 127, 3) := by decide +kernel
theorem dX8_findsFlows_95 : decode cX8_findsFlows 95 = .ok (.if_icmp .ge 28, 3) := by decide +kernel
theorem dX8_findsFlows_98 : decode cX8_findsFlows 98 = .ok (.aload_n 0, 1) := by decide +kernel
theorem dX8_findsFlows_99 : decode cX8_findsFlows 99 = .ok (.getfield 17, 3) := by decide +kernel
theorem dX8_findsFlows_102 : decode cX8_findsFlows 102 = .ok (.iload_n 3, 1) := by decide +kernel
theorem dX8_findsFlows_103 : decode cX8_findsFlows 103 = .ok (.aload_n 0, 1) := by decide +kernel
theorem dX8_findsFlows_104 : decode cX8_findsFlows 104 = .ok (.aload_n 0, 1) := by decide +kernel
theorem dX8_findsFlows_105 : decode cX8_findsFlows 105 = .ok (.getfield 7, 3) := by decide +kernel
theorem dX8_findsFlows_108 : decode cX8_findsFlows 108 = .ok (.bipush 7, 2) := by decide +kernel
theorem dX8_findsFlows_110 : decode cX8_findsFlows 110 = .ok (.iload_n 3, 1) := by decide +kernel
theorem dX8_findsFlows_111 : decode cX8_findsFlows 111 = .ok (.iadd, 1) := by decide +kernel
theorem dX8_findsFlows_112 : decode cX8_findsFlows 112 = .ok (.iaload, 1) := by decide +kernel
theorem dX8_findsFlows_113 : decode cX8_findsFlows 113 = .ok (.invokevirtual 83, 3) := by decide +kernel
theorem dX8_findsFlows_116 : decode cX8_findsFlows 116 = .ok (.iastore, 1) := by decide +kernel
theorem dX8_findsFlows_117 : decode cX8_findsFlows 117 = .ok (.iinc 3 1, 3) := by decide +kernel
theorem dX8_findsFlows_120 : decode cX8_findsFlows 120 = .ok (.goto (-30), 3) := by decide +kernel
theorem dX8_findsFlows_123 : decode cX8_findsFlows 123 = .ok (.aload_n 0, 1) := by decide +kernel
theorem dX8_findsFlows_124 : decode cX8_findsFlows 124 = .ok (.lconst 0, 1) := by decide +kernel
theorem dX8_findsFlows_125 : decode cX8_findsFlows 125 = .ok (.invokevirtual 143, 3) := by decide +kernel
theorem dX8_findsFlows_128 : decode cX8_findsFlows 128 = .ok (.aload_n 0, 1) := by decide +kernel
theorem dX8_findsFlows_129 : decode cX8_findsFlows 129 = .ok (.iload_n 2, 1) := by decide +kernel
theorem dX8_findsFlows_130 : decode cX8_findsFlows 130 = .ok (.invokevirtual 147, 3) := by decide +kernel
theorem dX8_findsFlows_133 : decode cX8_findsFlows 133 = .ok (.return_, 1) := by decide +kernel
theorem dX8_overflow_0 : decode cX8_overflow 0 = .ok (.iload_n 1, 1) := by decide +kernel
theorem dX8_overflow_1 : decode cX8_overflow 1 = .ok (.invokestatic 100, 3) := by decide +kernel
theorem dX8_overflow_4 : decode cX8_overflow 4 = .ok (.ifCond .eq 11, 3) := by decide +kernel
theorem dX8_overflow_7 : decode cX8_overflow 7 = .ok (.aload_n 0, 1) := by decide +kernel
theorem dX8_overflow_8 : decode cX8_overflow 8 = .ok (.iload_n 2, 1) := by decide +kernel
theorem dX8_overflow_9 : decode cX8_overflow 9 = .ok (.invokevirtual 86, 3) := by decide +kernel
theorem dX8_overflow_12 : decode cX8_overflow 12 = .ok (.ifCond .ne 7, 3) := by decide +kernel
theorem dX8_overflow_15 : decode cX8_overflow 15 = .ok (.ldc2_w 103, 3) := by decide +kernel
theorem dX8_overflow_18 : decode cX8_overflow 18 = .ok (.lreturn, 1) := by decide +kernel
theorem dX8_overflow_19 : decode cX8_overflow 19 = .ok (.aload_n 0, 1) := by decide +kernel
theorem dX8_overflow_20 : decode cX8_overflow 20 = .ok (.iload_n 1, 1) := by decide +kernel
theorem dX8_overflow_21 : decode cX8_overflow 21 = .ok (.invokevirtual 150, 3) := by decide +kernel
theorem dX8_overflow_24 : decode cX8_overflow 24 = .ok (.iload_n 3, 1) := by decide +kernel
theorem dX8_overflow_25 : decode cX8_overflow 25 = .ok (.ifCond .eq 12, 3) := by decide +kernel
theorem dX8_overflow_28 : decode cX8_overflow 28 = .ok (.aload_n 0, 1) := by decide +kernel
theorem dX8_overflow_29 : decode cX8_overflow 29 = .ok (.getfield 41, 3) := by decide +kernel
theorem dX8_overflow_32 : decode cX8_overflow 32 = .ok (.iload_n 2, 1) := by decide +kernel
theorem dX8_overflow_33 : decode cX8_overflow 33 = .ok (.laload, 1) := by decide +kernel
theorem dX8_overflow_34 : decode cX8_overflow 34 = .ok (.goto 9, 3) := by decide +kernel
theorem dX8_overflow_37 : decode cX8_overflow 37 = .ok (.aload_n 0, 1) := by decide +kernel
theorem dX8_overflow_38 : decode cX8_overflow 38 = .ok (.getfield 38, 3) := by decide +kernel
theorem dX8_overflow_41 : decode cX8_overflow 41 = .ok (.iload_n 2, 1) := by decide +kernel
theorem dX8_overflow_42 : decode cX8_overflow 42 = .ok (.laload, 1) := by decide +kernel
theorem dX8_overflow_43 : decode cX8_overflow 43 = .ok (.lreturn, 1) := by decide +kernel
theorem dX8_boundOf_0 : decode cX8_boundOf 0 = .ok (.aload_n 0, 1) := by decide +kernel
theorem dX8_boundOf_1 : decode cX8_boundOf 1 = .ok (.iload_n 1, 1) := by decide +kernel
theorem dX8_boundOf_2 : decode cX8_boundOf 2 = .ok (.iload 4, 2) := by decide +kernel
theorem dX8_boundOf_4 : decode cX8_boundOf 4 = .ok (.invokevirtual 153, 3) := by decide +kernel
theorem dX8_boundOf_7 : decode cX8_boundOf 7 = .ok (.iload_n 3, 1) := by decide +kernel
theorem dX8_boundOf_8 : decode cX8_boundOf 8 = .ok (.ifCond .eq 12, 3) := by decide +kernel
theorem dX8_boundOf_11 : decode cX8_boundOf 11 = .ok (.aload_n 0, 1) := by decide +kernel
theorem dX8_boundOf_12 : decode cX8_boundOf 12 = .ok (.getfield 23, 3) := by decide +kernel
theorem dX8_boundOf_15 : decode cX8_boundOf 15 = .ok (.iload_n 2, 1) := by decide +kernel
theorem dX8_boundOf_16 : decode cX8_boundOf 16 = .ok (.laload, 1) := by decide +kernel
theorem dX8_boundOf_17 : decode cX8_boundOf 17 = .ok (.goto 9, 3) := by decide +kernel
theorem dX8_boundOf_20 : decode cX8_boundOf 20 = .ok (.aload_n 0, 1) := by decide +kernel
theorem dX8_boundOf_21 : decode cX8_boundOf 21 = .ok (.getfield 20, 3) := by decide +kernel
theorem dX8_boundOf_24 : decode cX8_boundOf 24 = .ok (.iload_n 2, 1) := by decide +kernel
theorem dX8_boundOf_25 : decode cX8_boundOf 25 = .ok (.laload, 1) := by decide +kernel
theorem dX8_boundOf_26 : decode cX8_boundOf 26 = .ok (.lreturn, 1) := by decide +kernel
theorem dX8_bound_0 : decode cX8_bound 0 = .ok (.iload_n 1, 1) := by decide +kernel
theorem dX8_bound_1 : decode cX8_bound 1 = .ok (.invokestatic 100, 3) := by decide +kernel
theorem dX8_bound_4 : decode cX8_bound 4 = .ok (.ifCond .eq 27, 3) := by decide +kernel
theorem dX8_bound_7 : decode cX8_bound 7 = .ok (.aload_n 0, 1) := by decide +kernel
theorem dX8_bound_8 : decode cX8_bound 8 = .ok (.iload_n 2, 1) := by decide +kernel
theorem dX8_bound_9 : decode cX8_bound 9 = .ok (.invokevirtual 79, 3) := by decide +kernel
theorem dX8_bound_12 : decode cX8_bound 12 = .ok (.ifCond .eq 19, 3) := by decide +kernel
theorem dX8_bound_15 : decode cX8_bound 15 = .ok (.aload_n 0, 1) := by decide +kernel
theorem dX8_bound_16 : decode cX8_bound 16 = .ok (.iload_n 1, 1) := by decide +kernel
theorem dX8_bound_17 : decode cX8_bound 17 = .ok (.iload_n 2, 1) := by decide +kernel
theorem dX8_bound_18 : decode cX8_bound 18 = .ok (.iload_n 3, 1) := by decide +kernel
theorem dX8_bound_19 : decode cX8_bound 19 = .ok (.aload_n 0, 1) := by decide +kernel
theorem dX8_bound_20 : decode cX8_bound 20 = .ok (.getfield 7, 3) := by decide +kernel
theorem dX8_bound_23 : decode cX8_bound 23 = .ok (.iconst 5, 1) := by decide +kernel
theorem dX8_bound_24 : decode cX8_bound 24 = .ok (.iaload, 1) := by decide +kernel
theorem dX8_bound_25 : decode cX8_bound 25 = .ok (.invokevirtual 156, 3) := by decide +kernel
theorem dX8_bound_28 : decode cX8_bound 28 = .ok (.goto 6, 3) := by decide +kernel
theorem dX8_bound_31 : decode cX8_bound 31 = .ok (.ldc2_w 103, 3) := by decide +kernel
theorem dX8_bound_34 : decode cX8_bound 34 = .ok (.lreturn, 1) := by decide +kernel
theorem dX8_boundAfter_0 : decode cX8_boundAfter 0 = .ok (.iload_n 1, 1) := by decide +kernel
theorem dX8_boundAfter_1 : decode cX8_boundAfter 1 = .ok (.invokestatic 100, 3) := by decide +kernel
theorem dX8_boundAfter_4 : decode cX8_boundAfter 4 = .ok (.ifCond .eq 11, 3) := by decide +kernel
theorem dX8_boundAfter_7 : decode cX8_boundAfter 7 = .ok (.aload_n 0, 1) := by decide +kernel
theorem dX8_boundAfter_8 : decode cX8_boundAfter 8 = .ok (.iload_n 2, 1) := by decide +kernel
theorem dX8_boundAfter_9 : decode cX8_boundAfter 9 = .ok (.invokevirtual 79, 3) := by decide +kernel
theorem dX8_boundAfter_12 : decode cX8_boundAfter 12 = .ok (.ifCond .ne 7, 3) := by decide +kernel
theorem dX8_boundAfter_15 : decode cX8_boundAfter 15 = .ok (.ldc2_w 103, 3) := by decide +kernel
theorem dX8_boundAfter_18 : decode cX8_boundAfter 18 = .ok (.lreturn, 1) := by decide +kernel
theorem dX8_boundAfter_19 : decode cX8_boundAfter 19 = .ok (.iload 4, 2) := by decide +kernel
theorem dX8_boundAfter_21 : decode cX8_boundAfter 21 = .ok (.iconst 0, 1) := by decide +kernel
theorem dX8_boundAfter_22 : decode cX8_boundAfter 22 = .ok (.bipush 60, 2) := by decide +kernel
theorem dX8_boundAfter_24 : decode cX8_boundAfter 24 = .ok (.invokestatic 61, 3) := by decide +kernel
theorem dX8_boundAfter_27 : decode cX8_boundAfter 27 = .ok (.ifCond .eq 15, 3) := by decide +kernel
theorem dX8_boundAfter_30 : decode cX8_boundAfter 30 = .ok (.aload_n 0, 1) := by decide +kernel
theorem dX8_boundAfter_31 : decode cX8_boundAfter 31 = .ok (.iload_n 1, 1) := by decide +kernel
theorem dX8_boundAfter_32 : decode cX8_boundAfter 32 = .ok (.iload_n 2, 1) := by decide +kernel
theorem dX8_boundAfter_33 : decode cX8_boundAfter 33 = .ok (.iload_n 3, 1) := by decide +kernel
theorem dX8_boundAfter_34 : decode cX8_boundAfter 34 = .ok (.iload 4, 2) := by decide +kernel
theorem dX8_boundAfter_36 : decode cX8_boundAfter 36 = .ok (.invokevirtual 156, 3) := by decide +kernel
theorem dX8_boundAfter_39 : decode cX8_boundAfter 39 = .ok (.goto 6, 3) := by decide +kernel
theorem dX8_boundAfter_42 : decode cX8_boundAfter 42 = .ok (.ldc2_w 106, 3) := by decide +kernel
theorem dX8_boundAfter_45 : decode cX8_boundAfter 45 = .ok (.lreturn, 1) := by decide +kernel
theorem dX8_certainOf_0 : decode cX8_certainOf 0 = .ok (.aload_n 0, 1) := by decide +kernel
theorem dX8_certainOf_1 : decode cX8_certainOf 1 = .ok (.iload_n 1, 1) := by decide +kernel
theorem dX8_certainOf_2 : decode cX8_certainOf 2 = .ok (.aload_n 0, 1) := by decide +kernel
theorem dX8_certainOf_3 : decode cX8_certainOf 3 = .ok (.getfield 7, 3) := by decide +kernel
theorem dX8_certainOf_6 : decode cX8_certainOf 6 = .ok (.iconst 5, 1) := by decide +kernel
theorem dX8_certainOf_7 : decode cX8_certainOf 7 = .ok (.iaload, 1) := by decide +kernel
theorem dX8_certainOf_8 : decode cX8_certainOf 8 = .ok (.invokevirtual 153, 3) := by decide +kernel
theorem dX8_certainOf_11 : decode cX8_certainOf 11 = .ok (.iconst 0, 1) := by decide +kernel
theorem dX8_certainOf_12 : decode cX8_certainOf 12 = .ok (.istore_n 2, 1) := by decide +kernel
theorem dX8_certainOf_13 : decode cX8_certainOf 13 = .ok (.iconst 0, 1) := by decide +kernel
theorem dX8_certainOf_14 : decode cX8_certainOf 14 = .ok (.istore_n 3, 1) := by decide +kernel
theorem dX8_certainOf_15 : decode cX8_certainOf 15 = .ok (.iload_n 3, 1) := by decide +kernel
theorem dX8_certainOf_16 : decode cX8_certainOf 16 = .ok (.aload_n 0, 1) := by decide +kernel
theorem dX8_certainOf_17 : decode cX8_certainOf 17 = .ok (.getfield 7, 3) := by decide +kernel
theorem dX8_certainOf_20 : decode cX8_certainOf 20 = .ok (.bipush 6, 2) := by decide +kernel
theorem dX8_certainOf_22 : decode cX8_certainOf 22 = .ok (.iaload, 1) := by decide +kernel
theorem dX8_certainOf_23 : decode cX8_certainOf 23 = .ok (.if_icmp .ge 35, 3) := by decide +kernel
theorem dX8_certainOf_26 : decode cX8_certainOf 26 = .ok (.iload_n 2, 1) := by decide +kernel
theorem dX8_certainOf_27 : decode cX8_certainOf 27 = .ok (.aload_n 0, 1) := by decide +kernel
theorem dX8_certainOf_28 : decode cX8_certainOf 28 = .ok (.getfield 20, 3) := by decide +kernel
theorem dX8_certainOf_31 : decode cX8_certainOf 31 = .ok (.iload_n 3, 1) := by decide +kernel
theorem dX8_certainOf_32 : decode cX8_certainOf 32 = .ok (.laload, 1) := by decide +kernel
theorem dX8_certainOf_33 : decode cX8_certainOf 33 = .ok (.aload_n 0, 1) := by decide +kernel
theorem dX8_certainOf_34 : decode cX8_certainOf 34 = .ok (.getfield 23, 3) := by decide +kernel
theorem dX8_certainOf_37 : decode cX8_certainOf 37 = .ok (.iload_n 3, 1) := by decide +kernel
theorem dX8_certainOf_38 : decode cX8_certainOf 38 = .ok (.laload, 1) := by decide +kernel
theorem dX8_certainOf_39 : decode cX8_certainOf 39 = .ok (.lcmp, 1) := by decide +kernel
theorem dX8_certainOf_40 : decode cX8_certainOf 40 = .ok (.ifCond .ne 9, 3) := by decide +kernel
theorem dX8_certainOf_43 : decode cX8_certainOf 43 = .ok (.iconst 1, 1) := by decide +kernel
theorem dX8_certainOf_44 : decode cX8_certainOf 44 = .ok (.iload_n 3, 1) := by decide +kernel
theorem dX8_certainOf_45 : decode cX8_certainOf 45 = .ok (.ishl, 1) := by decide +kernel
theorem dX8_certainOf_46 : decode cX8_certainOf 46 = .ok (.goto 4, 3) := by decide +kernel
theorem dX8_certainOf_49 : decode cX8_certainOf 49 = .ok (.iconst 0, 1) := by decide +kernel
theorem dX8_certainOf_50 : decode cX8_certainOf 50 = .ok (.ior, 1) := by decide +kernel
theorem dX8_certainOf_51 : decode cX8_certainOf 51 = .ok (.istore_n 2, 1) := by decide +kernel
theorem dX8_certainOf_52 : decode cX8_certainOf 52 = .ok (.iinc 3 1, 3) := by decide +kernel
theorem dX8_certainOf_55 : decode cX8_certainOf 55 = .ok (.goto (-40), 3) := by decide +kernel
theorem dX8_certainOf_58 : decode cX8_certainOf 58 = .ok (.iload_n 2, 1) := by decide +kernel
theorem dX8_certainOf_59 : decode cX8_certainOf 59 = .ok (.ireturn, 1) := by decide +kernel
theorem dX8_certain_0 : decode cX8_certain 0 = .ok (.iload_n 1, 1) := by decide +kernel
theorem dX8_certain_1 : decode cX8_certain 1 = .ok (.invokestatic 100, 3) := by decide +kernel
theorem dX8_certain_4 : decode cX8_certain 4 = .ok (.ifCond .eq 11, 3) := by decide +kernel
theorem dX8_certain_7 : decode cX8_certain 7 = .ok (.aload_n 0, 1) := by decide +kernel
theorem dX8_certain_8 : decode cX8_certain 8 = .ok (.iload_n 1, 1) := by decide +kernel
theorem dX8_certain_9 : decode cX8_certain 9 = .ok (.invokevirtual 160, 3) := by decide +kernel
theorem dX8_certain_12 : decode cX8_certain 12 = .ok (.goto 5, 3) := by decide +kernel
theorem dX8_certain_15 : decode cX8_certain 15 = .ok (.bipush (-2), 2) := by decide +kernel
theorem dX8_certain_17 : decode cX8_certain 17 = .ok (.ireturn, 1) := by decide +kernel
theorem dX8_certainOverflows_0 : decode cX8_certainOverflows 0 = .ok (.iload_n 1, 1) := by decide +kernel
theorem dX8_certainOverflows_1 : decode cX8_certainOverflows 1 = .ok (.invokestatic 100, 3) := by decide +kernel
theorem dX8_certainOverflows_4 : decode cX8_certainOverflows 4 = .ok (.ifCond .ne 6, 3) := by decide +kernel
theorem dX8_certainOverflows_7 : decode cX8_certainOverflows 7 = .ok (.bipush (-2), 2) := by decide +kernel
theorem dX8_certainOverflows_9 : decode cX8_certainOverflows 9 = .ok (.ireturn, 1) := by decide +kernel
theorem dX8_certainOverflows_10 : decode cX8_certainOverflows 10 = .ok (.aload_n 0, 1) := by decide +kernel
theorem dX8_certainOverflows_11 : decode cX8_certainOverflows 11 = .ok (.iload_n 1, 1) := by decide +kernel
theorem dX8_certainOverflows_12 : decode cX8_certainOverflows 12 = .ok (.invokevirtual 150, 3) := by decide +kernel
theorem dX8_certainOverflows_15 : decode cX8_certainOverflows 15 = .ok (.iconst 0, 1) := by decide +kernel
theorem dX8_certainOverflows_16 : decode cX8_certainOverflows 16 = .ok (.istore_n 2, 1) := by decide +kernel
theorem dX8_certainOverflows_17 : decode cX8_certainOverflows 17 = .ok (.iconst 0, 1) := by decide +kernel
theorem dX8_certainOverflows_18 : decode cX8_certainOverflows 18 = .ok (.istore_n 3, 1) := by decide +kernel
theorem dX8_certainOverflows_19 : decode cX8_certainOverflows 19 = .ok (.iload_n 3, 1) := by decide +kernel
theorem dX8_certainOverflows_20 : decode cX8_certainOverflows 20 = .ok (.aload_n 0, 1) := by decide +kernel
theorem dX8_certainOverflows_21 : decode cX8_certainOverflows 21 = .ok (.getfield 7, 3) := by decide +kernel
theorem dX8_certainOverflows_24 : decode cX8_certainOverflows 24 = .ok (.iconst 0, 1) := by decide +kernel
theorem dX8_certainOverflows_25 : decode cX8_certainOverflows 25 = .ok (.iaload, 1) := by decide +kernel
theorem dX8_certainOverflows_26 : decode cX8_certainOverflows 26 = .ok (.if_icmp .ge 35, 3) := by decide +kernel
theorem dX8_certainOverflows_29 : decode cX8_certainOverflows 29 = .ok (.iload_n 2, 1) := by decide +kernel
theorem dX8_certainOverflows_30 : decode cX8_certainOverflows 30 = .ok (.aload_n 0, 1) := by decide +kernel
theorem dX8_certainOverflows_31 : decode cX8_certainOverflows 31 = .ok (.getfield 38, 3) := by decide +kernel
theorem dX8_certainOverflows_34 : decode cX8_certainOverflows 34 = .ok (.iload_n 3, 1) := by decide +kernel
theorem dX8_certainOverflows_35 : decode cX8_certainOverflows 35 = .ok (.laload, 1) := by decide +kernel
theorem dX8_certainOverflows_36 : decode cX8_certainOverflows 36 = .ok (.aload_n 0, 1) := by decide +kernel
theorem dX8_certainOverflows_37 : decode cX8_certainOverflows 37 = .ok (.getfield 41, 3) := by decide +kernel
theorem dX8_certainOverflows_40 : decode cX8_certainOverflows 40 = .ok (.iload_n 3, 1) := by decide +kernel
theorem dX8_certainOverflows_41 : decode cX8_certainOverflows 41 = .ok (.laload, 1) := by decide +kernel
theorem dX8_certainOverflows_42 : decode cX8_certainOverflows 42 = .ok (.lcmp, 1) := by decide +kernel
theorem dX8_certainOverflows_43 : decode cX8_certainOverflows 43 = .ok (.ifCond .ne 9, 3) := by decide +kernel
theorem dX8_certainOverflows_46 : decode cX8_certainOverflows 46 = .ok (.iconst 1, 1) := by decide +kernel
theorem dX8_certainOverflows_47 : decode cX8_certainOverflows 47 = .ok (.iload_n 3, 1) := by decide +kernel
theorem dX8_certainOverflows_48 : decode cX8_certainOverflows 48 = .ok (.ishl, 1) := by decide +kernel
theorem dX8_certainOverflows_49 : decode cX8_certainOverflows 49 = .ok (.goto 4, 3) := by decide +kernel
theorem dX8_certainOverflows_52 : decode cX8_certainOverflows 52 = .ok (.iconst 0, 1) := by decide +kernel
theorem dX8_certainOverflows_53 : decode cX8_certainOverflows 53 = .ok (.ior, 1) := by decide +kernel
theorem dX8_certainOverflows_54 : decode cX8_certainOverflows 54 = .ok (.istore_n 2, 1) := by decide +kernel
theorem dX8_certainOverflows_55 : decode cX8_certainOverflows 55 = .ok (.iinc 3 1, 3) := by decide +kernel
theorem dX8_certainOverflows_58 : decode cX8_certainOverflows 58 = .ok (.goto (-39), 3) := by decide +kernel
theorem dX8_certainOverflows_61 : decode cX8_certainOverflows 61 = .ok (.iload_n 2, 1) := by decide +kernel
theorem dX8_certainOverflows_62 : decode cX8_certainOverflows 62 = .ok (.ireturn, 1) := by decide +kernel
theorem dX8_lastRound_0 : decode cX8_lastRound 0 = .ok (.iload_n 1, 1) := by decide +kernel
theorem dX8_lastRound_1 : decode cX8_lastRound 1 = .ok (.invokestatic 100, 3) := by decide +kernel
theorem dX8_lastRound_4 : decode cX8_lastRound 4 = .ok (.ifCond .ne 6, 3) := by decide +kernel
theorem dX8_lastRound_7 : decode cX8_lastRound 7 = .ok (.bipush (-2), 2) := by decide +kernel
theorem dX8_lastRound_9 : decode cX8_lastRound 9 = .ok (.ireturn, 1) := by decide +kernel
theorem dX8_lastRound_10 : decode cX8_lastRound 10 = .ok (.aload_n 0, 1) := by decide +kernel
theorem dX8_lastRound_11 : decode cX8_lastRound 11 = .ok (.iload_n 1, 1) := by decide +kernel
theorem dX8_lastRound_12 : decode cX8_lastRound 12 = .ok (.aload_n 0, 1) := by decide +kernel
theorem dX8_lastRound_13 : decode cX8_lastRound 13 = .ok (.getfield 7, 3) := by decide +kernel
theorem dX8_lastRound_16 : decode cX8_lastRound 16 = .ok (.iconst 5, 1) := by decide +kernel
theorem dX8_lastRound_17 : decode cX8_lastRound 17 = .ok (.iaload, 1) := by decide +kernel
theorem dX8_lastRound_18 : decode cX8_lastRound 18 = .ok (.invokevirtual 153, 3) := by decide +kernel
theorem dX8_lastRound_21 : decode cX8_lastRound 21 = .ok (.aload_n 0, 1) := by decide +kernel
theorem dX8_lastRound_22 : decode cX8_lastRound 22 = .ok (.getfield 136, 3) := by decide +kernel
theorem dX8_lastRound_25 : decode cX8_lastRound 25 = .ok (.ireturn, 1) := by decide +kernel
theorem dX8_total_0 : decode cX8_total 0 = .ok (.iload_n 1, 1) := by decide +kernel
theorem dX8_total_1 : decode cX8_total 1 = .ok (.invokestatic 100, 3) := by decide +kernel
theorem dX8_total_4 : decode cX8_total 4 = .ok (.ifCond .ne 7, 3) := by decide +kernel
theorem dX8_total_7 : decode cX8_total 7 = .ok (.ldc2_w 103, 3) := by decide +kernel
theorem dX8_total_10 : decode cX8_total 10 = .ok (.lreturn, 1) := by decide +kernel
theorem dX8_total_11 : decode cX8_total 11 = .ok (.iload_n 2, 1) := by decide +kernel
theorem dX8_total_12 : decode cX8_total 12 = .ok (.iconst 0, 1) := by decide +kernel
theorem dX8_total_13 : decode cX8_total 13 = .ok (.iconst 3, 1) := by decide +kernel
theorem dX8_total_14 : decode cX8_total 14 = .ok (.invokestatic 61, 3) := by decide +kernel
theorem dX8_total_17 : decode cX8_total 17 = .ok (.ifCond .ne 7, 3) := by decide +kernel
theorem dX8_total_20 : decode cX8_total 20 = .ok (.ldc2_w 106, 3) := by decide +kernel
theorem dX8_total_23 : decode cX8_total 23 = .ok (.lreturn, 1) := by decide +kernel
theorem dX8_total_24 : decode cX8_total 24 = .ok (.aload_n 0, 1) := by decide +kernel
theorem dX8_total_25 : decode cX8_total 25 = .ok (.iload_n 1, 1) := by decide +kernel
theorem dX8_total_26 : decode cX8_total 26 = .ok (.aload_n 0, 1) := by decide +kernel
theorem dX8_total_27 : decode cX8_total 27 = .ok (.getfield 7, 3) := by decide +kernel
theorem dX8_total_30 : decode cX8_total 30 = .ok (.iconst 5, 1) := by decide +kernel
theorem dX8_total_31 : decode cX8_total 31 = .ok (.iaload, 1) := by decide +kernel
theorem dX8_total_32 : decode cX8_total 32 = .ok (.invokevirtual 153, 3) := by decide +kernel
theorem dX8_total_35 : decode cX8_total 35 = .ok (.lconst 0, 1) := by decide +kernel
theorem dX8_total_36 : decode cX8_total 36 = .ok (.lstore_n 3, 1) := by decide +kernel
theorem dX8_total_37 : decode cX8_total 37 = .ok (.iconst 0, 1) := by decide +kernel
theorem dX8_total_38 : decode cX8_total 38 = .ok (.istore 5, 2) := by decide +kernel
theorem dX8_total_40 : decode cX8_total 40 = .ok (.iload 5, 2) := by decide +kernel
theorem dX8_total_42 : decode cX8_total 42 = .ok (.aload_n 0, 1) := by decide +kernel
theorem dX8_total_43 : decode cX8_total 43 = .ok (.getfield 7, 3) := by decide +kernel
theorem dX8_total_46 : decode cX8_total 46 = .ok (.bipush 6, 2) := by decide +kernel
theorem dX8_total_48 : decode cX8_total 48 = .ok (.iaload, 1) := by decide +kernel
theorem dX8_total_49 : decode cX8_total 49 = .ok (.if_icmp .ge 53, 3) := by decide +kernel
theorem dX8_total_52 : decode cX8_total 52 = .ok (.iload_n 2, 1) := by decide +kernel
theorem dX8_total_53 : decode cX8_total 53 = .ok (.iconst 3, 1) := by decide +kernel
theorem dX8_total_54 : decode cX8_total 54 = .ok (.if_icmp .ge 48, 3) := by decide +kernel
theorem dX8_total_57 : decode cX8_total 57 = .ok (.lload_n 3, 1) := by decide +kernel
theorem dX8_total_58 : decode cX8_total 58 = .ok (.iload_n 2, 1) := by decide +kernel
theorem dX8_total_59 : decode cX8_total 59 = .ok (.ifCond .ne 13, 3) := by decide +kernel
theorem dX8_total_62 : decode cX8_total 62 = .ok (.aload_n 0, 1) := by decide +kernel
theorem dX8_total_63 : decode cX8_total 63 = .ok (.iload_n 1, 1) := by decide +kernel
theorem dX8_total_64 : decode cX8_total 64 = .ok (.iload 5, 2) := by decide +kernel
theorem dX8_total_66 : decode cX8_total 66 = .ok (.invokevirtual 108, 3) := by decide +kernel
theorem dX8_total_69 : decode cX8_total 69 = .ok (.goto 25, 3) := by decide +kernel
theorem dX8_total_72 : decode cX8_total 72 = .ok (.iload_n 2, 1) := by decide +kernel
theorem dX8_total_73 : decode cX8_total 73 = .ok (.iconst 1, 1) := by decide +kernel
theorem dX8_total_74 : decode cX8_total 74 = .ok (.if_icmp .ne 13, 3) := by decide +kernel
theorem dX8_total_77 : decode cX8_total 77 = .ok (.aload_n 0, 1) := by decide +kernel
theorem dX8_total_78 : decode cX8_total 78 = .ok (.getfield 20, 3) := by decide +kernel
theorem dX8_total_81 : decode cX8_total 81 = .ok (.iload 5, 2) := by decide +kernel
theorem dX8_total_83 : decode cX8_total 83 = .ok (.laload, 1) := by decide +kernel
theorem dX8_total_84 : decode cX8_total 84 = .ok (.goto 10, 3) := by decide +kernel
theorem dX8_total_87 : decode cX8_total 87 = .ok (.aload_n 0, 1) := by decide +kernel
theorem dX8_total_88 : decode cX8_total 88 = .ok (.getfield 23, 3) := by decide +kernel
theorem dX8_total_91 : decode cX8_total 91 = .ok (.iload 5, 2) := by decide +kernel
theorem dX8_total_93 : decode cX8_total 93 = .ok (.laload, 1) := by decide +kernel
theorem dX8_total_94 : decode cX8_total 94 = .ok (.ladd, 1) := by decide +kernel
theorem dX8_total_95 : decode cX8_total 95 = .ok (.lstore_n 3, 1) := by decide +kernel
theorem dX8_total_96 : decode cX8_total 96 = .ok (.iinc 5 1, 3) := by decide +kernel
theorem dX8_total_99 : decode cX8_total 99 = .ok (.goto (-59), 3) := by decide +kernel
theorem dX8_total_102 : decode cX8_total 102 = .ok (.iconst 0, 1) := by decide +kernel
theorem dX8_total_103 : decode cX8_total 103 = .ok (.istore 5, 2) := by decide +kernel
theorem dX8_total_105 : decode cX8_total 105 = .ok (.iload 5, 2) := by decide +kernel
theorem dX8_total_107 : decode cX8_total 107 = .ok (.aload_n 0, 1) := by decide +kernel
theorem dX8_total_108 : decode cX8_total 108 = .ok (.getfield 7, 3) := by decide +kernel
theorem dX8_total_111 : decode cX8_total 111 = .ok (.iconst 3, 1) := by decide +kernel
theorem dX8_total_112 : decode cX8_total 112 = .ok (.iaload, 1) := by decide +kernel
theorem dX8_total_113 : decode cX8_total 113 = .ok (.if_icmp .ge 24, 3) := by decide +kernel
theorem dX8_total_116 : decode cX8_total 116 = .ok (.iload_n 2, 1) := by decide +kernel
theorem dX8_total_117 : decode cX8_total 117 = .ok (.iconst 3, 1) := by decide +kernel
theorem dX8_total_118 : decode cX8_total 118 = .ok (.if_icmp .ne 19, 3) := by decide +kernel
theorem dX8_total_121 : decode cX8_total 121 = .ok (.lload_n 3, 1) := by decide +kernel
theorem dX8_total_122 : decode cX8_total 122 = .ok (.aload_n 0, 1) := by decide +kernel
theorem dX8_total_123 : decode cX8_total 123 = .ok (.iload_n 1, 1) := by decide +kernel
theorem dX8_total_124 : decode cX8_total 124 = .ok (.iload 5, 2) := by decide +kernel
theorem dX8_total_126 : decode cX8_total 126 = .ok (.invokevirtual 124, 3) := by decide +kernel
theorem dX8_total_129 : decode cX8_total 129 = .ok (.ladd, 1) := by decide +kernel
theorem dX8_total_130 : decode cX8_total 130 = .ok (.lstore_n 3, 1) := by decide +kernel
theorem dX8_total_131 : decode cX8_total 131 = .ok (.iinc 5 1, 3) := by decide +kernel
theorem dX8_total_134 : decode cX8_total 134 = .ok (.goto (-29), 3) := by decide +kernel
theorem dX8_total_137 : decode cX8_total 137 = .ok (.lload_n 3, 1) := by decide +kernel
theorem dX8_total_138 : decode cX8_total 138 = .ok (.lreturn, 1) := by decide +kernel
theorem dX8_estimate_0 : decode cX8_estimate 0 = .ok (.iload_n 1, 1) := by decide +kernel
theorem dX8_estimate_1 : decode cX8_estimate 1 = .ok (.invokestatic 100, 3) := by decide +kernel
theorem dX8_estimate_4 : decode cX8_estimate 4 = .ok (.ifCond .eq 11, 3) := by decide +kernel
theorem dX8_estimate_7 : decode cX8_estimate 7 = .ok (.aload_n 0, 1) := by decide +kernel
theorem dX8_estimate_8 : decode cX8_estimate 8 = .ok (.iload_n 2, 1) := by decide +kernel
theorem dX8_estimate_9 : decode cX8_estimate 9 = .ok (.invokevirtual 79, 3) := by decide +kernel
theorem dX8_estimate_12 : decode cX8_estimate 12 = .ok (.ifCond .ne 7, 3) := by decide +kernel
theorem dX8_estimate_15 : decode cX8_estimate 15 = .ok (.ldc2_w 103, 3) := by decide +kernel
theorem dX8_estimate_18 : decode cX8_estimate 18 = .ok (.lreturn, 1) := by decide +kernel
theorem dX8_estimate_19 : decode cX8_estimate 19 = .ok (.aload_n 0, 1) := by decide +kernel
theorem dX8_estimate_20 : decode cX8_estimate 20 = .ok (.iload_n 1, 1) := by decide +kernel
theorem dX8_estimate_21 : decode cX8_estimate 21 = .ok (.aload_n 0, 1) := by decide +kernel
theorem dX8_estimate_22 : decode cX8_estimate 22 = .ok (.getfield 7, 3) := by decide +kernel
theorem dX8_estimate_25 : decode cX8_estimate 25 = .ok (.iconst 5, 1) := by decide +kernel
theorem dX8_estimate_26 : decode cX8_estimate 26 = .ok (.iaload, 1) := by decide +kernel
theorem dX8_estimate_27 : decode cX8_estimate 27 = .ok (.invokevirtual 153, 3) := by decide +kernel
theorem dX8_estimate_30 : decode cX8_estimate 30 = .ok (.aload_n 0, 1) := by decide +kernel
theorem dX8_estimate_31 : decode cX8_estimate 31 = .ok (.getfield 20, 3) := by decide +kernel
theorem dX8_estimate_34 : decode cX8_estimate 34 = .ok (.iload_n 2, 1) := by decide +kernel
theorem dX8_estimate_35 : decode cX8_estimate 35 = .ok (.laload, 1) := by decide +kernel
theorem dX8_estimate_36 : decode cX8_estimate 36 = .ok (.aload_n 0, 1) := by decide +kernel
theorem dX8_estimate_37 : decode cX8_estimate 37 = .ok (.getfield 23, 3) := by decide +kernel
theorem dX8_estimate_40 : decode cX8_estimate 40 = .ok (.iload_n 2, 1) := by decide +kernel
theorem dX8_estimate_41 : decode cX8_estimate 41 = .ok (.laload, 1) := by decide +kernel
theorem dX8_estimate_42 : decode cX8_estimate 42 = .ok (.ladd, 1) := by decide +kernel
theorem dX8_estimate_43 : decode cX8_estimate 43 = .ok (.ldc2_w 163, 3) := by decide +kernel
theorem dX8_estimate_46 : decode cX8_estimate 46 = .ok (.ldiv, 1) := by decide +kernel
theorem dX8_estimate_47 : decode cX8_estimate 47 = .ok (.lreturn, 1) := by decide +kernel
theorem dX8_leastPlace_0 : decode cX8_leastPlace 0 = .ok (.iload_n 1, 1) := by decide +kernel
theorem dX8_leastPlace_1 : decode cX8_leastPlace 1 = .ok (.invokestatic 100, 3) := by decide +kernel
theorem dX8_leastPlace_4 : decode cX8_leastPlace 4 = .ok (.ifCond .eq 22, 3) := by decide +kernel
theorem dX8_leastPlace_7 : decode cX8_leastPlace 7 = .ok (.aload_n 0, 1) := by decide +kernel
theorem dX8_leastPlace_8 : decode cX8_leastPlace 8 = .ok (.iload_n 2, 1) := by decide +kernel
theorem dX8_leastPlace_9 : decode cX8_leastPlace 9 = .ok (.invokevirtual 79, 3) := by decide +kernel
theorem dX8_leastPlace_12 : decode cX8_leastPlace 12 = .ok (.ifCond .eq 14, 3) := by decide +kernel
theorem dX8_leastPlace_15 : decode cX8_leastPlace 15 = .ok (.aload_n 0, 1) := by decide +kernel
theorem dX8_leastPlace_16 : decode cX8_leastPlace 16 = .ok (.iload_n 1, 1) := by decide +kernel
theorem dX8_leastPlace_17 : decode cX8_leastPlace 17 = .ok (.iload_n 2, 1) := by decide +kernel
theorem dX8_leastPlace_18 : decode cX8_leastPlace 18 = .ok (.iconst 1, 1) := by decide +kernel
theorem dX8_leastPlace_19 : decode cX8_leastPlace 19 = .ok (.iconst 0, 1) := by decide +kernel
theorem dX8_leastPlace_20 : decode cX8_leastPlace 20 = .ok (.invokevirtual 156, 3) := by decide +kernel
theorem dX8_leastPlace_23 : decode cX8_leastPlace 23 = .ok (.goto 6, 3) := by decide +kernel
theorem dX8_leastPlace_26 : decode cX8_leastPlace 26 = .ok (.ldc2_w 103, 3) := by decide +kernel
theorem dX8_leastPlace_29 : decode cX8_leastPlace 29 = .ok (.lreturn, 1) := by decide +kernel
theorem dX8_widest_0 : decode cX8_widest 0 = .ok (.iload_n 1, 1) := by decide +kernel
theorem dX8_widest_1 : decode cX8_widest 1 = .ok (.invokestatic 100, 3) := by decide +kernel
theorem dX8_widest_4 : decode cX8_widest 4 = .ok (.ifCond .ne 6, 3) := by decide +kernel
theorem dX8_widest_7 : decode cX8_widest 7 = .ok (.bipush (-2), 2) := by decide +kernel
theorem dX8_widest_9 : decode cX8_widest 9 = .ok (.ireturn, 1) := by decide +kernel
theorem dX8_widest_10 : decode cX8_widest 10 = .ok (.aload_n 0, 1) := by decide +kernel
theorem dX8_widest_11 : decode cX8_widest 11 = .ok (.iload_n 1, 1) := by decide +kernel
theorem dX8_widest_12 : decode cX8_widest 12 = .ok (.aload_n 0, 1) := by decide +kernel
theorem dX8_widest_13 : decode cX8_widest 13 = .ok (.getfield 7, 3) := by decide +kernel
theorem dX8_widest_16 : decode cX8_widest 16 = .ok (.iconst 5, 1) := by decide +kernel
theorem dX8_widest_17 : decode cX8_widest 17 = .ok (.iaload, 1) := by decide +kernel
theorem dX8_widest_18 : decode cX8_widest 18 = .ok (.invokevirtual 153, 3) := by decide +kernel
theorem dX8_widest_21 : decode cX8_widest 21 = .ok (.iconst (-1), 1) := by decide +kernel
theorem dX8_widest_22 : decode cX8_widest 22 = .ok (.istore_n 2, 1) := by decide +kernel
theorem dX8_widest_23 : decode cX8_widest 23 = .ok (.lconst 0, 1) := by decide +kernel
theorem dX8_widest_24 : decode cX8_widest 24 = .ok (.lstore_n 3, 1) := by decide +kernel
theorem dX8_widest_25 : decode cX8_widest 25 = .ok (.iconst 0, 1) := by decide +kernel
theorem dX8_widest_26 : decode cX8_widest 26 = .ok (.istore 5, 2) := by decide +kernel
theorem dX8_widest_28 : decode cX8_widest 28 = .ok (.iload 5, 2) := by decide +kernel
theorem dX8_widest_30 : decode cX8_widest 30 = .ok (.aload_n 0, 1) := by decide +kernel
theorem dX8_widest_31 : decode cX8_widest 31 = .ok (.getfield 7, 3) := by decide +kernel
theorem dX8_widest_34 : decode cX8_widest 34 = .ok (.bipush 6, 2) := by decide +kernel
theorem dX8_widest_36 : decode cX8_widest 36 = .ok (.iaload, 1) := by decide +kernel
theorem dX8_widest_37 : decode cX8_widest 37 = .ok (.if_icmp .ge 76, 3) := by decide +kernel
theorem dX8_widest_40 : decode cX8_widest 40 = .ok (.aload_n 0, 1) := by decide +kernel
theorem dX8_widest_41 : decode cX8_widest 41 = .ok (.getfield 23, 3) := by decide +kernel
theorem dX8_widest_44 : decode cX8_widest 44 = .ok (.iload 5, 2) := by decide +kernel
theorem dX8_widest_46 : decode cX8_widest 46 = .ok (.laload, 1) := by decide +kernel
theorem dX8_widest_47 : decode cX8_widest 47 = .ok (.aload_n 0, 1) := by decide +kernel
theorem dX8_widest_48 : decode cX8_widest 48 = .ok (.getfield 20, 3) := by decide +kernel
theorem dX8_widest_51 : decode cX8_widest 51 = .ok (.iload 5, 2) := by decide +kernel
theorem dX8_widest_53 : decode cX8_widest 53 = .ok (.laload, 1) := by decide +kernel
theorem dX8_widest_54 : decode cX8_widest 54 = .ok (.lsub, 1) := by decide +kernel
theorem dX8_widest_55 : decode cX8_widest 55 = .ok (.lload_n 3, 1) := by decide +kernel
theorem dX8_widest_56 : decode cX8_widest 56 = .ok (.lcmp, 1) := by decide +kernel
theorem dX8_widest_57 : decode cX8_widest 57 = .ok (.ifCond .le 8, 3) := by decide +kernel
theorem dX8_widest_60 : decode cX8_widest 60 = .ok (.iload 5, 2) := by decide +kernel
theorem dX8_widest_62 : decode cX8_widest 62 = .ok (.goto 4, 3) := by decide +kernel
theorem dX8_widest_65 : decode cX8_widest 65 = .ok (.iload_n 2, 1) := by decide +kernel
theorem dX8_widest_66 : decode cX8_widest 66 = .ok (.istore_n 2, 1) := by decide +kernel
theorem dX8_widest_67 : decode cX8_widest 67 = .ok (.aload_n 0, 1) := by decide +kernel
theorem dX8_widest_68 : decode cX8_widest 68 = .ok (.getfield 23, 3) := by decide +kernel
theorem dX8_widest_71 : decode cX8_widest 71 = .ok (.iload 5, 2) := by decide +kernel
theorem dX8_widest_73 : decode cX8_widest 73 = .ok (.laload, 1) := by decide +kernel
theorem dX8_widest_74 : decode cX8_widest 74 = .ok (.aload_n 0, 1) := by decide +kernel
theorem dX8_widest_75 : decode cX8_widest 75 = .ok (.getfield 20, 3) := by decide +kernel
theorem dX8_widest_78 : decode cX8_widest 78 = .ok (.iload 5, 2) := by decide +kernel
theorem dX8_widest_80 : decode cX8_widest 80 = .ok (.laload, 1) := by decide +kernel
theorem dX8_widest_81 : decode cX8_widest 81 = .ok (.lsub, 1) := by decide +kernel
theorem dX8_widest_82 : decode cX8_widest 82 = .ok (.lload_n 3, 1) := by decide +kernel
theorem dX8_widest_83 : decode cX8_widest 83 = .ok (.lcmp, 1) := by decide +kernel
theorem dX8_widest_84 : decode cX8_widest 84 = .ok (.ifCond .le 21, 3) := by decide +kernel
theorem dX8_widest_87 : decode cX8_widest 87 = .ok (.aload_n 0, 1) := by decide +kernel
theorem dX8_widest_88 : decode cX8_widest 88 = .ok (.getfield 23, 3) := by decide +kernel
theorem dX8_widest_91 : decode cX8_widest 91 = .ok (.iload 5, 2) := by decide +kernel
theorem dX8_widest_93 : decode cX8_widest 93 = .ok (.laload, 1) := by decide +kernel
theorem dX8_widest_94 : decode cX8_widest 94 = .ok (.aload_n 0, 1) := by decide +kernel
theorem dX8_widest_95 : decode cX8_widest 95 = .ok (.getfield 20, 3) := by decide +kernel
theorem dX8_widest_98 : decode cX8_widest 98 = .ok (.iload 5, 2) := by decide +kernel
theorem dX8_widest_100 : decode cX8_widest 100 = .ok (.laload, 1) := by decide +kernel
theorem dX8_widest_101 : decode cX8_widest 101 = .ok (.lsub, 1) := by decide +kernel
theorem dX8_widest_102 : decode cX8_widest 102 = .ok (.goto 4, 3) := by decide +kernel
theorem dX8_widest_105 : decode cX8_widest 105 = .ok (.lload_n 3, 1) := by decide +kernel
theorem dX8_widest_106 : decode cX8_widest 106 = .ok (.lstore_n 3, 1) := by decide +kernel
theorem dX8_widest_107 : decode cX8_widest 107 = .ok (.iinc 5 1, 3) := by decide +kernel
theorem dX8_widest_110 : decode cX8_widest 110 = .ok (.goto (-82), 3) := by decide +kernel
theorem dX8_widest_113 : decode cX8_widest 113 = .ok (.iload_n 2, 1) := by decide +kernel
theorem dX8_widest_114 : decode cX8_widest 114 = .ok (.ireturn, 1) := by decide +kernel
theorem dX8_leastSpace_0 : decode cX8_leastSpace 0 = .ok (.iload_n 1, 1) := by decide +kernel
theorem dX8_leastSpace_1 : decode cX8_leastSpace 1 = .ok (.invokestatic 100, 3) := by decide +kernel
theorem dX8_leastSpace_4 : decode cX8_leastSpace 4 = .ok (.ifCond .ne 6, 3) := by decide +kernel
theorem dX8_leastSpace_7 : decode cX8_leastSpace 7 = .ok (.bipush (-2), 2) := by decide +kernel
theorem dX8_leastSpace_9 : decode cX8_leastSpace 9 = .ok (.ireturn, 1) := by decide +kernel
theorem dX8_leastSpace_10 : decode cX8_leastSpace 10 = .ok (.aload_n 0, 1) := by decide +kernel
theorem dX8_leastSpace_11 : decode cX8_leastSpace 11 = .ok (.getfield 7, 3) := by decide +kernel
theorem dX8_leastSpace_14 : decode cX8_leastSpace 14 = .ok (.iconst 0, 1) := by decide +kernel
theorem dX8_leastSpace_15 : decode cX8_leastSpace 15 = .ok (.iaload, 1) := by decide +kernel
theorem dX8_leastSpace_16 : decode cX8_leastSpace 16 = .ok (.istore_n 2, 1) := by decide +kernel
theorem dX8_leastSpace_17 : decode cX8_leastSpace 17 = .ok (.iconst (-1), 1) := by decide +kernel
theorem dX8_leastSpace_18 : decode cX8_leastSpace 18 = .ok (.istore_n 3, 1) := by decide +kernel
theorem dX8_leastSpace_19 : decode cX8_leastSpace 19 = .ok (.iconst 2, 1) := by decide +kernel
theorem dX8_leastSpace_20 : decode cX8_leastSpace 20 = .ok (.istore 4, 2) := by decide +kernel
theorem dX8_leastSpace_22 : decode cX8_leastSpace 22 = .ok (.iload 4, 2) := by decide +kernel
theorem dX8_leastSpace_24 : decode cX8_leastSpace 24 = .ok (.bipush 24, 2) := by decide +kernel
theorem dX8_leastSpace_26 : decode cX8_leastSpace 26 = .ok (.if_icmp .gt 100, 3) := by decide +kernel
theorem dX8_leastSpace_29 : decode cX8_leastSpace 29 = .ok (.iload_n 3, 1) := by decide +kernel
theorem dX8_leastSpace_30 : decode cX8_leastSpace 30 = .ok (.iconst (-1), 1) := by decide +kernel
theorem dX8_leastSpace_31 : decode cX8_leastSpace 31 = .ok (.if_icmp .ne 95, 3) := by decide +kernel
theorem dX8_leastSpace_34 : decode cX8_leastSpace 34 = .ok (.aload_n 0, 1) := by decide +kernel
theorem dX8_leastSpace_35 : decode cX8_leastSpace 35 = .ok (.getfield 7, 3) := by decide +kernel
theorem dX8_leastSpace_38 : decode cX8_leastSpace 38 = .ok (.iconst 0, 1) := by decide +kernel
theorem dX8_leastSpace_39 : decode cX8_leastSpace 39 = .ok (.iload 4, 2) := by decide +kernel
theorem dX8_leastSpace_41 : decode cX8_leastSpace 41 = .ok (.iastore, 1) := by decide +kernel
theorem dX8_leastSpace_42 : decode cX8_leastSpace 42 = .ok (.aload_n 0, 1) := by decide +kernel
theorem dX8_leastSpace_43 : decode cX8_leastSpace 43 = .ok (.iconst 2, 1) := by decide +kernel
theorem dX8_leastSpace_44 : decode cX8_leastSpace 44 = .ok (.invokevirtual 68, 3) := by decide +kernel
theorem dX8_leastSpace_47 : decode cX8_leastSpace 47 = .ok (.iconst 0, 1) := by decide +kernel
theorem dX8_leastSpace_48 : decode cX8_leastSpace 48 = .ok (.istore 5, 2) := by decide +kernel
theorem dX8_leastSpace_50 : decode cX8_leastSpace 50 = .ok (.iload 5, 2) := by decide +kernel
theorem dX8_leastSpace_52 : decode cX8_leastSpace 52 = .ok (.aload_n 0, 1) := by decide +kernel
theorem dX8_leastSpace_53 : decode cX8_leastSpace 53 = .ok (.getfield 7, 3) := by decide +kernel
theorem dX8_leastSpace_56 : decode cX8_leastSpace 56 = .ok (.bipush 6, 2) := by decide +kernel
theorem dX8_leastSpace_58 : decode cX8_leastSpace 58 = .ok (.iaload, 1) := by decide +kernel
theorem dX8_leastSpace_59 : decode cX8_leastSpace 59 = .ok (.if_icmp .ge 35, 3) := by decide +kernel
theorem dX8_leastSpace_62 : decode cX8_leastSpace 62 = .ok (.aload_n 0, 1) := by decide +kernel
theorem dX8_leastSpace_63 : decode cX8_leastSpace 63 = .ok (.iload_n 1, 1) := by decide +kernel
theorem dX8_leastSpace_64 : decode cX8_leastSpace 64 = .ok (.iload 5, 2) := by decide +kernel
theorem dX8_leastSpace_66 : decode cX8_leastSpace 66 = .ok (.invokevirtual 108, 3) := by decide +kernel
theorem dX8_leastSpace_69 : decode cX8_leastSpace 69 = .ok (.lconst 0, 1) := by decide +kernel
theorem dX8_leastSpace_70 : decode cX8_leastSpace 70 = .ok (.lcmp, 1) := by decide +kernel
theorem dX8_leastSpace_71 : decode cX8_leastSpace 71 = .ok (.ifCond .le 17, 3) := by decide +kernel
theorem dX8_leastSpace_74 : decode cX8_leastSpace 74 = .ok (.aload_n 0, 1) := by decide +kernel
theorem dX8_leastSpace_75 : decode cX8_leastSpace 75 = .ok (.iconst 2, 1) := by decide +kernel
theorem dX8_leastSpace_76 : decode cX8_leastSpace 76 = .ok (.iload 5, 2) := by decide +kernel
theorem dX8_leastSpace_78 : decode cX8_leastSpace 78 = .ok (.aload_n 0, 1) := by decide +kernel
theorem dX8_leastSpace_79 : decode cX8_leastSpace 79 = .ok (.iload_n 1, 1) := by decide +kernel
theorem dX8_leastSpace_80 : decode cX8_leastSpace 80 = .ok (.iload 5, 2) := by decide +kernel
theorem dX8_leastSpace_82 : decode cX8_leastSpace 82 = .ok (.invokevirtual 108, 3) := by decide +kernel
theorem dX8_leastSpace_85 : decode cX8_leastSpace 85 = .ok (.invokevirtual 116, 3) := by decide +kernel
theorem dX8_leastSpace_88 : decode cX8_leastSpace 88 = .ok (.iinc 5 1, 3) := by decide +kernel
theorem dX8_leastSpace_91 : decode cX8_leastSpace 91 = .ok (.goto (-41), 3) := by decide +kernel
theorem dX8_leastSpace_94 : decode cX8_leastSpace 94 = .ok (.aload_n 0, 1) := by decide +kernel
theorem dX8_leastSpace_95 : decode cX8_leastSpace 95 = .ok (.iconst 2, 1) := by decide +kernel
theorem dX8_leastSpace_96 : decode cX8_leastSpace 96 = .ok (.invokevirtual 160, 3) := by decide +kernel
theorem dX8_leastSpace_99 : decode cX8_leastSpace 99 = .ok (.iconst 1, 1) := by decide +kernel
theorem dX8_leastSpace_100 : decode cX8_leastSpace 100 = .ok (.aload_n 0, 1) := by decide +kernel
theorem dX8_leastSpace_101 : decode cX8_leastSpace 101 = .ok (.getfield 7, 3) := by decide +kernel
theorem dX8_leastSpace_104 : decode cX8_leastSpace 104 = .ok (.bipush 6, 2) := by decide +kernel
theorem dX8_leastSpace_106 : decode cX8_leastSpace 106 = .ok (.iaload, 1) := by decide +kernel
theorem dX8_leastSpace_107 : decode cX8_leastSpace 107 = .ok (.ishl, 1) := by decide +kernel
theorem dX8_leastSpace_108 : decode cX8_leastSpace 108 = .ok (.iconst 1, 1) := by decide +kernel
theorem dX8_leastSpace_109 : decode cX8_leastSpace 109 = .ok (.isub, 1) := by decide +kernel
theorem dX8_leastSpace_110 : decode cX8_leastSpace 110 = .ok (.if_icmp .ne 8, 3) := by decide +kernel
theorem dX8_leastSpace_113 : decode cX8_leastSpace 113 = .ok (.iload 4, 2) := by decide +kernel
theorem dX8_leastSpace_115 : decode cX8_leastSpace 115 = .ok (.goto 4, 3) := by decide +kernel
theorem dX8_leastSpace_118 : decode cX8_leastSpace 118 = .ok (.iconst (-1), 1) := by decide +kernel
theorem dX8_leastSpace_119 : decode cX8_leastSpace 119 = .ok (.istore_n 3, 1) := by decide +kernel
theorem dX8_leastSpace_120 : decode cX8_leastSpace 120 = .ok (.iinc 4 1, 3) := by decide +kernel
theorem dX8_leastSpace_123 : decode cX8_leastSpace 123 = .ok (.goto (-101), 3) := by decide +kernel
theorem dX8_leastSpace_126 : decode cX8_leastSpace 126 = .ok (.aload_n 0, 1) := by decide +kernel
theorem dX8_leastSpace_127 : decode cX8_leastSpace 127 = .ok (.getfield 7, 3) := by decide +kernel
theorem dX8_leastSpace_130 : decode cX8_leastSpace 130 = .ok (.iconst 0, 1) := by decide +kernel
theorem dX8_leastSpace_131 : decode cX8_leastSpace 131 = .ok (.iload_n 2, 1) := by decide +kernel
theorem dX8_leastSpace_132 : decode cX8_leastSpace 132 = .ok (.iastore, 1) := by decide +kernel
theorem dX8_leastSpace_133 : decode cX8_leastSpace 133 = .ok (.iload_n 3, 1) := by decide +kernel
theorem dX8_leastSpace_134 : decode cX8_leastSpace 134 = .ok (.ireturn, 1) := by decide +kernel
theorem dX8_bits_0 : decode cX8_bits 0 = .ok (.aload_n 0, 1) := by decide +kernel
theorem dX8_bits_1 : decode cX8_bits 1 = .ok (.getfield 7, 3) := by decide +kernel
theorem dX8_bits_4 : decode cX8_bits 4 = .ok (.iconst 0, 1) := by decide +kernel
theorem dX8_bits_5 : decode cX8_bits 5 = .ok (.iaload, 1) := by decide +kernel
theorem dX8_bits_6 : decode cX8_bits 6 = .ok (.aload_n 0, 1) := by decide +kernel
theorem dX8_bits_7 : decode cX8_bits 7 = .ok (.getfield 7, 3) := by decide +kernel
theorem dX8_bits_10 : decode cX8_bits 10 = .ok (.iconst 1, 1) := by decide +kernel
theorem dX8_bits_11 : decode cX8_bits 11 = .ok (.iaload, 1) := by decide +kernel
theorem dX8_bits_12 : decode cX8_bits 12 = .ok (.iconst 1, 1) := by decide +kernel
theorem dX8_bits_13 : decode cX8_bits 13 = .ok (.iadd, 1) := by decide +kernel
theorem dX8_bits_14 : decode cX8_bits 14 = .ok (.imul, 1) := by decide +kernel
theorem dX8_bits_15 : decode cX8_bits 15 = .ok (.bipush 32, 2) := by decide +kernel
theorem dX8_bits_17 : decode cX8_bits 17 = .ok (.aload_n 0, 1) := by decide +kernel
theorem dX8_bits_18 : decode cX8_bits 18 = .ok (.getfield 7, 3) := by decide +kernel
theorem dX8_bits_21 : decode cX8_bits 21 = .ok (.iconst 3, 1) := by decide +kernel
theorem dX8_bits_22 : decode cX8_bits 22 = .ok (.iaload, 1) := by decide +kernel
theorem dX8_bits_23 : decode cX8_bits 23 = .ok (.imul, 1) := by decide +kernel
theorem dX8_bits_24 : decode cX8_bits 24 = .ok (.iadd, 1) := by decide +kernel
theorem dX8_bits_25 : decode cX8_bits 25 = .ok (.ireturn, 1) := by decide +kernel
theorem dX8_bitsForEach_0 : decode cX8_bitsForEach 0 = .ok (.aload_n 0, 1) := by decide +kernel
theorem dX8_bitsForEach_1 : decode cX8_bitsForEach 1 = .ok (.getfield 7, 3) := by decide +kernel
theorem dX8_bitsForEach_4 : decode cX8_bitsForEach 4 = .ok (.bipush 6, 2) := by decide +kernel
theorem dX8_bitsForEach_6 : decode cX8_bitsForEach 6 = .ok (.iaload, 1) := by decide +kernel
theorem dX8_bitsForEach_7 : decode cX8_bitsForEach 7 = .ok (.ifCond .ne 7, 3) := by decide +kernel
theorem dX8_bitsForEach_10 : decode cX8_bitsForEach 10 = .ok (.iconst (-1), 1) := by decide +kernel
theorem dX8_bitsForEach_11 : decode cX8_bitsForEach 11 = .ok (.goto 20, 3) := by decide +kernel
theorem dX8_bitsForEach_14 : decode cX8_bitsForEach 14 = .ok (.aload_n 0, 1) := by decide +kernel
theorem dX8_bitsForEach_15 : decode cX8_bitsForEach 15 = .ok (.invokevirtual 165, 3) := by decide +kernel
theorem dX8_bitsForEach_18 : decode cX8_bitsForEach 18 = .ok (.i2f, 1) := by decide +kernel
theorem dX8_bitsForEach_19 : decode cX8_bitsForEach 19 = .ok (.aload_n 0, 1) := by decide +kernel
theorem dX8_bitsForEach_20 : decode cX8_bitsForEach 20 = .ok (.getfield 7, 3) := by decide +kernel
theorem dX8_bitsForEach_23 : decode cX8_bitsForEach 23 = .ok (.bipush 6, 2) := by decide +kernel
theorem dX8_bitsForEach_25 : decode cX8_bitsForEach 25 = .ok (.iaload, 1) := by decide +kernel
theorem dX8_bitsForEach_26 : decode cX8_bitsForEach 26 = .ok (.i2f, 1) := by decide +kernel
theorem dX8_bitsForEach_27 : decode cX8_bitsForEach 27 = .ok (.fdiv, 1) := by decide +kernel
theorem dX8_bitsForEach_28 : decode cX8_bitsForEach 28 = .ok (.invokestatic 169, 3) := by decide +kernel
theorem dX8_bitsForEach_31 : decode cX8_bitsForEach 31 = .ok (.ireturn, 1) := by decide +kernel
theorem dX8_undo_0 : decode cX8_undo 0 = .ok (.aload_n 0, 1) := by decide +kernel
theorem dX8_undo_1 : decode cX8_undo 1 = .ok (.getfield 53, 3) := by decide +kernel
theorem dX8_undo_4 : decode cX8_undo 4 = .ok (.ifCond .ne 6, 3) := by decide +kernel
theorem dX8_undo_7 : decode cX8_undo 7 = .ok (.bipush (-4), 2) := by decide +kernel
theorem dX8_undo_9 : decode cX8_undo 9 = .ok (.ireturn, 1) := by decide +kernel
theorem dX8_undo_10 : decode cX8_undo 10 = .ok (.aload_n 0, 1) := by decide +kernel
theorem dX8_undo_11 : decode cX8_undo 11 = .ok (.aload_n 0, 1) := by decide +kernel
theorem dX8_undo_12 : decode cX8_undo 12 = .ok (.getfield 53, 3) := by decide +kernel
theorem dX8_undo_15 : decode cX8_undo 15 = .ok (.iconst 0, 1) := by decide +kernel
theorem dX8_undo_16 : decode cX8_undo 16 = .ok (.invokevirtual 57, 3) := by decide +kernel
theorem dX8_undo_19 : decode cX8_undo 19 = .ok (.aload_n 0, 1) := by decide +kernel
theorem dX8_undo_20 : decode cX8_undo 20 = .ok (.dup, 1) := by decide +kernel
theorem dX8_undo_21 : decode cX8_undo 21 = .ok (.getfield 53, 3) := by decide +kernel
theorem dX8_undo_24 : decode cX8_undo 24 = .ok (.iconst 1, 1) := by decide +kernel
theorem dX8_undo_25 : decode cX8_undo 25 = .ok (.isub, 1) := by decide +kernel
theorem dX8_undo_26 : decode cX8_undo 26 = .ok (.putfield 53, 3) := by decide +kernel
theorem dX8_undo_29 : decode cX8_undo 29 = .ok (.aload_n 0, 1) := by decide +kernel
theorem dX8_undo_30 : decode cX8_undo 30 = .ok (.getfield 53, 3) := by decide +kernel
theorem dX8_undo_33 : decode cX8_undo 33 = .ok (.ireturn, 1) := by decide +kernel
theorem dX8_type_0 : decode cX8_type 0 = .ok (.iload_n 1, 1) := by decide +kernel
theorem dX8_type_1 : decode cX8_type 1 = .ok (.iconst 0, 1) := by decide +kernel
theorem dX8_type_2 : decode cX8_type 2 = .ok (.sipush 255, 3) := by decide +kernel
theorem dX8_type_5 : decode cX8_type 5 = .ok (.invokestatic 61, 3) := by decide +kernel
theorem dX8_type_8 : decode cX8_type 8 = .ok (.ifCond .ne 6, 3) := by decide +kernel
theorem dX8_type_11 : decode cX8_type 11 = .ok (.bipush (-3), 2) := by decide +kernel
theorem dX8_type_13 : decode cX8_type 13 = .ok (.ireturn, 1) := by decide +kernel
theorem dX8_type_14 : decode cX8_type 14 = .ok (.aload_n 0, 1) := by decide +kernel
theorem dX8_type_15 : decode cX8_type 15 = .ok (.getfield 175, 3) := by decide +kernel
theorem dX8_type_18 : decode cX8_type 18 = .ok (.bipush 100, 2) := by decide +kernel
theorem dX8_type_20 : decode cX8_type 20 = .ok (.if_icmp .ne 6, 3) := by decide +kernel
theorem dX8_type_23 : decode cX8_type 23 = .ok (.bipush (-5), 2) := by decide +kernel
theorem dX8_type_25 : decode cX8_type 25 = .ok (.ireturn, 1) := by decide +kernel
theorem dX8_type_26 : decode cX8_type 26 = .ok (.aload_n 0, 1) := by decide +kernel
theorem dX8_type_27 : decode cX8_type 27 = .ok (.getfield 44, 3) := by decide +kernel
theorem dX8_type_30 : decode cX8_type 30 = .ok (.aload_n 0, 1) := by decide +kernel
theorem dX8_type_31 : decode cX8_type 31 = .ok (.getfield 175, 3) := by decide +kernel
theorem dX8_type_34 : decode cX8_type 34 = .ok (.iload_n 1, 1) := by decide +kernel
theorem dX8_type_35 : decode cX8_type 35 = .ok (.iastore, 1) := by decide +kernel
theorem dX8_type_36 : decode cX8_type 36 = .ok (.aload_n 0, 1) := by decide +kernel
theorem dX8_type_37 : decode cX8_type 37 = .ok (.dup, 1) := by decide +kernel
theorem dX8_type_38 : decode cX8_type 38 = .ok (.getfield 175, 3) := by decide +kernel
theorem dX8_type_41 : decode cX8_type 41 = .ok (.iconst 1, 1) := by decide +kernel
theorem dX8_type_42 : decode cX8_type 42 = .ok (.iadd, 1) := by decide +kernel
theorem dX8_type_43 : decode cX8_type 43 = .ok (.putfield 175, 3) := by decide +kernel
theorem dX8_type_46 : decode cX8_type 46 = .ok (.aload_n 0, 1) := by decide +kernel
theorem dX8_type_47 : decode cX8_type 47 = .ok (.getfield 175, 3) := by decide +kernel
theorem dX8_type_50 : decode cX8_type 50 = .ok (.ireturn, 1) := by decide +kernel
theorem dX8_clearText_0 : decode cX8_clearText 0 = .ok (.aload_n 0, 1) := by decide +kernel
theorem dX8_clearText_1 : decode cX8_clearText 1 = .ok (.getfield 175, 3) := by decide +kernel
theorem dX8_clearText_4 : decode cX8_clearText 4 = .ok (.istore_n 1, 1) := by decide +kernel
theorem dX8_clearText_5 : decode cX8_clearText 5 = .ok (.aload_n 0, 1) := by decide +kernel
theorem dX8_clearText_6 : decode cX8_clearText 6 = .ok (.iconst 0, 1) := by decide +kernel
theorem dX8_clearText_7 : decode cX8_clearText 7 = .ok (.putfield 175, 3) := by decide +kernel
theorem dX8_clearText_10 : decode cX8_clearText 10 = .ok (.iload_n 1, 1) := by decide +kernel
theorem dX8_clearText_11 : decode cX8_clearText 11 = .ok (.ireturn, 1) := by decide +kernel
theorem dX8_here_0 : decode cX8_here 0 = .ok (.aload_n 0, 1) := by decide +kernel
theorem dX8_here_1 : decode cX8_here 1 = .ok (.getfield 178, 3) := by decide +kernel
theorem dX8_here_4 : decode cX8_here 4 = .ok (.aload_n 0, 1) := by decide +kernel
theorem dX8_here_5 : decode cX8_here 5 = .ok (.getfield 175, 3) := by decide +kernel
theorem dX8_here_8 : decode cX8_here 8 = .ok (.if_icmp .ge 30, 3) := by decide +kernel
theorem dX8_here_11 : decode cX8_here 11 = .ok (.aload_n 0, 1) := by decide +kernel
theorem dX8_here_12 : decode cX8_here 12 = .ok (.getfield 44, 3) := by decide +kernel
theorem dX8_here_15 : decode cX8_here 15 = .ok (.aload_n 0, 1) := by decide +kernel
theorem dX8_here_16 : decode cX8_here 16 = .ok (.getfield 178, 3) := by decide +kernel
theorem dX8_here_19 : decode cX8_here 19 = .ok (.iaload, 1) := by decide +kernel
theorem dX8_here_20 : decode cX8_here 20 = .ok (.bipush 32, 2) := by decide +kernel
theorem dX8_here_22 : decode cX8_here 22 = .ok (.if_icmp .ne 16, 3) := by decide +kernel
theorem dX8_here_25 : decode cX8_here 25 = .ok (.aload_n 0, 1) := by decide +kernel
theorem dX8_here_26 : decode cX8_here 26 = .ok (.dup, 1) := by decide +kernel
theorem dX8_here_27 : decode cX8_here 27 = .ok (.getfield 178, 3) := by decide +kernel
theorem dX8_here_30 : decode cX8_here 30 = .ok (.iconst 1, 1) := by decide +kernel
theorem dX8_here_31 : decode cX8_here 31 = .ok (.iadd, 1) := by decide +kernel
theorem dX8_here_32 : decode cX8_here 32 = .ok (.putfield 178, 3) := by decide +kernel
theorem dX8_here_35 : decode cX8_here 35 = .ok (.goto (-35), 3) := by decide +kernel
theorem dX8_here_38 : decode cX8_here 38 = .ok (.aload_n 0, 1) := by decide +kernel
theorem dX8_here_39 : decode cX8_here 39 = .ok (.getfield 178, 3) := by decide +kernel
theorem dX8_here_42 : decode cX8_here 42 = .ok (.aload_n 0, 1) := by decide +kernel
theorem dX8_here_43 : decode cX8_here 43 = .ok (.getfield 175, 3) := by decide +kernel
theorem dX8_here_46 : decode cX8_here 46 = .ok (.if_icmp .ge 15, 3) := by decide +kernel
theorem dX8_here_49 : decode cX8_here 49 = .ok (.aload_n 0, 1) := by decide +kernel
theorem dX8_here_50 : decode cX8_here 50 = .ok (.getfield 44, 3) := by decide +kernel
theorem dX8_here_53 : decode cX8_here 53 = .ok (.aload_n 0, 1) := by decide +kernel
theorem dX8_here_54 : decode cX8_here 54 = .ok (.getfield 178, 3) := by decide +kernel
theorem dX8_here_57 : decode cX8_here 57 = .ok (.iaload, 1) := by decide +kernel
theorem dX8_here_58 : decode cX8_here 58 = .ok (.goto 4, 3) := by decide +kernel
theorem dX8_here_61 : decode cX8_here 61 = .ok (.iconst (-1), 1) := by decide +kernel
theorem dX8_here_62 : decode cX8_here 62 = .ok (.ireturn, 1) := by decide +kernel
theorem dX8_sign_0 : decode cX8_sign 0 = .ok (.aload_n 0, 1) := by decide +kernel
theorem dX8_sign_1 : decode cX8_sign 1 = .ok (.invokevirtual 181, 3) := by decide +kernel
theorem dX8_sign_4 : decode cX8_sign 4 = .ok (.iload_n 1, 1) := by decide +kernel
theorem dX8_sign_5 : decode cX8_sign 5 = .ok (.if_icmp .ne 7, 3) := by decide +kernel
theorem dX8_sign_8 : decode cX8_sign 8 = .ok (.iconst 1, 1) := by decide +kernel
theorem dX8_sign_9 : decode cX8_sign 9 = .ok (.goto 4, 3) := by decide +kernel
theorem dX8_sign_12 : decode cX8_sign 12 = .ok (.iconst 0, 1) := by decide +kernel
theorem dX8_sign_13 : decode cX8_sign 13 = .ok (.istore_n 2, 1) := by decide +kernel
theorem dX8_sign_14 : decode cX8_sign 14 = .ok (.aload_n 0, 1) := by decide +kernel
theorem dX8_sign_15 : decode cX8_sign 15 = .ok (.dup, 1) := by decide +kernel
theorem dX8_sign_16 : decode cX8_sign 16 = .ok (.getfield 178, 3) := by decide +kernel
theorem dX8_sign_19 : decode cX8_sign 19 = .ok (.iload_n 2, 1) := by decide +kernel
theorem dX8_sign_20 : decode cX8_sign 20 = .ok (.ifCond .eq 7, 3) := by decide +kernel
theorem dX8_sign_23 : decode cX8_sign 23 = .ok (.iconst 1, 1) := by decide +kernel
theorem dX8_sign_24 : decode cX8_sign 24 = .ok (.goto 4, 3) := by decide +kernel
theorem dX8_sign_27 : decode cX8_sign 27 = .ok (.iconst 0, 1) := by decide +kernel
theorem dX8_sign_28 : decode cX8_sign 28 = .ok (.iadd, 1) := by decide +kernel
theorem dX8_sign_29 : decode cX8_sign 29 = .ok (.putfield 178, 3) := by decide +kernel
theorem dX8_sign_32 : decode cX8_sign 32 = .ok (.iload_n 2, 1) := by decide +kernel
theorem dX8_sign_33 : decode cX8_sign 33 = .ok (.ireturn, 1) := by decide +kernel
theorem dX8_reads_0 : decode cX8_reads 0 = .ok (.aload_n 0, 1) := by decide +kernel
theorem dX8_reads_1 : decode cX8_reads 1 = .ok (.invokevirtual 181, 3) := by decide +kernel
theorem dX8_reads_4 : decode cX8_reads 4 = .ok (.istore_n 3, 1) := by decide +kernel
theorem dX8_reads_5 : decode cX8_reads 5 = .ok (.aload_n 0, 1) := by decide +kernel
theorem dX8_reads_6 : decode cX8_reads 6 = .ok (.getfield 178, 3) := by decide +kernel
theorem dX8_reads_9 : decode cX8_reads 9 = .ok (.istore 4, 2) := by decide +kernel
theorem dX8_reads_11 : decode cX8_reads 11 = .ok (.iconst 0, 1) := by decide +kernel
theorem dX8_reads_12 : decode cX8_reads 12 = .ok (.istore 5, 2) := by decide +kernel
theorem dX8_reads_14 : decode cX8_reads 14 = .ok (.iload_n 3, 1) := by decide +kernel
theorem dX8_reads_15 : decode cX8_reads 15 = .ok (.ifCond .lt 69, 3) := by decide +kernel
theorem dX8_reads_18 : decode cX8_reads 18 = .ok (.iload 4, 2) := by decide +kernel
theorem dX8_reads_20 : decode cX8_reads 20 = .ok (.aload_n 0, 1) := by decide +kernel
theorem dX8_reads_21 : decode cX8_reads 21 = .ok (.getfield 175, 3) := by decide +kernel
theorem dX8_reads_24 : decode cX8_reads 24 = .ok (.if_icmp .ge 60, 3) := by decide +kernel
theorem dX8_reads_27 : decode cX8_reads 27 = .ok (.aload_n 0, 1) := by decide +kernel
theorem dX8_reads_28 : decode cX8_reads 28 = .ok (.getfield 44, 3) := by decide +kernel
theorem dX8_reads_31 : decode cX8_reads 31 = .ok (.iload 4, 2) := by decide +kernel
theorem dX8_reads_33 : decode cX8_reads 33 = .ok (.iaload, 1) := by decide +kernel
theorem dX8_reads_34 : decode cX8_reads 34 = .ok (.bipush 48, 2) := by decide +kernel
theorem dX8_reads_36 : decode cX8_reads 36 = .ok (.bipush 57, 2) := by decide +kernel
theorem dX8_reads_38 : decode cX8_reads 38 = .ok (.invokestatic 61, 3) := by decide +kernel
theorem dX8_reads_41 : decode cX8_reads 41 = .ok (.ifCond .eq 43, 3) := by decide +kernel
theorem dX8_reads_44 : decode cX8_reads 44 = .ok (.iload 4, 2) := by decide +kernel
theorem dX8_reads_46 : decode cX8_reads 46 = .ok (.aload_n 0, 1) := by decide +kernel
theorem dX8_reads_47 : decode cX8_reads 47 = .ok (.getfield 178, 3) := by decide +kernel
theorem dX8_reads_50 : decode cX8_reads 50 = .ok (.isub, 1) := by decide +kernel
theorem dX8_reads_51 : decode cX8_reads 51 = .ok (.iconst 5, 1) := by decide +kernel
theorem dX8_reads_52 : decode cX8_reads 52 = .ok (.if_icmp .ge 22, 3) := by decide +kernel
theorem dX8_reads_55 : decode cX8_reads 55 = .ok (.bipush 10, 2) := by decide +kernel
theorem dX8_reads_57 : decode cX8_reads 57 = .ok (.iload 5, 2) := by decide +kernel
theorem dX8_reads_59 : decode cX8_reads 59 = .ok (.imul, 1) := by decide +kernel
theorem dX8_reads_60 : decode cX8_reads 60 = .ok (.aload_n 0, 1) := by decide +kernel
theorem dX8_reads_61 : decode cX8_reads 61 = .ok (.getfield 44, 3) := by decide +kernel
theorem dX8_reads_64 : decode cX8_reads 64 = .ok (.iload 4, 2) := by decide +kernel
theorem dX8_reads_66 : decode cX8_reads 66 = .ok (.iaload, 1) := by decide +kernel
theorem dX8_reads_67 : decode cX8_reads 67 = .ok (.iadd, 1) := by decide +kernel
theorem dX8_reads_68 : decode cX8_reads 68 = .ok (.bipush 48, 2) := by decide +kernel
theorem dX8_reads_70 : decode cX8_reads 70 = .ok (.isub, 1) := by decide +kernel
theorem dX8_reads_71 : decode cX8_reads 71 = .ok (.goto 5, 3) := by decide +kernel
theorem dX8_reads_74 : decode cX8_reads 74 = .ok (.iload 5, 2) := by decide +kernel
theorem dX8_reads_76 : decode cX8_reads 76 = .ok (.istore 5, 2) := by decide +kernel
theorem dX8_reads_78 : decode cX8_reads 78 = .ok (.iinc 4 1, 3) := by decide +kernel
theorem dX8_reads_81 : decode cX8_reads 81 = .ok (.goto (-67), 3) := by decide +kernel
theorem dX8_reads_84 : decode cX8_reads 84 = .ok (.iload 4, 2) := by decide +kernel
theorem dX8_reads_86 : decode cX8_reads 86 = .ok (.aload_n 0, 1) := by decide +kernel
theorem dX8_reads_87 : decode cX8_reads 87 = .ok (.getfield 178, 3) := by decide +kernel
theorem dX8_reads_90 : decode cX8_reads 90 = .ok (.if_icmp .eq 24, 3) := by decide +kernel
theorem dX8_reads_93 : decode cX8_reads 93 = .ok (.iload 4, 2) := by decide +kernel
theorem dX8_reads_95 : decode cX8_reads 95 = .ok (.aload_n 0, 1) := by decide +kernel
theorem dX8_reads_96 : decode cX8_reads 96 = .ok (.getfield 178, 3) := by decide +kernel
theorem dX8_reads_99 : decode cX8_reads 99 = .ok (.isub, 1) := by decide +kernel
theorem dX8_reads_100 : decode cX8_reads 100 = .ok (.iconst 4, 1) := by decide +kernel
theorem dX8_reads_101 : decode cX8_reads 101 = .ok (.if_icmp .gt 13, 3) := by decide +kernel
theorem dX8_reads_104 : decode cX8_reads 104 = .ok (.iload 5, 2) := by decide +kernel
theorem dX8_reads_106 : decode cX8_reads 106 = .ok (.iload_n 1, 1) := by decide +kernel
theorem dX8_reads_107 : decode cX8_reads 107 = .ok (.iload_n 2, 1) := by decide +kernel
theorem dX8_reads_108 : decode cX8_reads 108 = .ok (.invokestatic 61, 3) := by decide +kernel
theorem dX8_reads_111 : decode cX8_reads 111 = .ok (.ifCond .ne 5, 3) := by decide +kernel
theorem dX8_reads_114 : decode cX8_reads 114 = .ok (.iconst (-1), 1) := by decide +kernel
theorem dX8_reads_115 : decode cX8_reads 115 = .ok (.ireturn, 1) := by decide +kernel
theorem dX8_reads_116 : decode cX8_reads 116 = .ok (.aload_n 0, 1) := by decide +kernel
theorem dX8_reads_117 : decode cX8_reads 117 = .ok (.iload 4, 2) := by decide +kernel
theorem dX8_reads_119 : decode cX8_reads 119 = .ok (.putfield 178, 3) := by decide +kernel
theorem dX8_reads_122 : decode cX8_reads 122 = .ok (.iload 5, 2) := by decide +kernel
theorem dX8_reads_124 : decode cX8_reads 124 = .ok (.ireturn, 1) := by decide +kernel
theorem dX8_readAt_0 : decode cX8_readAt 0 = .ok (.iconst 0, 1) := by decide +kernel
theorem dX8_readAt_1 : decode cX8_readAt 1 = .ok (.istore_n 2, 1) := by decide +kernel
theorem dX8_readAt_2 : decode cX8_readAt 2 = .ok (.iload_n 2, 1) := by decide +kernel
theorem dX8_readAt_3 : decode cX8_readAt 3 = .ok (.aload_n 0, 1) := by decide +kernel
theorem dX8_readAt_4 : decode cX8_readAt 4 = .ok (.getfield 184, 3) := by decide +kernel
theorem dX8_readAt_7 : decode cX8_readAt 7 = .ok (.if_icmp .ge 21, 3) := by decide +kernel
theorem dX8_readAt_10 : decode cX8_readAt 10 = .ok (.aload_n 0, 1) := by decide +kernel
theorem dX8_readAt_11 : decode cX8_readAt 11 = .ok (.getfield 47, 3) := by decide +kernel
theorem dX8_readAt_14 : decode cX8_readAt 14 = .ok (.iload_n 2, 1) := by decide +kernel
theorem dX8_readAt_15 : decode cX8_readAt 15 = .ok (.iaload, 1) := by decide +kernel
theorem dX8_readAt_16 : decode cX8_readAt 16 = .ok (.iload_n 1, 1) := by decide +kernel
theorem dX8_readAt_17 : decode cX8_readAt 17 = .ok (.if_icmp .ne 5, 3) := by decide +kernel
theorem dX8_readAt_20 : decode cX8_readAt 20 = .ok (.iload_n 2, 1) := by decide +kernel
theorem dX8_readAt_21 : decode cX8_readAt 21 = .ok (.ireturn, 1) := by decide +kernel
theorem dX8_readAt_22 : decode cX8_readAt 22 = .ok (.iinc 2 1, 3) := by decide +kernel
theorem dX8_readAt_25 : decode cX8_readAt 25 = .ok (.goto (-23), 3) := by decide +kernel
theorem dX8_readAt_28 : decode cX8_readAt 28 = .ok (.aload_n 0, 1) := by decide +kernel
theorem dX8_readAt_29 : decode cX8_readAt 29 = .ok (.getfield 184, 3) := by decide +kernel
theorem dX8_readAt_32 : decode cX8_readAt 32 = .ok (.bipush 16, 2) := by decide +kernel
theorem dX8_readAt_34 : decode cX8_readAt 34 = .ok (.if_icmp .ne 5, 3) := by decide +kernel
theorem dX8_readAt_37 : decode cX8_readAt 37 = .ok (.iconst (-1), 1) := by decide +kernel
theorem dX8_readAt_38 : decode cX8_readAt 38 = .ok (.ireturn, 1) := by decide +kernel
theorem dX8_readAt_39 : decode cX8_readAt 39 = .ok (.aload_n 0, 1) := by decide +kernel
theorem dX8_readAt_40 : decode cX8_readAt 40 = .ok (.getfield 47, 3) := by decide +kernel
theorem dX8_readAt_43 : decode cX8_readAt 43 = .ok (.aload_n 0, 1) := by decide +kernel
theorem dX8_readAt_44 : decode cX8_readAt 44 = .ok (.getfield 184, 3) := by decide +kernel
theorem dX8_readAt_47 : decode cX8_readAt 47 = .ok (.iload_n 1, 1) := by decide +kernel
theorem dX8_readAt_48 : decode cX8_readAt 48 = .ok (.iastore, 1) := by decide +kernel
theorem dX8_readAt_49 : decode cX8_readAt 49 = .ok (.aload_n 0, 1) := by decide +kernel
theorem dX8_readAt_50 : decode cX8_readAt 50 = .ok (.getfield 50, 3) := by decide +kernel
theorem dX8_readAt_53 : decode cX8_readAt 53 = .ok (.aload_n 0, 1) := by decide +kernel
theorem dX8_readAt_54 : decode cX8_readAt 54 = .ok (.getfield 184, 3) := by decide +kernel
theorem dX8_readAt_57 : decode cX8_readAt 57 = .ok (.lconst 0, 1) := by decide +kernel
theorem dX8_readAt_58 : decode cX8_readAt 58 = .ok (.lastore, 1) := by decide +kernel
theorem dX8_readAt_59 : decode cX8_readAt 59 = .ok (.aload_n 0, 1) := by decide +kernel
theorem dX8_readAt_60 : decode cX8_readAt 60 = .ok (.dup, 1) := by decide +kernel
theorem dX8_readAt_61 : decode cX8_readAt 61 = .ok (.getfield 184, 3) := by decide +kernel
theorem dX8_readAt_64 : decode cX8_readAt 64 = .ok (.iconst 1, 1) := by decide +kernel
theorem dX8_readAt_65 : decode cX8_readAt 65 = .ok (.iadd, 1) := by decide +kernel
theorem dX8_readAt_66 : decode cX8_readAt 66 = .ok (.putfield 184, 3) := by decide +kernel
theorem dX8_readAt_69 : decode cX8_readAt 69 = .ok (.aload_n 0, 1) := by decide +kernel
theorem dX8_readAt_70 : decode cX8_readAt 70 = .ok (.getfield 184, 3) := by decide +kernel
theorem dX8_readAt_73 : decode cX8_readAt 73 = .ok (.iconst 1, 1) := by decide +kernel
theorem dX8_readAt_74 : decode cX8_readAt 74 = .ok (.isub, 1) := by decide +kernel
theorem dX8_readAt_75 : decode cX8_readAt 75 = .ok (.ireturn, 1) := by decide +kernel
theorem dX8_readsItem_0 : decode cX8_readsItem 0 = .ok (.aload_n 0, 1) := by decide +kernel
theorem dX8_readsItem_1 : decode cX8_readsItem 1 = .ok (.invokevirtual 181, 3) := by decide +kernel
theorem dX8_readsItem_4 : decode cX8_readsItem 4 = .ok (.istore_n 2, 1) := by decide +kernel
theorem dX8_readsItem_5 : decode cX8_readsItem 5 = .ok (.aload_n 0, 1) := by decide +kernel
theorem dX8_readsItem_6 : decode cX8_readsItem 6 = .ok (.getfield 178, 3) := by decide +kernel
theorem dX8_readsItem_9 : decode cX8_readsItem 9 = .ok (.istore_n 3, 1) := by decide +kernel
theorem dX8_readsItem_10 : decode cX8_readsItem 10 = .ok (.aload_n 0, 1) := by decide +kernel
theorem dX8_readsItem_11 : decode cX8_readsItem 11 = .ok (.iconst 0, 1) := by decide +kernel
theorem dX8_readsItem_12 : decode cX8_readsItem 12 = .ok (.sipush 999, 3) := by decide +kernel
theorem dX8_readsItem_15 : decode cX8_readsItem 15 = .ok (.invokevirtual 187, 3) := by decide +kernel
theorem dX8_readsItem_18 : decode cX8_readsItem 18 = .ok (.istore 4, 2) := by decide +kernel
theorem dX8_readsItem_20 : decode cX8_readsItem 20 = .ok (.iload_n 2, 1) := by decide +kernel
theorem dX8_readsItem_21 : decode cX8_readsItem 21 = .ok (.ifCond .lt 9, 3) := by decide +kernel
theorem dX8_readsItem_24 : decode cX8_readsItem 24 = .ok (.iload 4, 2) := by decide +kernel
theorem dX8_readsItem_26 : decode cX8_readsItem 26 = .ok (.iconst (-1), 1) := by decide +kernel
theorem dX8_readsItem_27 : decode cX8_readsItem 27 = .ok (.if_icmp .ne 7, 3) := by decide +kernel
theorem dX8_readsItem_30 : decode cX8_readsItem 30 = .ok (.iconst (-1), 1) := by decide +kernel
theorem dX8_readsItem_31 : decode cX8_readsItem 31 = .ok (.goto 9, 3) := by decide +kernel
theorem dX8_readsItem_34 : decode cX8_readsItem 34 = .ok (.aload_n 0, 1) := by decide +kernel
theorem dX8_readsItem_35 : decode cX8_readsItem 35 = .ok (.iload 4, 2) := by decide +kernel
theorem dX8_readsItem_37 : decode cX8_readsItem 37 = .ok (.invokevirtual 190, 3) := by decide +kernel
theorem dX8_readsItem_40 : decode cX8_readsItem 40 = .ok (.istore 5, 2) := by decide +kernel
theorem dX8_readsItem_42 : decode cX8_readsItem 42 = .ok (.iload 5, 2) := by decide +kernel
theorem dX8_readsItem_44 : decode cX8_readsItem 44 = .ok (.iconst (-1), 1) := by decide +kernel
theorem dX8_readsItem_45 : decode cX8_readsItem 45 = .ok (.if_icmp .ne 10, 3) := by decide +kernel
theorem dX8_readsItem_48 : decode cX8_readsItem 48 = .ok (.aload_n 0, 1) := by decide +kernel
theorem dX8_readsItem_49 : decode cX8_readsItem 49 = .ok (.iload_n 3, 1) := by decide +kernel
theorem dX8_readsItem_50 : decode cX8_readsItem 50 = .ok (.putfield 178, 3) := by decide +kernel
theorem dX8_readsItem_53 : decode cX8_readsItem 53 = .ok (.iconst 0, 1) := by decide +kernel
theorem dX8_readsItem_54 : decode cX8_readsItem 54 = .ok (.ireturn, 1) := by decide +kernel
theorem dX8_readsItem_55 : decode cX8_readsItem 55 = .ok (.iconst 1, 1) := by decide +kernel
theorem dX8_readsItem_56 : decode cX8_readsItem 56 = .ok (.istore 6, 2) := by decide +kernel
theorem dX8_readsItem_58 : decode cX8_readsItem 58 = .ok (.aload_n 0, 1) := by decide +kernel
theorem dX8_readsItem_59 : decode cX8_readsItem 59 = .ok (.bipush 43, 2) := by decide +kernel
theorem dX8_readsItem_61 : decode cX8_readsItem 61 = .ok (.invokevirtual 193, 3) := by decide +kernel
theorem dX8_readsItem_64 : decode cX8_readsItem 64 = .ok (.ifCond .eq 13, 3) := by decide +kernel
theorem dX8_readsItem_67 : decode cX8_readsItem 67 = .ok (.aload_n 0, 1) := by decide +kernel
theorem dX8_readsItem_68 : decode cX8_readsItem 68 = .ok (.iconst 1, 1) := by decide +kernel
theorem dX8_readsItem_69 : decode cX8_readsItem 69 = .ok (.sipush 9999, 3) := by decide +kernel
theorem dX8_readsItem_72 : decode cX8_readsItem 72 = .ok (.invokevirtual 187, 3) := by decide +kernel
theorem dX8_readsItem_75 : decode cX8_readsItem 75 = .ok (.istore 6, 2) := by decide +kernel
theorem dX8_readsItem_77 : decode cX8_readsItem 77 = .ok (.iload 6, 2) := by decide +kernel
theorem dX8_readsItem_79 : decode cX8_readsItem 79 = .ok (.iconst (-1), 1) := by decide +kernel
theorem dX8_readsItem_80 : decode cX8_readsItem 80 = .ok (.if_icmp .ne 5, 3) := by decide +kernel
theorem dX8_readsItem_83 : decode cX8_readsItem 83 = .ok (.iconst 0, 1) := by decide +kernel
theorem dX8_readsItem_84 : decode cX8_readsItem 84 = .ok (.ireturn, 1) := by decide +kernel
theorem dX8_readsItem_85 : decode cX8_readsItem 85 = .ok (.aload_n 0, 1) := by decide +kernel
theorem dX8_readsItem_86 : decode cX8_readsItem 86 = .ok (.getfield 50, 3) := by decide +kernel
theorem dX8_readsItem_89 : decode cX8_readsItem 89 = .ok (.iload 5, 2) := by decide +kernel
theorem dX8_readsItem_91 : decode cX8_readsItem 91 = .ok (.dup2, 1) := by decide +kernel
theorem dX8_readsItem_92 : decode cX8_readsItem 92 = .ok (.laload, 1) := by decide +kernel
theorem dX8_readsItem_93 : decode cX8_readsItem 93 = .ok (.iload 6, 2) := by decide +kernel
theorem dX8_readsItem_95 : decode cX8_readsItem 95 = .ok (.i2l, 1) := by decide +kernel
theorem dX8_readsItem_96 : decode cX8_readsItem 96 = .ok (.ladd, 1) := by decide +kernel
theorem dX8_readsItem_97 : decode cX8_readsItem 97 = .ok (.lastore, 1) := by decide +kernel
theorem dX8_readsItem_98 : decode cX8_readsItem 98 = .ok (.iload_n 1, 1) := by decide +kernel
theorem dX8_readsItem_99 : decode cX8_readsItem 99 = .ok (.ifCond .eq 34, 3) := by decide +kernel
theorem dX8_readsItem_102 : decode cX8_readsItem 102 = .ok (.aload_n 0, 1) := by decide +kernel
theorem dX8_readsItem_103 : decode cX8_readsItem 103 = .ok (.iconst 0, 1) := by decide +kernel
theorem dX8_readsItem_104 : decode cX8_readsItem 104 = .ok (.iload 5, 2) := by decide +kernel
theorem dX8_readsItem_106 : decode cX8_readsItem 106 = .ok (.aload_n 0, 1) := by decide +kernel
theorem dX8_readsItem_107 : decode cX8_readsItem 107 = .ok (.getfield 7, 3) := by decide +kernel
theorem dX8_readsItem_110 : decode cX8_readsItem 110 = .ok (.bipush 6, 2) := by decide +kernel
theorem dX8_readsItem_112 : decode cX8_readsItem 112 = .ok (.iaload, 1) := by decide +kernel
theorem dX8_readsItem_113 : decode cX8_readsItem 113 = .ok (.if_icmp .ge 8, 3) := by decide +kernel
theorem dX8_readsItem_116 : decode cX8_readsItem 116 = .ok (.iload 5, 2) := by decide +kernel
theorem dX8_readsItem_118 : decode cX8_readsItem 118 = .ok (.goto 9, 3) := by decide +kernel
theorem dX8_readsItem_121 : decode cX8_readsItem 121 = .ok (.aload_n 0, 1) := by decide +kernel
theorem dX8_readsItem_122 : decode cX8_readsItem 122 = .ok (.iload 4, 2) := by decide +kernel
theorem dX8_readsItem_124 : decode cX8_readsItem 124 = .ok (.invokevirtual 76, 3) := by decide +kernel
theorem dX8_readsItem_127 : decode cX8_readsItem 127 = .ok (.iload 6, 2) := by decide +kernel
theorem dX8_readsItem_129 : decode cX8_readsItem 129 = .ok (.i2l, 1) := by decide +kernel
theorem dX8_readsItem_130 : decode cX8_readsItem 130 = .ok (.invokevirtual 116, 3) := by decide +kernel
theorem dX8_readsItem_133 : decode cX8_readsItem 133 = .ok (.iconst 1, 1) := by decide +kernel
theorem dX8_readsItem_134 : decode cX8_readsItem 134 = .ok (.ireturn, 1) := by decide +kernel
theorem dX8_readsAll_0 : decode cX8_readsAll 0 = .ok (.aload_n 0, 1) := by decide +kernel
theorem dX8_readsAll_1 : decode cX8_readsAll 1 = .ok (.iconst 0, 1) := by decide +kernel
theorem dX8_readsAll_2 : decode cX8_readsAll 2 = .ok (.putfield 178, 3) := by decide +kernel
theorem dX8_readsAll_5 : decode cX8_readsAll 5 = .ok (.aload_n 0, 1) := by decide +kernel
theorem dX8_readsAll_6 : decode cX8_readsAll 6 = .ok (.aload_n 0, 1) := by decide +kernel
theorem dX8_readsAll_7 : decode cX8_readsAll 7 = .ok (.getfield 7, 3) := by decide +kernel
theorem dX8_readsAll_10 : decode cX8_readsAll 10 = .ok (.bipush 6, 2) := by decide +kernel
theorem dX8_readsAll_12 : decode cX8_readsAll 12 = .ok (.iaload, 1) := by decide +kernel
theorem dX8_readsAll_13 : decode cX8_readsAll 13 = .ok (.putfield 184, 3) := by decide +kernel
theorem dX8_readsAll_16 : decode cX8_readsAll 16 = .ok (.iconst 0, 1) := by decide +kernel
theorem dX8_readsAll_17 : decode cX8_readsAll 17 = .ok (.istore_n 2, 1) := by decide +kernel
theorem dX8_readsAll_18 : decode cX8_readsAll 18 = .ok (.iload_n 2, 1) := by decide +kernel
theorem dX8_readsAll_19 : decode cX8_readsAll 19 = .ok (.aload_n 0, 1) := by decide +kernel
theorem dX8_readsAll_20 : decode cX8_readsAll 20 = .ok (.getfield 184, 3) := by decide +kernel
theorem dX8_readsAll_23 : decode cX8_readsAll 23 = .ok (.if_icmp .ge 36, 3) := by decide +kernel
theorem dX8_readsAll_26 : decode cX8_readsAll 26 = .ok (.aload_n 0, 1) := by decide +kernel
theorem dX8_readsAll_27 : decode cX8_readsAll 27 = .ok (.getfield 47, 3) := by decide +kernel
theorem dX8_readsAll_30 : decode cX8_readsAll 30 = .ok (.iload_n 2, 1) := by decide +kernel
theorem dX8_readsAll_31 : decode cX8_readsAll 31 = .ok (.aload_n 0, 1) := by decide +kernel
theorem dX8_readsAll_32 : decode cX8_readsAll 32 = .ok (.getfield 7, 3) := by decide +kernel
theorem dX8_readsAll_35 : decode cX8_readsAll 35 = .ok (.bipush 7, 2) := by decide +kernel
theorem dX8_readsAll_37 : decode cX8_readsAll 37 = .ok (.iload_n 2, 1) := by decide +kernel
theorem dX8_readsAll_38 : decode cX8_readsAll 38 = .ok (.iadd, 1) := by decide +kernel
theorem dX8_readsAll_39 : decode cX8_readsAll 39 = .ok (.iaload, 1) := by decide +kernel
theorem dX8_readsAll_40 : decode cX8_readsAll 40 = .ok (.iastore, 1) := by decide +kernel
theorem dX8_readsAll_41 : decode cX8_readsAll 41 = .ok (.aload_n 0, 1) := by decide +kernel
theorem dX8_readsAll_42 : decode cX8_readsAll 42 = .ok (.getfield 50, 3) := by decide +kernel
theorem dX8_readsAll_45 : decode cX8_readsAll 45 = .ok (.iload_n 2, 1) := by decide +kernel
theorem dX8_readsAll_46 : decode cX8_readsAll 46 = .ok (.aload_n 0, 1) := by decide +kernel
theorem dX8_readsAll_47 : decode cX8_readsAll 47 = .ok (.iconst 0, 1) := by decide +kernel
theorem dX8_readsAll_48 : decode cX8_readsAll 48 = .ok (.iload_n 2, 1) := by decide +kernel
theorem dX8_readsAll_49 : decode cX8_readsAll 49 = .ok (.invokevirtual 108, 3) := by decide +kernel
theorem dX8_readsAll_52 : decode cX8_readsAll 52 = .ok (.lastore, 1) := by decide +kernel
theorem dX8_readsAll_53 : decode cX8_readsAll 53 = .ok (.iinc 2 1, 3) := by decide +kernel
theorem dX8_readsAll_56 : decode cX8_readsAll 56 = .ok (.goto (-38), 3) := by decide +kernel
theorem dX8_readsAll_59 : decode cX8_readsAll 59 = .ok (.aload_n 0, 1) := by decide +kernel
theorem dX8_readsAll_60 : decode cX8_readsAll 60 = .ok (.iload_n 1, 1) := by decide +kernel
theorem dX8_readsAll_61 : decode cX8_readsAll 61 = .ok (.invokevirtual 196, 3) := by decide +kernel
theorem dX8_readsAll_64 : decode cX8_readsAll 64 = .ok (.istore_n 2, 1) := by decide +kernel
theorem dX8_readsAll_65 : decode cX8_readsAll 65 = .ok (.aload_n 0, 1) := by decide +kernel
theorem dX8_readsAll_66 : decode cX8_readsAll 66 = .ok (.invokevirtual 181, 3) := by decide +kernel
theorem dX8_readsAll_69 : decode cX8_readsAll 69 = .ok (.istore_n 3, 1) := by decide +kernel
theorem dX8_readsAll_70 : decode cX8_readsAll 70 = .ok (.iload_n 2, 1) := by decide +kernel
theorem dX8_readsAll_71 : decode cX8_readsAll 71 = .ok (.ifCond .eq 47, 3) := by decide +kernel
theorem dX8_readsAll_74 : decode cX8_readsAll 74 = .ok (.iload_n 3, 1) := by decide +kernel
theorem dX8_readsAll_75 : decode cX8_readsAll 75 = .ok (.iconst (-1), 1) := by decide +kernel
theorem dX8_readsAll_76 : decode cX8_readsAll 76 = .ok (.if_icmp .eq 42, 3) := by decide +kernel
theorem dX8_readsAll_79 : decode cX8_readsAll 79 = .ok (.aload_n 0, 1) := by decide +kernel
theorem dX8_readsAll_80 : decode cX8_readsAll 80 = .ok (.bipush 59, 2) := by decide +kernel
theorem dX8_readsAll_82 : decode cX8_readsAll 82 = .ok (.invokevirtual 193, 3) := by decide +kernel
theorem dX8_readsAll_85 : decode cX8_readsAll 85 = .ok (.ifCond .eq 15, 3) := by decide +kernel
theorem dX8_readsAll_88 : decode cX8_readsAll 88 = .ok (.aload_n 0, 1) := by decide +kernel
theorem dX8_readsAll_89 : decode cX8_readsAll 89 = .ok (.iload_n 1, 1) := by decide +kernel
