theorem dX0_init_0 : decode cX0_init 0 = .ok (.aload_n 0, 1) := by decide +kernel
theorem dX0_init_1 : decode cX0_init 1 = .ok (.invokespecial 3, 3) := by decide +kernel
theorem dX0_init_4 : decode cX0_init 4 = .ok (.aload_n 0, 1) := by decide +kernel
theorem dX0_init_5 : decode cX0_init 5 = .ok (.bipush 24, 2) := by decide +kernel
theorem dX0_init_7 : decode cX0_init 7 = .ok (.newarray .long, 2) := by decide +kernel
theorem dX0_init_9 : decode cX0_init 9 = .ok (.putfield 9, 3) := by decide +kernel
theorem dX0_init_12 : decode cX0_init 12 = .ok (.aload_n 0, 1) := by decide +kernel
theorem dX0_init_13 : decode cX0_init 13 = .ok (.bipush 24, 2) := by decide +kernel
theorem dX0_init_15 : decode cX0_init 15 = .ok (.newarray .long, 2) := by decide +kernel
theorem dX0_init_17 : decode cX0_init 17 = .ok (.putfield 15, 3) := by decide +kernel
theorem dX0_init_20 : decode cX0_init 20 = .ok (.aload_n 0, 1) := by decide +kernel
theorem dX0_init_21 : decode cX0_init 21 = .ok (.bipush 24, 2) := by decide +kernel
theorem dX0_init_23 : decode cX0_init 23 = .ok (.newarray .long, 2) := by decide +kernel
theorem dX0_init_25 : decode cX0_init 25 = .ok (.putfield 18, 3) := by decide +kernel
theorem dX0_init_28 : decode cX0_init 28 = .ok (.aload_n 0, 1) := by decide +kernel
theorem dX0_init_29 : decode cX0_init 29 = .ok (.bipush 24, 2) := by decide +kernel
theorem dX0_init_31 : decode cX0_init 31 = .ok (.newarray .long, 2) := by decide +kernel
theorem dX0_init_33 : decode cX0_init 33 = .ok (.putfield 21, 3) := by decide +kernel
theorem dX0_init_36 : decode cX0_init 36 = .ok (.aload_n 0, 1) := by decide +kernel
theorem dX0_init_37 : decode cX0_init 37 = .ok (.bipush 24, 2) := by decide +kernel
theorem dX0_init_39 : decode cX0_init 39 = .ok (.newarray .long, 2) := by decide +kernel
theorem dX0_init_41 : decode cX0_init 41 = .ok (.putfield 24, 3) := by decide +kernel
theorem dX0_init_44 : decode cX0_init 44 = .ok (.aload_n 0, 1) := by decide +kernel
theorem dX0_init_45 : decode cX0_init 45 = .ok (.bipush 24, 2) := by decide +kernel
theorem dX0_init_47 : decode cX0_init 47 = .ok (.newarray .long, 2) := by decide +kernel
theorem dX0_init_49 : decode cX0_init 49 = .ok (.putfield 27, 3) := by decide +kernel
theorem dX0_init_52 : decode cX0_init 52 = .ok (.aload_n 0, 1) := by decide +kernel
theorem dX0_init_53 : decode cX0_init 53 = .ok (.bipush 24, 2) := by decide +kernel
theorem dX0_init_55 : decode cX0_init 55 = .ok (.iconst 4, 1) := by decide +kernel
theorem dX0_init_56 : decode cX0_init 56 = .ok (.multianewarray 30 2, 4) := by decide +kernel
theorem dX0_init_60 : decode cX0_init 60 = .ok (.putfield 32, 3) := by decide +kernel
theorem dX0_init_63 : decode cX0_init 63 = .ok (.aload_n 0, 1) := by decide +kernel
theorem dX0_init_64 : decode cX0_init 64 = .ok (.bipush 24, 2) := by decide +kernel
theorem dX0_init_66 : decode cX0_init 66 = .ok (.newarray .int, 2) := by decide +kernel
theorem dX0_init_68 : decode cX0_init 68 = .ok (.putfield 35, 3) := by decide +kernel
theorem dX0_init_71 : decode cX0_init 71 = .ok (.return_, 1) := by decide +kernel
theorem dX0_start_0 : decode cX0_start 0 = .ok (.aload_n 0, 1) := by decide +kernel
theorem dX0_start_1 : decode cX0_start 1 = .ok (.iconst 0, 1) := by decide +kernel
theorem dX0_start_2 : decode cX0_start 2 = .ok (.putfield 39, 3) := by decide +kernel
theorem dX0_start_5 : decode cX0_start 5 = .ok (.return_, 1) := by decide +kernel
theorem dX0_append_0 : decode cX0_append 0 = .ok (.aload_n 0, 1) := by decide +kernel
theorem dX0_append_1 : decode cX0_append 1 = .ok (.getfield 39, 3) := by decide +kernel
theorem dX0_append_4 : decode cX0_append 4 = .ok (.bipush 24, 2) := by decide +kernel
theorem dX0_append_6 : decode cX0_append 6 = .ok (.if_icmp .lt 4, 3) := by decide +kernel
theorem dX0_append_9 : decode cX0_append 9 = .ok (.return_, 1) := by decide +kernel
theorem dX0_append_10 : decode cX0_append 10 = .ok (.iconst 0, 1) := by decide +kernel
theorem dX0_append_11 : decode cX0_append 11 = .ok (.istore 4, 2) := by decide +kernel
theorem dX0_append_13 : decode cX0_append 13 = .ok (.lconst 0, 1) := by decide +kernel
theorem dX0_append_14 : decode cX0_append 14 = .ok (.lstore 5, 2) := by decide +kernel
theorem dX0_append_16 : decode cX0_append 16 = .ok (.iconst 0, 1) := by decide +kernel
theorem dX0_append_17 : decode cX0_append 17 = .ok (.istore 7, 2) := by decide +kernel
theorem dX0_append_19 : decode cX0_append 19 = .ok (.iload 7, 2) := by decide +kernel
theorem dX0_append_21 : decode cX0_append 21 = .ok (.bipush 24, 2) := by decide +kernel
theorem dX0_append_23 : decode cX0_append 23 = .ok (.if_icmp .ge 70, 3) := by decide +kernel
theorem dX0_append_26 : decode cX0_append 26 = .ok (.iload 4, 2) := by decide +kernel
theorem dX0_append_28 : decode cX0_append 28 = .ok (.iconst 4, 1) := by decide +kernel
theorem dX0_append_29 : decode cX0_append 29 = .ok (.if_icmp .ge 64, 3) := by decide +kernel
theorem dX0_append_32 : decode cX0_append 32 = .ok (.iload_n 1, 1) := by decide +kernel
theorem dX0_append_33 : decode cX0_append 33 = .ok (.iload 7, 2) := by decide +kernel
theorem dX0_append_35 : decode cX0_append 35 = .ok (.invokestatic 43, 3) := by decide +kernel
theorem dX0_append_38 : decode cX0_append 38 = .ok (.ifCond .eq 49, 3) := by decide +kernel
theorem dX0_append_41 : decode cX0_append 41 = .ok (.iload 4, 2) := by decide +kernel
theorem dX0_append_43 : decode cX0_append 43 = .ok (.ifCond .ne 13, 3) := by decide +kernel
theorem dX0_append_46 : decode cX0_append 46 = .ok (.aload_n 0, 1) := by decide +kernel
theorem dX0_append_47 : decode cX0_append 47 = .ok (.getfield 15, 3) := by decide +kernel
theorem dX0_append_50 : decode cX0_append 50 = .ok (.iload 7, 2) := by decide +kernel
theorem dX0_append_52 : decode cX0_append 52 = .ok (.laload, 1) := by decide +kernel
theorem dX0_append_53 : decode cX0_append 53 = .ok (.goto 15, 3) := by decide +kernel
theorem dX0_append_56 : decode cX0_append 56 = .ok (.lload 5, 2) := by decide +kernel
theorem dX0_append_58 : decode cX0_append 58 = .ok (.aload_n 0, 1) := by decide +kernel
theorem dX0_append_59 : decode cX0_append 59 = .ok (.getfield 15, 3) := by decide +kernel
theorem dX0_append_62 : decode cX0_append 62 = .ok (.iload 7, 2) := by decide +kernel
theorem dX0_append_64 : decode cX0_append 64 = .ok (.laload, 1) := by decide +kernel
theorem dX0_append_65 : decode cX0_append 65 = .ok (.invokestatic 47, 3) := by decide +kernel
theorem dX0_append_68 : decode cX0_append 68 = .ok (.lstore 5, 2) := by decide +kernel
theorem dX0_append_70 : decode cX0_append 70 = .ok (.aload_n 0, 1) := by decide +kernel
theorem dX0_append_71 : decode cX0_append 71 = .ok (.getfield 32, 3) := by decide +kernel
theorem dX0_append_74 : decode cX0_append 74 = .ok (.aload_n 0, 1) := by decide +kernel
theorem dX0_append_75 : decode cX0_append 75 = .ok (.getfield 39, 3) := by decide +kernel
theorem dX0_append_78 : decode cX0_append 78 = .ok (.aaload, 1) := by decide +kernel
theorem dX0_append_79 : decode cX0_append 79 = .ok (.iload 4, 2) := by decide +kernel
theorem dX0_append_81 : decode cX0_append 81 = .ok (.iload 7, 2) := by decide +kernel
theorem dX0_append_83 : decode cX0_append 83 = .ok (.iastore, 1) := by decide +kernel
theorem dX0_append_84 : decode cX0_append 84 = .ok (.iinc 4 1, 3) := by decide +kernel
theorem dX0_append_87 : decode cX0_append 87 = .ok (.iinc 7 1, 3) := by decide +kernel
theorem dX0_append_90 : decode cX0_append 90 = .ok (.goto (-71), 3) := by decide +kernel
theorem dX0_append_93 : decode cX0_append 93 = .ok (.aload_n 0, 1) := by decide +kernel
theorem dX0_append_94 : decode cX0_append 94 = .ok (.getfield 35, 3) := by decide +kernel
theorem dX0_append_97 : decode cX0_append 97 = .ok (.aload_n 0, 1) := by decide +kernel
theorem dX0_append_98 : decode cX0_append 98 = .ok (.getfield 39, 3) := by decide +kernel
theorem dX0_append_101 : decode cX0_append 101 = .ok (.iload 4, 2) := by decide +kernel
theorem dX0_append_103 : decode cX0_append 103 = .ok (.iastore, 1) := by decide +kernel
theorem dX0_append_104 : decode cX0_append 104 = .ok (.aload_n 0, 1) := by decide +kernel
theorem dX0_append_105 : decode cX0_append 105 = .ok (.getfield 24, 3) := by decide +kernel
theorem dX0_append_108 : decode cX0_append 108 = .ok (.aload_n 0, 1) := by decide +kernel
theorem dX0_append_109 : decode cX0_append 109 = .ok (.getfield 39, 3) := by decide +kernel
theorem dX0_append_112 : decode cX0_append 112 = .ok (.lload_n 2, 1) := by decide +kernel
theorem dX0_append_113 : decode cX0_append 113 = .ok (.lastore, 1) := by decide +kernel
theorem dX0_append_114 : decode cX0_append 114 = .ok (.aload_n 0, 1) := by decide +kernel
theorem dX0_append_115 : decode cX0_append 115 = .ok (.getfield 27, 3) := by decide +kernel
theorem dX0_append_118 : decode cX0_append 118 = .ok (.aload_n 0, 1) := by decide +kernel
theorem dX0_append_119 : decode cX0_append 119 = .ok (.getfield 39, 3) := by decide +kernel
theorem dX0_append_122 : decode cX0_append 122 = .ok (.lload 5, 2) := by decide +kernel
theorem dX0_append_124 : decode cX0_append 124 = .ok (.lastore, 1) := by decide +kernel
theorem dX0_append_125 : decode cX0_append 125 = .ok (.aload_n 0, 1) := by decide +kernel
theorem dX0_append_126 : decode cX0_append 126 = .ok (.dup, 1) := by decide +kernel
theorem dX0_append_127 : decode cX0_append 127 = .ok (.getfield 39, 3) := by decide +kernel
theorem dX0_append_130 : decode cX0_append 130 = .ok (.iconst 1, 1) := by decide +kernel
theorem dX0_append_131 : decode cX0_append 131 = .ok (.iadd, 1) := by decide +kernel
theorem dX0_append_132 : decode cX0_append 132 = .ok (.putfield 39, 3) := by decide +kernel
theorem dX0_append_135 : decode cX0_append 135 = .ok (.return_, 1) := by decide +kernel
theorem dX0_narrow_0 : decode cX0_narrow 0 = .ok (.iconst 1, 1) := by decide +kernel
theorem dX0_narrow_1 : decode cX0_narrow 1 = .ok (.istore_n 2, 1) := by decide +kernel
theorem dX0_narrow_2 : decode cX0_narrow 2 = .ok (.iload_n 2, 1) := by decide +kernel
theorem dX0_narrow_3 : decode cX0_narrow 3 = .ok (.iload_n 1, 1) := by decide +kernel
theorem dX0_narrow_4 : decode cX0_narrow 4 = .ok (.if_icmp .gt 20, 3) := by decide +kernel
theorem dX0_narrow_7 : decode cX0_narrow 7 = .ok (.aload_n 0, 1) := by decide +kernel
theorem dX0_narrow_8 : decode cX0_narrow 8 = .ok (.invokevirtual 53, 3) := by decide +kernel
theorem dX0_narrow_11 : decode cX0_narrow 11 = .ok (.ifCond .ne 7, 3) := by decide +kernel
theorem dX0_narrow_14 : decode cX0_narrow 14 = .ok (.iload_n 2, 1) := by decide +kernel
theorem dX0_narrow_15 : decode cX0_narrow 15 = .ok (.iconst 1, 1) := by decide +kernel
theorem dX0_narrow_16 : decode cX0_narrow 16 = .ok (.isub, 1) := by decide +kernel
theorem dX0_narrow_17 : decode cX0_narrow 17 = .ok (.ireturn, 1) := by decide +kernel
theorem dX0_narrow_18 : decode cX0_narrow 18 = .ok (.iinc 2 1, 3) := by decide +kernel
theorem dX0_narrow_21 : decode cX0_narrow 21 = .ok (.goto (-19), 3) := by decide +kernel
theorem dX0_narrow_24 : decode cX0_narrow 24 = .ok (.iload_n 1, 1) := by decide +kernel
theorem dX0_narrow_25 : decode cX0_narrow 25 = .ok (.ireturn, 1) := by decide +kernel
theorem dX0_narrowOnce_0 : decode cX0_narrowOnce 0 = .ok (.aload_n 0, 1) := by decide +kernel
theorem dX0_narrowOnce_1 : decode cX0_narrowOnce 1 = .ok (.invokevirtual 57, 3) := by decide +kernel
theorem dX0_narrowOnce_4 : decode cX0_narrowOnce 4 = .ok (.iconst 0, 1) := by decide +kernel
theorem dX0_narrowOnce_5 : decode cX0_narrowOnce 5 = .ok (.istore_n 1, 1) := by decide +kernel
theorem dX0_narrowOnce_6 : decode cX0_narrowOnce 6 = .ok (.iconst 0, 1) := by decide +kernel
theorem dX0_narrowOnce_7 : decode cX0_narrowOnce 7 = .ok (.istore_n 2, 1) := by decide +kernel
theorem dX0_narrowOnce_8 : decode cX0_narrowOnce 8 = .ok (.iload_n 2, 1) := by decide +kernel
theorem dX0_narrowOnce_9 : decode cX0_narrowOnce 9 = .ok (.aload_n 0, 1) := by decide +kernel
theorem dX0_narrowOnce_10 : decode cX0_narrowOnce 10 = .ok (.getfield 39, 3) := by decide +kernel
theorem dX0_narrowOnce_13 : decode cX0_narrowOnce 13 = .ok (.if_icmp .ge 19, 3) := by decide +kernel
theorem dX0_narrowOnce_16 : decode cX0_narrowOnce 16 = .ok (.aload_n 0, 1) := by decide +kernel
theorem dX0_narrowOnce_17 : decode cX0_narrowOnce 17 = .ok (.iload_n 2, 1) := by decide +kernel
theorem dX0_narrowOnce_18 : decode cX0_narrowOnce 18 = .ok (.invokevirtual 60, 3) := by decide +kernel
theorem dX0_narrowOnce_21 : decode cX0_narrowOnce 21 = .ok (.ifCond .eq 5, 3) := by decide +kernel
theorem dX0_narrowOnce_24 : decode cX0_narrowOnce 24 = .ok (.iconst 1, 1) := by decide +kernel
theorem dX0_narrowOnce_25 : decode cX0_narrowOnce 25 = .ok (.istore_n 1, 1) := by decide +kernel
theorem dX0_narrowOnce_26 : decode cX0_narrowOnce 26 = .ok (.iinc 2 1, 3) := by decide +kernel
theorem dX0_narrowOnce_29 : decode cX0_narrowOnce 29 = .ok (.goto (-21), 3) := by decide +kernel
theorem dX0_narrowOnce_32 : decode cX0_narrowOnce 32 = .ok (.iload_n 1, 1) := by decide +kernel
theorem dX0_narrowOnce_33 : decode cX0_narrowOnce 33 = .ok (.ireturn, 1) := by decide +kernel
theorem dX0_sumBounds_0 : decode cX0_sumBounds 0 = .ok (.aload_n 0, 1) := by decide +kernel
theorem dX0_sumBounds_1 : decode cX0_sumBounds 1 = .ok (.getfield 18, 3) := by decide +kernel
theorem dX0_sumBounds_4 : decode cX0_sumBounds 4 = .ok (.lconst 0, 1) := by decide +kernel
theorem dX0_sumBounds_5 : decode cX0_sumBounds 5 = .ok (.invokestatic 64, 3) := by decide +kernel
theorem dX0_sumBounds_8 : decode cX0_sumBounds 8 = .ok (.aload_n 0, 1) := by decide +kernel
theorem dX0_sumBounds_9 : decode cX0_sumBounds 9 = .ok (.getfield 21, 3) := by decide +kernel
theorem dX0_sumBounds_12 : decode cX0_sumBounds 12 = .ok (.lconst 0, 1) := by decide +kernel
theorem dX0_sumBounds_13 : decode cX0_sumBounds 13 = .ok (.invokestatic 64, 3) := by decide +kernel
theorem dX0_sumBounds_16 : decode cX0_sumBounds 16 = .ok (.iconst 0, 1) := by decide +kernel
theorem dX0_sumBounds_17 : decode cX0_sumBounds 17 = .ok (.istore_n 1, 1) := by decide +kernel
theorem dX0_sumBounds_18 : decode cX0_sumBounds 18 = .ok (.iload_n 1, 1) := by decide +kernel
theorem dX0_sumBounds_19 : decode cX0_sumBounds 19 = .ok (.aload_n 0, 1) := by decide +kernel
theorem dX0_sumBounds_20 : decode cX0_sumBounds 20 = .ok (.getfield 39, 3) := by decide +kernel
theorem dX0_sumBounds_23 : decode cX0_sumBounds 23 = .ok (.if_icmp .ge 71, 3) := by decide +kernel
theorem dX0_sumBounds_26 : decode cX0_sumBounds 26 = .ok (.iconst 0, 1) := by decide +kernel
theorem dX0_sumBounds_27 : decode cX0_sumBounds 27 = .ok (.istore_n 2, 1) := by decide +kernel
theorem dX0_sumBounds_28 : decode cX0_sumBounds 28 = .ok (.iload_n 2, 1) := by decide +kernel
theorem dX0_sumBounds_29 : decode cX0_sumBounds 29 = .ok (.aload_n 0, 1) := by decide +kernel
theorem dX0_sumBounds_30 : decode cX0_sumBounds 30 = .ok (.getfield 35, 3) := by decide +kernel
theorem dX0_sumBounds_33 : decode cX0_sumBounds 33 = .ok (.iload_n 1, 1) := by decide +kernel
theorem dX0_sumBounds_34 : decode cX0_sumBounds 34 = .ok (.iaload, 1) := by decide +kernel
theorem dX0_sumBounds_35 : decode cX0_sumBounds 35 = .ok (.if_icmp .ge 53, 3) := by decide +kernel
theorem dX0_sumBounds_38 : decode cX0_sumBounds 38 = .ok (.aload_n 0, 1) := by decide +kernel
theorem dX0_sumBounds_39 : decode cX0_sumBounds 39 = .ok (.getfield 18, 3) := by decide +kernel
theorem dX0_sumBounds_42 : decode cX0_sumBounds 42 = .ok (.aload_n 0, 1) := by decide +kernel
theorem dX0_sumBounds_43 : decode cX0_sumBounds 43 = .ok (.getfield 32, 3) := by decide +kernel
theorem dX0_sumBounds_46 : decode cX0_sumBounds 46 = .ok (.iload_n 1, 1) := by decide +kernel
theorem dX0_sumBounds_47 : decode cX0_sumBounds 47 = .ok (.aaload, 1) := by decide +kernel
theorem dX0_sumBounds_48 : decode cX0_sumBounds 48 = .ok (.iload_n 2, 1) := by decide +kernel
theorem dX0_sumBounds_49 : decode cX0_sumBounds 49 = .ok (.iaload, 1) := by decide +kernel
theorem dX0_sumBounds_50 : decode cX0_sumBounds 50 = .ok (.dup2, 1) := by decide +kernel
theorem dX0_sumBounds_51 : decode cX0_sumBounds 51 = .ok (.laload, 1) := by decide +kernel
theorem dX0_sumBounds_52 : decode cX0_sumBounds 52 = .ok (.aload_n 0, 1) := by decide +kernel
theorem dX0_sumBounds_53 : decode cX0_sumBounds 53 = .ok (.getfield 24, 3) := by decide +kernel
theorem dX0_sumBounds_56 : decode cX0_sumBounds 56 = .ok (.iload_n 1, 1) := by decide +kernel
theorem dX0_sumBounds_57 : decode cX0_sumBounds 57 = .ok (.laload, 1) := by decide +kernel
theorem dX0_sumBounds_58 : decode cX0_sumBounds 58 = .ok (.ladd, 1) := by decide +kernel
theorem dX0_sumBounds_59 : decode cX0_sumBounds 59 = .ok (.lastore, 1) := by decide +kernel
theorem dX0_sumBounds_60 : decode cX0_sumBounds 60 = .ok (.aload_n 0, 1) := by decide +kernel
theorem dX0_sumBounds_61 : decode cX0_sumBounds 61 = .ok (.getfield 21, 3) := by decide +kernel
theorem dX0_sumBounds_64 : decode cX0_sumBounds 64 = .ok (.aload_n 0, 1) := by decide +kernel
theorem dX0_sumBounds_65 : decode cX0_sumBounds 65 = .ok (.getfield 32, 3) := by decide +kernel
theorem dX0_sumBounds_68 : decode cX0_sumBounds 68 = .ok (.iload_n 1, 1) := by decide +kernel
theorem dX0_sumBounds_69 : decode cX0_sumBounds 69 = .ok (.aaload, 1) := by decide +kernel
theorem dX0_sumBounds_70 : decode cX0_sumBounds 70 = .ok (.iload_n 2, 1) := by decide +kernel
theorem dX0_sumBounds_71 : decode cX0_sumBounds 71 = .ok (.iaload, 1) := by decide +kernel
theorem dX0_sumBounds_72 : decode cX0_sumBounds 72 = .ok (.dup2, 1) := by decide +kernel
theorem dX0_sumBounds_73 : decode cX0_sumBounds 73 = .ok (.laload, 1) := by decide +kernel
theorem dX0_sumBounds_74 : decode cX0_sumBounds 74 = .ok (.aload_n 0, 1) := by decide +kernel
theorem dX0_sumBounds_75 : decode cX0_sumBounds 75 = .ok (.getfield 27, 3) := by decide +kernel
theorem dX0_sumBounds_78 : decode cX0_sumBounds 78 = .ok (.iload_n 1, 1) := by decide +kernel
theorem dX0_sumBounds_79 : decode cX0_sumBounds 79 = .ok (.laload, 1) := by decide +kernel
theorem dX0_sumBounds_80 : decode cX0_sumBounds 80 = .ok (.ladd, 1) := by decide +kernel
theorem dX0_sumBounds_81 : decode cX0_sumBounds 81 = .ok (.lastore, 1) := by decide +kernel
theorem dX0_sumBounds_82 : decode cX0_sumBounds 82 = .ok (.iinc 2 1, 3) := by decide +kernel
theorem dX0_sumBounds_85 : decode cX0_sumBounds 85 = .ok (.goto (-57), 3) := by decide +kernel
theorem dX0_sumBounds_88 : decode cX0_sumBounds 88 = .ok (.iinc 1 1, 3) := by decide +kernel
theorem dX0_sumBounds_91 : decode cX0_sumBounds 91 = .ok (.goto (-73), 3) := by decide +kernel
theorem dX0_sumBounds_94 : decode cX0_sumBounds 94 = .ok (.return_, 1) := by decide +kernel
theorem dX0_narrowThing_0 : decode cX0_narrowThing 0 = .ok (.aload_n 0, 1) := by decide +kernel
theorem dX0_narrowThing_1 : decode cX0_narrowThing 1 = .ok (.getfield 24, 3) := by decide +kernel
theorem dX0_narrowThing_4 : decode cX0_narrowThing 4 = .ok (.iload_n 1, 1) := by decide +kernel
theorem dX0_narrowThing_5 : decode cX0_narrowThing 5 = .ok (.laload, 1) := by decide +kernel
theorem dX0_narrowThing_6 : decode cX0_narrowThing 6 = .ok (.lstore_n 2, 1) := by decide +kernel
theorem dX0_narrowThing_7 : decode cX0_narrowThing 7 = .ok (.aload_n 0, 1) := by decide +kernel
theorem dX0_narrowThing_8 : decode cX0_narrowThing 8 = .ok (.getfield 27, 3) := by decide +kernel
theorem dX0_narrowThing_11 : decode cX0_narrowThing 11 = .ok (.iload_n 1, 1) := by decide +kernel
theorem dX0_narrowThing_12 : decode cX0_narrowThing 12 = .ok (.laload, 1) := by decide +kernel
theorem dX0_narrowThing_13 : decode cX0_narrowThing 13 = .ok (.lstore 4, 2) := by decide +kernel
theorem dX0_narrowThing_15 : decode cX0_narrowThing 15 = .ok (.iconst 0, 1) := by decide +kernel
theorem dX0_narrowThing_16 : decode cX0_narrowThing 16 = .ok (.istore 6, 2) := by decide +kernel
theorem dX0_narrowThing_18 : decode cX0_narrowThing 18 = .ok (.iload 6, 2) := by decide +kernel
theorem dX0_narrowThing_20 : decode cX0_narrowThing 20 = .ok (.aload_n 0, 1) := by decide +kernel
theorem dX0_narrowThing_21 : decode cX0_narrowThing 21 = .ok (.getfield 35, 3) := by decide +kernel
theorem dX0_narrowThing_24 : decode cX0_narrowThing 24 = .ok (.iload_n 1, 1) := by decide +kernel
theorem dX0_narrowThing_25 : decode cX0_narrowThing 25 = .ok (.iaload, 1) := by decide +kernel
theorem dX0_narrowThing_26 : decode cX0_narrowThing 26 = .ok (.if_icmp .ge 99, 3) := by decide +kernel
theorem dX0_narrowThing_29 : decode cX0_narrowThing 29 = .ok (.aload_n 0, 1) := by decide +kernel
theorem dX0_narrowThing_30 : decode cX0_narrowThing 30 = .ok (.getfield 32, 3) := by decide +kernel
theorem dX0_narrowThing_33 : decode cX0_narrowThing 33 = .ok (.iload_n 1, 1) := by decide +kernel
theorem dX0_narrowThing_34 : decode cX0_narrowThing 34 = .ok (.aaload, 1) := by decide +kernel
theorem dX0_narrowThing_35 : decode cX0_narrowThing 35 = .ok (.iload 6, 2) := by decide +kernel
theorem dX0_narrowThing_37 : decode cX0_narrowThing 37 = .ok (.iaload, 1) := by decide +kernel
theorem dX0_narrowThing_38 : decode cX0_narrowThing 38 = .ok (.istore 7, 2) := by decide +kernel
theorem dX0_narrowThing_40 : decode cX0_narrowThing 40 = .ok (.aload_n 0, 1) := by decide +kernel
theorem dX0_narrowThing_41 : decode cX0_narrowThing 41 = .ok (.getfield 15, 3) := by decide +kernel
theorem dX0_narrowThing_44 : decode cX0_narrowThing 44 = .ok (.iload 7, 2) := by decide +kernel
theorem dX0_narrowThing_46 : decode cX0_narrowThing 46 = .ok (.laload, 1) := by decide +kernel
theorem dX0_narrowThing_47 : decode cX0_narrowThing 47 = .ok (.aload_n 0, 1) := by decide +kernel
theorem dX0_narrowThing_48 : decode cX0_narrowThing 48 = .ok (.getfield 18, 3) := by decide +kernel
theorem dX0_narrowThing_51 : decode cX0_narrowThing 51 = .ok (.iload 7, 2) := by decide +kernel
theorem dX0_narrowThing_53 : decode cX0_narrowThing 53 = .ok (.laload, 1) := by decide +kernel
theorem dX0_narrowThing_54 : decode cX0_narrowThing 54 = .ok (.aload_n 0, 1) := by decide +kernel
theorem dX0_narrowThing_55 : decode cX0_narrowThing 55 = .ok (.getfield 24, 3) := by decide +kernel
theorem dX0_narrowThing_58 : decode cX0_narrowThing 58 = .ok (.iload_n 1, 1) := by decide +kernel
theorem dX0_narrowThing_59 : decode cX0_narrowThing 59 = .ok (.laload, 1) := by decide +kernel
theorem dX0_narrowThing_60 : decode cX0_narrowThing 60 = .ok (.lsub, 1) := by decide +kernel
theorem dX0_narrowThing_61 : decode cX0_narrowThing 61 = .ok (.lsub, 1) := by decide +kernel
theorem dX0_narrowThing_62 : decode cX0_narrowThing 62 = .ok (.lstore 8, 2) := by decide +kernel
theorem dX0_narrowThing_64 : decode cX0_narrowThing 64 = .ok (.aload_n 0, 1) := by decide +kernel
theorem dX0_narrowThing_65 : decode cX0_narrowThing 65 = .ok (.getfield 9, 3) := by decide +kernel
theorem dX0_narrowThing_68 : decode cX0_narrowThing 68 = .ok (.iload 7, 2) := by decide +kernel
theorem dX0_narrowThing_70 : decode cX0_narrowThing 70 = .ok (.laload, 1) := by decide +kernel
theorem dX0_narrowThing_71 : decode cX0_narrowThing 71 = .ok (.aload_n 0, 1) := by decide +kernel
theorem dX0_narrowThing_72 : decode cX0_narrowThing 72 = .ok (.getfield 21, 3) := by decide +kernel
theorem dX0_narrowThing_75 : decode cX0_narrowThing 75 = .ok (.iload 7, 2) := by decide +kernel
theorem dX0_narrowThing_77 : decode cX0_narrowThing 77 = .ok (.laload, 1) := by decide +kernel
theorem dX0_narrowThing_78 : decode cX0_narrowThing 78 = .ok (.aload_n 0, 1) := by decide +kernel
theorem dX0_narrowThing_79 : decode cX0_narrowThing 79 = .ok (.getfield 27, 3) := by decide +kernel
theorem dX0_narrowThing_82 : decode cX0_narrowThing 82 = .ok (.iload_n 1, 1) := by decide +kernel
theorem dX0_narrowThing_83 : decode cX0_narrowThing 83 = .ok (.laload, 1) := by decide +kernel
theorem dX0_narrowThing_84 : decode cX0_narrowThing 84 = .ok (.lsub, 1) := by decide +kernel
theorem dX0_narrowThing_85 : decode cX0_narrowThing 85 = .ok (.lsub, 1) := by decide +kernel
theorem dX0_narrowThing_86 : decode cX0_narrowThing 86 = .ok (.lstore 10, 2) := by decide +kernel
theorem dX0_narrowThing_88 : decode cX0_narrowThing 88 = .ok (.lload 8, 2) := by decide +kernel
theorem dX0_narrowThing_90 : decode cX0_narrowThing 90 = .ok (.lload 4, 2) := by decide +kernel
theorem dX0_narrowThing_92 : decode cX0_narrowThing 92 = .ok (.lcmp, 1) := by decide +kernel
theorem dX0_narrowThing_93 : decode cX0_narrowThing 93 = .ok (.ifCond .ge 8, 3) := by decide +kernel
theorem dX0_narrowThing_96 : decode cX0_narrowThing 96 = .ok (.lload 8, 2) := by decide +kernel
theorem dX0_narrowThing_98 : decode cX0_narrowThing 98 = .ok (.goto 5, 3) := by decide +kernel
theorem dX0_narrowThing_101 : decode cX0_narrowThing 101 = .ok (.lload 4, 2) := by decide +kernel
theorem dX0_narrowThing_103 : decode cX0_narrowThing 103 = .ok (.lstore 4, 2) := by decide +kernel
theorem dX0_narrowThing_105 : decode cX0_narrowThing 105 = .ok (.lload 10, 2) := by decide +kernel
theorem dX0_narrowThing_107 : decode cX0_narrowThing 107 = .ok (.lload_n 2, 1) := by decide +kernel
theorem dX0_narrowThing_108 : decode cX0_narrowThing 108 = .ok (.lcmp, 1) := by decide +kernel
theorem dX0_narrowThing_109 : decode cX0_narrowThing 109 = .ok (.ifCond .le 8, 3) := by decide +kernel
theorem dX0_narrowThing_112 : decode cX0_narrowThing 112 = .ok (.lload 10, 2) := by decide +kernel
theorem dX0_narrowThing_114 : decode cX0_narrowThing 114 = .ok (.goto 4, 3) := by decide +kernel
theorem dX0_narrowThing_117 : decode cX0_narrowThing 117 = .ok (.lload_n 2, 1) := by decide +kernel
theorem dX0_narrowThing_118 : decode cX0_narrowThing 118 = .ok (.lstore_n 2, 1) := by decide +kernel
theorem dX0_narrowThing_119 : decode cX0_narrowThing 119 = .ok (.iinc 6 1, 3) := by decide +kernel
theorem dX0_narrowThing_122 : decode cX0_narrowThing 122 = .ok (.goto (-104), 3) := by decide +kernel
theorem dX0_narrowThing_125 : decode cX0_narrowThing 125 = .ok (.lload_n 2, 1) := by decide +kernel
theorem dX0_narrowThing_126 : decode cX0_narrowThing 126 = .ok (.aload_n 0, 1) := by decide +kernel
theorem dX0_narrowThing_127 : decode cX0_narrowThing 127 = .ok (.getfield 24, 3) := by decide +kernel
theorem dX0_narrowThing_130 : decode cX0_narrowThing 130 = .ok (.iload_n 1, 1) := by decide +kernel
theorem dX0_narrowThing_131 : decode cX0_narrowThing 131 = .ok (.laload, 1) := by decide +kernel
theorem dX0_narrowThing_132 : decode cX0_narrowThing 132 = .ok (.lcmp, 1) := by decide +kernel
theorem dX0_narrowThing_133 : decode cX0_narrowThing 133 = .ok (.ifCond .ne 15, 3) := by decide +kernel
theorem dX0_narrowThing_136 : decode cX0_narrowThing 136 = .ok (.lload 4, 2) := by decide +kernel
theorem dX0_narrowThing_138 : decode cX0_narrowThing 138 = .ok (.aload_n 0, 1) := by decide +kernel
theorem dX0_narrowThing_139 : decode cX0_narrowThing 139 = .ok (.getfield 27, 3) := by decide +kernel
theorem dX0_narrowThing_142 : decode cX0_narrowThing 142 = .ok (.iload_n 1, 1) := by decide +kernel
theorem dX0_narrowThing_143 : decode cX0_narrowThing 143 = .ok (.laload, 1) := by decide +kernel
theorem dX0_narrowThing_144 : decode cX0_narrowThing 144 = .ok (.lcmp, 1) := by decide +kernel
theorem dX0_narrowThing_145 : decode cX0_narrowThing 145 = .ok (.ifCond .eq 7, 3) := by decide +kernel
theorem dX0_narrowThing_148 : decode cX0_narrowThing 148 = .ok (.iconst 1, 1) := by decide +kernel
theorem dX0_narrowThing_149 : decode cX0_narrowThing 149 = .ok (.goto 4, 3) := by decide +kernel
theorem dX0_narrowThing_152 : decode cX0_narrowThing 152 = .ok (.iconst 0, 1) := by decide +kernel
theorem dX0_narrowThing_153 : decode cX0_narrowThing 153 = .ok (.istore 6, 2) := by decide +kernel
theorem dX0_narrowThing_155 : decode cX0_narrowThing 155 = .ok (.aload_n 0, 1) := by decide +kernel
theorem dX0_narrowThing_156 : decode cX0_narrowThing 156 = .ok (.getfield 24, 3) := by decide +kernel
theorem dX0_narrowThing_159 : decode cX0_narrowThing 159 = .ok (.iload_n 1, 1) := by decide +kernel
theorem dX0_narrowThing_160 : decode cX0_narrowThing 160 = .ok (.lload_n 2, 1) := by decide +kernel
theorem dX0_narrowThing_161 : decode cX0_narrowThing 161 = .ok (.lastore, 1) := by decide +kernel
theorem dX0_narrowThing_162 : decode cX0_narrowThing 162 = .ok (.aload_n 0, 1) := by decide +kernel
theorem dX0_narrowThing_163 : decode cX0_narrowThing 163 = .ok (.getfield 27, 3) := by decide +kernel
theorem dX0_narrowThing_166 : decode cX0_narrowThing 166 = .ok (.iload_n 1, 1) := by decide +kernel
theorem dX0_narrowThing_167 : decode cX0_narrowThing 167 = .ok (.lload 4, 2) := by decide +kernel
theorem dX0_narrowThing_169 : decode cX0_narrowThing 169 = .ok (.lastore, 1) := by decide +kernel
theorem dX0_narrowThing_170 : decode cX0_narrowThing 170 = .ok (.iload 6, 2) := by decide +kernel
theorem dX0_narrowThing_172 : decode cX0_narrowThing 172 = .ok (.ireturn, 1) := by decide +kernel
theorem dX0_boundOf_0 : decode cX0_boundOf 0 = .ok (.iload_n 2, 1) := by decide +kernel
theorem dX0_boundOf_1 : decode cX0_boundOf 1 = .ok (.ifCond .eq 12, 3) := by decide +kernel
theorem dX0_boundOf_4 : decode cX0_boundOf 4 = .ok (.aload_n 0, 1) := by decide +kernel
theorem dX0_boundOf_5 : decode cX0_boundOf 5 = .ok (.getfield 27, 3) := by decide +kernel
theorem dX0_boundOf_8 : decode cX0_boundOf 8 = .ok (.iload_n 1, 1) := by decide +kernel
theorem dX0_boundOf_9 : decode cX0_boundOf 9 = .ok (.laload, 1) := by decide +kernel
theorem dX0_boundOf_10 : decode cX0_boundOf 10 = .ok (.goto 9, 3) := by decide +kernel
theorem dX0_boundOf_13 : decode cX0_boundOf 13 = .ok (.aload_n 0, 1) := by decide +kernel
theorem dX0_boundOf_14 : decode cX0_boundOf 14 = .ok (.getfield 24, 3) := by decide +kernel
theorem dX0_boundOf_17 : decode cX0_boundOf 17 = .ok (.iload_n 1, 1) := by decide +kernel
theorem dX0_boundOf_18 : decode cX0_boundOf 18 = .ok (.laload, 1) := by decide +kernel
theorem dX0_boundOf_19 : decode cX0_boundOf 19 = .ok (.lreturn, 1) := by decide +kernel
theorem dX0_certainThings_0 : decode cX0_certainThings 0 = .ok (.iconst 0, 1) := by decide +kernel
theorem dX0_certainThings_1 : decode cX0_certainThings 1 = .ok (.istore_n 1, 1) := by decide +kernel
theorem dX0_certainThings_2 : decode cX0_certainThings 2 = .ok (.iconst 0, 1) := by decide +kernel
theorem dX0_certainThings_3 : decode cX0_certainThings 3 = .ok (.istore_n 2, 1) := by decide +kernel
theorem dX0_certainThings_4 : decode cX0_certainThings 4 = .ok (.iload_n 2, 1) := by decide +kernel
theorem dX0_certainThings_5 : decode cX0_certainThings 5 = .ok (.aload_n 0, 1) := by decide +kernel
theorem dX0_certainThings_6 : decode cX0_certainThings 6 = .ok (.getfield 39, 3) := by decide +kernel
theorem dX0_certainThings_9 : decode cX0_certainThings 9 = .ok (.if_icmp .ge 31, 3) := by decide +kernel
theorem dX0_certainThings_12 : decode cX0_certainThings 12 = .ok (.aload_n 0, 1) := by decide +kernel
theorem dX0_certainThings_13 : decode cX0_certainThings 13 = .ok (.getfield 24, 3) := by decide +kernel
theorem dX0_certainThings_16 : decode cX0_certainThings 16 = .ok (.iload_n 2, 1) := by decide +kernel
theorem dX0_certainThings_17 : decode cX0_certainThings 17 = .ok (.laload, 1) := by decide +kernel
theorem dX0_certainThings_18 : decode cX0_certainThings 18 = .ok (.aload_n 0, 1) := by decide +kernel
theorem dX0_certainThings_19 : decode cX0_certainThings 19 = .ok (.getfield 27, 3) := by decide +kernel
theorem dX0_certainThings_22 : decode cX0_certainThings 22 = .ok (.iload_n 2, 1) := by decide +kernel
theorem dX0_certainThings_23 : decode cX0_certainThings 23 = .ok (.laload, 1) := by decide +kernel
theorem dX0_certainThings_24 : decode cX0_certainThings 24 = .ok (.lcmp, 1) := by decide +kernel
theorem dX0_certainThings_25 : decode cX0_certainThings 25 = .ok (.ifCond .ne 9, 3) := by decide +kernel
theorem dX0_certainThings_28 : decode cX0_certainThings 28 = .ok (.iload_n 1, 1) := by decide +kernel
theorem dX0_certainThings_29 : decode cX0_certainThings 29 = .ok (.iconst 1, 1) := by decide +kernel
theorem dX0_certainThings_30 : decode cX0_certainThings 30 = .ok (.iload_n 2, 1) := by decide +kernel
theorem dX0_certainThings_31 : decode cX0_certainThings 31 = .ok (.ishl, 1) := by decide +kernel
theorem dX0_certainThings_32 : decode cX0_certainThings 32 = .ok (.ior, 1) := by decide +kernel
theorem dX0_certainThings_33 : decode cX0_certainThings 33 = .ok (.istore_n 1, 1) := by decide +kernel
theorem dX0_certainThings_34 : decode cX0_certainThings 34 = .ok (.iinc 2 1, 3) := by decide +kernel
theorem dX0_certainThings_37 : decode cX0_certainThings 37 = .ok (.goto (-33), 3) := by decide +kernel
theorem dX0_certainThings_40 : decode cX0_certainThings 40 = .ok (.iload_n 1, 1) := by decide +kernel
theorem dX0_certainThings_41 : decode cX0_certainThings 41 = .ok (.ireturn, 1) := by decide +kernel
theorem dX0_sumOfBounds_0 : decode cX0_sumOfBounds 0 = .ok (.lconst 0, 1) := by decide +kernel
theorem dX0_sumOfBounds_1 : decode cX0_sumOfBounds 1 = .ok (.lstore_n 2, 1) := by decide +kernel
theorem dX0_sumOfBounds_2 : decode cX0_sumOfBounds 2 = .ok (.iconst 0, 1) := by decide +kernel
theorem dX0_sumOfBounds_3 : decode cX0_sumOfBounds 3 = .ok (.istore 4, 2) := by decide +kernel
theorem dX0_sumOfBounds_5 : decode cX0_sumOfBounds 5 = .ok (.iload 4, 2) := by decide +kernel
theorem dX0_sumOfBounds_7 : decode cX0_sumOfBounds 7 = .ok (.aload_n 0, 1) := by decide +kernel
theorem dX0_sumOfBounds_8 : decode cX0_sumOfBounds 8 = .ok (.getfield 39, 3) := by decide +kernel
theorem dX0_sumOfBounds_11 : decode cX0_sumOfBounds 11 = .ok (.if_icmp .ge 19, 3) := by decide +kernel
theorem dX0_sumOfBounds_14 : decode cX0_sumOfBounds 14 = .ok (.lload_n 2, 1) := by decide +kernel
theorem dX0_sumOfBounds_15 : decode cX0_sumOfBounds 15 = .ok (.aload_n 0, 1) := by decide +kernel
theorem dX0_sumOfBounds_16 : decode cX0_sumOfBounds 16 = .ok (.iload 4, 2) := by decide +kernel
theorem dX0_sumOfBounds_18 : decode cX0_sumOfBounds 18 = .ok (.iload_n 1, 1) := by decide +kernel
theorem dX0_sumOfBounds_19 : decode cX0_sumOfBounds 19 = .ok (.invokevirtual 70, 3) := by decide +kernel
theorem dX0_sumOfBounds_22 : decode cX0_sumOfBounds 22 = .ok (.ladd, 1) := by decide +kernel
theorem dX0_sumOfBounds_23 : decode cX0_sumOfBounds 23 = .ok (.lstore_n 2, 1) := by decide +kernel
theorem dX0_sumOfBounds_24 : decode cX0_sumOfBounds 24 = .ok (.iinc 4 1, 3) := by decide +kernel
theorem dX0_sumOfBounds_27 : decode cX0_sumOfBounds 27 = .ok (.goto (-22), 3) := by decide +kernel
theorem dX0_sumOfBounds_30 : decode cX0_sumOfBounds 30 = .ok (.lload_n 2, 1) := by decide +kernel
theorem dX0_sumOfBounds_31 : decode cX0_sumOfBounds 31 = .ok (.lreturn, 1) := by decide +kernel
theorem dX0_widestThing_0 : decode cX0_widestThing 0 = .ok (.iconst (-1), 1) := by decide +kernel
theorem dX0_widestThing_1 : decode cX0_widestThing 1 = .ok (.istore_n 1, 1) := by decide +kernel
theorem dX0_widestThing_2 : decode cX0_widestThing 2 = .ok (.lconst 0, 1) := by decide +kernel
theorem dX0_widestThing_3 : decode cX0_widestThing 3 = .ok (.lstore_n 2, 1) := by decide +kernel
theorem dX0_widestThing_4 : decode cX0_widestThing 4 = .ok (.iconst 0, 1) := by decide +kernel
theorem dX0_widestThing_5 : decode cX0_widestThing 5 = .ok (.istore 4, 2) := by decide +kernel
theorem dX0_widestThing_7 : decode cX0_widestThing 7 = .ok (.iload 4, 2) := by decide +kernel
theorem dX0_widestThing_9 : decode cX0_widestThing 9 = .ok (.aload_n 0, 1) := by decide +kernel
theorem dX0_widestThing_10 : decode cX0_widestThing 10 = .ok (.getfield 39, 3) := by decide +kernel
theorem dX0_widestThing_13 : decode cX0_widestThing 13 = .ok (.if_icmp .ge 48, 3) := by decide +kernel
theorem dX0_widestThing_16 : decode cX0_widestThing 16 = .ok (.aload_n 0, 1) := by decide +kernel
theorem dX0_widestThing_17 : decode cX0_widestThing 17 = .ok (.getfield 27, 3) := by decide +kernel
theorem dX0_widestThing_20 : decode cX0_widestThing 20 = .ok (.iload 4, 2) := by decide +kernel
theorem dX0_widestThing_22 : decode cX0_widestThing 22 = .ok (.laload, 1) := by decide +kernel
theorem dX0_widestThing_23 : decode cX0_widestThing 23 = .ok (.aload_n 0, 1) := by decide +kernel
theorem dX0_widestThing_24 : decode cX0_widestThing 24 = .ok (.getfield 24, 3) := by decide +kernel
theorem dX0_widestThing_27 : decode cX0_widestThing 27 = .ok (.iload 4, 2) := by decide +kernel
theorem dX0_widestThing_29 : decode cX0_widestThing 29 = .ok (.laload, 1) := by decide +kernel
theorem dX0_widestThing_30 : decode cX0_widestThing 30 = .ok (.lsub, 1) := by decide +kernel
theorem dX0_widestThing_31 : decode cX0_widestThing 31 = .ok (.lload_n 2, 1) := by decide +kernel
theorem dX0_widestThing_32 : decode cX0_widestThing 32 = .ok (.lcmp, 1) := by decide +kernel
theorem dX0_widestThing_33 : decode cX0_widestThing 33 = .ok (.ifCond .le 22, 3) := by decide +kernel
theorem dX0_widestThing_36 : decode cX0_widestThing 36 = .ok (.aload_n 0, 1) := by decide +kernel
theorem dX0_widestThing_37 : decode cX0_widestThing 37 = .ok (.getfield 27, 3) := by decide +kernel
theorem dX0_widestThing_40 : decode cX0_widestThing 40 = .ok (.iload 4, 2) := by decide +kernel
theorem dX0_widestThing_42 : decode cX0_widestThing 42 = .ok (.laload, 1) := by decide +kernel
theorem dX0_widestThing_43 : decode cX0_widestThing 43 = .ok (.aload_n 0, 1) := by decide +kernel
theorem dX0_widestThing_44 : decode cX0_widestThing 44 = .ok (.getfield 24, 3) := by decide +kernel
theorem dX0_widestThing_47 : decode cX0_widestThing 47 = .ok (.iload 4, 2) := by decide +kernel
theorem dX0_widestThing_49 : decode cX0_widestThing 49 = .ok (.laload, 1) := by decide +kernel
theorem dX0_widestThing_50 : decode cX0_widestThing 50 = .ok (.lsub, 1) := by decide +kernel
theorem dX0_widestThing_51 : decode cX0_widestThing 51 = .ok (.lstore_n 2, 1) := by decide +kernel
theorem dX0_widestThing_52 : decode cX0_widestThing 52 = .ok (.iload 4, 2) := by decide +kernel
theorem dX0_widestThing_54 : decode cX0_widestThing 54 = .ok (.istore_n 1, 1) := by decide +kernel
theorem dX0_widestThing_55 : decode cX0_widestThing 55 = .ok (.iinc 4 1, 3) := by decide +kernel
theorem dX0_widestThing_58 : decode cX0_widestThing 58 = .ok (.goto (-51), 3) := by decide +kernel
theorem dX0_widestThing_61 : decode cX0_widestThing 61 = .ok (.iload_n 1, 1) := by decide +kernel
theorem dX0_widestThing_62 : decode cX0_widestThing 62 = .ok (.ireturn, 1) := by decide +kernel
theorem dX1_init_0 : decode cX1_init 0 = .ok (.aload_n 0, 1) := by decide +kernel
theorem dX1_init_1 : decode cX1_init 1 = .ok (.invokespecial 3, 3) := by decide +kernel
theorem dX1_init_4 : decode cX1_init 4 = .ok (.aload_n 0, 1) := by decide +kernel
theorem dX1_init_5 : decode cX1_init 5 = .ok (.bipush 16, 2) := by decide +kernel
theorem dX1_init_7 : decode cX1_init 7 = .ok (.newarray .long, 2) := by decide +kernel
theorem dX1_init_9 : decode cX1_init 9 = .ok (.putfield 9, 3) := by decide +kernel
theorem dX1_init_12 : decode cX1_init 12 = .ok (.aload_n 0, 1) := by decide +kernel
theorem dX1_init_13 : decode cX1_init 13 = .ok (.bipush 24, 2) := by decide +kernel
theorem dX1_init_15 : decode cX1_init 15 = .ok (.newarray .int, 2) := by decide +kernel
theorem dX1_init_17 : decode cX1_init 17 = .ok (.putfield 15, 3) := by decide +kernel
theorem dX1_init_20 : decode cX1_init 20 = .ok (.aload_n 0, 1) := by decide +kernel
theorem dX1_init_21 : decode cX1_init 21 = .ok (.bipush 24, 2) := by decide +kernel
theorem dX1_init_23 : decode cX1_init 23 = .ok (.newarray .int, 2) := by decide +kernel
theorem dX1_init_25 : decode cX1_init 25 = .ok (.putfield 19, 3) := by decide +kernel
theorem dX1_init_28 : decode cX1_init 28 = .ok (.aload_n 0, 1) := by decide +kernel
theorem dX1_init_29 : decode cX1_init 29 = .ok (.bipush 16, 2) := by decide +kernel
theorem dX1_init_31 : decode cX1_init 31 = .ok (.newarray .long, 2) := by decide +kernel
theorem dX1_init_33 : decode cX1_init 33 = .ok (.putfield 22, 3) := by decide +kernel
theorem dX1_init_36 : decode cX1_init 36 = .ok (.return_, 1) := by decide +kernel
theorem dX1_copyFrom_0 : decode cX1_copyFrom 0 = .ok (.aload_n 1, 1) := by decide +kernel
theorem dX1_copyFrom_1 : decode cX1_copyFrom 1 = .ok (.getfield 9, 3) := by decide +kernel
theorem dX1_copyFrom_4 : decode cX1_copyFrom 4 = .ok (.iconst 0, 1) := by decide +kernel
theorem dX1_copyFrom_5 : decode cX1_copyFrom 5 = .ok (.aload_n 0, 1) := by decide +kernel
theorem dX1_copyFrom_6 : decode cX1_copyFrom 6 = .ok (.getfield 9, 3) := by decide +kernel
theorem dX1_copyFrom_9 : decode cX1_copyFrom 9 = .ok (.iconst 0, 1) := by decide +kernel
theorem dX1_copyFrom_10 : decode cX1_copyFrom 10 = .ok (.bipush 16, 2) := by decide +kernel
theorem dX1_copyFrom_12 : decode cX1_copyFrom 12 = .ok (.invokestatic 25, 3) := by decide +kernel
theorem dX1_copyFrom_15 : decode cX1_copyFrom 15 = .ok (.aload_n 1, 1) := by decide +kernel
theorem dX1_copyFrom_16 : decode cX1_copyFrom 16 = .ok (.getfield 15, 3) := by decide +kernel
theorem dX1_copyFrom_19 : decode cX1_copyFrom 19 = .ok (.iconst 0, 1) := by decide +kernel
theorem dX1_copyFrom_20 : decode cX1_copyFrom 20 = .ok (.aload_n 0, 1) := by decide +kernel
theorem dX1_copyFrom_21 : decode cX1_copyFrom 21 = .ok (.getfield 15, 3) := by decide +kernel
theorem dX1_copyFrom_24 : decode cX1_copyFrom 24 = .ok (.iconst 0, 1) := by decide +kernel
theorem dX1_copyFrom_25 : decode cX1_copyFrom 25 = .ok (.bipush 24, 2) := by decide +kernel
theorem dX1_copyFrom_27 : decode cX1_copyFrom 27 = .ok (.invokestatic 25, 3) := by decide +kernel
theorem dX1_copyFrom_30 : decode cX1_copyFrom 30 = .ok (.aload_n 1, 1) := by decide +kernel
theorem dX1_copyFrom_31 : decode cX1_copyFrom 31 = .ok (.getfield 19, 3) := by decide +kernel
theorem dX1_copyFrom_34 : decode cX1_copyFrom 34 = .ok (.iconst 0, 1) := by decide +kernel
theorem dX1_copyFrom_35 : decode cX1_copyFrom 35 = .ok (.aload_n 0, 1) := by decide +kernel
theorem dX1_copyFrom_36 : decode cX1_copyFrom 36 = .ok (.getfield 19, 3) := by decide +kernel
theorem dX1_copyFrom_39 : decode cX1_copyFrom 39 = .ok (.iconst 0, 1) := by decide +kernel
theorem dX1_copyFrom_40 : decode cX1_copyFrom 40 = .ok (.bipush 24, 2) := by decide +kernel
theorem dX1_copyFrom_42 : decode cX1_copyFrom 42 = .ok (.invokestatic 25, 3) := by decide +kernel
theorem dX1_copyFrom_45 : decode cX1_copyFrom 45 = .ok (.aload_n 1, 1) := by decide +kernel
theorem dX1_copyFrom_46 : decode cX1_copyFrom 46 = .ok (.getfield 22, 3) := by decide +kernel
theorem dX1_copyFrom_49 : decode cX1_copyFrom 49 = .ok (.iconst 0, 1) := by decide +kernel
theorem dX1_copyFrom_50 : decode cX1_copyFrom 50 = .ok (.aload_n 0, 1) := by decide +kernel
theorem dX1_copyFrom_51 : decode cX1_copyFrom 51 = .ok (.getfield 22, 3) := by decide +kernel
theorem dX1_copyFrom_54 : decode cX1_copyFrom 54 = .ok (.iconst 0, 1) := by decide +kernel
theorem dX1_copyFrom_55 : decode cX1_copyFrom 55 = .ok (.bipush 16, 2) := by decide +kernel
theorem dX1_copyFrom_57 : decode cX1_copyFrom 57 = .ok (.invokestatic 25, 3) := by decide +kernel
theorem dX1_copyFrom_60 : decode cX1_copyFrom 60 = .ok (.return_, 1) := by decide +kernel
theorem dX1_empty_0 : decode cX1_empty 0 = .ok (.aload_n 0, 1) := by decide +kernel
theorem dX1_empty_1 : decode cX1_empty 1 = .ok (.getfield 9, 3) := by decide +kernel
theorem dX1_empty_4 : decode cX1_empty 4 = .ok (.lconst 0, 1) := by decide +kernel
theorem dX1_empty_5 : decode cX1_empty 5 = .ok (.invokestatic 31, 3) := by decide +kernel
theorem dX1_empty_8 : decode cX1_empty 8 = .ok (.aload_n 0, 1) := by decide +kernel
theorem dX1_empty_9 : decode cX1_empty 9 = .ok (.getfield 15, 3) := by decide +kernel
theorem dX1_empty_12 : decode cX1_empty 12 = .ok (.iconst 0, 1) := by decide +kernel
theorem dX1_empty_13 : decode cX1_empty 13 = .ok (.invokestatic 37, 3) := by decide +kernel
theorem dX1_empty_16 : decode cX1_empty 16 = .ok (.aload_n 0, 1) := by decide +kernel
theorem dX1_empty_17 : decode cX1_empty 17 = .ok (.getfield 19, 3) := by decide +kernel
theorem dX1_empty_20 : decode cX1_empty 20 = .ok (.iconst 0, 1) := by decide +kernel
theorem dX1_empty_21 : decode cX1_empty 21 = .ok (.invokestatic 37, 3) := by decide +kernel
theorem dX1_empty_24 : decode cX1_empty 24 = .ok (.aload_n 0, 1) := by decide +kernel
theorem dX1_empty_25 : decode cX1_empty 25 = .ok (.getfield 22, 3) := by decide +kernel
theorem dX1_empty_28 : decode cX1_empty 28 = .ok (.lconst 0, 1) := by decide +kernel
theorem dX1_empty_29 : decode cX1_empty 29 = .ok (.invokestatic 31, 3) := by decide +kernel
theorem dX1_empty_32 : decode cX1_empty 32 = .ok (.return_, 1) := by decide +kernel
theorem dX1_raise_0 : decode cX1_raise 0 = .ok (.aload_n 0, 1) := by decide +kernel
theorem dX1_raise_1 : decode cX1_raise 1 = .ok (.getfield 15, 3) := by decide +kernel
theorem dX1_raise_4 : decode cX1_raise 4 = .ok (.iload_n 2, 1) := by decide +kernel
theorem dX1_raise_5 : decode cX1_raise 5 = .ok (.iaload, 1) := by decide +kernel
theorem dX1_raise_6 : decode cX1_raise 6 = .ok (.i2l, 1) := by decide +kernel
theorem dX1_raise_7 : decode cX1_raise 7 = .ok (.lload_n 3, 1) := by decide +kernel
theorem dX1_raise_8 : decode cX1_raise 8 = .ok (.ladd, 1) := by decide +kernel
theorem dX1_raise_9 : decode cX1_raise 9 = .ok (.lstore 5, 2) := by decide +kernel
theorem dX1_raise_11 : decode cX1_raise 11 = .ok (.lload 5, 2) := by decide +kernel
theorem dX1_raise_13 : decode cX1_raise 13 = .ok (.aload_n 1, 1) := by decide +kernel
theorem dX1_raise_14 : decode cX1_raise 14 = .ok (.getfield 40, 3) := by decide +kernel
theorem dX1_raise_17 : decode cX1_raise 17 = .ok (.lshr, 1) := by decide +kernel
theorem dX1_raise_18 : decode cX1_raise 18 = .ok (.lstore 7, 2) := by decide +kernel
theorem dX1_raise_20 : decode cX1_raise 20 = .ok (.aload_n 0, 1) := by decide +kernel
theorem dX1_raise_21 : decode cX1_raise 21 = .ok (.getfield 15, 3) := by decide +kernel
theorem dX1_raise_24 : decode cX1_raise 24 = .ok (.iload_n 2, 1) := by decide +kernel
theorem dX1_raise_25 : decode cX1_raise 25 = .ok (.lload 5, 2) := by decide +kernel
theorem dX1_raise_27 : decode cX1_raise 27 = .ok (.lload 7, 2) := by decide +kernel
theorem dX1_raise_29 : decode cX1_raise 29 = .ok (.aload_n 1, 1) := by decide +kernel
theorem dX1_raise_30 : decode cX1_raise 30 = .ok (.getfield 40, 3) := by decide +kernel
theorem dX1_raise_33 : decode cX1_raise 33 = .ok (.lshl, 1) := by decide +kernel
theorem dX1_raise_34 : decode cX1_raise 34 = .ok (.lsub, 1) := by decide +kernel
theorem dX1_raise_35 : decode cX1_raise 35 = .ok (.l2i, 1) := by decide +kernel
theorem dX1_raise_36 : decode cX1_raise 36 = .ok (.iastore, 1) := by decide +kernel
theorem dX1_raise_37 : decode cX1_raise 37 = .ok (.lload 7, 2) := by decide +kernel
theorem dX1_raise_39 : decode cX1_raise 39 = .ok (.lconst 0, 1) := by decide +kernel
theorem dX1_raise_40 : decode cX1_raise 40 = .ok (.lcmp, 1) := by decide +kernel
theorem dX1_raise_41 : decode cX1_raise 41 = .ok (.ifCond .le 21, 3) := by decide +kernel
theorem dX1_raise_44 : decode cX1_raise 44 = .ok (.aload_n 0, 1) := by decide +kernel
theorem dX1_raise_45 : decode cX1_raise 45 = .ok (.getfield 19, 3) := by decide +kernel
theorem dX1_raise_48 : decode cX1_raise 48 = .ok (.iload_n 2, 1) := by decide +kernel
theorem dX1_raise_49 : decode cX1_raise 49 = .ok (.iconst 1, 1) := by decide +kernel
theorem dX1_raise_50 : decode cX1_raise 50 = .ok (.iastore, 1) := by decide +kernel
theorem dX1_raise_51 : decode cX1_raise 51 = .ok (.aload_n 0, 1) := by decide +kernel
theorem dX1_raise_52 : decode cX1_raise 52 = .ok (.aload_n 1, 1) := by decide +kernel
theorem dX1_raise_53 : decode cX1_raise 53 = .ok (.iload_n 2, 1) := by decide +kernel
theorem dX1_raise_54 : decode cX1_raise 54 = .ok (.invokevirtual 46, 3) := by decide +kernel
theorem dX1_raise_57 : decode cX1_raise 57 = .ok (.lload 7, 2) := by decide +kernel
theorem dX1_raise_59 : decode cX1_raise 59 = .ok (.invokevirtual 50, 3) := by decide +kernel
theorem dX1_raise_62 : decode cX1_raise 62 = .ok (.return_, 1) := by decide +kernel
theorem dX1_raiseNumbers_0 : decode cX1_raiseNumbers 0 = .ok (.iconst 0, 1) := by decide +kernel
theorem dX1_raiseNumbers_1 : decode cX1_raiseNumbers 1 = .ok (.istore 4, 2) := by decide +kernel
theorem dX1_raiseNumbers_3 : decode cX1_raiseNumbers 3 = .ok (.iload 4, 2) := by decide +kernel
theorem dX1_raiseNumbers_5 : decode cX1_raiseNumbers 5 = .ok (.bipush 16, 2) := by decide +kernel
theorem dX1_raiseNumbers_7 : decode cX1_raiseNumbers 7 = .ok (.if_icmp .ge 29, 3) := by decide +kernel
theorem dX1_raiseNumbers_10 : decode cX1_raiseNumbers 10 = .ok (.iload_n 1, 1) := by decide +kernel
theorem dX1_raiseNumbers_11 : decode cX1_raiseNumbers 11 = .ok (.iload 4, 2) := by decide +kernel
theorem dX1_raiseNumbers_13 : decode cX1_raiseNumbers 13 = .ok (.invokestatic 54, 3) := by decide +kernel
theorem dX1_raiseNumbers_16 : decode cX1_raiseNumbers 16 = .ok (.ifCond .eq 14, 3) := by decide +kernel
theorem dX1_raiseNumbers_19 : decode cX1_raiseNumbers 19 = .ok (.aload_n 0, 1) := by decide +kernel
theorem dX1_raiseNumbers_20 : decode cX1_raiseNumbers 20 = .ok (.getfield 22, 3) := by decide +kernel
theorem dX1_raiseNumbers_23 : decode cX1_raiseNumbers 23 = .ok (.iload 4, 2) := by decide +kernel
theorem dX1_raiseNumbers_25 : decode cX1_raiseNumbers 25 = .ok (.dup2, 1) := by decide +kernel
theorem dX1_raiseNumbers_26 : decode cX1_raiseNumbers 26 = .ok (.laload, 1) := by decide +kernel
theorem dX1_raiseNumbers_27 : decode cX1_raiseNumbers 27 = .ok (.lload_n 2, 1) := by decide +kernel
theorem dX1_raiseNumbers_28 : decode cX1_raiseNumbers 28 = .ok (.ladd, 1) := by decide +kernel
theorem dX1_raiseNumbers_29 : decode cX1_raiseNumbers 29 = .ok (.lastore, 1) := by decide +kernel
theorem dX1_raiseNumbers_30 : decode cX1_raiseNumbers 30 = .ok (.iinc 4 1, 3) := by decide +kernel
theorem dX1_raiseNumbers_33 : decode cX1_raiseNumbers 33 = .ok (.goto (-30), 3) := by decide +kernel
theorem dX1_raiseNumbers_36 : decode cX1_raiseNumbers 36 = .ok (.return_, 1) := by decide +kernel
theorem dX1_hasRoomFor_0 : decode cX1_hasRoomFor 0 = .ok (.iconst 0, 1) := by decide +kernel
theorem dX1_hasRoomFor_1 : decode cX1_hasRoomFor 1 = .ok (.istore_n 2, 1) := by decide +kernel
theorem dX1_hasRoomFor_2 : decode cX1_hasRoomFor 2 = .ok (.iload_n 2, 1) := by decide +kernel
theorem dX1_hasRoomFor_3 : decode cX1_hasRoomFor 3 = .ok (.bipush 16, 2) := by decide +kernel
theorem dX1_hasRoomFor_5 : decode cX1_hasRoomFor 5 = .ok (.if_icmp .ge 31, 3) := by decide +kernel
theorem dX1_hasRoomFor_8 : decode cX1_hasRoomFor 8 = .ok (.aload_n 0, 1) := by decide +kernel
theorem dX1_hasRoomFor_9 : decode cX1_hasRoomFor 9 = .ok (.getfield 9, 3) := by decide +kernel
theorem dX1_hasRoomFor_12 : decode cX1_hasRoomFor 12 = .ok (.iload_n 2, 1) := by decide +kernel
theorem dX1_hasRoomFor_13 : decode cX1_hasRoomFor 13 = .ok (.laload, 1) := by decide +kernel
theorem dX1_hasRoomFor_14 : decode cX1_hasRoomFor 14 = .ok (.aload_n 1, 1) := by decide +kernel
theorem dX1_hasRoomFor_15 : decode cX1_hasRoomFor 15 = .ok (.getfield 9, 3) := by decide +kernel
theorem dX1_hasRoomFor_18 : decode cX1_hasRoomFor 18 = .ok (.iload_n 2, 1) := by decide +kernel
theorem dX1_hasRoomFor_19 : decode cX1_hasRoomFor 19 = .ok (.laload, 1) := by decide +kernel
theorem dX1_hasRoomFor_20 : decode cX1_hasRoomFor 20 = .ok (.ladd, 1) := by decide +kernel
theorem dX1_hasRoomFor_21 : decode cX1_hasRoomFor 21 = .ok (.ldc2_w 58, 3) := by decide +kernel
theorem dX1_hasRoomFor_24 : decode cX1_hasRoomFor 24 = .ok (.lcmp, 1) := by decide +kernel
theorem dX1_hasRoomFor_25 : decode cX1_hasRoomFor 25 = .ok (.ifCond .le 5, 3) := by decide +kernel
theorem dX1_hasRoomFor_28 : decode cX1_hasRoomFor 28 = .ok (.iconst 0, 1) := by decide +kernel
theorem dX1_hasRoomFor_29 : decode cX1_hasRoomFor 29 = .ok (.ireturn, 1) := by decide +kernel
theorem dX1_hasRoomFor_30 : decode cX1_hasRoomFor 30 = .ok (.iinc 2 1, 3) := by decide +kernel
theorem dX1_hasRoomFor_33 : decode cX1_hasRoomFor 33 = .ok (.goto (-31), 3) := by decide +kernel
theorem dX1_hasRoomFor_36 : decode cX1_hasRoomFor 36 = .ok (.iconst 1, 1) := by decide +kernel
theorem dX1_hasRoomFor_37 : decode cX1_hasRoomFor 37 = .ok (.ireturn, 1) := by decide +kernel
theorem dX1_join_0 : decode cX1_join 0 = .ok (.iconst 0, 1) := by decide +kernel
theorem dX1_join_1 : decode cX1_join 1 = .ok (.istore_n 3, 1) := by decide +kernel
theorem dX1_join_2 : decode cX1_join 2 = .ok (.iconst 0, 1) := by decide +kernel
theorem dX1_join_3 : decode cX1_join 3 = .ok (.istore 4, 2) := by decide +kernel
theorem dX1_join_5 : decode cX1_join 5 = .ok (.iload 4, 2) := by decide +kernel
theorem dX1_join_7 : decode cX1_join 7 = .ok (.bipush 16, 2) := by decide +kernel
theorem dX1_join_9 : decode cX1_join 9 = .ok (.if_icmp .ge 26, 3) := by decide +kernel
theorem dX1_join_12 : decode cX1_join 12 = .ok (.aload_n 0, 1) := by decide +kernel
theorem dX1_join_13 : decode cX1_join 13 = .ok (.getfield 22, 3) := by decide +kernel
theorem dX1_join_16 : decode cX1_join 16 = .ok (.iload 4, 2) := by decide +kernel
theorem dX1_join_18 : decode cX1_join 18 = .ok (.dup2, 1) := by decide +kernel
theorem dX1_join_19 : decode cX1_join 19 = .ok (.laload, 1) := by decide +kernel
theorem dX1_join_20 : decode cX1_join 20 = .ok (.aload_n 2, 1) := by decide +kernel
theorem dX1_join_21 : decode cX1_join 21 = .ok (.getfield 22, 3) := by decide +kernel
theorem dX1_join_24 : decode cX1_join 24 = .ok (.iload 4, 2) := by decide +kernel
theorem dX1_join_26 : decode cX1_join 26 = .ok (.laload, 1) := by decide +kernel
theorem dX1_join_27 : decode cX1_join 27 = .ok (.ladd, 1) := by decide +kernel
theorem dX1_join_28 : decode cX1_join 28 = .ok (.lastore, 1) := by decide +kernel
theorem dX1_join_29 : decode cX1_join 29 = .ok (.iinc 4 1, 3) := by decide +kernel
theorem dX1_join_32 : decode cX1_join 32 = .ok (.goto (-27), 3) := by decide +kernel
theorem dX1_join_35 : decode cX1_join 35 = .ok (.iconst 0, 1) := by decide +kernel
theorem dX1_join_36 : decode cX1_join 36 = .ok (.istore 4, 2) := by decide +kernel
theorem dX1_join_38 : decode cX1_join 38 = .ok (.iload 4, 2) := by decide +kernel
theorem dX1_join_40 : decode cX1_join 40 = .ok (.bipush 24, 2) := by decide +kernel
theorem dX1_join_42 : decode cX1_join 42 = .ok (.if_icmp .ge 70, 3) := by decide +kernel
theorem dX1_join_45 : decode cX1_join 45 = .ok (.aload_n 0, 1) := by decide +kernel
theorem dX1_join_46 : decode cX1_join 46 = .ok (.getfield 19, 3) := by decide +kernel
theorem dX1_join_49 : decode cX1_join 49 = .ok (.iload 4, 2) := by decide +kernel
theorem dX1_join_51 : decode cX1_join 51 = .ok (.iaload, 1) := by decide +kernel
theorem dX1_join_52 : decode cX1_join 52 = .ok (.istore 5, 2) := by decide +kernel
theorem dX1_join_54 : decode cX1_join 54 = .ok (.aload_n 0, 1) := by decide +kernel
theorem dX1_join_55 : decode cX1_join 55 = .ok (.aload_n 1, 1) := by decide +kernel
theorem dX1_join_56 : decode cX1_join 56 = .ok (.iload 4, 2) := by decide +kernel
theorem dX1_join_58 : decode cX1_join 58 = .ok (.aload_n 2, 1) := by decide +kernel
theorem dX1_join_59 : decode cX1_join 59 = .ok (.getfield 15, 3) := by decide +kernel
theorem dX1_join_62 : decode cX1_join 62 = .ok (.iload 4, 2) := by decide +kernel
theorem dX1_join_64 : decode cX1_join 64 = .ok (.iaload, 1) := by decide +kernel
theorem dX1_join_65 : decode cX1_join 65 = .ok (.i2l, 1) := by decide +kernel
theorem dX1_join_66 : decode cX1_join 66 = .ok (.invokevirtual 60, 3) := by decide +kernel
theorem dX1_join_69 : decode cX1_join 69 = .ok (.aload_n 0, 1) := by decide +kernel
theorem dX1_join_70 : decode cX1_join 70 = .ok (.getfield 19, 3) := by decide +kernel
theorem dX1_join_73 : decode cX1_join 73 = .ok (.iload 4, 2) := by decide +kernel
theorem dX1_join_75 : decode cX1_join 75 = .ok (.aload_n 0, 1) := by decide +kernel
theorem dX1_join_76 : decode cX1_join 76 = .ok (.getfield 19, 3) := by decide +kernel
theorem dX1_join_79 : decode cX1_join 79 = .ok (.iload 4, 2) := by decide +kernel
theorem dX1_join_81 : decode cX1_join 81 = .ok (.iaload, 1) := by decide +kernel
theorem dX1_join_82 : decode cX1_join 82 = .ok (.aload_n 2, 1) := by decide +kernel
theorem dX1_join_83 : decode cX1_join 83 = .ok (.getfield 19, 3) := by decide +kernel
theorem dX1_join_86 : decode cX1_join 86 = .ok (.iload 4, 2) := by decide +kernel
theorem dX1_join_88 : decode cX1_join 88 = .ok (.iaload, 1) := by decide +kernel
theorem dX1_join_89 : decode cX1_join 89 = .ok (.invokestatic 64, 3) := by decide +kernel
theorem dX1_join_92 : decode cX1_join 92 = .ok (.iastore, 1) := by decide +kernel
theorem dX1_join_93 : decode cX1_join 93 = .ok (.iload_n 3, 1) := by decide +kernel
theorem dX1_join_94 : decode cX1_join 94 = .ok (.aload_n 0, 1) := by decide +kernel
theorem dX1_join_95 : decode cX1_join 95 = .ok (.getfield 19, 3) := by decide +kernel
