theorem dX7_init_0 : decode cX7_init 0 = .ok (.aload_n 0, 1) := by decide +kernel
theorem dX7_init_1 : decode cX7_init 1 = .ok (.invokespecial 1, 3) := by decide +kernel
theorem dX7_init_4 : decode cX7_init 4 = .ok (.aload_n 0, 1) := by decide +kernel
theorem dX7_init_5 : decode cX7_init 5 = .ok (.sipush 131, 3) := by decide +kernel
theorem dX7_init_8 : decode cX7_init 8 = .ok (.newarray .int, 2) := by decide +kernel
theorem dX7_init_10 : decode cX7_init 10 = .ok (.putfield 7, 3) := by decide +kernel
theorem dX7_init_13 : decode cX7_init 13 = .ok (.aload_n 0, 1) := by decide +kernel
theorem dX7_init_14 : decode cX7_init 14 = .ok (.sipush 1048, 3) := by decide +kernel
theorem dX7_init_17 : decode cX7_init 17 = .ok (.newarray .int, 2) := by decide +kernel
theorem dX7_init_19 : decode cX7_init 19 = .ok (.putfield 13, 3) := by decide +kernel
theorem dX7_init_22 : decode cX7_init 22 = .ok (.aload_n 0, 1) := by decide +kernel
theorem dX7_init_23 : decode cX7_init 23 = .ok (.sipush 262, 3) := by decide +kernel
theorem dX7_init_26 : decode cX7_init 26 = .ok (.newarray .int, 2) := by decide +kernel
theorem dX7_init_28 : decode cX7_init 28 = .ok (.putfield 16, 3) := by decide +kernel
theorem dX7_init_31 : decode cX7_init 31 = .ok (.aload_n 0, 1) := by decide +kernel
theorem dX7_init_32 : decode cX7_init 32 = .ok (.iconst 2, 1) := by decide +kernel
theorem dX7_init_33 : decode cX7_init 33 = .ok (.newarray .int, 2) := by decide +kernel
theorem dX7_init_35 : decode cX7_init 35 = .ok (.putfield 19, 3) := by decide +kernel
theorem dX7_init_38 : decode cX7_init 38 = .ok (.aload_n 0, 1) := by decide +kernel
theorem dX7_init_39 : decode cX7_init 39 = .ok (.sipush 131, 3) := by decide +kernel
theorem dX7_init_42 : decode cX7_init 42 = .ok (.newarray .int, 2) := by decide +kernel
theorem dX7_init_44 : decode cX7_init 44 = .ok (.putfield 22, 3) := by decide +kernel
theorem dX7_init_47 : decode cX7_init 47 = .ok (.aload_n 0, 1) := by decide +kernel
theorem dX7_init_48 : decode cX7_init 48 = .ok (.bipush 20, 2) := by decide +kernel
theorem dX7_init_50 : decode cX7_init 50 = .ok (.newarray .int, 2) := by decide +kernel
theorem dX7_init_52 : decode cX7_init 52 = .ok (.putfield 25, 3) := by decide +kernel
theorem dX7_init_55 : decode cX7_init 55 = .ok (.aload_n 0, 1) := by decide +kernel
theorem dX7_init_56 : decode cX7_init 56 = .ok (.bipush 20, 2) := by decide +kernel
theorem dX7_init_58 : decode cX7_init 58 = .ok (.newarray .int, 2) := by decide +kernel
theorem dX7_init_60 : decode cX7_init 60 = .ok (.putfield 28, 3) := by decide +kernel
theorem dX7_init_63 : decode cX7_init 63 = .ok (.iconst 0, 1) := by decide +kernel
theorem dX7_init_64 : decode cX7_init 64 = .ok (.istore_n 1, 1) := by decide +kernel
theorem dX7_init_65 : decode cX7_init 65 = .ok (.iload_n 1, 1) := by decide +kernel
theorem dX7_init_66 : decode cX7_init 66 = .ok (.bipush 110, 2) := by decide +kernel
theorem dX7_init_68 : decode cX7_init 68 = .ok (.if_icmp .ge 17, 3) := by decide +kernel
theorem dX7_init_71 : decode cX7_init 71 = .ok (.aload_n 0, 1) := by decide +kernel
theorem dX7_init_72 : decode cX7_init 72 = .ok (.getfield 7, 3) := by decide +kernel
theorem dX7_init_75 : decode cX7_init 75 = .ok (.iload_n 1, 1) := by decide +kernel
theorem dX7_init_76 : decode cX7_init 76 = .ok (.ldc 31, 2) := by decide +kernel
theorem dX7_init_78 : decode cX7_init 78 = .ok (.iastore, 1) := by decide +kernel
theorem dX7_init_79 : decode cX7_init 79 = .ok (.iinc 1 1, 3) := by decide +kernel
theorem dX7_init_82 : decode cX7_init 82 = .ok (.goto (-17), 3) := by decide +kernel
theorem dX7_init_85 : decode cX7_init 85 = .ok (.iconst 0, 1) := by decide +kernel
theorem dX7_init_86 : decode cX7_init 86 = .ok (.istore_n 1, 1) := by decide +kernel
theorem dX7_init_87 : decode cX7_init 87 = .ok (.iload_n 1, 1) := by decide +kernel
theorem dX7_init_88 : decode cX7_init 88 = .ok (.iconst 5, 1) := by decide +kernel
theorem dX7_init_89 : decode cX7_init 89 = .ok (.if_icmp .ge 16, 3) := by decide +kernel
theorem dX7_init_92 : decode cX7_init 92 = .ok (.aload_n 0, 1) := by decide +kernel
theorem dX7_init_93 : decode cX7_init 93 = .ok (.getfield 7, 3) := by decide +kernel
theorem dX7_init_96 : decode cX7_init 96 = .ok (.iload_n 1, 1) := by decide +kernel
theorem dX7_init_97 : decode cX7_init 97 = .ok (.iconst 0, 1) := by decide +kernel
theorem dX7_init_98 : decode cX7_init 98 = .ok (.iastore, 1) := by decide +kernel
theorem dX7_init_99 : decode cX7_init 99 = .ok (.iinc 1 1, 3) := by decide +kernel
theorem dX7_init_102 : decode cX7_init 102 = .ok (.goto (-15), 3) := by decide +kernel
theorem dX7_init_105 : decode cX7_init 105 = .ok (.aload_n 0, 1) := by decide +kernel
theorem dX7_init_106 : decode cX7_init 106 = .ok (.getfield 7, 3) := by decide +kernel
theorem dX7_init_109 : decode cX7_init 109 = .ok (.iconst 5, 1) := by decide +kernel
theorem dX7_init_110 : decode cX7_init 110 = .ok (.iconst 1, 1) := by decide +kernel
theorem dX7_init_111 : decode cX7_init 111 = .ok (.iastore, 1) := by decide +kernel
theorem dX7_init_112 : decode cX7_init 112 = .ok (.aload_n 0, 1) := by decide +kernel
theorem dX7_init_113 : decode cX7_init 113 = .ok (.getfield 7, 3) := by decide +kernel
theorem dX7_init_116 : decode cX7_init 116 = .ok (.bipush 115, 2) := by decide +kernel
theorem dX7_init_118 : decode cX7_init 118 = .ok (.iconst 1, 1) := by decide +kernel
theorem dX7_init_119 : decode cX7_init 119 = .ok (.iastore, 1) := by decide +kernel
theorem dX7_init_120 : decode cX7_init 120 = .ok (.aload_n 0, 1) := by decide +kernel
theorem dX7_init_121 : decode cX7_init 121 = .ok (.getfield 7, 3) := by decide +kernel
theorem dX7_init_124 : decode cX7_init 124 = .ok (.bipush 126, 2) := by decide +kernel
theorem dX7_init_126 : decode cX7_init 126 = .ok (.bipush (-9), 2) := by decide +kernel
theorem dX7_init_128 : decode cX7_init 128 = .ok (.iastore, 1) := by decide +kernel
theorem dX7_init_129 : decode cX7_init 129 = .ok (.aload_n 0, 1) := by decide +kernel
theorem dX7_init_130 : decode cX7_init 130 = .ok (.getfield 7, 3) := by decide +kernel
theorem dX7_init_133 : decode cX7_init 133 = .ok (.bipush 127, 2) := by decide +kernel
theorem dX7_init_135 : decode cX7_init 135 = .ok (.sipush 150, 3) := by decide +kernel
theorem dX7_init_138 : decode cX7_init 138 = .ok (.iastore, 1) := by decide +kernel
theorem dX7_init_139 : decode cX7_init 139 = .ok (.aload_n 0, 1) := by decide +kernel
theorem dX7_init_140 : decode cX7_init 140 = .ok (.getfield 7, 3) := by decide +kernel
theorem dX7_init_143 : decode cX7_init 143 = .ok (.sipush 128, 3) := by decide +kernel
theorem dX7_init_146 : decode cX7_init 146 = .ok (.sipush 250, 3) := by decide +kernel
theorem dX7_init_149 : decode cX7_init 149 = .ok (.iastore, 1) := by decide +kernel
theorem dX7_init_150 : decode cX7_init 150 = .ok (.aload_n 0, 1) := by decide +kernel
theorem dX7_init_151 : decode cX7_init 151 = .ok (.getfield 7, 3) := by decide +kernel
theorem dX7_init_154 : decode cX7_init 154 = .ok (.sipush 129, 3) := by decide +kernel
theorem dX7_init_157 : decode cX7_init 157 = .ok (.sipush 400, 3) := by decide +kernel
theorem dX7_init_160 : decode cX7_init 160 = .ok (.iastore, 1) := by decide +kernel
theorem dX7_init_161 : decode cX7_init 161 = .ok (.aload_n 0, 1) := by decide +kernel
theorem dX7_init_162 : decode cX7_init 162 = .ok (.getfield 7, 3) := by decide +kernel
theorem dX7_init_165 : decode cX7_init 165 = .ok (.sipush 130, 3) := by decide +kernel
theorem dX7_init_168 : decode cX7_init 168 = .ok (.sipush 800, 3) := by decide +kernel
theorem dX7_init_171 : decode cX7_init 171 = .ok (.iastore, 1) := by decide +kernel
theorem dX7_init_172 : decode cX7_init 172 = .ok (.return_, 1) := by decide +kernel
theorem dX7_isIn_0 : decode cX7_isIn 0 = .ok (.iload_n 0, 1) := by decide +kernel
theorem dX7_isIn_1 : decode cX7_isIn 1 = .ok (.iload_n 1, 1) := by decide +kernel
theorem dX7_isIn_2 : decode cX7_isIn 2 = .ok (.if_icmp .lt 12, 3) := by decide +kernel
theorem dX7_isIn_5 : decode cX7_isIn 5 = .ok (.iload_n 0, 1) := by decide +kernel
theorem dX7_isIn_6 : decode cX7_isIn 6 = .ok (.iload_n 2, 1) := by decide +kernel
theorem dX7_isIn_7 : decode cX7_isIn 7 = .ok (.if_icmp .gt 7, 3) := by decide +kernel
theorem dX7_isIn_10 : decode cX7_isIn 10 = .ok (.iconst 1, 1) := by decide +kernel
theorem dX7_isIn_11 : decode cX7_isIn 11 = .ok (.goto 4, 3) := by decide +kernel
theorem dX7_isIn_14 : decode cX7_isIn 14 = .ok (.iconst 0, 1) := by decide +kernel
theorem dX7_isIn_15 : decode cX7_isIn 15 = .ok (.ireturn, 1) := by decide +kernel
theorem dX7_isSort_0 : decode cX7_isSort 0 = .ok (.iload_n 0, 1) := by decide +kernel
theorem dX7_isSort_1 : decode cX7_isSort 1 = .ok (.iconst 0, 1) := by decide +kernel
theorem dX7_isSort_2 : decode cX7_isSort 2 = .ok (.iconst 3, 1) := by decide +kernel
theorem dX7_isSort_3 : decode cX7_isSort 3 = .ok (.invokestatic 32, 3) := by decide +kernel
theorem dX7_isSort_6 : decode cX7_isSort 6 = .ok (.ireturn, 1) := by decide +kernel
theorem dX7_lengthOf_0 : decode cX7_lengthOf 0 = .ok (.bipush 40, 2) := by decide +kernel
theorem dX7_lengthOf_2 : decode cX7_lengthOf 2 = .ok (.bipush 20, 2) := by decide +kernel
theorem dX7_lengthOf_4 : decode cX7_lengthOf 4 = .ok (.iload_n 0, 1) := by decide +kernel
theorem dX7_lengthOf_5 : decode cX7_lengthOf 5 = .ok (.imul, 1) := by decide +kernel
theorem dX7_lengthOf_6 : decode cX7_lengthOf 6 = .ok (.iadd, 1) := by decide +kernel
theorem dX7_lengthOf_7 : decode cX7_lengthOf 7 = .ok (.ireturn, 1) := by decide +kernel
theorem dX7_at_0 : decode cX7_at 0 = .ok (.aload_n 0, 1) := by decide +kernel
theorem dX7_at_1 : decode cX7_at 1 = .ok (.getfield 7, 3) := by decide +kernel
theorem dX7_at_4 : decode cX7_at 4 = .ok (.bipush 22, 2) := by decide +kernel
theorem dX7_at_6 : decode cX7_at 6 = .ok (.iload_n 1, 1) := by decide +kernel
theorem dX7_at_7 : decode cX7_at 7 = .ok (.imul, 1) := by decide +kernel
theorem dX7_at_8 : decode cX7_at 8 = .ok (.iload_n 2, 1) := by decide +kernel
theorem dX7_at_9 : decode cX7_at 9 = .ok (.iadd, 1) := by decide +kernel
theorem dX7_at_10 : decode cX7_at 10 = .ok (.iaload, 1) := by decide +kernel
theorem dX7_at_11 : decode cX7_at 11 = .ok (.ireturn, 1) := by decide +kernel
theorem dX7_keep_0 : decode cX7_keep 0 = .ok (.aload_n 0, 1) := by decide +kernel
theorem dX7_keep_1 : decode cX7_keep 1 = .ok (.getfield 36, 3) := by decide +kernel
theorem dX7_keep_4 : decode cX7_keep 4 = .ok (.bipush 8, 2) := by decide +kernel
theorem dX7_keep_6 : decode cX7_keep 6 = .ok (.if_icmp .ne 44, 3) := by decide +kernel
theorem dX7_keep_9 : decode cX7_keep 9 = .ok (.iconst 0, 1) := by decide +kernel
theorem dX7_keep_10 : decode cX7_keep 10 = .ok (.istore_n 1, 1) := by decide +kernel
theorem dX7_keep_11 : decode cX7_keep 11 = .ok (.iload_n 1, 1) := by decide +kernel
theorem dX7_keep_12 : decode cX7_keep 12 = .ok (.sipush 917, 3) := by decide +kernel
theorem dX7_keep_15 : decode cX7_keep 15 = .ok (.if_icmp .ge 25, 3) := by decide +kernel
theorem dX7_keep_18 : decode cX7_keep 18 = .ok (.aload_n 0, 1) := by decide +kernel
theorem dX7_keep_19 : decode cX7_keep 19 = .ok (.getfield 13, 3) := by decide +kernel
theorem dX7_keep_22 : decode cX7_keep 22 = .ok (.iload_n 1, 1) := by decide +kernel
theorem dX7_keep_23 : decode cX7_keep 23 = .ok (.aload_n 0, 1) := by decide +kernel
theorem dX7_keep_24 : decode cX7_keep 24 = .ok (.getfield 13, 3) := by decide +kernel
theorem dX7_keep_27 : decode cX7_keep 27 = .ok (.iload_n 1, 1) := by decide +kernel
theorem dX7_keep_28 : decode cX7_keep 28 = .ok (.sipush 131, 3) := by decide +kernel
theorem dX7_keep_31 : decode cX7_keep 31 = .ok (.iadd, 1) := by decide +kernel
theorem dX7_keep_32 : decode cX7_keep 32 = .ok (.iaload, 1) := by decide +kernel
theorem dX7_keep_33 : decode cX7_keep 33 = .ok (.iastore, 1) := by decide +kernel
theorem dX7_keep_34 : decode cX7_keep 34 = .ok (.iinc 1 1, 3) := by decide +kernel
theorem dX7_keep_37 : decode cX7_keep 37 = .ok (.goto (-26), 3) := by decide +kernel
theorem dX7_keep_40 : decode cX7_keep 40 = .ok (.aload_n 0, 1) := by decide +kernel
theorem dX7_keep_41 : decode cX7_keep 41 = .ok (.dup, 1) := by decide +kernel
theorem dX7_keep_42 : decode cX7_keep 42 = .ok (.getfield 36, 3) := by decide +kernel
theorem dX7_keep_45 : decode cX7_keep 45 = .ok (.iconst 1, 1) := by decide +kernel
theorem dX7_keep_46 : decode cX7_keep 46 = .ok (.isub, 1) := by decide +kernel
theorem dX7_keep_47 : decode cX7_keep 47 = .ok (.putfield 36, 3) := by decide +kernel
theorem dX7_keep_50 : decode cX7_keep 50 = .ok (.iconst 0, 1) := by decide +kernel
theorem dX7_keep_51 : decode cX7_keep 51 = .ok (.istore_n 1, 1) := by decide +kernel
theorem dX7_keep_52 : decode cX7_keep 52 = .ok (.iload_n 1, 1) := by decide +kernel
theorem dX7_keep_53 : decode cX7_keep 53 = .ok (.sipush 131, 3) := by decide +kernel
theorem dX7_keep_56 : decode cX7_keep 56 = .ok (.if_icmp .ge 30, 3) := by decide +kernel
theorem dX7_keep_59 : decode cX7_keep 59 = .ok (.aload_n 0, 1) := by decide +kernel
theorem dX7_keep_60 : decode cX7_keep 60 = .ok (.getfield 13, 3) := by decide +kernel
theorem dX7_keep_63 : decode cX7_keep 63 = .ok (.sipush 131, 3) := by decide +kernel
theorem dX7_keep_66 : decode cX7_keep 66 = .ok (.aload_n 0, 1) := by decide +kernel
theorem dX7_keep_67 : decode cX7_keep 67 = .ok (.getfield 36, 3) := by decide +kernel
theorem dX7_keep_70 : decode cX7_keep 70 = .ok (.imul, 1) := by decide +kernel
theorem dX7_keep_71 : decode cX7_keep 71 = .ok (.iload_n 1, 1) := by decide +kernel
theorem dX7_keep_72 : decode cX7_keep 72 = .ok (.iadd, 1) := by decide +kernel
theorem dX7_keep_73 : decode cX7_keep 73 = .ok (.aload_n 0, 1) := by decide +kernel
theorem dX7_keep_74 : decode cX7_keep 74 = .ok (.getfield 7, 3) := by decide +kernel
theorem dX7_keep_77 : decode cX7_keep 77 = .ok (.iload_n 1, 1) := by decide +kernel
theorem dX7_keep_78 : decode cX7_keep 78 = .ok (.iaload, 1) := by decide +kernel
theorem dX7_keep_79 : decode cX7_keep 79 = .ok (.iastore, 1) := by decide +kernel
theorem dX7_keep_80 : decode cX7_keep 80 = .ok (.iinc 1 1, 3) := by decide +kernel
theorem dX7_keep_83 : decode cX7_keep 83 = .ok (.goto (-31), 3) := by decide +kernel
theorem dX7_keep_86 : decode cX7_keep 86 = .ok (.aload_n 0, 1) := by decide +kernel
theorem dX7_keep_87 : decode cX7_keep 87 = .ok (.dup, 1) := by decide +kernel
theorem dX7_keep_88 : decode cX7_keep 88 = .ok (.getfield 36, 3) := by decide +kernel
theorem dX7_keep_91 : decode cX7_keep 91 = .ok (.iconst 1, 1) := by decide +kernel
theorem dX7_keep_92 : decode cX7_keep 92 = .ok (.iadd, 1) := by decide +kernel
theorem dX7_keep_93 : decode cX7_keep 93 = .ok (.putfield 36, 3) := by decide +kernel
theorem dX7_keep_96 : decode cX7_keep 96 = .ok (.return_, 1) := by decide +kernel
theorem dX7_undo_0 : decode cX7_undo 0 = .ok (.aload_n 0, 1) := by decide +kernel
theorem dX7_undo_1 : decode cX7_undo 1 = .ok (.getfield 36, 3) := by decide +kernel
theorem dX7_undo_4 : decode cX7_undo 4 = .ok (.ifCond .ne 6, 3) := by decide +kernel
theorem dX7_undo_7 : decode cX7_undo 7 = .ok (.bipush (-2), 2) := by decide +kernel
theorem dX7_undo_9 : decode cX7_undo 9 = .ok (.ireturn, 1) := by decide +kernel
theorem dX7_undo_10 : decode cX7_undo 10 = .ok (.aload_n 0, 1) := by decide +kernel
theorem dX7_undo_11 : decode cX7_undo 11 = .ok (.dup, 1) := by decide +kernel
theorem dX7_undo_12 : decode cX7_undo 12 = .ok (.getfield 36, 3) := by decide +kernel
theorem dX7_undo_15 : decode cX7_undo 15 = .ok (.iconst 1, 1) := by decide +kernel
theorem dX7_undo_16 : decode cX7_undo 16 = .ok (.isub, 1) := by decide +kernel
theorem dX7_undo_17 : decode cX7_undo 17 = .ok (.putfield 36, 3) := by decide +kernel
theorem dX7_undo_20 : decode cX7_undo 20 = .ok (.iconst 0, 1) := by decide +kernel
theorem dX7_undo_21 : decode cX7_undo 21 = .ok (.istore_n 1, 1) := by decide +kernel
theorem dX7_undo_22 : decode cX7_undo 22 = .ok (.iload_n 1, 1) := by decide +kernel
theorem dX7_undo_23 : decode cX7_undo 23 = .ok (.sipush 131, 3) := by decide +kernel
theorem dX7_undo_26 : decode cX7_undo 26 = .ok (.if_icmp .ge 30, 3) := by decide +kernel
theorem dX7_undo_29 : decode cX7_undo 29 = .ok (.aload_n 0, 1) := by decide +kernel
theorem dX7_undo_30 : decode cX7_undo 30 = .ok (.getfield 7, 3) := by decide +kernel
theorem dX7_undo_33 : decode cX7_undo 33 = .ok (.iload_n 1, 1) := by decide +kernel
theorem dX7_undo_34 : decode cX7_undo 34 = .ok (.aload_n 0, 1) := by decide +kernel
theorem dX7_undo_35 : decode cX7_undo 35 = .ok (.getfield 13, 3) := by decide +kernel
theorem dX7_undo_38 : decode cX7_undo 38 = .ok (.sipush 131, 3) := by decide +kernel
theorem dX7_undo_41 : decode cX7_undo 41 = .ok (.aload_n 0, 1) := by decide +kernel
theorem dX7_undo_42 : decode cX7_undo 42 = .ok (.getfield 36, 3) := by decide +kernel
theorem dX7_undo_45 : decode cX7_undo 45 = .ok (.imul, 1) := by decide +kernel
theorem dX7_undo_46 : decode cX7_undo 46 = .ok (.iload_n 1, 1) := by decide +kernel
theorem dX7_undo_47 : decode cX7_undo 47 = .ok (.iadd, 1) := by decide +kernel
theorem dX7_undo_48 : decode cX7_undo 48 = .ok (.iaload, 1) := by decide +kernel
theorem dX7_undo_49 : decode cX7_undo 49 = .ok (.iastore, 1) := by decide +kernel
theorem dX7_undo_50 : decode cX7_undo 50 = .ok (.iinc 1 1, 3) := by decide +kernel
theorem dX7_undo_53 : decode cX7_undo 53 = .ok (.goto (-31), 3) := by decide +kernel
theorem dX7_undo_56 : decode cX7_undo 56 = .ok (.aload_n 0, 1) := by decide +kernel
theorem dX7_undo_57 : decode cX7_undo 57 = .ok (.getfield 36, 3) := by decide +kernel
theorem dX7_undo_60 : decode cX7_undo 60 = .ok (.ireturn, 1) := by decide +kernel
theorem dX7_canOperate_0 : decode cX7_canOperate 0 = .ok (.aload_n 0, 1) := by decide +kernel
theorem dX7_canOperate_1 : decode cX7_canOperate 1 = .ok (.getfield 7, 3) := by decide +kernel
theorem dX7_canOperate_4 : decode cX7_canOperate 4 = .ok (.bipush 126, 2) := by decide +kernel
theorem dX7_canOperate_6 : decode cX7_canOperate 6 = .ok (.iaload, 1) := by decide +kernel
theorem dX7_canOperate_7 : decode cX7_canOperate 7 = .ok (.ifCond .ne 22, 3) := by decide +kernel
theorem dX7_canOperate_10 : decode cX7_canOperate 10 = .ok (.aload_n 0, 1) := by decide +kernel
theorem dX7_canOperate_11 : decode cX7_canOperate 11 = .ok (.getfield 7, 3) := by decide +kernel
theorem dX7_canOperate_14 : decode cX7_canOperate 14 = .ok (.bipush 126, 2) := by decide +kernel
theorem dX7_canOperate_16 : decode cX7_canOperate 16 = .ok (.bipush (-9), 2) := by decide +kernel
theorem dX7_canOperate_18 : decode cX7_canOperate 18 = .ok (.iastore, 1) := by decide +kernel
theorem dX7_canOperate_19 : decode cX7_canOperate 19 = .ok (.aload_n 0, 1) := by decide +kernel
theorem dX7_canOperate_20 : decode cX7_canOperate 20 = .ok (.getfield 7, 3) := by decide +kernel
theorem dX7_canOperate_23 : decode cX7_canOperate 23 = .ok (.bipush 115, 2) := by decide +kernel
theorem dX7_canOperate_25 : decode cX7_canOperate 25 = .ok (.iconst 0, 1) := by decide +kernel
theorem dX7_canOperate_26 : decode cX7_canOperate 26 = .ok (.iastore, 1) := by decide +kernel
theorem dX7_canOperate_27 : decode cX7_canOperate 27 = .ok (.iconst 0, 1) := by decide +kernel
theorem dX7_canOperate_28 : decode cX7_canOperate 28 = .ok (.ireturn, 1) := by decide +kernel
theorem dX7_canOperate_29 : decode cX7_canOperate 29 = .ok (.aload_n 0, 1) := by decide +kernel
theorem dX7_canOperate_30 : decode cX7_canOperate 30 = .ok (.getfield 7, 3) := by decide +kernel
theorem dX7_canOperate_33 : decode cX7_canOperate 33 = .ok (.bipush 126, 2) := by decide +kernel
theorem dX7_canOperate_35 : decode cX7_canOperate 35 = .ok (.dup2, 1) := by decide +kernel
theorem dX7_canOperate_36 : decode cX7_canOperate 36 = .ok (.iaload, 1) := by decide +kernel
theorem dX7_canOperate_37 : decode cX7_canOperate 37 = .ok (.aload_n 0, 1) := by decide +kernel
theorem dX7_canOperate_38 : decode cX7_canOperate 38 = .ok (.getfield 7, 3) := by decide +kernel
theorem dX7_canOperate_41 : decode cX7_canOperate 41 = .ok (.bipush 126, 2) := by decide +kernel
theorem dX7_canOperate_43 : decode cX7_canOperate 43 = .ok (.iaload, 1) := by decide +kernel
theorem dX7_canOperate_44 : decode cX7_canOperate 44 = .ok (.ifCond .le 7, 3) := by decide +kernel
theorem dX7_canOperate_47 : decode cX7_canOperate 47 = .ok (.iconst 1, 1) := by decide +kernel
theorem dX7_canOperate_48 : decode cX7_canOperate 48 = .ok (.goto 4, 3) := by decide +kernel
theorem dX7_canOperate_51 : decode cX7_canOperate 51 = .ok (.iconst 0, 1) := by decide +kernel
theorem dX7_canOperate_52 : decode cX7_canOperate 52 = .ok (.isub, 1) := by decide +kernel
theorem dX7_canOperate_53 : decode cX7_canOperate 53 = .ok (.iastore, 1) := by decide +kernel
theorem dX7_canOperate_54 : decode cX7_canOperate 54 = .ok (.aload_n 0, 1) := by decide +kernel
theorem dX7_canOperate_55 : decode cX7_canOperate 55 = .ok (.getfield 7, 3) := by decide +kernel
theorem dX7_canOperate_58 : decode cX7_canOperate 58 = .ok (.bipush 125, 2) := by decide +kernel
theorem dX7_canOperate_60 : decode cX7_canOperate 60 = .ok (.dup2, 1) := by decide +kernel
theorem dX7_canOperate_61 : decode cX7_canOperate 61 = .ok (.iaload, 1) := by decide +kernel
theorem dX7_canOperate_62 : decode cX7_canOperate 62 = .ok (.iconst 1, 1) := by decide +kernel
theorem dX7_canOperate_63 : decode cX7_canOperate 63 = .ok (.iadd, 1) := by decide +kernel
theorem dX7_canOperate_64 : decode cX7_canOperate 64 = .ok (.iastore, 1) := by decide +kernel
theorem dX7_canOperate_65 : decode cX7_canOperate 65 = .ok (.iconst 1, 1) := by decide +kernel
theorem dX7_canOperate_66 : decode cX7_canOperate 66 = .ok (.ireturn, 1) := by decide +kernel
theorem dX7_put_0 : decode cX7_put 0 = .ok (.aload_n 0, 1) := by decide +kernel
theorem dX7_put_1 : decode cX7_put 1 = .ok (.invokevirtual 40, 3) := by decide +kernel
theorem dX7_put_4 : decode cX7_put 4 = .ok (.istore 4, 2) := by decide +kernel
theorem dX7_put_6 : decode cX7_put 6 = .ok (.iload 4, 2) := by decide +kernel
theorem dX7_put_8 : decode cX7_put 8 = .ok (.ifCond .eq 15, 3) := by decide +kernel
theorem dX7_put_11 : decode cX7_put 11 = .ok (.aload_n 0, 1) := by decide +kernel
theorem dX7_put_12 : decode cX7_put 12 = .ok (.getfield 7, 3) := by decide +kernel
theorem dX7_put_15 : decode cX7_put 15 = .ok (.bipush 22, 2) := by decide +kernel
theorem dX7_put_17 : decode cX7_put 17 = .ok (.iload_n 1, 1) := by decide +kernel
theorem dX7_put_18 : decode cX7_put 18 = .ok (.imul, 1) := by decide +kernel
theorem dX7_put_19 : decode cX7_put 19 = .ok (.iload_n 2, 1) := by decide +kernel
theorem dX7_put_20 : decode cX7_put 20 = .ok (.iadd, 1) := by decide +kernel
theorem dX7_put_21 : decode cX7_put 21 = .ok (.iload_n 3, 1) := by decide +kernel
theorem dX7_put_22 : decode cX7_put 22 = .ok (.iastore, 1) := by decide +kernel
theorem dX7_put_23 : decode cX7_put 23 = .ok (.iload 4, 2) := by decide +kernel
theorem dX7_put_25 : decode cX7_put 25 = .ok (.ireturn, 1) := by decide +kernel
theorem dX7_erase_0 : decode cX7_erase 0 = .ok (.aload_n 0, 1) := by decide +kernel
theorem dX7_erase_1 : decode cX7_erase 1 = .ok (.invokevirtual 40, 3) := by decide +kernel
theorem dX7_erase_4 : decode cX7_erase 4 = .ok (.istore_n 2, 1) := by decide +kernel
theorem dX7_erase_5 : decode cX7_erase 5 = .ok (.iload_n 2, 1) := by decide +kernel
theorem dX7_erase_6 : decode cX7_erase 6 = .ok (.ifCond .eq 43, 3) := by decide +kernel
theorem dX7_erase_9 : decode cX7_erase 9 = .ok (.iconst 0, 1) := by decide +kernel
theorem dX7_erase_10 : decode cX7_erase 10 = .ok (.istore_n 3, 1) := by decide +kernel
theorem dX7_erase_11 : decode cX7_erase 11 = .ok (.iload_n 3, 1) := by decide +kernel
theorem dX7_erase_12 : decode cX7_erase 12 = .ok (.bipush 22, 2) := by decide +kernel
theorem dX7_erase_14 : decode cX7_erase 14 = .ok (.if_icmp .ge 22, 3) := by decide +kernel
theorem dX7_erase_17 : decode cX7_erase 17 = .ok (.aload_n 0, 1) := by decide +kernel
theorem dX7_erase_18 : decode cX7_erase 18 = .ok (.getfield 7, 3) := by decide +kernel
theorem dX7_erase_21 : decode cX7_erase 21 = .ok (.bipush 22, 2) := by decide +kernel
theorem dX7_erase_23 : decode cX7_erase 23 = .ok (.iload_n 1, 1) := by decide +kernel
theorem dX7_erase_24 : decode cX7_erase 24 = .ok (.imul, 1) := by decide +kernel
theorem dX7_erase_25 : decode cX7_erase 25 = .ok (.iload_n 3, 1) := by decide +kernel
theorem dX7_erase_26 : decode cX7_erase 26 = .ok (.iadd, 1) := by decide +kernel
theorem dX7_erase_27 : decode cX7_erase 27 = .ok (.ldc 31, 2) := by decide +kernel
theorem dX7_erase_29 : decode cX7_erase 29 = .ok (.iastore, 1) := by decide +kernel
theorem dX7_erase_30 : decode cX7_erase 30 = .ok (.iinc 3 1, 3) := by decide +kernel
theorem dX7_erase_33 : decode cX7_erase 33 = .ok (.goto (-22), 3) := by decide +kernel
theorem dX7_erase_36 : decode cX7_erase 36 = .ok (.aload_n 0, 1) := by decide +kernel
theorem dX7_erase_37 : decode cX7_erase 37 = .ok (.getfield 7, 3) := by decide +kernel
theorem dX7_erase_40 : decode cX7_erase 40 = .ok (.bipush 110, 2) := by decide +kernel
theorem dX7_erase_42 : decode cX7_erase 42 = .ok (.iload_n 1, 1) := by decide +kernel
theorem dX7_erase_43 : decode cX7_erase 43 = .ok (.iadd, 1) := by decide +kernel
theorem dX7_erase_44 : decode cX7_erase 44 = .ok (.dup2, 1) := by decide +kernel
theorem dX7_erase_45 : decode cX7_erase 45 = .ok (.iaload, 1) := by decide +kernel
theorem dX7_erase_46 : decode cX7_erase 46 = .ok (.iconst 1, 1) := by decide +kernel
theorem dX7_erase_47 : decode cX7_erase 47 = .ok (.iadd, 1) := by decide +kernel
theorem dX7_erase_48 : decode cX7_erase 48 = .ok (.iastore, 1) := by decide +kernel
theorem dX7_erase_49 : decode cX7_erase 49 = .ok (.iload_n 2, 1) := by decide +kernel
theorem dX7_erase_50 : decode cX7_erase 50 = .ok (.ireturn, 1) := by decide +kernel
theorem dX7_headCheck_0 : decode cX7_headCheck 0 = .ok (.iconst 3, 1) := by decide +kernel
theorem dX7_headCheck_1 : decode cX7_headCheck 1 = .ok (.iload_n 0, 1) := by decide +kernel
theorem dX7_headCheck_2 : decode cX7_headCheck 2 = .ok (.imul, 1) := by decide +kernel
theorem dX7_headCheck_3 : decode cX7_headCheck 3 = .ok (.iconst 5, 1) := by decide +kernel
theorem dX7_headCheck_4 : decode cX7_headCheck 4 = .ok (.iload_n 1, 1) := by decide +kernel
theorem dX7_headCheck_5 : decode cX7_headCheck 5 = .ok (.imul, 1) := by decide +kernel
theorem dX7_headCheck_6 : decode cX7_headCheck 6 = .ok (.iadd, 1) := by decide +kernel
theorem dX7_headCheck_7 : decode cX7_headCheck 7 = .ok (.bipush 7, 2) := by decide +kernel
theorem dX7_headCheck_9 : decode cX7_headCheck 9 = .ok (.iload_n 2, 1) := by decide +kernel
theorem dX7_headCheck_10 : decode cX7_headCheck 10 = .ok (.imul, 1) := by decide +kernel
theorem dX7_headCheck_11 : decode cX7_headCheck 11 = .ok (.iadd, 1) := by decide +kernel
theorem dX7_headCheck_12 : decode cX7_headCheck 12 = .ok (.bipush 11, 2) := by decide +kernel
theorem dX7_headCheck_14 : decode cX7_headCheck 14 = .ok (.iload_n 3, 1) := by decide +kernel
theorem dX7_headCheck_15 : decode cX7_headCheck 15 = .ok (.imul, 1) := by decide +kernel
theorem dX7_headCheck_16 : decode cX7_headCheck 16 = .ok (.iadd, 1) := by decide +kernel
theorem dX7_headCheck_17 : decode cX7_headCheck 17 = .ok (.bipush 13, 2) := by decide +kernel
theorem dX7_headCheck_19 : decode cX7_headCheck 19 = .ok (.iload 4, 2) := by decide +kernel
theorem dX7_headCheck_21 : decode cX7_headCheck 21 = .ok (.imul, 1) := by decide +kernel
theorem dX7_headCheck_22 : decode cX7_headCheck 22 = .ok (.iadd, 1) := by decide +kernel
theorem dX7_headCheck_23 : decode cX7_headCheck 23 = .ok (.iconst 1, 1) := by decide +kernel
theorem dX7_headCheck_24 : decode cX7_headCheck 24 = .ok (.iadd, 1) := by decide +kernel
theorem dX7_headCheck_25 : decode cX7_headCheck 25 = .ok (.ldc 44, 2) := by decide +kernel
theorem dX7_headCheck_27 : decode cX7_headCheck 27 = .ok (.irem, 1) := by decide +kernel
theorem dX7_headCheck_28 : decode cX7_headCheck 28 = .ok (.ireturn, 1) := by decide +kernel
theorem dX7_recordCheck_0 : decode cX7_recordCheck 0 = .ok (.iconst 3, 1) := by decide +kernel
theorem dX7_recordCheck_1 : decode cX7_recordCheck 1 = .ok (.iload_n 0, 1) := by decide +kernel
theorem dX7_recordCheck_2 : decode cX7_recordCheck 2 = .ok (.imul, 1) := by decide +kernel
theorem dX7_recordCheck_3 : decode cX7_recordCheck 3 = .ok (.iconst 5, 1) := by decide +kernel
theorem dX7_recordCheck_4 : decode cX7_recordCheck 4 = .ok (.iload_n 1, 1) := by decide +kernel
theorem dX7_recordCheck_5 : decode cX7_recordCheck 5 = .ok (.imul, 1) := by decide +kernel
theorem dX7_recordCheck_6 : decode cX7_recordCheck 6 = .ok (.iadd, 1) := by decide +kernel
theorem dX7_recordCheck_7 : decode cX7_recordCheck 7 = .ok (.bipush 7, 2) := by decide +kernel
theorem dX7_recordCheck_9 : decode cX7_recordCheck 9 = .ok (.iload_n 2, 1) := by decide +kernel
theorem dX7_recordCheck_10 : decode cX7_recordCheck 10 = .ok (.imul, 1) := by decide +kernel
theorem dX7_recordCheck_11 : decode cX7_recordCheck 11 = .ok (.iadd, 1) := by decide +kernel
theorem dX7_recordCheck_12 : decode cX7_recordCheck 12 = .ok (.bipush 11, 2) := by decide +kernel
theorem dX7_recordCheck_14 : decode cX7_recordCheck 14 = .ok (.iload_n 3, 1) := by decide +kernel
theorem dX7_recordCheck_15 : decode cX7_recordCheck 15 = .ok (.imul, 1) := by decide +kernel
theorem dX7_recordCheck_16 : decode cX7_recordCheck 16 = .ok (.iadd, 1) := by decide +kernel
theorem dX7_recordCheck_17 : decode cX7_recordCheck 17 = .ok (.iconst 2, 1) := by decide +kernel
theorem dX7_recordCheck_18 : decode cX7_recordCheck 18 = .ok (.iadd, 1) := by decide +kernel
theorem dX7_recordCheck_19 : decode cX7_recordCheck 19 = .ok (.ldc 44, 2) := by decide +kernel
theorem dX7_recordCheck_21 : decode cX7_recordCheck 21 = .ok (.irem, 1) := by decide +kernel
theorem dX7_recordCheck_22 : decode cX7_recordCheck 22 = .ok (.ireturn, 1) := by decide +kernel
theorem dX7_isWhole_0 : decode cX7_isWhole 0 = .ok (.iconst 1, 1) := by decide +kernel
theorem dX7_isWhole_1 : decode cX7_isWhole 1 = .ok (.istore_n 2, 1) := by decide +kernel
theorem dX7_isWhole_2 : decode cX7_isWhole 2 = .ok (.iconst 0, 1) := by decide +kernel
theorem dX7_isWhole_3 : decode cX7_isWhole 3 = .ok (.istore_n 3, 1) := by decide +kernel
theorem dX7_isWhole_4 : decode cX7_isWhole 4 = .ok (.iload_n 3, 1) := by decide +kernel
theorem dX7_isWhole_5 : decode cX7_isWhole 5 = .ok (.iconst 5, 1) := by decide +kernel
theorem dX7_isWhole_6 : decode cX7_isWhole 6 = .ok (.if_icmp .ge 28, 3) := by decide +kernel
theorem dX7_isWhole_9 : decode cX7_isWhole 9 = .ok (.iload_n 2, 1) := by decide +kernel
theorem dX7_isWhole_10 : decode cX7_isWhole 10 = .ok (.aload_n 0, 1) := by decide +kernel
theorem dX7_isWhole_11 : decode cX7_isWhole 11 = .ok (.iload_n 1, 1) := by decide +kernel
theorem dX7_isWhole_12 : decode cX7_isWhole 12 = .ok (.iload_n 3, 1) := by decide +kernel
theorem dX7_isWhole_13 : decode cX7_isWhole 13 = .ok (.invokevirtual 45, 3) := by decide +kernel
theorem dX7_isWhole_16 : decode cX7_isWhole 16 = .ok (.ldc 31, 2) := by decide +kernel
theorem dX7_isWhole_18 : decode cX7_isWhole 18 = .ok (.if_icmp .eq 7, 3) := by decide +kernel
theorem dX7_isWhole_21 : decode cX7_isWhole 21 = .ok (.iconst 1, 1) := by decide +kernel
theorem dX7_isWhole_22 : decode cX7_isWhole 22 = .ok (.goto 4, 3) := by decide +kernel
theorem dX7_isWhole_25 : decode cX7_isWhole 25 = .ok (.iconst 0, 1) := by decide +kernel
theorem dX7_isWhole_26 : decode cX7_isWhole 26 = .ok (.iand, 1) := by decide +kernel
theorem dX7_isWhole_27 : decode cX7_isWhole 27 = .ok (.istore_n 2, 1) := by decide +kernel
theorem dX7_isWhole_28 : decode cX7_isWhole 28 = .ok (.iinc 3 1, 3) := by decide +kernel
theorem dX7_isWhole_31 : decode cX7_isWhole 31 = .ok (.goto (-27), 3) := by decide +kernel
theorem dX7_isWhole_34 : decode cX7_isWhole 34 = .ok (.iload_n 2, 1) := by decide +kernel
theorem dX7_isWhole_35 : decode cX7_isWhole 35 = .ok (.ifCond .eq 49, 3) := by decide +kernel
theorem dX7_isWhole_38 : decode cX7_isWhole 38 = .ok (.aload_n 0, 1) := by decide +kernel
theorem dX7_isWhole_39 : decode cX7_isWhole 39 = .ok (.iload_n 1, 1) := by decide +kernel
theorem dX7_isWhole_40 : decode cX7_isWhole 40 = .ok (.iconst 5, 1) := by decide +kernel
theorem dX7_isWhole_41 : decode cX7_isWhole 41 = .ok (.invokevirtual 45, 3) := by decide +kernel
theorem dX7_isWhole_44 : decode cX7_isWhole 44 = .ok (.aload_n 0, 1) := by decide +kernel
theorem dX7_isWhole_45 : decode cX7_isWhole 45 = .ok (.iload_n 1, 1) := by decide +kernel
theorem dX7_isWhole_46 : decode cX7_isWhole 46 = .ok (.iconst 0, 1) := by decide +kernel
theorem dX7_isWhole_47 : decode cX7_isWhole 47 = .ok (.invokevirtual 45, 3) := by decide +kernel
theorem dX7_isWhole_50 : decode cX7_isWhole 50 = .ok (.aload_n 0, 1) := by decide +kernel
theorem dX7_isWhole_51 : decode cX7_isWhole 51 = .ok (.iload_n 1, 1) := by decide +kernel
theorem dX7_isWhole_52 : decode cX7_isWhole 52 = .ok (.iconst 1, 1) := by decide +kernel
theorem dX7_isWhole_53 : decode cX7_isWhole 53 = .ok (.invokevirtual 45, 3) := by decide +kernel
theorem dX7_isWhole_56 : decode cX7_isWhole 56 = .ok (.aload_n 0, 1) := by decide +kernel
theorem dX7_isWhole_57 : decode cX7_isWhole 57 = .ok (.iload_n 1, 1) := by decide +kernel
theorem dX7_isWhole_58 : decode cX7_isWhole 58 = .ok (.iconst 2, 1) := by decide +kernel
theorem dX7_isWhole_59 : decode cX7_isWhole 59 = .ok (.invokevirtual 45, 3) := by decide +kernel
theorem dX7_isWhole_62 : decode cX7_isWhole 62 = .ok (.aload_n 0, 1) := by decide +kernel
theorem dX7_isWhole_63 : decode cX7_isWhole 63 = .ok (.iload_n 1, 1) := by decide +kernel
theorem dX7_isWhole_64 : decode cX7_isWhole 64 = .ok (.iconst 3, 1) := by decide +kernel
theorem dX7_isWhole_65 : decode cX7_isWhole 65 = .ok (.invokevirtual 45, 3) := by decide +kernel
theorem dX7_isWhole_68 : decode cX7_isWhole 68 = .ok (.aload_n 0, 1) := by decide +kernel
theorem dX7_isWhole_69 : decode cX7_isWhole 69 = .ok (.iload_n 1, 1) := by decide +kernel
theorem dX7_isWhole_70 : decode cX7_isWhole 70 = .ok (.iconst 4, 1) := by decide +kernel
theorem dX7_isWhole_71 : decode cX7_isWhole 71 = .ok (.invokevirtual 45, 3) := by decide +kernel
theorem dX7_isWhole_74 : decode cX7_isWhole 74 = .ok (.invokestatic 49, 3) := by decide +kernel
theorem dX7_isWhole_77 : decode cX7_isWhole 77 = .ok (.if_icmp .ne 7, 3) := by decide +kernel
theorem dX7_isWhole_80 : decode cX7_isWhole 80 = .ok (.iconst 1, 1) := by decide +kernel
theorem dX7_isWhole_81 : decode cX7_isWhole 81 = .ok (.goto 4, 3) := by decide +kernel
theorem dX7_isWhole_84 : decode cX7_isWhole 84 = .ok (.iconst 0, 1) := by decide +kernel
theorem dX7_isWhole_85 : decode cX7_isWhole 85 = .ok (.ireturn, 1) := by decide +kernel
theorem dX7_wordOf_0 : decode cX7_wordOf 0 = .ok (.bipush 6, 2) := by decide +kernel
theorem dX7_wordOf_2 : decode cX7_wordOf 2 = .ok (.iconst 4, 1) := by decide +kernel
theorem dX7_wordOf_3 : decode cX7_wordOf 3 = .ok (.iload_n 0, 1) := by decide +kernel
theorem dX7_wordOf_4 : decode cX7_wordOf 4 = .ok (.imul, 1) := by decide +kernel
theorem dX7_wordOf_5 : decode cX7_wordOf 5 = .ok (.iadd, 1) := by decide +kernel
theorem dX7_wordOf_6 : decode cX7_wordOf 6 = .ok (.iload_n 1, 1) := by decide +kernel
theorem dX7_wordOf_7 : decode cX7_wordOf 7 = .ok (.iadd, 1) := by decide +kernel
theorem dX7_wordOf_8 : decode cX7_wordOf 8 = .ok (.ireturn, 1) := by decide +kernel
theorem dX7_inPlace_0 : decode cX7_inPlace 0 = .ok (.aload_n 0, 1) := by decide +kernel
theorem dX7_inPlace_1 : decode cX7_inPlace 1 = .ok (.iload_n 1, 1) := by decide +kernel
theorem dX7_inPlace_2 : decode cX7_inPlace 2 = .ok (.iload_n 2, 1) := by decide +kernel
theorem dX7_inPlace_3 : decode cX7_inPlace 3 = .ok (.iload_n 3, 1) := by decide +kernel
theorem dX7_inPlace_4 : decode cX7_inPlace 4 = .ok (.invokestatic 53, 3) := by decide +kernel
theorem dX7_inPlace_7 : decode cX7_inPlace 7 = .ok (.invokevirtual 45, 3) := by decide +kernel
theorem dX7_inPlace_10 : decode cX7_inPlace 10 = .ok (.ireturn, 1) := by decide +kernel
theorem dX7_isEmpty_0 : decode cX7_isEmpty 0 = .ok (.iconst 1, 1) := by decide +kernel
theorem dX7_isEmpty_1 : decode cX7_isEmpty 1 = .ok (.istore_n 3, 1) := by decide +kernel
theorem dX7_isEmpty_2 : decode cX7_isEmpty 2 = .ok (.iconst 0, 1) := by decide +kernel
theorem dX7_isEmpty_3 : decode cX7_isEmpty 3 = .ok (.istore 4, 2) := by decide +kernel
theorem dX7_isEmpty_5 : decode cX7_isEmpty 5 = .ok (.iload 4, 2) := by decide +kernel
theorem dX7_isEmpty_7 : decode cX7_isEmpty 7 = .ok (.iconst 4, 1) := by decide +kernel
theorem dX7_isEmpty_8 : decode cX7_isEmpty 8 = .ok (.if_icmp .ge 30, 3) := by decide +kernel
theorem dX7_isEmpty_11 : decode cX7_isEmpty 11 = .ok (.iload_n 3, 1) := by decide +kernel
theorem dX7_isEmpty_12 : decode cX7_isEmpty 12 = .ok (.aload_n 0, 1) := by decide +kernel
theorem dX7_isEmpty_13 : decode cX7_isEmpty 13 = .ok (.iload_n 1, 1) := by decide +kernel
theorem dX7_isEmpty_14 : decode cX7_isEmpty 14 = .ok (.iload_n 2, 1) := by decide +kernel
theorem dX7_isEmpty_15 : decode cX7_isEmpty 15 = .ok (.iload 4, 2) := by decide +kernel
theorem dX7_isEmpty_17 : decode cX7_isEmpty 17 = .ok (.invokevirtual 56, 3) := by decide +kernel
theorem dX7_isEmpty_20 : decode cX7_isEmpty 20 = .ok (.ldc 31, 2) := by decide +kernel
theorem dX7_isEmpty_22 : decode cX7_isEmpty 22 = .ok (.if_icmp .ne 7, 3) := by decide +kernel
theorem dX7_isEmpty_25 : decode cX7_isEmpty 25 = .ok (.iconst 1, 1) := by decide +kernel
theorem dX7_isEmpty_26 : decode cX7_isEmpty 26 = .ok (.goto 4, 3) := by decide +kernel
theorem dX7_isEmpty_29 : decode cX7_isEmpty 29 = .ok (.iconst 0, 1) := by decide +kernel
theorem dX7_isEmpty_30 : decode cX7_isEmpty 30 = .ok (.iand, 1) := by decide +kernel
theorem dX7_isEmpty_31 : decode cX7_isEmpty 31 = .ok (.istore_n 3, 1) := by decide +kernel
theorem dX7_isEmpty_32 : decode cX7_isEmpty 32 = .ok (.iinc 4 1, 3) := by decide +kernel
theorem dX7_isEmpty_35 : decode cX7_isEmpty 35 = .ok (.goto (-30), 3) := by decide +kernel
theorem dX7_isEmpty_38 : decode cX7_isEmpty 38 = .ok (.iload_n 3, 1) := by decide +kernel
theorem dX7_isEmpty_39 : decode cX7_isEmpty 39 = .ok (.ireturn, 1) := by decide +kernel
theorem dX7_isRecord_0 : decode cX7_isRecord 0 = .ok (.aload_n 0, 1) := by decide +kernel
theorem dX7_isRecord_1 : decode cX7_isRecord 1 = .ok (.iload_n 1, 1) := by decide +kernel
theorem dX7_isRecord_2 : decode cX7_isRecord 2 = .ok (.iload_n 2, 1) := by decide +kernel
theorem dX7_isRecord_3 : decode cX7_isRecord 3 = .ok (.invokevirtual 60, 3) := by decide +kernel
theorem dX7_isRecord_6 : decode cX7_isRecord 6 = .ok (.ifCond .ne 47, 3) := by decide +kernel
theorem dX7_isRecord_9 : decode cX7_isRecord 9 = .ok (.aload_n 0, 1) := by decide +kernel
theorem dX7_isRecord_10 : decode cX7_isRecord 10 = .ok (.iload_n 1, 1) := by decide +kernel
theorem dX7_isRecord_11 : decode cX7_isRecord 11 = .ok (.iload_n 2, 1) := by decide +kernel
theorem dX7_isRecord_12 : decode cX7_isRecord 12 = .ok (.iconst 3, 1) := by decide +kernel
theorem dX7_isRecord_13 : decode cX7_isRecord 13 = .ok (.invokevirtual 56, 3) := by decide +kernel
theorem dX7_isRecord_16 : decode cX7_isRecord 16 = .ok (.aload_n 0, 1) := by decide +kernel
theorem dX7_isRecord_17 : decode cX7_isRecord 17 = .ok (.iload_n 1, 1) := by decide +kernel
theorem dX7_isRecord_18 : decode cX7_isRecord 18 = .ok (.iload_n 2, 1) := by decide +kernel
theorem dX7_isRecord_19 : decode cX7_isRecord 19 = .ok (.iconst 0, 1) := by decide +kernel
theorem dX7_isRecord_20 : decode cX7_isRecord 20 = .ok (.invokevirtual 56, 3) := by decide +kernel
theorem dX7_isRecord_23 : decode cX7_isRecord 23 = .ok (.aload_n 0, 1) := by decide +kernel
theorem dX7_isRecord_24 : decode cX7_isRecord 24 = .ok (.iload_n 1, 1) := by decide +kernel
theorem dX7_isRecord_25 : decode cX7_isRecord 25 = .ok (.iload_n 2, 1) := by decide +kernel
theorem dX7_isRecord_26 : decode cX7_isRecord 26 = .ok (.iconst 1, 1) := by decide +kernel
theorem dX7_isRecord_27 : decode cX7_isRecord 27 = .ok (.invokevirtual 56, 3) := by decide +kernel
theorem dX7_isRecord_30 : decode cX7_isRecord 30 = .ok (.aload_n 0, 1) := by decide +kernel
theorem dX7_isRecord_31 : decode cX7_isRecord 31 = .ok (.iload_n 1, 1) := by decide +kernel
theorem dX7_isRecord_32 : decode cX7_isRecord 32 = .ok (.iload_n 2, 1) := by decide +kernel
theorem dX7_isRecord_33 : decode cX7_isRecord 33 = .ok (.iconst 2, 1) := by decide +kernel
theorem dX7_isRecord_34 : decode cX7_isRecord 34 = .ok (.invokevirtual 56, 3) := by decide +kernel
theorem dX7_isRecord_37 : decode cX7_isRecord 37 = .ok (.aload_n 0, 1) := by decide +kernel
theorem dX7_isRecord_38 : decode cX7_isRecord 38 = .ok (.iload_n 1, 1) := by decide +kernel
theorem dX7_isRecord_39 : decode cX7_isRecord 39 = .ok (.iconst 0, 1) := by decide +kernel
theorem dX7_isRecord_40 : decode cX7_isRecord 40 = .ok (.invokevirtual 45, 3) := by decide +kernel
theorem dX7_isRecord_43 : decode cX7_isRecord 43 = .ok (.invokestatic 64, 3) := by decide +kernel
theorem dX7_isRecord_46 : decode cX7_isRecord 46 = .ok (.if_icmp .ne 7, 3) := by decide +kernel
theorem dX7_isRecord_49 : decode cX7_isRecord 49 = .ok (.iconst 1, 1) := by decide +kernel
theorem dX7_isRecord_50 : decode cX7_isRecord 50 = .ok (.goto 4, 3) := by decide +kernel
theorem dX7_isRecord_53 : decode cX7_isRecord 53 = .ok (.iconst 0, 1) := by decide +kernel
theorem dX7_isRecord_54 : decode cX7_isRecord 54 = .ok (.ireturn, 1) := by decide +kernel
theorem dX7_isTorn_0 : decode cX7_isTorn 0 = .ok (.aload_n 0, 1) := by decide +kernel
theorem dX7_isTorn_1 : decode cX7_isTorn 1 = .ok (.iload_n 1, 1) := by decide +kernel
theorem dX7_isTorn_2 : decode cX7_isTorn 2 = .ok (.iload_n 2, 1) := by decide +kernel
theorem dX7_isTorn_3 : decode cX7_isTorn 3 = .ok (.invokevirtual 60, 3) := by decide +kernel
theorem dX7_isTorn_6 : decode cX7_isTorn 6 = .ok (.ifCond .ne 16, 3) := by decide +kernel
theorem dX7_isTorn_9 : decode cX7_isTorn 9 = .ok (.aload_n 0, 1) := by decide +kernel
theorem dX7_isTorn_10 : decode cX7_isTorn 10 = .ok (.iload_n 1, 1) := by decide +kernel
theorem dX7_isTorn_11 : decode cX7_isTorn 11 = .ok (.iload_n 2, 1) := by decide +kernel
theorem dX7_isTorn_12 : decode cX7_isTorn 12 = .ok (.invokevirtual 68, 3) := by decide +kernel
theorem dX7_isTorn_15 : decode cX7_isTorn 15 = .ok (.ifCond .ne 7, 3) := by decide +kernel
theorem dX7_isTorn_18 : decode cX7_isTorn 18 = .ok (.iconst 1, 1) := by decide +kernel
theorem dX7_isTorn_19 : decode cX7_isTorn 19 = .ok (.goto 4, 3) := by decide +kernel
theorem dX7_isTorn_22 : decode cX7_isTorn 22 = .ok (.iconst 0, 1) := by decide +kernel
theorem dX7_isTorn_23 : decode cX7_isTorn 23 = .ok (.ireturn, 1) := by decide +kernel
theorem dX7_beginBlock_0 : decode cX7_beginBlock 0 = .ok (.aload_n 0, 1) := by decide +kernel
theorem dX7_beginBlock_1 : decode cX7_beginBlock 1 = .ok (.getfield 7, 3) := by decide +kernel
theorem dX7_beginBlock_4 : decode cX7_beginBlock 4 = .ok (.bipush 116, 2) := by decide +kernel
theorem dX7_beginBlock_6 : decode cX7_beginBlock 6 = .ok (.iaload, 1) := by decide +kernel
theorem dX7_beginBlock_7 : decode cX7_beginBlock 7 = .ok (.istore_n 1, 1) := by decide +kernel
theorem dX7_beginBlock_8 : decode cX7_beginBlock 8 = .ok (.iload_n 1, 1) := by decide +kernel
theorem dX7_beginBlock_9 : decode cX7_beginBlock 9 = .ok (.iconst 1, 1) := by decide +kernel
theorem dX7_beginBlock_10 : decode cX7_beginBlock 10 = .ok (.iadd, 1) := by decide +kernel
theorem dX7_beginBlock_11 : decode cX7_beginBlock 11 = .ok (.iconst 5, 1) := by decide +kernel
theorem dX7_beginBlock_12 : decode cX7_beginBlock 12 = .ok (.irem, 1) := by decide +kernel
theorem dX7_beginBlock_13 : decode cX7_beginBlock 13 = .ok (.istore_n 2, 1) := by decide +kernel
theorem dX7_beginBlock_14 : decode cX7_beginBlock 14 = .ok (.aload_n 0, 1) := by decide +kernel
theorem dX7_beginBlock_15 : decode cX7_beginBlock 15 = .ok (.iload_n 1, 1) := by decide +kernel
theorem dX7_beginBlock_16 : decode cX7_beginBlock 16 = .ok (.iconst 0, 1) := by decide +kernel
theorem dX7_beginBlock_17 : decode cX7_beginBlock 17 = .ok (.invokevirtual 45, 3) := by decide +kernel
theorem dX7_beginBlock_20 : decode cX7_beginBlock 20 = .ok (.iconst 1, 1) := by decide +kernel
theorem dX7_beginBlock_21 : decode cX7_beginBlock 21 = .ok (.iadd, 1) := by decide +kernel
theorem dX7_beginBlock_22 : decode cX7_beginBlock 22 = .ok (.sipush 10000, 3) := by decide +kernel
theorem dX7_beginBlock_25 : decode cX7_beginBlock 25 = .ok (.irem, 1) := by decide +kernel
theorem dX7_beginBlock_26 : decode cX7_beginBlock 26 = .ok (.istore_n 3, 1) := by decide +kernel
theorem dX7_beginBlock_27 : decode cX7_beginBlock 27 = .ok (.aload_n 0, 1) := by decide +kernel
theorem dX7_beginBlock_28 : decode cX7_beginBlock 28 = .ok (.iload_n 2, 1) := by decide +kernel
theorem dX7_beginBlock_29 : decode cX7_beginBlock 29 = .ok (.invokevirtual 71, 3) := by decide +kernel
theorem dX7_beginBlock_32 : decode cX7_beginBlock 32 = .ok (.ifCond .eq 81, 3) := by decide +kernel
theorem dX7_beginBlock_35 : decode cX7_beginBlock 35 = .ok (.aload_n 0, 1) := by decide +kernel
theorem dX7_beginBlock_36 : decode cX7_beginBlock 36 = .ok (.iload_n 2, 1) := by decide +kernel
theorem dX7_beginBlock_37 : decode cX7_beginBlock 37 = .ok (.iconst 0, 1) := by decide +kernel
theorem dX7_beginBlock_38 : decode cX7_beginBlock 38 = .ok (.iload_n 3, 1) := by decide +kernel
theorem dX7_beginBlock_39 : decode cX7_beginBlock 39 = .ok (.invokevirtual 75, 3) := by decide +kernel
theorem dX7_beginBlock_42 : decode cX7_beginBlock 42 = .ok (.ifCond .eq 71, 3) := by decide +kernel
theorem dX7_beginBlock_45 : decode cX7_beginBlock 45 = .ok (.aload_n 0, 1) := by decide +kernel
theorem dX7_beginBlock_46 : decode cX7_beginBlock 46 = .ok (.iload_n 2, 1) := by decide +kernel
theorem dX7_beginBlock_47 : decode cX7_beginBlock 47 = .ok (.iconst 1, 1) := by decide +kernel
theorem dX7_beginBlock_48 : decode cX7_beginBlock 48 = .ok (.aload_n 0, 1) := by decide +kernel
theorem dX7_beginBlock_49 : decode cX7_beginBlock 49 = .ok (.getfield 7, 3) := by decide +kernel
theorem dX7_beginBlock_52 : decode cX7_beginBlock 52 = .ok (.bipush 119, 2) := by decide +kernel
theorem dX7_beginBlock_54 : decode cX7_beginBlock 54 = .ok (.iaload, 1) := by decide +kernel
theorem dX7_beginBlock_55 : decode cX7_beginBlock 55 = .ok (.invokevirtual 75, 3) := by decide +kernel
theorem dX7_beginBlock_58 : decode cX7_beginBlock 58 = .ok (.ifCond .eq 55, 3) := by decide +kernel
theorem dX7_beginBlock_61 : decode cX7_beginBlock 61 = .ok (.aload_n 0, 1) := by decide +kernel
theorem dX7_beginBlock_62 : decode cX7_beginBlock 62 = .ok (.iload_n 2, 1) := by decide +kernel
theorem dX7_beginBlock_63 : decode cX7_beginBlock 63 = .ok (.iconst 2, 1) := by decide +kernel
theorem dX7_beginBlock_64 : decode cX7_beginBlock 64 = .ok (.aload_n 0, 1) := by decide +kernel
theorem dX7_beginBlock_65 : decode cX7_beginBlock 65 = .ok (.getfield 7, 3) := by decide +kernel
theorem dX7_beginBlock_68 : decode cX7_beginBlock 68 = .ok (.bipush 120, 2) := by decide +kernel
theorem dX7_beginBlock_70 : decode cX7_beginBlock 70 = .ok (.iaload, 1) := by decide +kernel
theorem dX7_beginBlock_71 : decode cX7_beginBlock 71 = .ok (.invokevirtual 75, 3) := by decide +kernel
theorem dX7_beginBlock_74 : decode cX7_beginBlock 74 = .ok (.ifCond .eq 39, 3) := by decide +kernel
theorem dX7_beginBlock_77 : decode cX7_beginBlock 77 = .ok (.aload_n 0, 1) := by decide +kernel
theorem dX7_beginBlock_78 : decode cX7_beginBlock 78 = .ok (.iload_n 2, 1) := by decide +kernel
theorem dX7_beginBlock_79 : decode cX7_beginBlock 79 = .ok (.iconst 3, 1) := by decide +kernel
theorem dX7_beginBlock_80 : decode cX7_beginBlock 80 = .ok (.aload_n 0, 1) := by decide +kernel
theorem dX7_beginBlock_81 : decode cX7_beginBlock 81 = .ok (.getfield 7, 3) := by decide +kernel
theorem dX7_beginBlock_84 : decode cX7_beginBlock 84 = .ok (.bipush 121, 2) := by decide +kernel
theorem dX7_beginBlock_86 : decode cX7_beginBlock 86 = .ok (.iaload, 1) := by decide +kernel
theorem dX7_beginBlock_87 : decode cX7_beginBlock 87 = .ok (.invokevirtual 75, 3) := by decide +kernel
theorem dX7_beginBlock_90 : decode cX7_beginBlock 90 = .ok (.ifCond .eq 23, 3) := by decide +kernel
theorem dX7_beginBlock_93 : decode cX7_beginBlock 93 = .ok (.aload_n 0, 1) := by decide +kernel
theorem dX7_beginBlock_94 : decode cX7_beginBlock 94 = .ok (.iload_n 2, 1) := by decide +kernel
theorem dX7_beginBlock_95 : decode cX7_beginBlock 95 = .ok (.iconst 4, 1) := by decide +kernel
theorem dX7_beginBlock_96 : decode cX7_beginBlock 96 = .ok (.aload_n 0, 1) := by decide +kernel
theorem dX7_beginBlock_97 : decode cX7_beginBlock 97 = .ok (.getfield 7, 3) := by decide +kernel
theorem dX7_beginBlock_100 : decode cX7_beginBlock 100 = .ok (.bipush 118, 2) := by decide +kernel
theorem dX7_beginBlock_102 : decode cX7_beginBlock 102 = .ok (.iaload, 1) := by decide +kernel
theorem dX7_beginBlock_103 : decode cX7_beginBlock 103 = .ok (.invokevirtual 75, 3) := by decide +kernel
theorem dX7_beginBlock_106 : decode cX7_beginBlock 106 = .ok (.ifCond .eq 7, 3) := by decide +kernel
theorem dX7_beginBlock_109 : decode cX7_beginBlock 109 = .ok (.iconst 1, 1) := by decide +kernel
theorem dX7_beginBlock_110 : decode cX7_beginBlock 110 = .ok (.goto 4, 3) := by decide +kernel
theorem dX7_beginBlock_113 : decode cX7_beginBlock 113 = .ok (.iconst 0, 1) := by decide +kernel
theorem dX7_beginBlock_114 : decode cX7_beginBlock 114 = .ok (.istore 4, 2) := by decide +kernel
theorem dX7_beginBlock_116 : decode cX7_beginBlock 116 = .ok (.iload 4, 2) := by decide +kernel
theorem dX7_beginBlock_118 : decode cX7_beginBlock 118 = .ok (.ifCond .eq 48, 3) := by decide +kernel
theorem dX7_beginBlock_121 : decode cX7_beginBlock 121 = .ok (.aload_n 0, 1) := by decide +kernel
theorem dX7_beginBlock_122 : decode cX7_beginBlock 122 = .ok (.iload_n 2, 1) := by decide +kernel
theorem dX7_beginBlock_123 : decode cX7_beginBlock 123 = .ok (.iconst 5, 1) := by decide +kernel
theorem dX7_beginBlock_124 : decode cX7_beginBlock 124 = .ok (.iload_n 3, 1) := by decide +kernel
theorem dX7_beginBlock_125 : decode cX7_beginBlock 125 = .ok (.aload_n 0, 1) := by decide +kernel
theorem dX7_beginBlock_126 : decode cX7_beginBlock 126 = .ok (.getfield 7, 3) := by decide +kernel
theorem dX7_beginBlock_129 : decode cX7_beginBlock 129 = .ok (.bipush 119, 2) := by decide +kernel
theorem dX7_beginBlock_131 : decode cX7_beginBlock 131 = .ok (.iaload, 1) := by decide +kernel
theorem dX7_beginBlock_132 : decode cX7_beginBlock 132 = .ok (.aload_n 0, 1) := by decide +kernel
theorem dX7_beginBlock_133 : decode cX7_beginBlock 133 = .ok (.getfield 7, 3) := by decide +kernel
theorem dX7_beginBlock_136 : decode cX7_beginBlock 136 = .ok (.bipush 120, 2) := by decide +kernel
theorem dX7_beginBlock_138 : decode cX7_beginBlock 138 = .ok (.iaload, 1) := by decide +kernel
theorem dX7_beginBlock_139 : decode cX7_beginBlock 139 = .ok (.aload_n 0, 1) := by decide +kernel
theorem dX7_beginBlock_140 : decode cX7_beginBlock 140 = .ok (.getfield 7, 3) := by decide +kernel
theorem dX7_beginBlock_143 : decode cX7_beginBlock 143 = .ok (.bipush 121, 2) := by decide +kernel
theorem dX7_beginBlock_145 : decode cX7_beginBlock 145 = .ok (.iaload, 1) := by decide +kernel
theorem dX7_beginBlock_146 : decode cX7_beginBlock 146 = .ok (.aload_n 0, 1) := by decide +kernel
theorem dX7_beginBlock_147 : decode cX7_beginBlock 147 = .ok (.getfield 7, 3) := by decide +kernel
theorem dX7_beginBlock_150 : decode cX7_beginBlock 150 = .ok (.bipush 118, 2) := by decide +kernel
theorem dX7_beginBlock_152 : decode cX7_beginBlock 152 = .ok (.iaload, 1) := by decide +kernel
theorem dX7_beginBlock_153 : decode cX7_beginBlock 153 = .ok (.invokestatic 49, 3) := by decide +kernel
theorem dX7_beginBlock_156 : decode cX7_beginBlock 156 = .ok (.invokevirtual 75, 3) := by decide +kernel
theorem dX7_beginBlock_159 : decode cX7_beginBlock 159 = .ok (.ifCond .eq 7, 3) := by decide +kernel
theorem dX7_beginBlock_162 : decode cX7_beginBlock 162 = .ok (.iconst 1, 1) := by decide +kernel
theorem dX7_beginBlock_163 : decode cX7_beginBlock 163 = .ok (.goto 4, 3) := by decide +kernel
theorem dX7_beginBlock_166 : decode cX7_beginBlock 166 = .ok (.iconst 0, 1) := by decide +kernel
theorem dX7_beginBlock_167 : decode cX7_beginBlock 167 = .ok (.istore 4, 2) := by decide +kernel
theorem dX7_beginBlock_169 : decode cX7_beginBlock 169 = .ok (.iload 4, 2) := by decide +kernel
theorem dX7_beginBlock_171 : decode cX7_beginBlock 171 = .ok (.ifCond .eq 19, 3) := by decide +kernel
theorem dX7_beginBlock_174 : decode cX7_beginBlock 174 = .ok (.aload_n 0, 1) := by decide +kernel
theorem dX7_beginBlock_175 : decode cX7_beginBlock 175 = .ok (.getfield 7, 3) := by decide +kernel
theorem dX7_beginBlock_178 : decode cX7_beginBlock 178 = .ok (.bipush 116, 2) := by decide +kernel
theorem dX7_beginBlock_180 : decode cX7_beginBlock 180 = .ok (.iload_n 2, 1) := by decide +kernel
theorem dX7_beginBlock_181 : decode cX7_beginBlock 181 = .ok (.iastore, 1) := by decide +kernel
theorem dX7_beginBlock_182 : decode cX7_beginBlock 182 = .ok (.aload_n 0, 1) := by decide +kernel
theorem dX7_beginBlock_183 : decode cX7_beginBlock 183 = .ok (.getfield 7, 3) := by decide +kernel
theorem dX7_beginBlock_186 : decode cX7_beginBlock 186 = .ok (.bipush 117, 2) := by decide +kernel
theorem dX7_beginBlock_188 : decode cX7_beginBlock 188 = .ok (.iconst 0, 1) := by decide +kernel
theorem dX7_beginBlock_189 : decode cX7_beginBlock 189 = .ok (.iastore, 1) := by decide +kernel
theorem dX7_beginBlock_190 : decode cX7_beginBlock 190 = .ok (.iload 4, 2) := by decide +kernel
theorem dX7_beginBlock_192 : decode cX7_beginBlock 192 = .ok (.ireturn, 1) := by decide +kernel
theorem dX7_write_0 : decode cX7_write 0 = .ok (.aload_n 0, 1) := by decide +kernel
theorem dX7_write_1 : decode cX7_write 1 = .ok (.getfield 7, 3) := by decide +kernel
theorem dX7_write_4 : decode cX7_write 4 = .ok (.bipush 117, 2) := by decide +kernel
theorem dX7_write_6 : decode cX7_write 6 = .ok (.iaload, 1) := by decide +kernel
theorem dX7_write_7 : decode cX7_write 7 = .ok (.iconst 4, 1) := by decide +kernel
theorem dX7_write_8 : decode cX7_write 8 = .ok (.if_icmp .ne 12, 3) := by decide +kernel
theorem dX7_write_11 : decode cX7_write 11 = .ok (.aload_n 0, 1) := by decide +kernel
theorem dX7_write_12 : decode cX7_write 12 = .ok (.invokevirtual 78, 3) := by decide +kernel
theorem dX7_write_15 : decode cX7_write 15 = .ok (.ifCond .ne 5, 3) := by decide +kernel
theorem dX7_write_18 : decode cX7_write 18 = .ok (.iconst 0, 1) := by decide +kernel
theorem dX7_write_19 : decode cX7_write 19 = .ok (.ireturn, 1) := by decide +kernel
theorem dX7_write_20 : decode cX7_write 20 = .ok (.aload_n 0, 1) := by decide +kernel
theorem dX7_write_21 : decode cX7_write 21 = .ok (.getfield 7, 3) := by decide +kernel
theorem dX7_write_24 : decode cX7_write 24 = .ok (.bipush 116, 2) := by decide +kernel
theorem dX7_write_26 : decode cX7_write 26 = .ok (.iaload, 1) := by decide +kernel
theorem dX7_write_27 : decode cX7_write 27 = .ok (.istore 4, 2) := by decide +kernel
theorem dX7_write_29 : decode cX7_write 29 = .ok (.sipush 10000, 3) := by decide +kernel
theorem dX7_write_32 : decode cX7_write 32 = .ok (.iload_n 1, 1) := by decide +kernel
theorem dX7_write_33 : decode cX7_write 33 = .ok (.imul, 1) := by decide +kernel
theorem dX7_write_34 : decode cX7_write 34 = .ok (.aload_n 0, 1) := by decide +kernel
theorem dX7_write_35 : decode cX7_write 35 = .ok (.getfield 7, 3) := by decide +kernel
theorem dX7_write_38 : decode cX7_write 38 = .ok (.bipush 118, 2) := by decide +kernel
theorem dX7_write_40 : decode cX7_write 40 = .ok (.iaload, 1) := by decide +kernel
theorem dX7_write_41 : decode cX7_write 41 = .ok (.iadd, 1) := by decide +kernel
theorem dX7_write_42 : decode cX7_write 42 = .ok (.istore 5, 2) := by decide +kernel
theorem dX7_write_44 : decode cX7_write 44 = .ok (.aload_n 0, 1) := by decide +kernel
theorem dX7_write_45 : decode cX7_write 45 = .ok (.getfield 7, 3) := by decide +kernel
theorem dX7_write_48 : decode cX7_write 48 = .ok (.bipush 117, 2) := by decide +kernel
theorem dX7_write_50 : decode cX7_write 50 = .ok (.iaload, 1) := by decide +kernel
theorem dX7_write_51 : decode cX7_write 51 = .ok (.iconst 0, 1) := by decide +kernel
theorem dX7_write_52 : decode cX7_write 52 = .ok (.invokestatic 53, 3) := by decide +kernel
theorem dX7_write_55 : decode cX7_write 55 = .ok (.istore 6, 2) := by decide +kernel
theorem dX7_write_57 : decode cX7_write 57 = .ok (.aload_n 0, 1) := by decide +kernel
theorem dX7_write_58 : decode cX7_write 58 = .ok (.iload 4, 2) := by decide +kernel
theorem dX7_write_60 : decode cX7_write 60 = .ok (.iload 6, 2) := by decide +kernel
theorem dX7_write_62 : decode cX7_write 62 = .ok (.iload 5, 2) := by decide +kernel
theorem dX7_write_64 : decode cX7_write 64 = .ok (.invokevirtual 75, 3) := by decide +kernel
theorem dX7_write_67 : decode cX7_write 67 = .ok (.ifCond .eq 62, 3) := by decide +kernel
theorem dX7_write_70 : decode cX7_write 70 = .ok (.aload_n 0, 1) := by decide +kernel
theorem dX7_write_71 : decode cX7_write 71 = .ok (.iload 4, 2) := by decide +kernel
theorem dX7_write_73 : decode cX7_write 73 = .ok (.iload 6, 2) := by decide +kernel
theorem dX7_write_75 : decode cX7_write 75 = .ok (.iconst 1, 1) := by decide +kernel
theorem dX7_write_76 : decode cX7_write 76 = .ok (.iadd, 1) := by decide +kernel
theorem dX7_write_77 : decode cX7_write 77 = .ok (.iload_n 2, 1) := by decide +kernel
theorem dX7_write_78 : decode cX7_write 78 = .ok (.invokevirtual 75, 3) := by decide +kernel
theorem dX7_write_81 : decode cX7_write 81 = .ok (.ifCond .eq 48, 3) := by decide +kernel
theorem dX7_write_84 : decode cX7_write 84 = .ok (.aload_n 0, 1) := by decide +kernel
theorem dX7_write_85 : decode cX7_write 85 = .ok (.iload 4, 2) := by decide +kernel
theorem dX7_write_87 : decode cX7_write 87 = .ok (.iload 6, 2) := by decide +kernel
theorem dX7_write_89 : decode cX7_write 89 = .ok (.iconst 2, 1) := by decide +kernel
theorem dX7_write_90 : decode cX7_write 90 = .ok (.iadd, 1) := by decide +kernel
theorem dX7_write_91 : decode cX7_write 91 = .ok (.iload_n 3, 1) := by decide +kernel
theorem dX7_write_92 : decode cX7_write 92 = .ok (.invokevirtual 75, 3) := by decide +kernel
theorem dX7_write_95 : decode cX7_write 95 = .ok (.ifCond .eq 34, 3) := by decide +kernel
theorem dX7_write_98 : decode cX7_write 98 = .ok (.aload_n 0, 1) := by decide +kernel
theorem dX7_write_99 : decode cX7_write 99 = .ok (.iload 4, 2) := by decide +kernel
theorem dX7_write_101 : decode cX7_write 101 = .ok (.iload 6, 2) := by decide +kernel
theorem dX7_write_103 : decode cX7_write 103 = .ok (.iconst 3, 1) := by decide +kernel
theorem dX7_write_104 : decode cX7_write 104 = .ok (.iadd, 1) := by decide +kernel
theorem dX7_write_105 : decode cX7_write 105 = .ok (.iload 5, 2) := by decide +kernel
theorem dX7_write_107 : decode cX7_write 107 = .ok (.iload_n 2, 1) := by decide +kernel
theorem dX7_write_108 : decode cX7_write 108 = .ok (.iload_n 3, 1) := by decide +kernel
theorem dX7_write_109 : decode cX7_write 109 = .ok (.aload_n 0, 1) := by decide +kernel
theorem dX7_write_110 : decode cX7_write 110 = .ok (.iload 4, 2) := by decide +kernel
theorem dX7_write_112 : decode cX7_write 112 = .ok (.iconst 0, 1) := by decide +kernel
theorem dX7_write_113 : decode cX7_write 113 = .ok (.invokevirtual 45, 3) := by decide +kernel
theorem dX7_write_116 : decode cX7_write 116 = .ok (.invokestatic 64, 3) := by decide +kernel
theorem dX7_write_119 : decode cX7_write 119 = .ok (.invokevirtual 75, 3) := by decide +kernel
theorem dX7_write_122 : decode cX7_write 122 = .ok (.ifCond .eq 7, 3) := by decide +kernel
theorem dX7_write_125 : decode cX7_write 125 = .ok (.iconst 1, 1) := by decide +kernel
theorem dX7_write_126 : decode cX7_write 126 = .ok (.goto 4, 3) := by decide +kernel
theorem dX7_write_129 : decode cX7_write 129 = .ok (.iconst 0, 1) := by decide +kernel
theorem dX7_write_130 : decode cX7_write 130 = .ok (.istore 7, 2) := by decide +kernel
theorem dX7_write_132 : decode cX7_write 132 = .ok (.iload 7, 2) := by decide +kernel
theorem dX7_write_134 : decode cX7_write 134 = .ok (.ifCond .eq 34, 3) := by decide +kernel
theorem dX7_write_137 : decode cX7_write 137 = .ok (.aload_n 0, 1) := by decide +kernel
theorem dX7_write_138 : decode cX7_write 138 = .ok (.getfield 7, 3) := by decide +kernel
theorem dX7_write_141 : decode cX7_write 141 = .ok (.bipush 117, 2) := by decide +kernel
theorem dX7_write_143 : decode cX7_write 143 = .ok (.dup2, 1) := by decide +kernel
theorem dX7_write_144 : decode cX7_write 144 = .ok (.iaload, 1) := by decide +kernel
theorem dX7_write_145 : decode cX7_write 145 = .ok (.iconst 1, 1) := by decide +kernel
theorem dX7_write_146 : decode cX7_write 146 = .ok (.iadd, 1) := by decide +kernel
theorem dX7_write_147 : decode cX7_write 147 = .ok (.iastore, 1) := by decide +kernel
theorem dX7_write_148 : decode cX7_write 148 = .ok (.aload_n 0, 1) := by decide +kernel
theorem dX7_write_149 : decode cX7_write 149 = .ok (.getfield 7, 3) := by decide +kernel
theorem dX7_write_152 : decode cX7_write 152 = .ok (.bipush 118, 2) := by decide +kernel
theorem dX7_write_154 : decode cX7_write 154 = .ok (.aload_n 0, 1) := by decide +kernel
theorem dX7_write_155 : decode cX7_write 155 = .ok (.getfield 7, 3) := by decide +kernel
theorem dX7_write_158 : decode cX7_write 158 = .ok (.bipush 118, 2) := by decide +kernel
theorem dX7_write_160 : decode cX7_write 160 = .ok (.iaload, 1) := by decide +kernel
theorem dX7_write_161 : decode cX7_write 161 = .ok (.iconst 1, 1) := by decide +kernel
theorem dX7_write_162 : decode cX7_write 162 = .ok (.iadd, 1) := by decide +kernel
theorem dX7_write_163 : decode cX7_write 163 = .ok (.sipush 10000, 3) := by decide +kernel
theorem dX7_write_166 : decode cX7_write 166 = .ok (.irem, 1) := by decide +kernel
theorem dX7_write_167 : decode cX7_write 167 = .ok (.iastore, 1) := by decide +kernel
theorem dX7_write_168 : decode cX7_write 168 = .ok (.iload 7, 2) := by decide +kernel
theorem dX7_write_170 : decode cX7_write 170 = .ok (.ireturn, 1) := by decide +kernel
theorem dX7_newest_0 : decode cX7_newest 0 = .ok (.bipush (-9), 2) := by decide +kernel
theorem dX7_newest_2 : decode cX7_newest 2 = .ok (.istore_n 1, 1) := by decide +kernel
theorem dX7_newest_3 : decode cX7_newest 3 = .ok (.iconst 0, 1) := by decide +kernel
theorem dX7_newest_4 : decode cX7_newest 4 = .ok (.istore_n 2, 1) := by decide +kernel
theorem dX7_newest_5 : decode cX7_newest 5 = .ok (.iload_n 2, 1) := by decide +kernel
theorem dX7_newest_6 : decode cX7_newest 6 = .ok (.iconst 5, 1) := by decide +kernel
theorem dX7_newest_7 : decode cX7_newest 7 = .ok (.if_icmp .ge 85, 3) := by decide +kernel
theorem dX7_newest_10 : decode cX7_newest 10 = .ok (.aload_n 0, 1) := by decide +kernel
theorem dX7_newest_11 : decode cX7_newest 11 = .ok (.iload_n 2, 1) := by decide +kernel
theorem dX7_newest_12 : decode cX7_newest 12 = .ok (.invokevirtual 81, 3) := by decide +kernel
theorem dX7_newest_15 : decode cX7_newest 15 = .ok (.istore_n 3, 1) := by decide +kernel
theorem dX7_newest_16 : decode cX7_newest 16 = .ok (.iconst 0, 1) := by decide +kernel
theorem dX7_newest_17 : decode cX7_newest 17 = .ok (.istore 4, 2) := by decide +kernel
theorem dX7_newest_19 : decode cX7_newest 19 = .ok (.iload 4, 2) := by decide +kernel
theorem dX7_newest_21 : decode cX7_newest 21 = .ok (.iconst 5, 1) := by decide +kernel
theorem dX7_newest_22 : decode cX7_newest 22 = .ok (.if_icmp .ge 48, 3) := by decide +kernel
theorem dX7_newest_25 : decode cX7_newest 25 = .ok (.iload_n 3, 1) := by decide +kernel
theorem dX7_newest_26 : decode cX7_newest 26 = .ok (.aload_n 0, 1) := by decide +kernel
theorem dX7_newest_27 : decode cX7_newest 27 = .ok (.iload 4, 2) := by decide +kernel
theorem dX7_newest_29 : decode cX7_newest 29 = .ok (.invokevirtual 81, 3) := by decide +kernel
theorem dX7_newest_32 : decode cX7_newest 32 = .ok (.ifCond .eq 25, 3) := by decide +kernel
theorem dX7_newest_35 : decode cX7_newest 35 = .ok (.aload_n 0, 1) := by decide +kernel
theorem dX7_newest_36 : decode cX7_newest 36 = .ok (.iload 4, 2) := by decide +kernel
theorem dX7_newest_38 : decode cX7_newest 38 = .ok (.iconst 0, 1) := by decide +kernel
theorem dX7_newest_39 : decode cX7_newest 39 = .ok (.invokevirtual 45, 3) := by decide +kernel
theorem dX7_newest_42 : decode cX7_newest 42 = .ok (.aload_n 0, 1) := by decide +kernel
theorem dX7_newest_43 : decode cX7_newest 43 = .ok (.iload_n 2, 1) := by decide +kernel
theorem dX7_newest_44 : decode cX7_newest 44 = .ok (.iconst 0, 1) := by decide +kernel
theorem dX7_newest_45 : decode cX7_newest 45 = .ok (.invokevirtual 45, 3) := by decide +kernel
theorem dX7_newest_48 : decode cX7_newest 48 = .ok (.iconst 1, 1) := by decide +kernel
theorem dX7_newest_49 : decode cX7_newest 49 = .ok (.iadd, 1) := by decide +kernel
theorem dX7_newest_50 : decode cX7_newest 50 = .ok (.sipush 10000, 3) := by decide +kernel
theorem dX7_newest_53 : decode cX7_newest 53 = .ok (.irem, 1) := by decide +kernel
theorem dX7_newest_54 : decode cX7_newest 54 = .ok (.if_icmp .eq 7, 3) := by decide +kernel
theorem dX7_newest_57 : decode cX7_newest 57 = .ok (.iconst 1, 1) := by decide +kernel
theorem dX7_newest_58 : decode cX7_newest 58 = .ok (.goto 4, 3) := by decide +kernel
theorem dX7_newest_61 : decode cX7_newest 61 = .ok (.iconst 0, 1) := by decide +kernel
theorem dX7_newest_62 : decode cX7_newest 62 = .ok (.iand, 1) := by decide +kernel
theorem dX7_newest_63 : decode cX7_newest 63 = .ok (.istore_n 3, 1) := by decide +kernel
theorem dX7_newest_64 : decode cX7_newest 64 = .ok (.iinc 4 1, 3) := by decide +kernel
theorem dX7_newest_67 : decode cX7_newest 67 = .ok (.goto (-48), 3) := by decide +kernel
theorem dX7_newest_70 : decode cX7_newest 70 = .ok (.iload_n 3, 1) := by decide +kernel
theorem dX7_newest_71 : decode cX7_newest 71 = .ok (.ifCond .eq 13, 3) := by decide +kernel
theorem dX7_newest_74 : decode cX7_newest 74 = .ok (.iload_n 1, 1) := by decide +kernel
theorem dX7_newest_75 : decode cX7_newest 75 = .ok (.bipush (-9), 2) := by decide +kernel
theorem dX7_newest_77 : decode cX7_newest 77 = .ok (.if_icmp .ne 7, 3) := by decide +kernel
theorem dX7_newest_80 : decode cX7_newest 80 = .ok (.iload_n 2, 1) := by decide +kernel
theorem dX7_newest_81 : decode cX7_newest 81 = .ok (.goto 4, 3) := by decide +kernel
theorem dX7_newest_84 : decode cX7_newest 84 = .ok (.iload_n 1, 1) := by decide +kernel
theorem dX7_newest_85 : decode cX7_newest 85 = .ok (.istore_n 1, 1) := by decide +kernel
theorem dX7_newest_86 : decode cX7_newest 86 = .ok (.iinc 2 1, 3) := by decide +kernel
theorem dX7_newest_89 : decode cX7_newest 89 = .ok (.goto (-84), 3) := by decide +kernel
theorem dX7_newest_92 : decode cX7_newest 92 = .ok (.iload_n 1, 1) := by decide +kernel
theorem dX7_newest_93 : decode cX7_newest 93 = .ok (.ireturn, 1) := by decide +kernel
theorem dX7_readMemory_0 : decode cX7_readMemory 0 = .ok (.aload_n 0, 1) := by decide +kernel
theorem dX7_readMemory_1 : decode cX7_readMemory 1 = .ok (.invokevirtual 84, 3) := by decide +kernel
theorem dX7_readMemory_4 : decode cX7_readMemory 4 = .ok (.istore_n 1, 1) := by decide +kernel
theorem dX7_readMemory_5 : decode cX7_readMemory 5 = .ok (.aload_n 0, 1) := by decide +kernel
theorem dX7_readMemory_6 : decode cX7_readMemory 6 = .ok (.getfield 7, 3) := by decide +kernel
theorem dX7_readMemory_9 : decode cX7_readMemory 9 = .ok (.bipush 115, 2) := by decide +kernel
theorem dX7_readMemory_11 : decode cX7_readMemory 11 = .ok (.iconst 1, 1) := by decide +kernel
theorem dX7_readMemory_12 : decode cX7_readMemory 12 = .ok (.iastore, 1) := by decide +kernel
theorem dX7_readMemory_13 : decode cX7_readMemory 13 = .ok (.aload_n 0, 1) := by decide +kernel
theorem dX7_readMemory_14 : decode cX7_readMemory 14 = .ok (.getfield 7, 3) := by decide +kernel
theorem dX7_readMemory_17 : decode cX7_readMemory 17 = .ok (.bipush 116, 2) := by decide +kernel
theorem dX7_readMemory_19 : decode cX7_readMemory 19 = .ok (.iload_n 1, 1) := by decide +kernel
theorem dX7_readMemory_20 : decode cX7_readMemory 20 = .ok (.iastore, 1) := by decide +kernel
theorem dX7_readMemory_21 : decode cX7_readMemory 21 = .ok (.aload_n 0, 1) := by decide +kernel
theorem dX7_readMemory_22 : decode cX7_readMemory 22 = .ok (.getfield 7, 3) := by decide +kernel
theorem dX7_readMemory_25 : decode cX7_readMemory 25 = .ok (.bipush 119, 2) := by decide +kernel
theorem dX7_readMemory_27 : decode cX7_readMemory 27 = .ok (.aload_n 0, 1) := by decide +kernel
theorem dX7_readMemory_28 : decode cX7_readMemory 28 = .ok (.iload_n 1, 1) := by decide +kernel
theorem dX7_readMemory_29 : decode cX7_readMemory 29 = .ok (.iconst 1, 1) := by decide +kernel
theorem dX7_readMemory_30 : decode cX7_readMemory 30 = .ok (.invokevirtual 45, 3) := by decide +kernel
theorem dX7_readMemory_33 : decode cX7_readMemory 33 = .ok (.iastore, 1) := by decide +kernel
theorem dX7_readMemory_34 : decode cX7_readMemory 34 = .ok (.aload_n 0, 1) := by decide +kernel
theorem dX7_readMemory_35 : decode cX7_readMemory 35 = .ok (.getfield 7, 3) := by decide +kernel
theorem dX7_readMemory_38 : decode cX7_readMemory 38 = .ok (.bipush 120, 2) := by decide +kernel
theorem dX7_readMemory_40 : decode cX7_readMemory 40 = .ok (.aload_n 0, 1) := by decide +kernel
theorem dX7_readMemory_41 : decode cX7_readMemory 41 = .ok (.iload_n 1, 1) := by decide +kernel
theorem dX7_readMemory_42 : decode cX7_readMemory 42 = .ok (.iconst 2, 1) := by decide +kernel
theorem dX7_readMemory_43 : decode cX7_readMemory 43 = .ok (.invokevirtual 45, 3) := by decide +kernel
theorem dX7_readMemory_46 : decode cX7_readMemory 46 = .ok (.iastore, 1) := by decide +kernel
theorem dX7_readMemory_47 : decode cX7_readMemory 47 = .ok (.aload_n 0, 1) := by decide +kernel
theorem dX7_readMemory_48 : decode cX7_readMemory 48 = .ok (.getfield 7, 3) := by decide +kernel
theorem dX7_readMemory_51 : decode cX7_readMemory 51 = .ok (.bipush 121, 2) := by decide +kernel
theorem dX7_readMemory_53 : decode cX7_readMemory 53 = .ok (.aload_n 0, 1) := by decide +kernel
theorem dX7_readMemory_54 : decode cX7_readMemory 54 = .ok (.iload_n 1, 1) := by decide +kernel
theorem dX7_readMemory_55 : decode cX7_readMemory 55 = .ok (.iconst 3, 1) := by decide +kernel
theorem dX7_readMemory_56 : decode cX7_readMemory 56 = .ok (.invokevirtual 45, 3) := by decide +kernel
theorem dX7_readMemory_59 : decode cX7_readMemory 59 = .ok (.iastore, 1) := by decide +kernel
theorem dX7_readMemory_60 : decode cX7_readMemory 60 = .ok (.aload_n 0, 1) := by decide +kernel
theorem dX7_readMemory_61 : decode cX7_readMemory 61 = .ok (.getfield 7, 3) := by decide +kernel
theorem dX7_readMemory_64 : decode cX7_readMemory 64 = .ok (.bipush 118, 2) := by decide +kernel
theorem dX7_readMemory_66 : decode cX7_readMemory 66 = .ok (.aload_n 0, 1) := by decide +kernel
theorem dX7_readMemory_67 : decode cX7_readMemory 67 = .ok (.iload_n 1, 1) := by decide +kernel
theorem dX7_readMemory_68 : decode cX7_readMemory 68 = .ok (.iconst 4, 1) := by decide +kernel
theorem dX7_readMemory_69 : decode cX7_readMemory 69 = .ok (.invokevirtual 45, 3) := by decide +kernel
theorem dX7_readMemory_72 : decode cX7_readMemory 72 = .ok (.iastore, 1) := by decide +kernel
theorem dX7_readMemory_73 : decode cX7_readMemory 73 = .ok (.aload_n 0, 1) := by decide +kernel
theorem dX7_readMemory_74 : decode cX7_readMemory 74 = .ok (.getfield 7, 3) := by decide +kernel
theorem dX7_readMemory_77 : decode cX7_readMemory 77 = .ok (.bipush 117, 2) := by decide +kernel
theorem dX7_readMemory_79 : decode cX7_readMemory 79 = .ok (.iconst 4, 1) := by decide +kernel
theorem dX7_readMemory_80 : decode cX7_readMemory 80 = .ok (.iastore, 1) := by decide +kernel
theorem dX7_readMemory_81 : decode cX7_readMemory 81 = .ok (.aload_n 0, 1) := by decide +kernel
theorem dX7_readMemory_82 : decode cX7_readMemory 82 = .ok (.getfield 7, 3) := by decide +kernel
theorem dX7_readMemory_85 : decode cX7_readMemory 85 = .ok (.bipush 117, 2) := by decide +kernel
theorem dX7_readMemory_87 : decode cX7_readMemory 87 = .ok (.iaload, 1) := by decide +kernel
theorem dX7_readMemory_88 : decode cX7_readMemory 88 = .ok (.ifCond .le 34, 3) := by decide +kernel
theorem dX7_readMemory_91 : decode cX7_readMemory 91 = .ok (.aload_n 0, 1) := by decide +kernel
theorem dX7_readMemory_92 : decode cX7_readMemory 92 = .ok (.iload_n 1, 1) := by decide +kernel
theorem dX7_readMemory_93 : decode cX7_readMemory 93 = .ok (.aload_n 0, 1) := by decide +kernel
theorem dX7_readMemory_94 : decode cX7_readMemory 94 = .ok (.getfield 7, 3) := by decide +kernel
theorem dX7_readMemory_97 : decode cX7_readMemory 97 = .ok (.bipush 117, 2) := by decide +kernel
theorem dX7_readMemory_99 : decode cX7_readMemory 99 = .ok (.iaload, 1) := by decide +kernel
theorem dX7_readMemory_100 : decode cX7_readMemory 100 = .ok (.iconst 1, 1) := by decide +kernel
theorem dX7_readMemory_101 : decode cX7_readMemory 101 = .ok (.isub, 1) := by decide +kernel
theorem dX7_readMemory_102 : decode cX7_readMemory 102 = .ok (.invokevirtual 60, 3) := by decide +kernel
theorem dX7_readMemory_105 : decode cX7_readMemory 105 = .ok (.ifCond .eq 17, 3) := by decide +kernel
theorem dX7_readMemory_108 : decode cX7_readMemory 108 = .ok (.aload_n 0, 1) := by decide +kernel
theorem dX7_readMemory_109 : decode cX7_readMemory 109 = .ok (.getfield 7, 3) := by decide +kernel
theorem dX7_readMemory_112 : decode cX7_readMemory 112 = .ok (.bipush 117, 2) := by decide +kernel
theorem dX7_readMemory_114 : decode cX7_readMemory 114 = .ok (.dup2, 1) := by decide +kernel
theorem dX7_readMemory_115 : decode cX7_readMemory 115 = .ok (.iaload, 1) := by decide +kernel
theorem dX7_readMemory_116 : decode cX7_readMemory 116 = .ok (.iconst 1, 1) := by decide +kernel
theorem dX7_readMemory_117 : decode cX7_readMemory 117 = .ok (.isub, 1) := by decide +kernel
theorem dX7_readMemory_118 : decode cX7_readMemory 118 = .ok (.iastore, 1) := by decide +kernel
theorem dX7_readMemory_119 : decode cX7_readMemory 119 = .ok (.goto (-38), 3) := by decide +kernel
theorem dX7_readMemory_122 : decode cX7_readMemory 122 = .ok (.iconst 0, 1) := by decide +kernel
theorem dX7_readMemory_123 : decode cX7_readMemory 123 = .ok (.istore_n 2, 1) := by decide +kernel
theorem dX7_readMemory_124 : decode cX7_readMemory 124 = .ok (.iload_n 2, 1) := by decide +kernel
theorem dX7_readMemory_125 : decode cX7_readMemory 125 = .ok (.iconst 4, 1) := by decide +kernel
theorem dX7_readMemory_126 : decode cX7_readMemory 126 = .ok (.if_icmp .ge 36, 3) := by decide +kernel
theorem dX7_readMemory_129 : decode cX7_readMemory 129 = .ok (.aload_n 0, 1) := by decide +kernel
theorem dX7_readMemory_130 : decode cX7_readMemory 130 = .ok (.iload_n 1, 1) := by decide +kernel
theorem dX7_readMemory_131 : decode cX7_readMemory 131 = .ok (.iload_n 2, 1) := by decide +kernel
theorem dX7_readMemory_132 : decode cX7_readMemory 132 = .ok (.invokevirtual 68, 3) := by decide +kernel
theorem dX7_readMemory_135 : decode cX7_readMemory 135 = .ok (.ifCond .eq 21, 3) := by decide +kernel
theorem dX7_readMemory_138 : decode cX7_readMemory 138 = .ok (.aload_n 0, 1) := by decide +kernel
theorem dX7_readMemory_139 : decode cX7_readMemory 139 = .ok (.aload_n 0, 1) := by decide +kernel
theorem dX7_readMemory_140 : decode cX7_readMemory 140 = .ok (.iload_n 1, 1) := by decide +kernel
theorem dX7_readMemory_141 : decode cX7_readMemory 141 = .ok (.iload_n 2, 1) := by decide +kernel
theorem dX7_readMemory_142 : decode cX7_readMemory 142 = .ok (.iconst 0, 1) := by decide +kernel
theorem dX7_readMemory_143 : decode cX7_readMemory 143 = .ok (.invokevirtual 56, 3) := by decide +kernel
theorem dX7_readMemory_146 : decode cX7_readMemory 146 = .ok (.aload_n 0, 1) := by decide +kernel
theorem dX7_readMemory_147 : decode cX7_readMemory 147 = .ok (.iload_n 1, 1) := by decide +kernel
theorem dX7_readMemory_148 : decode cX7_readMemory 148 = .ok (.iload_n 2, 1) := by decide +kernel
theorem dX7_readMemory_149 : decode cX7_readMemory 149 = .ok (.iconst 2, 1) := by decide +kernel
theorem dX7_readMemory_150 : decode cX7_readMemory 150 = .ok (.invokevirtual 56, 3) := by decide +kernel
theorem dX7_readMemory_153 : decode cX7_readMemory 153 = .ok (.invokevirtual 88, 3) := by decide +kernel
theorem dX7_readMemory_156 : decode cX7_readMemory 156 = .ok (.iinc 2 1, 3) := by decide +kernel
theorem dX7_readMemory_159 : decode cX7_readMemory 159 = .ok (.goto (-35), 3) := by decide +kernel
theorem dX7_readMemory_162 : decode cX7_readMemory 162 = .ok (.return_, 1) := by decide +kernel
theorem dX7_follow_0 : decode cX7_follow 0 = .ok (.aload_n 0, 1) := by decide +kernel
theorem dX7_follow_1 : decode cX7_follow 1 = .ok (.getfield 7, 3) := by decide +kernel
theorem dX7_follow_4 : decode cX7_follow 4 = .ok (.bipush 118, 2) := by decide +kernel
theorem dX7_follow_6 : decode cX7_follow 6 = .ok (.iload_n 1, 1) := by decide +kernel
theorem dX7_follow_7 : decode cX7_follow 7 = .ok (.sipush 10000, 3) := by decide +kernel
theorem dX7_follow_10 : decode cX7_follow 10 = .ok (.irem, 1) := by decide +kernel
theorem dX7_follow_11 : decode cX7_follow 11 = .ok (.iconst 1, 1) := by decide +kernel
theorem dX7_follow_12 : decode cX7_follow 12 = .ok (.iadd, 1) := by decide +kernel
theorem dX7_follow_13 : decode cX7_follow 13 = .ok (.sipush 10000, 3) := by decide +kernel
theorem dX7_follow_16 : decode cX7_follow 16 = .ok (.irem, 1) := by decide +kernel
theorem dX7_follow_17 : decode cX7_follow 17 = .ok (.iastore, 1) := by decide +kernel
theorem dX7_follow_18 : decode cX7_follow 18 = .ok (.iload_n 1, 1) := by decide +kernel
theorem dX7_follow_19 : decode cX7_follow 19 = .ok (.sipush 10000, 3) := by decide +kernel
theorem dX7_follow_22 : decode cX7_follow 22 = .ok (.idiv, 1) := by decide +kernel
theorem dX7_follow_23 : decode cX7_follow 23 = .ok (.tableswitch 139 0 4 #[33, 80, 139, 109, 128], 33) := by decide +kernel
theorem dX7_follow_56 : decode cX7_follow 56 = .ok (.aload_n 0, 1) := by decide +kernel
theorem dX7_follow_57 : decode cX7_follow 57 = .ok (.getfield 7, 3) := by decide +kernel
theorem dX7_follow_60 : decode cX7_follow 60 = .ok (.bipush 119, 2) := by decide +kernel
theorem dX7_follow_62 : decode cX7_follow 62 = .ok (.dup2, 1) := by decide +kernel
theorem dX7_follow_63 : decode cX7_follow 63 = .ok (.iaload, 1) := by decide +kernel
theorem dX7_follow_64 : decode cX7_follow 64 = .ok (.iload_n 2, 1) := by decide +kernel
theorem dX7_follow_65 : decode cX7_follow 65 = .ok (.sipush 1000, 3) := by decide +kernel
theorem dX7_follow_68 : decode cX7_follow 68 = .ok (.irem, 1) := by decide +kernel
theorem dX7_follow_69 : decode cX7_follow 69 = .ok (.iadd, 1) := by decide +kernel
theorem dX7_follow_70 : decode cX7_follow 70 = .ok (.iastore, 1) := by decide +kernel
theorem dX7_follow_71 : decode cX7_follow 71 = .ok (.aload_n 0, 1) := by decide +kernel
theorem dX7_follow_72 : decode cX7_follow 72 = .ok (.getfield 7, 3) := by decide +kernel
theorem dX7_follow_75 : decode cX7_follow 75 = .ok (.bipush 120, 2) := by decide +kernel
theorem dX7_follow_77 : decode cX7_follow 77 = .ok (.dup2, 1) := by decide +kernel
theorem dX7_follow_78 : decode cX7_follow 78 = .ok (.iaload, 1) := by decide +kernel
theorem dX7_follow_79 : decode cX7_follow 79 = .ok (.iconst 1, 1) := by decide +kernel
theorem dX7_follow_80 : decode cX7_follow 80 = .ok (.iadd, 1) := by decide +kernel
theorem dX7_follow_81 : decode cX7_follow 81 = .ok (.iastore, 1) := by decide +kernel
theorem dX7_follow_82 : decode cX7_follow 82 = .ok (.aload_n 0, 1) := by decide +kernel
theorem dX7_follow_83 : decode cX7_follow 83 = .ok (.getfield 7, 3) := by decide +kernel
theorem dX7_follow_86 : decode cX7_follow 86 = .ok (.bipush 121, 2) := by decide +kernel
theorem dX7_follow_88 : decode cX7_follow 88 = .ok (.dup2, 1) := by decide +kernel
theorem dX7_follow_89 : decode cX7_follow 89 = .ok (.iaload, 1) := by decide +kernel
theorem dX7_follow_90 : decode cX7_follow 90 = .ok (.iload_n 2, 1) := by decide +kernel
theorem dX7_follow_91 : decode cX7_follow 91 = .ok (.sipush 1000, 3) := by decide +kernel
theorem dX7_follow_94 : decode cX7_follow 94 = .ok (.idiv, 1) := by decide +kernel
theorem dX7_follow_95 : decode cX7_follow 95 = .ok (.invokestatic 92, 3) := by decide +kernel
theorem dX7_follow_98 : decode cX7_follow 98 = .ok (.isub, 1) := by decide +kernel
theorem dX7_follow_99 : decode cX7_follow 99 = .ok (.iastore, 1) := by decide +kernel
theorem dX7_follow_100 : decode cX7_follow 100 = .ok (.goto 62, 3) := by decide +kernel
theorem dX7_follow_103 : decode cX7_follow 103 = .ok (.aload_n 0, 1) := by decide +kernel
theorem dX7_follow_104 : decode cX7_follow 104 = .ok (.getfield 7, 3) := by decide +kernel
theorem dX7_follow_107 : decode cX7_follow 107 = .ok (.bipush 119, 2) := by decide +kernel
theorem dX7_follow_109 : decode cX7_follow 109 = .ok (.dup2, 1) := by decide +kernel
theorem dX7_follow_110 : decode cX7_follow 110 = .ok (.iaload, 1) := by decide +kernel
theorem dX7_follow_111 : decode cX7_follow 111 = .ok (.iload_n 2, 1) := by decide +kernel
theorem dX7_follow_112 : decode cX7_follow 112 = .ok (.sipush 1000, 3) := by decide +kernel
theorem dX7_follow_115 : decode cX7_follow 115 = .ok (.irem, 1) := by decide +kernel
theorem dX7_follow_116 : decode cX7_follow 116 = .ok (.isub, 1) := by decide +kernel
theorem dX7_follow_117 : decode cX7_follow 117 = .ok (.iastore, 1) := by decide +kernel
theorem dX7_follow_118 : decode cX7_follow 118 = .ok (.aload_n 0, 1) := by decide +kernel
theorem dX7_follow_119 : decode cX7_follow 119 = .ok (.getfield 7, 3) := by decide +kernel
theorem dX7_follow_122 : decode cX7_follow 122 = .ok (.bipush 120, 2) := by decide +kernel
theorem dX7_follow_124 : decode cX7_follow 124 = .ok (.dup2, 1) := by decide +kernel
theorem dX7_follow_125 : decode cX7_follow 125 = .ok (.iaload, 1) := by decide +kernel
theorem dX7_follow_126 : decode cX7_follow 126 = .ok (.iconst 1, 1) := by decide +kernel
theorem dX7_follow_127 : decode cX7_follow 127 = .ok (.isub, 1) := by decide +kernel
theorem dX7_follow_128 : decode cX7_follow 128 = .ok (.iastore, 1) := by decide +kernel
theorem dX7_follow_129 : decode cX7_follow 129 = .ok (.goto 33, 3) := by decide +kernel
theorem dX7_follow_132 : decode cX7_follow 132 = .ok (.aload_n 0, 1) := by decide +kernel
theorem dX7_follow_133 : decode cX7_follow 133 = .ok (.getfield 7, 3) := by decide +kernel
theorem dX7_follow_136 : decode cX7_follow 136 = .ok (.bipush 119, 2) := by decide +kernel
theorem dX7_follow_138 : decode cX7_follow 138 = .ok (.iconst 0, 1) := by decide +kernel
theorem dX7_follow_139 : decode cX7_follow 139 = .ok (.iastore, 1) := by decide +kernel
theorem dX7_follow_140 : decode cX7_follow 140 = .ok (.aload_n 0, 1) := by decide +kernel
theorem dX7_follow_141 : decode cX7_follow 141 = .ok (.getfield 7, 3) := by decide +kernel
theorem dX7_follow_144 : decode cX7_follow 144 = .ok (.bipush 120, 2) := by decide +kernel
theorem dX7_follow_146 : decode cX7_follow 146 = .ok (.iconst 0, 1) := by decide +kernel
theorem dX7_follow_147 : decode cX7_follow 147 = .ok (.iastore, 1) := by decide +kernel
theorem dX7_follow_148 : decode cX7_follow 148 = .ok (.goto 14, 3) := by decide +kernel
theorem dX7_follow_151 : decode cX7_follow 151 = .ok (.aload_n 0, 1) := by decide +kernel
theorem dX7_follow_152 : decode cX7_follow 152 = .ok (.getfield 7, 3) := by decide +kernel
theorem dX7_follow_155 : decode cX7_follow 155 = .ok (.bipush 121, 2) := by decide +kernel
theorem dX7_follow_157 : decode cX7_follow 157 = .ok (.iload_n 2, 1) := by decide +kernel
theorem dX7_follow_158 : decode cX7_follow 158 = .ok (.iastore, 1) := by decide +kernel
theorem dX7_follow_159 : decode cX7_follow 159 = .ok (.goto 3, 3) := by decide +kernel
theorem dX7_follow_162 : decode cX7_follow 162 = .ok (.return_, 1) := by decide +kernel
theorem dX7_refusal_0 : decode cX7_refusal 0 = .ok (.iload_n 1, 1) := by decide +kernel
theorem dX7_refusal_1 : decode cX7_refusal 1 = .ok (.invokestatic 96, 3) := by decide +kernel
theorem dX7_refusal_4 : decode cX7_refusal 4 = .ok (.ifCond .ne 5, 3) := by decide +kernel
theorem dX7_refusal_7 : decode cX7_refusal 7 = .ok (.iconst (-1), 1) := by decide +kernel
theorem dX7_refusal_8 : decode cX7_refusal 8 = .ok (.ireturn, 1) := by decide +kernel
theorem dX7_refusal_9 : decode cX7_refusal 9 = .ok (.aload_n 0, 1) := by decide +kernel
theorem dX7_refusal_10 : decode cX7_refusal 10 = .ok (.getfield 7, 3) := by decide +kernel
theorem dX7_refusal_13 : decode cX7_refusal 13 = .ok (.bipush 115, 2) := by decide +kernel
theorem dX7_refusal_15 : decode cX7_refusal 15 = .ok (.iaload, 1) := by decide +kernel
theorem dX7_refusal_16 : decode cX7_refusal 16 = .ok (.ifCond .eq 25, 3) := by decide +kernel
theorem dX7_refusal_19 : decode cX7_refusal 19 = .ok (.aload_n 0, 1) := by decide +kernel
theorem dX7_refusal_20 : decode cX7_refusal 20 = .ok (.getfield 7, 3) := by decide +kernel
theorem dX7_refusal_23 : decode cX7_refusal 23 = .ok (.bipush 119, 2) := by decide +kernel
theorem dX7_refusal_25 : decode cX7_refusal 25 = .ok (.iaload, 1) := by decide +kernel
theorem dX7_refusal_26 : decode cX7_refusal 26 = .ok (.aload_n 0, 1) := by decide +kernel
theorem dX7_refusal_27 : decode cX7_refusal 27 = .ok (.getfield 7, 3) := by decide +kernel
theorem dX7_refusal_30 : decode cX7_refusal 30 = .ok (.bipush 127, 2) := by decide +kernel
theorem dX7_refusal_32 : decode cX7_refusal 32 = .ok (.iload_n 1, 1) := by decide +kernel
theorem dX7_refusal_33 : decode cX7_refusal 33 = .ok (.iadd, 1) := by decide +kernel
theorem dX7_refusal_34 : decode cX7_refusal 34 = .ok (.iaload, 1) := by decide +kernel
theorem dX7_refusal_35 : decode cX7_refusal 35 = .ok (.iadd, 1) := by decide +kernel
theorem dX7_refusal_36 : decode cX7_refusal 36 = .ok (.ldc 99, 2) := by decide +kernel
theorem dX7_refusal_38 : decode cX7_refusal 38 = .ok (.if_icmp .le 6, 3) := by decide +kernel
theorem dX7_refusal_41 : decode cX7_refusal 41 = .ok (.bipush (-2), 2) := by decide +kernel
theorem dX7_refusal_43 : decode cX7_refusal 43 = .ok (.ireturn, 1) := by decide +kernel
theorem dX7_refusal_44 : decode cX7_refusal 44 = .ok (.aload_n 0, 1) := by decide +kernel
theorem dX7_refusal_45 : decode cX7_refusal 45 = .ok (.getfield 7, 3) := by decide +kernel
theorem dX7_refusal_48 : decode cX7_refusal 48 = .ok (.bipush 121, 2) := by decide +kernel
theorem dX7_refusal_50 : decode cX7_refusal 50 = .ok (.iaload, 1) := by decide +kernel
theorem dX7_refusal_51 : decode cX7_refusal 51 = .ok (.iload_n 1, 1) := by decide +kernel
theorem dX7_refusal_52 : decode cX7_refusal 52 = .ok (.invokestatic 92, 3) := by decide +kernel
theorem dX7_refusal_55 : decode cX7_refusal 55 = .ok (.if_icmp .ge 8, 3) := by decide +kernel
theorem dX7_refusal_58 : decode cX7_refusal 58 = .ok (.bipush (-3), 2) := by decide +kernel
theorem dX7_refusal_60 : decode cX7_refusal 60 = .ok (.goto 4, 3) := by decide +kernel
theorem dX7_refusal_63 : decode cX7_refusal 63 = .ok (.iconst 0, 1) := by decide +kernel
theorem dX7_refusal_64 : decode cX7_refusal 64 = .ok (.ireturn, 1) := by decide +kernel
theorem dX7_sellNow_0 : decode cX7_sellNow 0 = .ok (.aload_n 0, 1) := by decide +kernel
theorem dX7_sellNow_1 : decode cX7_sellNow 1 = .ok (.getfield 7, 3) := by decide +kernel
theorem dX7_sellNow_4 : decode cX7_sellNow 4 = .ok (.bipush 118, 2) := by decide +kernel
theorem dX7_sellNow_6 : decode cX7_sellNow 6 = .ok (.iaload, 1) := by decide +kernel
theorem dX7_sellNow_7 : decode cX7_sellNow 7 = .ok (.istore_n 2, 1) := by decide +kernel
theorem dX7_sellNow_8 : decode cX7_sellNow 8 = .ok (.aload_n 0, 1) := by decide +kernel
theorem dX7_sellNow_9 : decode cX7_sellNow 9 = .ok (.getfield 7, 3) := by decide +kernel
theorem dX7_sellNow_12 : decode cX7_sellNow 12 = .ok (.bipush 127, 2) := by decide +kernel
theorem dX7_sellNow_14 : decode cX7_sellNow 14 = .ok (.iload_n 1, 1) := by decide +kernel
theorem dX7_sellNow_15 : decode cX7_sellNow 15 = .ok (.iadd, 1) := by decide +kernel
theorem dX7_sellNow_16 : decode cX7_sellNow 16 = .ok (.iaload, 1) := by decide +kernel
theorem dX7_sellNow_17 : decode cX7_sellNow 17 = .ok (.istore_n 3, 1) := by decide +kernel
theorem dX7_sellNow_18 : decode cX7_sellNow 18 = .ok (.iload_n 1, 1) := by decide +kernel
theorem dX7_sellNow_19 : decode cX7_sellNow 19 = .ok (.invokestatic 92, 3) := by decide +kernel
theorem dX7_sellNow_22 : decode cX7_sellNow 22 = .ok (.istore 4, 2) := by decide +kernel
theorem dX7_sellNow_24 : decode cX7_sellNow 24 = .ok (.aload_n 0, 1) := by decide +kernel
theorem dX7_sellNow_25 : decode cX7_sellNow 25 = .ok (.iconst 0, 1) := by decide +kernel
theorem dX7_sellNow_26 : decode cX7_sellNow 26 = .ok (.aload_n 0, 1) := by decide +kernel
theorem dX7_sellNow_27 : decode cX7_sellNow 27 = .ok (.getfield 7, 3) := by decide +kernel
theorem dX7_sellNow_30 : decode cX7_sellNow 30 = .ok (.bipush 122, 2) := by decide +kernel
theorem dX7_sellNow_32 : decode cX7_sellNow 32 = .ok (.iaload, 1) := by decide +kernel
theorem dX7_sellNow_33 : decode cX7_sellNow 33 = .ok (.sipush 1000, 3) := by decide +kernel
theorem dX7_sellNow_36 : decode cX7_sellNow 36 = .ok (.iload_n 1, 1) := by decide +kernel
theorem dX7_sellNow_37 : decode cX7_sellNow 37 = .ok (.imul, 1) := by decide +kernel
theorem dX7_sellNow_38 : decode cX7_sellNow 38 = .ok (.iload_n 3, 1) := by decide +kernel
theorem dX7_sellNow_39 : decode cX7_sellNow 39 = .ok (.iadd, 1) := by decide +kernel
theorem dX7_sellNow_40 : decode cX7_sellNow 40 = .ok (.invokevirtual 100, 3) := by decide +kernel
theorem dX7_sellNow_43 : decode cX7_sellNow 43 = .ok (.ifCond .ne 6, 3) := by decide +kernel
theorem dX7_sellNow_46 : decode cX7_sellNow 46 = .ok (.bipush (-4), 2) := by decide +kernel
theorem dX7_sellNow_48 : decode cX7_sellNow 48 = .ok (.ireturn, 1) := by decide +kernel
theorem dX7_sellNow_49 : decode cX7_sellNow 49 = .ok (.aload_n 0, 1) := by decide +kernel
theorem dX7_sellNow_50 : decode cX7_sellNow 50 = .ok (.getfield 7, 3) := by decide +kernel
theorem dX7_sellNow_53 : decode cX7_sellNow 53 = .ok (.bipush 119, 2) := by decide +kernel
theorem dX7_sellNow_55 : decode cX7_sellNow 55 = .ok (.dup2, 1) := by decide +kernel
theorem dX7_sellNow_56 : decode cX7_sellNow 56 = .ok (.iaload, 1) := by decide +kernel
theorem dX7_sellNow_57 : decode cX7_sellNow 57 = .ok (.iload_n 3, 1) := by decide +kernel
theorem dX7_sellNow_58 : decode cX7_sellNow 58 = .ok (.iadd, 1) := by decide +kernel
theorem dX7_sellNow_59 : decode cX7_sellNow 59 = .ok (.iastore, 1) := by decide +kernel
theorem dX7_sellNow_60 : decode cX7_sellNow 60 = .ok (.aload_n 0, 1) := by decide +kernel
theorem dX7_sellNow_61 : decode cX7_sellNow 61 = .ok (.getfield 7, 3) := by decide +kernel
theorem dX7_sellNow_64 : decode cX7_sellNow 64 = .ok (.bipush 120, 2) := by decide +kernel
theorem dX7_sellNow_66 : decode cX7_sellNow 66 = .ok (.dup2, 1) := by decide +kernel
theorem dX7_sellNow_67 : decode cX7_sellNow 67 = .ok (.iaload, 1) := by decide +kernel
theorem dX7_sellNow_68 : decode cX7_sellNow 68 = .ok (.iconst 1, 1) := by decide +kernel
theorem dX7_sellNow_69 : decode cX7_sellNow 69 = .ok (.iadd, 1) := by decide +kernel
theorem dX7_sellNow_70 : decode cX7_sellNow 70 = .ok (.iastore, 1) := by decide +kernel
theorem dX7_sellNow_71 : decode cX7_sellNow 71 = .ok (.aload_n 0, 1) := by decide +kernel
theorem dX7_sellNow_72 : decode cX7_sellNow 72 = .ok (.getfield 7, 3) := by decide +kernel
theorem dX7_sellNow_75 : decode cX7_sellNow 75 = .ok (.bipush 121, 2) := by decide +kernel
theorem dX7_sellNow_77 : decode cX7_sellNow 77 = .ok (.dup2, 1) := by decide +kernel
theorem dX7_sellNow_78 : decode cX7_sellNow 78 = .ok (.iaload, 1) := by decide +kernel
theorem dX7_sellNow_79 : decode cX7_sellNow 79 = .ok (.iload 4, 2) := by decide +kernel
theorem dX7_sellNow_81 : decode cX7_sellNow 81 = .ok (.isub, 1) := by decide +kernel
theorem dX7_sellNow_82 : decode cX7_sellNow 82 = .ok (.iastore, 1) := by decide +kernel
theorem dX7_sellNow_83 : decode cX7_sellNow 83 = .ok (.aload_n 0, 1) := by decide +kernel
theorem dX7_sellNow_84 : decode cX7_sellNow 84 = .ok (.getfield 7, 3) := by decide +kernel
theorem dX7_sellNow_87 : decode cX7_sellNow 87 = .ok (.bipush 123, 2) := by decide +kernel
theorem dX7_sellNow_89 : decode cX7_sellNow 89 = .ok (.iaload, 1) := by decide +kernel
theorem dX7_sellNow_90 : decode cX7_sellNow 90 = .ok (.iload 4, 2) := by decide +kernel
theorem dX7_sellNow_92 : decode cX7_sellNow 92 = .ok (.if_icmp .lt 28, 3) := by decide +kernel
theorem dX7_sellNow_95 : decode cX7_sellNow 95 = .ok (.aload_n 0, 1) := by decide +kernel
theorem dX7_sellNow_96 : decode cX7_sellNow 96 = .ok (.getfield 7, 3) := by decide +kernel
theorem dX7_sellNow_99 : decode cX7_sellNow 99 = .ok (.bipush 123, 2) := by decide +kernel
theorem dX7_sellNow_101 : decode cX7_sellNow 101 = .ok (.dup2, 1) := by decide +kernel
theorem dX7_sellNow_102 : decode cX7_sellNow 102 = .ok (.iaload, 1) := by decide +kernel
theorem dX7_sellNow_103 : decode cX7_sellNow 103 = .ok (.iload 4, 2) := by decide +kernel
theorem dX7_sellNow_105 : decode cX7_sellNow 105 = .ok (.isub, 1) := by decide +kernel
theorem dX7_sellNow_106 : decode cX7_sellNow 106 = .ok (.iastore, 1) := by decide +kernel
theorem dX7_sellNow_107 : decode cX7_sellNow 107 = .ok (.aload_n 0, 1) := by decide +kernel
theorem dX7_sellNow_108 : decode cX7_sellNow 108 = .ok (.getfield 7, 3) := by decide +kernel
theorem dX7_sellNow_111 : decode cX7_sellNow 111 = .ok (.bipush 124, 2) := by decide +kernel
theorem dX7_sellNow_113 : decode cX7_sellNow 113 = .ok (.dup2, 1) := by decide +kernel
theorem dX7_sellNow_114 : decode cX7_sellNow 114 = .ok (.iaload, 1) := by decide +kernel
theorem dX7_sellNow_115 : decode cX7_sellNow 115 = .ok (.iconst 1, 1) := by decide +kernel
theorem dX7_sellNow_116 : decode cX7_sellNow 116 = .ok (.iadd, 1) := by decide +kernel
theorem dX7_sellNow_117 : decode cX7_sellNow 117 = .ok (.iastore, 1) := by decide +kernel
theorem dX7_sellNow_118 : decode cX7_sellNow 118 = .ok (.iload_n 2, 1) := by decide +kernel
theorem dX7_sellNow_119 : decode cX7_sellNow 119 = .ok (.ireturn, 1) := by decide +kernel
theorem dX7_sellNow_120 : decode cX7_sellNow 120 = .ok (.aload_n 0, 1) := by decide +kernel
theorem dX7_sellNow_121 : decode cX7_sellNow 121 = .ok (.getfield 7, 3) := by decide +kernel
theorem dX7_sellNow_124 : decode cX7_sellNow 124 = .ok (.bipush 123, 2) := by decide +kernel
theorem dX7_sellNow_126 : decode cX7_sellNow 126 = .ok (.iconst 0, 1) := by decide +kernel
theorem dX7_sellNow_127 : decode cX7_sellNow 127 = .ok (.iastore, 1) := by decide +kernel
theorem dX7_sellNow_128 : decode cX7_sellNow 128 = .ok (.aload_n 0, 1) := by decide +kernel
theorem dX7_sellNow_129 : decode cX7_sellNow 129 = .ok (.iconst 1, 1) := by decide +kernel
theorem dX7_sellNow_130 : decode cX7_sellNow 130 = .ok (.aload_n 0, 1) := by decide +kernel
theorem dX7_sellNow_131 : decode cX7_sellNow 131 = .ok (.getfield 7, 3) := by decide +kernel
theorem dX7_sellNow_134 : decode cX7_sellNow 134 = .ok (.bipush 122, 2) := by decide +kernel
theorem dX7_sellNow_136 : decode cX7_sellNow 136 = .ok (.iaload, 1) := by decide +kernel
theorem dX7_sellNow_137 : decode cX7_sellNow 137 = .ok (.sipush 1000, 3) := by decide +kernel
theorem dX7_sellNow_140 : decode cX7_sellNow 140 = .ok (.iload_n 1, 1) := by decide +kernel
theorem dX7_sellNow_141 : decode cX7_sellNow 141 = .ok (.imul, 1) := by decide +kernel
theorem dX7_sellNow_142 : decode cX7_sellNow 142 = .ok (.iload_n 3, 1) := by decide +kernel
theorem dX7_sellNow_143 : decode cX7_sellNow 143 = .ok (.iadd, 1) := by decide +kernel
theorem dX7_sellNow_144 : decode cX7_sellNow 144 = .ok (.invokevirtual 100, 3) := by decide +kernel
theorem dX7_sellNow_147 : decode cX7_sellNow 147 = .ok (.ifCond .ne 6, 3) := by decide +kernel
theorem dX7_sellNow_150 : decode cX7_sellNow 150 = .ok (.bipush (-4), 2) := by decide +kernel
theorem dX7_sellNow_152 : decode cX7_sellNow 152 = .ok (.ireturn, 1) := by decide +kernel
theorem dX7_sellNow_153 : decode cX7_sellNow 153 = .ok (.aload_n 0, 1) := by decide +kernel
theorem dX7_sellNow_154 : decode cX7_sellNow 154 = .ok (.getfield 7, 3) := by decide +kernel
theorem dX7_sellNow_157 : decode cX7_sellNow 157 = .ok (.bipush 119, 2) := by decide +kernel
theorem dX7_sellNow_159 : decode cX7_sellNow 159 = .ok (.dup2, 1) := by decide +kernel
theorem dX7_sellNow_160 : decode cX7_sellNow 160 = .ok (.iaload, 1) := by decide +kernel
theorem dX7_sellNow_161 : decode cX7_sellNow 161 = .ok (.iload_n 3, 1) := by decide +kernel
theorem dX7_sellNow_162 : decode cX7_sellNow 162 = .ok (.isub, 1) := by decide +kernel
theorem dX7_sellNow_163 : decode cX7_sellNow 163 = .ok (.iastore, 1) := by decide +kernel
theorem dX7_sellNow_164 : decode cX7_sellNow 164 = .ok (.aload_n 0, 1) := by decide +kernel
theorem dX7_sellNow_165 : decode cX7_sellNow 165 = .ok (.getfield 7, 3) := by decide +kernel
theorem dX7_sellNow_168 : decode cX7_sellNow 168 = .ok (.bipush 120, 2) := by decide +kernel
theorem dX7_sellNow_170 : decode cX7_sellNow 170 = .ok (.dup2, 1) := by decide +kernel
theorem dX7_sellNow_171 : decode cX7_sellNow 171 = .ok (.iaload, 1) := by decide +kernel
theorem dX7_sellNow_172 : decode cX7_sellNow 172 = .ok (.iconst 1, 1) := by decide +kernel
theorem dX7_sellNow_173 : decode cX7_sellNow 173 = .ok (.isub, 1) := by decide +kernel
theorem dX7_sellNow_174 : decode cX7_sellNow 174 = .ok (.iastore, 1) := by decide +kernel
theorem dX7_sellNow_175 : decode cX7_sellNow 175 = .ok (.iload_n 2, 1) := by decide +kernel
theorem dX7_sellNow_176 : decode cX7_sellNow 176 = .ok (.ireturn, 1) := by decide +kernel
theorem dX7_sell_0 : decode cX7_sell 0 = .ok (.aload_n 0, 1) := by decide +kernel
theorem dX7_sell_1 : decode cX7_sell 1 = .ok (.iload_n 1, 1) := by decide +kernel
theorem dX7_sell_2 : decode cX7_sell 2 = .ok (.invokevirtual 103, 3) := by decide +kernel
theorem dX7_sell_5 : decode cX7_sell 5 = .ok (.istore_n 2, 1) := by decide +kernel
theorem dX7_sell_6 : decode cX7_sell 6 = .ok (.iload_n 2, 1) := by decide +kernel
theorem dX7_sell_7 : decode cX7_sell 7 = .ok (.ifCond .eq 5, 3) := by decide +kernel
theorem dX7_sell_10 : decode cX7_sell 10 = .ok (.iload_n 2, 1) := by decide +kernel
theorem dX7_sell_11 : decode cX7_sell 11 = .ok (.ireturn, 1) := by decide +kernel
theorem dX7_sell_12 : decode cX7_sell 12 = .ok (.aload_n 0, 1) := by decide +kernel
theorem dX7_sell_13 : decode cX7_sell 13 = .ok (.invokevirtual 106, 3) := by decide +kernel
theorem dX7_sell_16 : decode cX7_sell 16 = .ok (.aload_n 0, 1) := by decide +kernel
theorem dX7_sell_17 : decode cX7_sell 17 = .ok (.iload_n 1, 1) := by decide +kernel
theorem dX7_sell_18 : decode cX7_sell 18 = .ok (.invokevirtual 109, 3) := by decide +kernel
theorem dX7_sell_21 : decode cX7_sell 21 = .ok (.ireturn, 1) := by decide +kernel
theorem dX7_cancel_0 : decode cX7_cancel 0 = .ok (.aload_n 0, 1) := by decide +kernel
theorem dX7_cancel_1 : decode cX7_cancel 1 = .ok (.getfield 7, 3) := by decide +kernel
theorem dX7_cancel_4 : decode cX7_cancel 4 = .ok (.bipush 116, 2) := by decide +kernel
theorem dX7_cancel_6 : decode cX7_cancel 6 = .ok (.iaload, 1) := by decide +kernel
theorem dX7_cancel_7 : decode cX7_cancel 7 = .ok (.istore_n 1, 1) := by decide +kernel
theorem dX7_cancel_8 : decode cX7_cancel 8 = .ok (.aload_n 0, 1) := by decide +kernel
theorem dX7_cancel_9 : decode cX7_cancel 9 = .ok (.getfield 7, 3) := by decide +kernel
theorem dX7_cancel_12 : decode cX7_cancel 12 = .ok (.bipush 117, 2) := by decide +kernel
theorem dX7_cancel_14 : decode cX7_cancel 14 = .ok (.iaload, 1) := by decide +kernel
theorem dX7_cancel_15 : decode cX7_cancel 15 = .ok (.iconst 1, 1) := by decide +kernel
theorem dX7_cancel_16 : decode cX7_cancel 16 = .ok (.isub, 1) := by decide +kernel
theorem dX7_cancel_17 : decode cX7_cancel 17 = .ok (.istore_n 2, 1) := by decide +kernel
theorem dX7_cancel_18 : decode cX7_cancel 18 = .ok (.aload_n 0, 1) := by decide +kernel
theorem dX7_cancel_19 : decode cX7_cancel 19 = .ok (.getfield 7, 3) := by decide +kernel
theorem dX7_cancel_22 : decode cX7_cancel 22 = .ok (.bipush 115, 2) := by decide +kernel
theorem dX7_cancel_24 : decode cX7_cancel 24 = .ok (.iaload, 1) := by decide +kernel
theorem dX7_cancel_25 : decode cX7_cancel 25 = .ok (.ifCond .eq 30, 3) := by decide +kernel
theorem dX7_cancel_28 : decode cX7_cancel 28 = .ok (.iload_n 2, 1) := by decide +kernel
theorem dX7_cancel_29 : decode cX7_cancel 29 = .ok (.ifCond .lt 26, 3) := by decide +kernel
theorem dX7_cancel_32 : decode cX7_cancel 32 = .ok (.aload_n 0, 1) := by decide +kernel
theorem dX7_cancel_33 : decode cX7_cancel 33 = .ok (.iload_n 1, 1) := by decide +kernel
theorem dX7_cancel_34 : decode cX7_cancel 34 = .ok (.iload_n 2, 1) := by decide +kernel
theorem dX7_cancel_35 : decode cX7_cancel 35 = .ok (.invokevirtual 68, 3) := by decide +kernel
theorem dX7_cancel_38 : decode cX7_cancel 38 = .ok (.ifCond .eq 17, 3) := by decide +kernel
theorem dX7_cancel_41 : decode cX7_cancel 41 = .ok (.aload_n 0, 1) := by decide +kernel
theorem dX7_cancel_42 : decode cX7_cancel 42 = .ok (.iload_n 1, 1) := by decide +kernel
theorem dX7_cancel_43 : decode cX7_cancel 43 = .ok (.iload_n 2, 1) := by decide +kernel
theorem dX7_cancel_44 : decode cX7_cancel 44 = .ok (.iconst 0, 1) := by decide +kernel
theorem dX7_cancel_45 : decode cX7_cancel 45 = .ok (.invokevirtual 56, 3) := by decide +kernel
theorem dX7_cancel_48 : decode cX7_cancel 48 = .ok (.sipush 10000, 3) := by decide +kernel
theorem dX7_cancel_51 : decode cX7_cancel 51 = .ok (.idiv, 1) := by decide +kernel
theorem dX7_cancel_52 : decode cX7_cancel 52 = .ok (.ifCond .eq 6, 3) := by decide +kernel
theorem dX7_cancel_55 : decode cX7_cancel 55 = .ok (.bipush (-2), 2) := by decide +kernel
theorem dX7_cancel_57 : decode cX7_cancel 57 = .ok (.ireturn, 1) := by decide +kernel
theorem dX7_cancel_58 : decode cX7_cancel 58 = .ok (.aload_n 0, 1) := by decide +kernel
theorem dX7_cancel_59 : decode cX7_cancel 59 = .ok (.invokevirtual 106, 3) := by decide +kernel
theorem dX7_cancel_62 : decode cX7_cancel 62 = .ok (.aload_n 0, 1) := by decide +kernel
theorem dX7_cancel_63 : decode cX7_cancel 63 = .ok (.iload_n 1, 1) := by decide +kernel
theorem dX7_cancel_64 : decode cX7_cancel 64 = .ok (.iload_n 2, 1) := by decide +kernel
theorem dX7_cancel_65 : decode cX7_cancel 65 = .ok (.iconst 2, 1) := by decide +kernel
theorem dX7_cancel_66 : decode cX7_cancel 66 = .ok (.invokevirtual 56, 3) := by decide +kernel
theorem dX7_cancel_69 : decode cX7_cancel 69 = .ok (.istore_n 3, 1) := by decide +kernel
theorem dX7_cancel_70 : decode cX7_cancel 70 = .ok (.aload_n 0, 1) := by decide +kernel
theorem dX7_cancel_71 : decode cX7_cancel 71 = .ok (.iconst 1, 1) := by decide +kernel
theorem dX7_cancel_72 : decode cX7_cancel 72 = .ok (.aload_n 0, 1) := by decide +kernel
theorem dX7_cancel_73 : decode cX7_cancel 73 = .ok (.getfield 7, 3) := by decide +kernel
theorem dX7_cancel_76 : decode cX7_cancel 76 = .ok (.bipush 122, 2) := by decide +kernel
theorem dX7_cancel_78 : decode cX7_cancel 78 = .ok (.iaload, 1) := by decide +kernel
theorem dX7_cancel_79 : decode cX7_cancel 79 = .ok (.iload_n 3, 1) := by decide +kernel
theorem dX7_cancel_80 : decode cX7_cancel 80 = .ok (.invokevirtual 100, 3) := by decide +kernel
theorem dX7_cancel_83 : decode cX7_cancel 83 = .ok (.ifCond .ne 6, 3) := by decide +kernel
theorem dX7_cancel_86 : decode cX7_cancel 86 = .ok (.bipush (-4), 2) := by decide +kernel
theorem dX7_cancel_88 : decode cX7_cancel 88 = .ok (.ireturn, 1) := by decide +kernel
theorem dX7_cancel_89 : decode cX7_cancel 89 = .ok (.aload_n 0, 1) := by decide +kernel
theorem dX7_cancel_90 : decode cX7_cancel 90 = .ok (.getfield 7, 3) := by decide +kernel
theorem dX7_cancel_93 : decode cX7_cancel 93 = .ok (.bipush 119, 2) := by decide +kernel
theorem dX7_cancel_95 : decode cX7_cancel 95 = .ok (.dup2, 1) := by decide +kernel
theorem dX7_cancel_96 : decode cX7_cancel 96 = .ok (.iaload, 1) := by decide +kernel
theorem dX7_cancel_97 : decode cX7_cancel 97 = .ok (.iload_n 3, 1) := by decide +kernel
theorem dX7_cancel_98 : decode cX7_cancel 98 = .ok (.sipush 1000, 3) := by decide +kernel
theorem dX7_cancel_101 : decode cX7_cancel 101 = .ok (.irem, 1) := by decide +kernel
theorem dX7_cancel_102 : decode cX7_cancel 102 = .ok (.isub, 1) := by decide +kernel
theorem dX7_cancel_103 : decode cX7_cancel 103 = .ok (.iastore, 1) := by decide +kernel
theorem dX7_cancel_104 : decode cX7_cancel 104 = .ok (.aload_n 0, 1) := by decide +kernel
theorem dX7_cancel_105 : decode cX7_cancel 105 = .ok (.getfield 7, 3) := by decide +kernel
theorem dX7_cancel_108 : decode cX7_cancel 108 = .ok (.bipush 120, 2) := by decide +kernel
theorem dX7_cancel_110 : decode cX7_cancel 110 = .ok (.dup2, 1) := by decide +kernel
theorem dX7_cancel_111 : decode cX7_cancel 111 = .ok (.iaload, 1) := by decide +kernel
theorem dX7_cancel_112 : decode cX7_cancel 112 = .ok (.iconst 1, 1) := by decide +kernel
theorem dX7_cancel_113 : decode cX7_cancel 113 = .ok (.isub, 1) := by decide +kernel
theorem dX7_cancel_114 : decode cX7_cancel 114 = .ok (.iastore, 1) := by decide +kernel
theorem dX7_cancel_115 : decode cX7_cancel 115 = .ok (.iload_n 3, 1) := by decide +kernel
theorem dX7_cancel_116 : decode cX7_cancel 116 = .ok (.sipush 1000, 3) := by decide +kernel
theorem dX7_cancel_119 : decode cX7_cancel 119 = .ok (.irem, 1) := by decide +kernel
theorem dX7_cancel_120 : decode cX7_cancel 120 = .ok (.ireturn, 1) := by decide +kernel
theorem dX7_close_0 : decode cX7_close 0 = .ok (.aload_n 0, 1) := by decide +kernel
theorem dX7_close_1 : decode cX7_close 1 = .ok (.getfield 7, 3) := by decide +kernel
theorem dX7_close_4 : decode cX7_close 4 = .ok (.bipush 115, 2) := by decide +kernel
theorem dX7_close_6 : decode cX7_close 6 = .ok (.iaload, 1) := by decide +kernel
theorem dX7_close_7 : decode cX7_close 7 = .ok (.ifCond .ne 6, 3) := by decide +kernel
theorem dX7_close_10 : decode cX7_close 10 = .ok (.bipush (-2), 2) := by decide +kernel
theorem dX7_close_12 : decode cX7_close 12 = .ok (.ireturn, 1) := by decide +kernel
theorem dX7_close_13 : decode cX7_close 13 = .ok (.aload_n 0, 1) := by decide +kernel
theorem dX7_close_14 : decode cX7_close 14 = .ok (.invokevirtual 106, 3) := by decide +kernel
theorem dX7_close_17 : decode cX7_close 17 = .ok (.aload_n 0, 1) := by decide +kernel
theorem dX7_close_18 : decode cX7_close 18 = .ok (.getfield 7, 3) := by decide +kernel
theorem dX7_close_21 : decode cX7_close 21 = .ok (.bipush 119, 2) := by decide +kernel
theorem dX7_close_23 : decode cX7_close 23 = .ok (.iaload, 1) := by decide +kernel
theorem dX7_close_24 : decode cX7_close 24 = .ok (.istore_n 1, 1) := by decide +kernel
theorem dX7_close_25 : decode cX7_close 25 = .ok (.aload_n 0, 1) := by decide +kernel
theorem dX7_close_26 : decode cX7_close 26 = .ok (.iconst 3, 1) := by decide +kernel
theorem dX7_close_27 : decode cX7_close 27 = .ok (.aload_n 0, 1) := by decide +kernel
theorem dX7_close_28 : decode cX7_close 28 = .ok (.getfield 7, 3) := by decide +kernel
theorem dX7_close_31 : decode cX7_close 31 = .ok (.bipush 122, 2) := by decide +kernel
theorem dX7_close_33 : decode cX7_close 33 = .ok (.iaload, 1) := by decide +kernel
theorem dX7_close_34 : decode cX7_close 34 = .ok (.iload_n 1, 1) := by decide +kernel
theorem dX7_close_35 : decode cX7_close 35 = .ok (.invokevirtual 100, 3) := by decide +kernel
theorem dX7_close_38 : decode cX7_close 38 = .ok (.ifCond .ne 6, 3) := by decide +kernel
theorem dX7_close_41 : decode cX7_close 41 = .ok (.bipush (-4), 2) := by decide +kernel
theorem dX7_close_43 : decode cX7_close 43 = .ok (.ireturn, 1) := by decide +kernel
theorem dX7_close_44 : decode cX7_close 44 = .ok (.aload_n 0, 1) := by decide +kernel
theorem dX7_close_45 : decode cX7_close 45 = .ok (.getfield 7, 3) := by decide +kernel
theorem dX7_close_48 : decode cX7_close 48 = .ok (.bipush 119, 2) := by decide +kernel
theorem dX7_close_50 : decode cX7_close 50 = .ok (.iconst 0, 1) := by decide +kernel
theorem dX7_close_51 : decode cX7_close 51 = .ok (.iastore, 1) := by decide +kernel
theorem dX7_close_52 : decode cX7_close 52 = .ok (.aload_n 0, 1) := by decide +kernel
theorem dX7_close_53 : decode cX7_close 53 = .ok (.getfield 7, 3) := by decide +kernel
theorem dX7_close_56 : decode cX7_close 56 = .ok (.bipush 120, 2) := by decide +kernel
theorem dX7_close_58 : decode cX7_close 58 = .ok (.iconst 0, 1) := by decide +kernel
theorem dX7_close_59 : decode cX7_close 59 = .ok (.iastore, 1) := by decide +kernel
theorem dX7_close_60 : decode cX7_close 60 = .ok (.iload_n 1, 1) := by decide +kernel
theorem dX7_close_61 : decode cX7_close 61 = .ok (.ireturn, 1) := by decide +kernel
theorem dX7_load_0 : decode cX7_load 0 = .ok (.iload_n 1, 1) := by decide +kernel
theorem dX7_load_1 : decode cX7_load 1 = .ok (.iconst 0, 1) := by decide +kernel
theorem dX7_load_2 : decode cX7_load 2 = .ok (.ldc 112, 2) := by decide +kernel
theorem dX7_load_4 : decode cX7_load 4 = .ok (.invokestatic 32, 3) := by decide +kernel
theorem dX7_load_7 : decode cX7_load 7 = .ok (.ifCond .eq 13, 3) := by decide +kernel
theorem dX7_load_10 : decode cX7_load 10 = .ok (.iload_n 2, 1) := by decide +kernel
theorem dX7_load_11 : decode cX7_load 11 = .ok (.iconst 0, 1) := by decide +kernel
theorem dX7_load_12 : decode cX7_load 12 = .ok (.ldc 112, 2) := by decide +kernel
theorem dX7_load_14 : decode cX7_load 14 = .ok (.invokestatic 32, 3) := by decide +kernel
theorem dX7_load_17 : decode cX7_load 17 = .ok (.ifCond .ne 5, 3) := by decide +kernel
theorem dX7_load_20 : decode cX7_load 20 = .ok (.iconst (-1), 1) := by decide +kernel
theorem dX7_load_21 : decode cX7_load 21 = .ok (.ireturn, 1) := by decide +kernel
theorem dX7_load_22 : decode cX7_load 22 = .ok (.aload_n 0, 1) := by decide +kernel
theorem dX7_load_23 : decode cX7_load 23 = .ok (.getfield 7, 3) := by decide +kernel
theorem dX7_load_26 : decode cX7_load 26 = .ok (.bipush 115, 2) := by decide +kernel
theorem dX7_load_28 : decode cX7_load 28 = .ok (.iaload, 1) := by decide +kernel
theorem dX7_load_29 : decode cX7_load 29 = .ok (.ifCond .ne 6, 3) := by decide +kernel
theorem dX7_load_32 : decode cX7_load 32 = .ok (.bipush (-2), 2) := by decide +kernel
theorem dX7_load_34 : decode cX7_load 34 = .ok (.ireturn, 1) := by decide +kernel
theorem dX7_load_35 : decode cX7_load 35 = .ok (.aload_n 0, 1) := by decide +kernel
theorem dX7_load_36 : decode cX7_load 36 = .ok (.invokevirtual 106, 3) := by decide +kernel
theorem dX7_load_39 : decode cX7_load 39 = .ok (.aload_n 0, 1) := by decide +kernel
theorem dX7_load_40 : decode cX7_load 40 = .ok (.getfield 7, 3) := by decide +kernel
theorem dX7_load_43 : decode cX7_load 43 = .ok (.bipush 123, 2) := by decide +kernel
theorem dX7_load_45 : decode cX7_load 45 = .ok (.iaload, 1) := by decide +kernel
theorem dX7_load_46 : decode cX7_load 46 = .ok (.istore_n 3, 1) := by decide +kernel
theorem dX7_load_47 : decode cX7_load 47 = .ok (.aload_n 0, 1) := by decide +kernel
theorem dX7_load_48 : decode cX7_load 48 = .ok (.getfield 7, 3) := by decide +kernel
theorem dX7_load_51 : decode cX7_load 51 = .ok (.bipush 123, 2) := by decide +kernel
theorem dX7_load_53 : decode cX7_load 53 = .ok (.iload_n 2, 1) := by decide +kernel
theorem dX7_load_54 : decode cX7_load 54 = .ok (.iastore, 1) := by decide +kernel
theorem dX7_load_55 : decode cX7_load 55 = .ok (.aload_n 0, 1) := by decide +kernel
theorem dX7_load_56 : decode cX7_load 56 = .ok (.iconst 4, 1) := by decide +kernel
theorem dX7_load_57 : decode cX7_load 57 = .ok (.aload_n 0, 1) := by decide +kernel
theorem dX7_load_58 : decode cX7_load 58 = .ok (.getfield 7, 3) := by decide +kernel
theorem dX7_load_61 : decode cX7_load 61 = .ok (.bipush 122, 2) := by decide +kernel
theorem dX7_load_63 : decode cX7_load 63 = .ok (.iaload, 1) := by decide +kernel
theorem dX7_load_64 : decode cX7_load 64 = .ok (.iload_n 1, 1) := by decide +kernel
theorem dX7_load_65 : decode cX7_load 65 = .ok (.invokevirtual 100, 3) := by decide +kernel
theorem dX7_load_68 : decode cX7_load 68 = .ok (.ifCond .ne 6, 3) := by decide +kernel
theorem dX7_load_71 : decode cX7_load 71 = .ok (.bipush (-4), 2) := by decide +kernel
theorem dX7_load_73 : decode cX7_load 73 = .ok (.ireturn, 1) := by decide +kernel
theorem dX7_load_74 : decode cX7_load 74 = .ok (.aload_n 0, 1) := by decide +kernel
theorem dX7_load_75 : decode cX7_load 75 = .ok (.getfield 7, 3) := by decide +kernel
theorem dX7_load_78 : decode cX7_load 78 = .ok (.bipush 121, 2) := by decide +kernel
theorem dX7_load_80 : decode cX7_load 80 = .ok (.iload_n 1, 1) := by decide +kernel
theorem dX7_load_81 : decode cX7_load 81 = .ok (.iastore, 1) := by decide +kernel
theorem dX7_load_82 : decode cX7_load 82 = .ok (.iload_n 3, 1) := by decide +kernel
theorem dX7_load_83 : decode cX7_load 83 = .ok (.ireturn, 1) := by decide +kernel
theorem dX7_setClock_0 : decode cX7_setClock 0 = .ok (.iload_n 1, 1) := by decide +kernel
theorem dX7_setClock_1 : decode cX7_setClock 1 = .ok (.iconst 0, 1) := by decide +kernel
theorem dX7_setClock_2 : decode cX7_setClock 2 = .ok (.ldc 99, 2) := by decide +kernel
theorem dX7_setClock_4 : decode cX7_setClock 4 = .ok (.invokestatic 32, 3) := by decide +kernel
theorem dX7_setClock_7 : decode cX7_setClock 7 = .ok (.ifCond .ne 5, 3) := by decide +kernel
theorem dX7_setClock_10 : decode cX7_setClock 10 = .ok (.iconst (-1), 1) := by decide +kernel
theorem dX7_setClock_11 : decode cX7_setClock 11 = .ok (.ireturn, 1) := by decide +kernel
theorem dX7_setClock_12 : decode cX7_setClock 12 = .ok (.aload_n 0, 1) := by decide +kernel
theorem dX7_setClock_13 : decode cX7_setClock 13 = .ok (.getfield 7, 3) := by decide +kernel
theorem dX7_setClock_16 : decode cX7_setClock 16 = .ok (.bipush 115, 2) := by decide +kernel
theorem dX7_setClock_18 : decode cX7_setClock 18 = .ok (.iaload, 1) := by decide +kernel
theorem dX7_setClock_19 : decode cX7_setClock 19 = .ok (.ifCond .ne 6, 3) := by decide +kernel
theorem dX7_setClock_22 : decode cX7_setClock 22 = .ok (.bipush (-2), 2) := by decide +kernel
theorem dX7_setClock_24 : decode cX7_setClock 24 = .ok (.ireturn, 1) := by decide +kernel
theorem dX7_setClock_25 : decode cX7_setClock 25 = .ok (.aload_n 0, 1) := by decide +kernel
theorem dX7_setClock_26 : decode cX7_setClock 26 = .ok (.invokevirtual 106, 3) := by decide +kernel
theorem dX7_setClock_29 : decode cX7_setClock 29 = .ok (.iload_n 1, 1) := by decide +kernel
theorem dX7_setClock_30 : decode cX7_setClock 30 = .ok (.aload_n 0, 1) := by decide +kernel
theorem dX7_setClock_31 : decode cX7_setClock 31 = .ok (.getfield 7, 3) := by decide +kernel
theorem dX7_setClock_34 : decode cX7_setClock 34 = .ok (.bipush 122, 2) := by decide +kernel
theorem dX7_setClock_36 : decode cX7_setClock 36 = .ok (.iaload, 1) := by decide +kernel
theorem dX7_setClock_37 : decode cX7_setClock 37 = .ok (.isub, 1) := by decide +kernel
theorem dX7_setClock_38 : decode cX7_setClock 38 = .ok (.iconst 5, 1) := by decide +kernel
theorem dX7_setClock_39 : decode cX7_setClock 39 = .ok (.if_icmp .ge 16, 3) := by decide +kernel
theorem dX7_setClock_42 : decode cX7_setClock 42 = .ok (.aload_n 0, 1) := by decide +kernel
theorem dX7_setClock_43 : decode cX7_setClock 43 = .ok (.getfield 7, 3) := by decide +kernel
theorem dX7_setClock_46 : decode cX7_setClock 46 = .ok (.bipush 122, 2) := by decide +kernel
theorem dX7_setClock_48 : decode cX7_setClock 48 = .ok (.iaload, 1) := by decide +kernel
theorem dX7_setClock_49 : decode cX7_setClock 49 = .ok (.iload_n 1, 1) := by decide +kernel
theorem dX7_setClock_50 : decode cX7_setClock 50 = .ok (.isub, 1) := by decide +kernel
theorem dX7_setClock_51 : decode cX7_setClock 51 = .ok (.iconst 5, 1) := by decide +kernel
theorem dX7_setClock_52 : decode cX7_setClock 52 = .ok (.if_icmp .lt 7, 3) := by decide +kernel
theorem dX7_setClock_55 : decode cX7_setClock 55 = .ok (.iconst 1, 1) := by decide +kernel
theorem dX7_setClock_56 : decode cX7_setClock 56 = .ok (.goto 4, 3) := by decide +kernel
theorem dX7_setClock_59 : decode cX7_setClock 59 = .ok (.iconst 0, 1) := by decide +kernel
theorem dX7_setClock_60 : decode cX7_setClock 60 = .ok (.istore_n 2, 1) := by decide +kernel
theorem dX7_setClock_61 : decode cX7_setClock 61 = .ok (.iload_n 2, 1) := by decide +kernel
theorem dX7_setClock_62 : decode cX7_setClock 62 = .ok (.ifCond .eq 22, 3) := by decide +kernel
theorem dX7_setClock_65 : decode cX7_setClock 65 = .ok (.aload_n 0, 1) := by decide +kernel
theorem dX7_setClock_66 : decode cX7_setClock 66 = .ok (.iconst 2, 1) := by decide +kernel
theorem dX7_setClock_67 : decode cX7_setClock 67 = .ok (.iload_n 1, 1) := by decide +kernel
theorem dX7_setClock_68 : decode cX7_setClock 68 = .ok (.aload_n 0, 1) := by decide +kernel
theorem dX7_setClock_69 : decode cX7_setClock 69 = .ok (.getfield 7, 3) := by decide +kernel
theorem dX7_setClock_72 : decode cX7_setClock 72 = .ok (.bipush 122, 2) := by decide +kernel
theorem dX7_setClock_74 : decode cX7_setClock 74 = .ok (.iaload, 1) := by decide +kernel
theorem dX7_setClock_75 : decode cX7_setClock 75 = .ok (.invokevirtual 100, 3) := by decide +kernel
theorem dX7_setClock_78 : decode cX7_setClock 78 = .ok (.ifCond .ne 6, 3) := by decide +kernel
theorem dX7_setClock_81 : decode cX7_setClock 81 = .ok (.bipush (-4), 2) := by decide +kernel
theorem dX7_setClock_83 : decode cX7_setClock 83 = .ok (.ireturn, 1) := by decide +kernel
theorem dX7_setClock_84 : decode cX7_setClock 84 = .ok (.aload_n 0, 1) := by decide +kernel
theorem dX7_setClock_85 : decode cX7_setClock 85 = .ok (.getfield 7, 3) := by decide +kernel
theorem dX7_setClock_88 : decode cX7_setClock 88 = .ok (.bipush 122, 2) := by decide +kernel
theorem dX7_setClock_90 : decode cX7_setClock 90 = .ok (.iload_n 1, 1) := by decide +kernel
theorem dX7_setClock_91 : decode cX7_setClock 91 = .ok (.iastore, 1) := by decide +kernel
theorem dX7_setClock_92 : decode cX7_setClock 92 = .ok (.iload_n 2, 1) := by decide +kernel
theorem dX7_setClock_93 : decode cX7_setClock 93 = .ok (.ifCond .eq 7, 3) := by decide +kernel
theorem dX7_setClock_96 : decode cX7_setClock 96 = .ok (.iconst 1, 1) := by decide +kernel
theorem dX7_setClock_97 : decode cX7_setClock 97 = .ok (.goto 4, 3) := by decide +kernel
theorem dX7_setClock_100 : decode cX7_setClock 100 = .ok (.iconst 0, 1) := by decide +kernel
theorem dX7_setClock_101 : decode cX7_setClock 101 = .ok (.ireturn, 1) := by decide +kernel
theorem dX7_pass_0 : decode cX7_pass 0 = .ok (.iload_n 1, 1) := by decide +kernel
theorem dX7_pass_1 : decode cX7_pass 1 = .ok (.iconst 1, 1) := by decide +kernel
theorem dX7_pass_2 : decode cX7_pass 2 = .ok (.sipush 5000, 3) := by decide +kernel
theorem dX7_pass_5 : decode cX7_pass 5 = .ok (.invokestatic 32, 3) := by decide +kernel
theorem dX7_pass_8 : decode cX7_pass 8 = .ok (.ifCond .ne 5, 3) := by decide +kernel
theorem dX7_pass_11 : decode cX7_pass 11 = .ok (.iconst (-1), 1) := by decide +kernel
theorem dX7_pass_12 : decode cX7_pass 12 = .ok (.ireturn, 1) := by decide +kernel
theorem dX7_pass_13 : decode cX7_pass 13 = .ok (.aload_n 0, 1) := by decide +kernel
theorem dX7_pass_14 : decode cX7_pass 14 = .ok (.invokevirtual 106, 3) := by decide +kernel
theorem dX7_pass_17 : decode cX7_pass 17 = .ok (.aload_n 0, 1) := by decide +kernel
theorem dX7_pass_18 : decode cX7_pass 18 = .ok (.getfield 7, 3) := by decide +kernel
theorem dX7_pass_21 : decode cX7_pass 21 = .ok (.bipush 122, 2) := by decide +kernel
theorem dX7_pass_23 : decode cX7_pass 23 = .ok (.aload_n 0, 1) := by decide +kernel
theorem dX7_pass_24 : decode cX7_pass 24 = .ok (.getfield 7, 3) := by decide +kernel
theorem dX7_pass_27 : decode cX7_pass 27 = .ok (.bipush 122, 2) := by decide +kernel
theorem dX7_pass_29 : decode cX7_pass 29 = .ok (.iaload, 1) := by decide +kernel
theorem dX7_pass_30 : decode cX7_pass 30 = .ok (.iload_n 1, 1) := by decide +kernel
theorem dX7_pass_31 : decode cX7_pass 31 = .ok (.iadd, 1) := by decide +kernel
theorem dX7_pass_32 : decode cX7_pass 32 = .ok (.ldc 99, 2) := by decide +kernel
theorem dX7_pass_34 : decode cX7_pass 34 = .ok (.if_icmp .le 8, 3) := by decide +kernel
theorem dX7_pass_37 : decode cX7_pass 37 = .ok (.ldc 99, 2) := by decide +kernel
theorem dX7_pass_39 : decode cX7_pass 39 = .ok (.goto 12, 3) := by decide +kernel
theorem dX7_pass_42 : decode cX7_pass 42 = .ok (.aload_n 0, 1) := by decide +kernel
theorem dX7_pass_43 : decode cX7_pass 43 = .ok (.getfield 7, 3) := by decide +kernel
theorem dX7_pass_46 : decode cX7_pass 46 = .ok (.bipush 122, 2) := by decide +kernel
theorem dX7_pass_48 : decode cX7_pass 48 = .ok (.iaload, 1) := by decide +kernel
theorem dX7_pass_49 : decode cX7_pass 49 = .ok (.iload_n 1, 1) := by decide +kernel
theorem dX7_pass_50 : decode cX7_pass 50 = .ok (.iadd, 1) := by decide +kernel
theorem dX7_pass_51 : decode cX7_pass 51 = .ok (.iastore, 1) := by decide +kernel
theorem dX7_pass_52 : decode cX7_pass 52 = .ok (.aload_n 0, 1) := by decide +kernel
theorem dX7_pass_53 : decode cX7_pass 53 = .ok (.getfield 7, 3) := by decide +kernel
theorem dX7_pass_56 : decode cX7_pass 56 = .ok (.bipush 122, 2) := by decide +kernel
theorem dX7_pass_58 : decode cX7_pass 58 = .ok (.iaload, 1) := by decide +kernel
theorem dX7_pass_59 : decode cX7_pass 59 = .ok (.ireturn, 1) := by decide +kernel
theorem dX7_setPrice_0 : decode cX7_setPrice 0 = .ok (.iload_n 1, 1) := by decide +kernel
theorem dX7_setPrice_1 : decode cX7_setPrice 1 = .ok (.invokestatic 96, 3) := by decide +kernel
theorem dX7_setPrice_4 : decode cX7_setPrice 4 = .ok (.ifCond .eq 14, 3) := by decide +kernel
theorem dX7_setPrice_7 : decode cX7_setPrice 7 = .ok (.iload_n 2, 1) := by decide +kernel
theorem dX7_setPrice_8 : decode cX7_setPrice 8 = .ok (.iconst 1, 1) := by decide +kernel
theorem dX7_setPrice_9 : decode cX7_setPrice 9 = .ok (.sipush 999, 3) := by decide +kernel
theorem dX7_setPrice_12 : decode cX7_setPrice 12 = .ok (.invokestatic 32, 3) := by decide +kernel
theorem dX7_setPrice_15 : decode cX7_setPrice 15 = .ok (.ifCond .ne 5, 3) := by decide +kernel
theorem dX7_setPrice_18 : decode cX7_setPrice 18 = .ok (.iconst (-1), 1) := by decide +kernel
theorem dX7_setPrice_19 : decode cX7_setPrice 19 = .ok (.ireturn, 1) := by decide +kernel
theorem dX7_setPrice_20 : decode cX7_setPrice 20 = .ok (.aload_n 0, 1) := by decide +kernel
theorem dX7_setPrice_21 : decode cX7_setPrice 21 = .ok (.invokevirtual 106, 3) := by decide +kernel
theorem dX7_setPrice_24 : decode cX7_setPrice 24 = .ok (.aload_n 0, 1) := by decide +kernel
theorem dX7_setPrice_25 : decode cX7_setPrice 25 = .ok (.getfield 7, 3) := by decide +kernel
theorem dX7_setPrice_28 : decode cX7_setPrice 28 = .ok (.bipush 127, 2) := by decide +kernel
theorem dX7_setPrice_30 : decode cX7_setPrice 30 = .ok (.iload_n 1, 1) := by decide +kernel
theorem dX7_setPrice_31 : decode cX7_setPrice 31 = .ok (.iadd, 1) := by decide +kernel
theorem dX7_setPrice_32 : decode cX7_setPrice 32 = .ok (.iaload, 1) := by decide +kernel
theorem dX7_setPrice_33 : decode cX7_setPrice 33 = .ok (.istore_n 3, 1) := by decide +kernel
theorem dX7_setPrice_34 : decode cX7_setPrice 34 = .ok (.aload_n 0, 1) := by decide +kernel
theorem dX7_setPrice_35 : decode cX7_setPrice 35 = .ok (.getfield 7, 3) := by decide +kernel
theorem dX7_setPrice_38 : decode cX7_setPrice 38 = .ok (.bipush 127, 2) := by decide +kernel
theorem dX7_setPrice_40 : decode cX7_setPrice 40 = .ok (.iload_n 1, 1) := by decide +kernel
theorem dX7_setPrice_41 : decode cX7_setPrice 41 = .ok (.iadd, 1) := by decide +kernel
theorem dX7_setPrice_42 : decode cX7_setPrice 42 = .ok (.iload_n 2, 1) := by decide +kernel
theorem dX7_setPrice_43 : decode cX7_setPrice 43 = .ok (.iastore, 1) := by decide +kernel
theorem dX7_setPrice_44 : decode cX7_setPrice 44 = .ok (.iload_n 3, 1) := by decide +kernel
theorem dX7_setPrice_45 : decode cX7_setPrice 45 = .ok (.ireturn, 1) := by decide +kernel
theorem dX7_cut_0 : decode cX7_cut 0 = .ok (.iload_n 1, 1) := by decide +kernel
theorem dX7_cut_1 : decode cX7_cut 1 = .ok (.iconst (-1), 1) := by decide +kernel
theorem dX7_cut_2 : decode cX7_cut 2 = .ok (.bipush 100, 2) := by decide +kernel
theorem dX7_cut_4 : decode cX7_cut 4 = .ok (.invokestatic 32, 3) := by decide +kernel
theorem dX7_cut_7 : decode cX7_cut 7 = .ok (.ifCond .ne 5, 3) := by decide +kernel
theorem dX7_cut_10 : decode cX7_cut 10 = .ok (.iconst (-1), 1) := by decide +kernel
theorem dX7_cut_11 : decode cX7_cut 11 = .ok (.ireturn, 1) := by decide +kernel
theorem dX7_cut_12 : decode cX7_cut 12 = .ok (.aload_n 0, 1) := by decide +kernel
theorem dX7_cut_13 : decode cX7_cut 13 = .ok (.invokevirtual 106, 3) := by decide +kernel
theorem dX7_cut_16 : decode cX7_cut 16 = .ok (.aload_n 0, 1) := by decide +kernel
theorem dX7_cut_17 : decode cX7_cut 17 = .ok (.getfield 7, 3) := by decide +kernel
theorem dX7_cut_20 : decode cX7_cut 20 = .ok (.bipush 126, 2) := by decide +kernel
theorem dX7_cut_22 : decode cX7_cut 22 = .ok (.iaload, 1) := by decide +kernel
theorem dX7_cut_23 : decode cX7_cut 23 = .ok (.istore_n 2, 1) := by decide +kernel
theorem dX7_cut_24 : decode cX7_cut 24 = .ok (.aload_n 0, 1) := by decide +kernel
theorem dX7_cut_25 : decode cX7_cut 25 = .ok (.getfield 7, 3) := by decide +kernel
theorem dX7_cut_28 : decode cX7_cut 28 = .ok (.bipush 126, 2) := by decide +kernel
theorem dX7_cut_30 : decode cX7_cut 30 = .ok (.iload_n 1, 1) := by decide +kernel
theorem dX7_cut_31 : decode cX7_cut 31 = .ok (.ifCond .ge 8, 3) := by decide +kernel
theorem dX7_cut_34 : decode cX7_cut 34 = .ok (.bipush (-9), 2) := by decide +kernel
theorem dX7_cut_36 : decode cX7_cut 36 = .ok (.goto 4, 3) := by decide +kernel
theorem dX7_cut_39 : decode cX7_cut 39 = .ok (.iload_n 1, 1) := by decide +kernel
theorem dX7_cut_40 : decode cX7_cut 40 = .ok (.iastore, 1) := by decide +kernel
theorem dX7_cut_41 : decode cX7_cut 41 = .ok (.iload_n 2, 1) := by decide +kernel
theorem dX7_cut_42 : decode cX7_cut 42 = .ok (.ireturn, 1) := by decide +kernel
theorem dX7_off_0 : decode cX7_off 0 = .ok (.aload_n 0, 1) := by decide +kernel
theorem dX7_off_1 : decode cX7_off 1 = .ok (.getfield 7, 3) := by decide +kernel
theorem dX7_off_4 : decode cX7_off 4 = .ok (.bipush 115, 2) := by decide +kernel
theorem dX7_off_6 : decode cX7_off 6 = .ok (.iaload, 1) := by decide +kernel
theorem dX7_off_7 : decode cX7_off 7 = .ok (.ifCond .ne 6, 3) := by decide +kernel
theorem dX7_off_10 : decode cX7_off 10 = .ok (.bipush (-2), 2) := by decide +kernel
theorem dX7_off_12 : decode cX7_off 12 = .ok (.ireturn, 1) := by decide +kernel
theorem dX7_off_13 : decode cX7_off 13 = .ok (.aload_n 0, 1) := by decide +kernel
theorem dX7_off_14 : decode cX7_off 14 = .ok (.invokevirtual 106, 3) := by decide +kernel
theorem dX7_off_17 : decode cX7_off 17 = .ok (.aload_n 0, 1) := by decide +kernel
theorem dX7_off_18 : decode cX7_off 18 = .ok (.getfield 7, 3) := by decide +kernel
theorem dX7_off_21 : decode cX7_off 21 = .ok (.bipush 115, 2) := by decide +kernel
theorem dX7_off_23 : decode cX7_off 23 = .ok (.iconst 0, 1) := by decide +kernel
theorem dX7_off_24 : decode cX7_off 24 = .ok (.iastore, 1) := by decide +kernel
theorem dX7_off_25 : decode cX7_off 25 = .ok (.aload_n 0, 1) := by decide +kernel
theorem dX7_off_26 : decode cX7_off 26 = .ok (.iconst (-1), 1) := by decide +kernel
theorem dX7_off_27 : decode cX7_off 27 = .ok (.invokevirtual 113, 3) := by decide +kernel
theorem dX7_off_30 : decode cX7_off 30 = .ok (.ireturn, 1) := by decide +kernel
theorem dX7_start_0 : decode cX7_start 0 = .ok (.aload_n 0, 1) := by decide +kernel
theorem dX7_start_1 : decode cX7_start 1 = .ok (.getfield 7, 3) := by decide +kernel
theorem dX7_start_4 : decode cX7_start 4 = .ok (.bipush 115, 2) := by decide +kernel
theorem dX7_start_6 : decode cX7_start 6 = .ok (.iaload, 1) := by decide +kernel
theorem dX7_start_7 : decode cX7_start 7 = .ok (.iconst 1, 1) := by decide +kernel
theorem dX7_start_8 : decode cX7_start 8 = .ok (.if_icmp .ne 6, 3) := by decide +kernel
theorem dX7_start_11 : decode cX7_start 11 = .ok (.bipush (-2), 2) := by decide +kernel
theorem dX7_start_13 : decode cX7_start 13 = .ok (.ireturn, 1) := by decide +kernel
theorem dX7_start_14 : decode cX7_start 14 = .ok (.aload_n 0, 1) := by decide +kernel
theorem dX7_start_15 : decode cX7_start 15 = .ok (.invokevirtual 106, 3) := by decide +kernel
theorem dX7_start_18 : decode cX7_start 18 = .ok (.aload_n 0, 1) := by decide +kernel
theorem dX7_start_19 : decode cX7_start 19 = .ok (.invokevirtual 116, 3) := by decide +kernel
theorem dX7_start_22 : decode cX7_start 22 = .ok (.aload_n 0, 1) := by decide +kernel
theorem dX7_start_23 : decode cX7_start 23 = .ok (.getfield 7, 3) := by decide +kernel
theorem dX7_start_26 : decode cX7_start 26 = .ok (.bipush 118, 2) := by decide +kernel
theorem dX7_start_28 : decode cX7_start 28 = .ok (.iaload, 1) := by decide +kernel
theorem dX7_start_29 : decode cX7_start 29 = .ok (.ireturn, 1) := by decide +kernel
theorem dX7_told_0 : decode cX7_told 0 = .ok (.iload_n 1, 1) := by decide +kernel
theorem dX7_told_1 : decode cX7_told 1 = .ok (.iconst 0, 1) := by decide +kernel
theorem dX7_told_2 : decode cX7_told 2 = .ok (.bipush 12, 2) := by decide +kernel
theorem dX7_told_4 : decode cX7_told 4 = .ok (.invokestatic 32, 3) := by decide +kernel
theorem dX7_told_7 : decode cX7_told 7 = .ok (.ifCond .ne 5, 3) := by decide +kernel
theorem dX7_told_10 : decode cX7_told 10 = .ok (.iconst (-1), 1) := by decide +kernel
theorem dX7_told_11 : decode cX7_told 11 = .ok (.ireturn, 1) := by decide +kernel
theorem dX7_told_12 : decode cX7_told 12 = .ok (.iload_n 1, 1) := by decide +kernel
theorem dX7_told_13 : decode cX7_told 13 = .ok (.iconst 2, 1) := by decide +kernel
theorem dX7_told_14 : decode cX7_told 14 = .ok (.bipush 7, 2) := by decide +kernel
theorem dX7_told_16 : decode cX7_told 16 = .ok (.invokestatic 32, 3) := by decide +kernel
theorem dX7_told_19 : decode cX7_told 19 = .ok (.ifCond .eq 16, 3) := by decide +kernel
theorem dX7_told_22 : decode cX7_told 22 = .ok (.aload_n 0, 1) := by decide +kernel
theorem dX7_told_23 : decode cX7_told 23 = .ok (.getfield 7, 3) := by decide +kernel
theorem dX7_told_26 : decode cX7_told 26 = .ok (.bipush 115, 2) := by decide +kernel
theorem dX7_told_28 : decode cX7_told 28 = .ok (.iaload, 1) := by decide +kernel
theorem dX7_told_29 : decode cX7_told 29 = .ok (.ifCond .ne 6, 3) := by decide +kernel
theorem dX7_told_32 : decode cX7_told 32 = .ok (.bipush (-9), 2) := by decide +kernel
theorem dX7_told_34 : decode cX7_told 34 = .ok (.ireturn, 1) := by decide +kernel
theorem dX7_told_35 : decode cX7_told 35 = .ok (.iload_n 1, 1) := by decide +kernel
theorem dX7_told_36 : decode cX7_told 36 = .ok (.tableswitch 160 0 11 #[64, 72, 80, 88, 96, 104, 112, 120, 128, 136, 144, 152], 64) := by decide +kernel
theorem dX7_told_100 : decode cX7_told 100 = .ok (.aload_n 0, 1) := by decide +kernel
theorem dX7_told_101 : decode cX7_told 101 = .ok (.getfield 7, 3) := by decide +kernel
theorem dX7_told_104 : decode cX7_told 104 = .ok (.bipush 115, 2) := by decide +kernel
theorem dX7_told_106 : decode cX7_told 106 = .ok (.iaload, 1) := by decide +kernel
theorem dX7_told_107 : decode cX7_told 107 = .ok (.ireturn, 1) := by decide +kernel
theorem dX7_told_108 : decode cX7_told 108 = .ok (.aload_n 0, 1) := by decide +kernel
theorem dX7_told_109 : decode cX7_told 109 = .ok (.getfield 7, 3) := by decide +kernel
theorem dX7_told_112 : decode cX7_told 112 = .ok (.bipush 122, 2) := by decide +kernel
theorem dX7_told_114 : decode cX7_told 114 = .ok (.iaload, 1) := by decide +kernel
theorem dX7_told_115 : decode cX7_told 115 = .ok (.ireturn, 1) := by decide +kernel
theorem dX7_told_116 : decode cX7_told 116 = .ok (.aload_n 0, 1) := by decide +kernel
theorem dX7_told_117 : decode cX7_told 117 = .ok (.getfield 7, 3) := by decide +kernel
theorem dX7_told_120 : decode cX7_told 120 = .ok (.bipush 118, 2) := by decide +kernel
theorem dX7_told_122 : decode cX7_told 122 = .ok (.iaload, 1) := by decide +kernel
theorem dX7_told_123 : decode cX7_told 123 = .ok (.ireturn, 1) := by decide +kernel
theorem dX7_told_124 : decode cX7_told 124 = .ok (.aload_n 0, 1) := by decide +kernel
theorem dX7_told_125 : decode cX7_told 125 = .ok (.getfield 7, 3) := by decide +kernel
theorem dX7_told_128 : decode cX7_told 128 = .ok (.bipush 119, 2) := by decide +kernel
theorem dX7_told_130 : decode cX7_told 130 = .ok (.iaload, 1) := by decide +kernel
theorem dX7_told_131 : decode cX7_told 131 = .ok (.ireturn, 1) := by decide +kernel
theorem dX7_told_132 : decode cX7_told 132 = .ok (.aload_n 0, 1) := by decide +kernel
theorem dX7_told_133 : decode cX7_told 133 = .ok (.getfield 7, 3) := by decide +kernel
theorem dX7_told_136 : decode cX7_told 136 = .ok (.bipush 120, 2) := by decide +kernel
theorem dX7_told_138 : decode cX7_told 138 = .ok (.iaload, 1) := by decide +kernel
theorem dX7_told_139 : decode cX7_told 139 = .ok (.ireturn, 1) := by decide +kernel
theorem dX7_told_140 : decode cX7_told 140 = .ok (.aload_n 0, 1) := by decide +kernel
theorem dX7_told_141 : decode cX7_told 141 = .ok (.getfield 7, 3) := by decide +kernel
theorem dX7_told_144 : decode cX7_told 144 = .ok (.bipush 121, 2) := by decide +kernel
theorem dX7_told_146 : decode cX7_told 146 = .ok (.iaload, 1) := by decide +kernel
theorem dX7_told_147 : decode cX7_told 147 = .ok (.ireturn, 1) := by decide +kernel
theorem dX7_told_148 : decode cX7_told 148 = .ok (.aload_n 0, 1) := by decide +kernel
theorem dX7_told_149 : decode cX7_told 149 = .ok (.getfield 7, 3) := by decide +kernel
theorem dX7_told_152 : decode cX7_told 152 = .ok (.bipush 116, 2) := by decide +kernel
theorem dX7_told_154 : decode cX7_told 154 = .ok (.iaload, 1) := by decide +kernel
theorem dX7_told_155 : decode cX7_told 155 = .ok (.ireturn, 1) := by decide +kernel
theorem dX7_told_156 : decode cX7_told 156 = .ok (.aload_n 0, 1) := by decide +kernel
theorem dX7_told_157 : decode cX7_told 157 = .ok (.getfield 7, 3) := by decide +kernel
theorem dX7_told_160 : decode cX7_told 160 = .ok (.bipush 117, 2) := by decide +kernel
theorem dX7_told_162 : decode cX7_told 162 = .ok (.iaload, 1) := by decide +kernel
theorem dX7_told_163 : decode cX7_told 163 = .ok (.ireturn, 1) := by decide +kernel
theorem dX7_told_164 : decode cX7_told 164 = .ok (.aload_n 0, 1) := by decide +kernel
theorem dX7_told_165 : decode cX7_told 165 = .ok (.getfield 7, 3) := by decide +kernel
theorem dX7_told_168 : decode cX7_told 168 = .ok (.bipush 123, 2) := by decide +kernel
theorem dX7_told_170 : decode cX7_told 170 = .ok (.iaload, 1) := by decide +kernel
theorem dX7_told_171 : decode cX7_told 171 = .ok (.ireturn, 1) := by decide +kernel
theorem dX7_told_172 : decode cX7_told 172 = .ok (.aload_n 0, 1) := by decide +kernel
theorem dX7_told_173 : decode cX7_told 173 = .ok (.getfield 7, 3) := by decide +kernel
theorem dX7_told_176 : decode cX7_told 176 = .ok (.bipush 124, 2) := by decide +kernel
theorem dX7_told_178 : decode cX7_told 178 = .ok (.iaload, 1) := by decide +kernel
theorem dX7_told_179 : decode cX7_told 179 = .ok (.ireturn, 1) := by decide +kernel
theorem dX7_told_180 : decode cX7_told 180 = .ok (.aload_n 0, 1) := by decide +kernel
theorem dX7_told_181 : decode cX7_told 181 = .ok (.getfield 7, 3) := by decide +kernel
theorem dX7_told_184 : decode cX7_told 184 = .ok (.bipush 125, 2) := by decide +kernel
theorem dX7_told_186 : decode cX7_told 186 = .ok (.iaload, 1) := by decide +kernel
theorem dX7_told_187 : decode cX7_told 187 = .ok (.ireturn, 1) := by decide +kernel
theorem dX7_told_188 : decode cX7_told 188 = .ok (.aload_n 0, 1) := by decide +kernel
theorem dX7_told_189 : decode cX7_told 189 = .ok (.getfield 7, 3) := by decide +kernel
theorem dX7_told_192 : decode cX7_told 192 = .ok (.bipush 126, 2) := by decide +kernel
theorem dX7_told_194 : decode cX7_told 194 = .ok (.iaload, 1) := by decide +kernel
theorem dX7_told_195 : decode cX7_told 195 = .ok (.ireturn, 1) := by decide +kernel
theorem dX7_told_196 : decode cX7_told 196 = .ok (.aload_n 0, 1) := by decide +kernel
theorem dX7_told_197 : decode cX7_told 197 = .ok (.getfield 36, 3) := by decide +kernel
theorem dX7_told_200 : decode cX7_told 200 = .ok (.ireturn, 1) := by decide +kernel
theorem dX7_price_0 : decode cX7_price 0 = .ok (.iload_n 1, 1) := by decide +kernel
theorem dX7_price_1 : decode cX7_price 1 = .ok (.invokestatic 96, 3) := by decide +kernel
theorem dX7_price_4 : decode cX7_price 4 = .ok (.ifCond .eq 15, 3) := by decide +kernel
theorem dX7_price_7 : decode cX7_price 7 = .ok (.aload_n 0, 1) := by decide +kernel
theorem dX7_price_8 : decode cX7_price 8 = .ok (.getfield 7, 3) := by decide +kernel
theorem dX7_price_11 : decode cX7_price 11 = .ok (.bipush 127, 2) := by decide +kernel
theorem dX7_price_13 : decode cX7_price 13 = .ok (.iload_n 1, 1) := by decide +kernel
theorem dX7_price_14 : decode cX7_price 14 = .ok (.iadd, 1) := by decide +kernel
theorem dX7_price_15 : decode cX7_price 15 = .ok (.iaload, 1) := by decide +kernel
theorem dX7_price_16 : decode cX7_price 16 = .ok (.goto 4, 3) := by decide +kernel
theorem dX7_price_19 : decode cX7_price 19 = .ok (.iconst (-1), 1) := by decide +kernel
theorem dX7_price_20 : decode cX7_price 20 = .ok (.ireturn, 1) := by decide +kernel
theorem dX7_isBlock_0 : decode cX7_isBlock 0 = .ok (.iload_n 0, 1) := by decide +kernel
theorem dX7_isBlock_1 : decode cX7_isBlock 1 = .ok (.iconst 0, 1) := by decide +kernel
theorem dX7_isBlock_2 : decode cX7_isBlock 2 = .ok (.iconst 4, 1) := by decide +kernel
theorem dX7_isBlock_3 : decode cX7_isBlock 3 = .ok (.invokestatic 32, 3) := by decide +kernel
theorem dX7_isBlock_6 : decode cX7_isBlock 6 = .ok (.ireturn, 1) := by decide +kernel
theorem dX7_word_0 : decode cX7_word 0 = .ok (.iload_n 1, 1) := by decide +kernel
theorem dX7_word_1 : decode cX7_word 1 = .ok (.invokestatic 119, 3) := by decide +kernel
theorem dX7_word_4 : decode cX7_word 4 = .ok (.ifCond .eq 22, 3) := by decide +kernel
theorem dX7_word_7 : decode cX7_word 7 = .ok (.iload_n 2, 1) := by decide +kernel
theorem dX7_word_8 : decode cX7_word 8 = .ok (.iconst 0, 1) := by decide +kernel
theorem dX7_word_9 : decode cX7_word 9 = .ok (.bipush 21, 2) := by decide +kernel
theorem dX7_word_11 : decode cX7_word 11 = .ok (.invokestatic 32, 3) := by decide +kernel
theorem dX7_word_14 : decode cX7_word 14 = .ok (.ifCond .eq 12, 3) := by decide +kernel
theorem dX7_word_17 : decode cX7_word 17 = .ok (.aload_n 0, 1) := by decide +kernel
theorem dX7_word_18 : decode cX7_word 18 = .ok (.iload_n 1, 1) := by decide +kernel
theorem dX7_word_19 : decode cX7_word 19 = .ok (.iload_n 2, 1) := by decide +kernel
theorem dX7_word_20 : decode cX7_word 20 = .ok (.invokevirtual 45, 3) := by decide +kernel
theorem dX7_word_23 : decode cX7_word 23 = .ok (.goto 4, 3) := by decide +kernel
theorem dX7_word_26 : decode cX7_word 26 = .ok (.iconst (-1), 1) := by decide +kernel
theorem dX7_word_27 : decode cX7_word 27 = .ok (.ireturn, 1) := by decide +kernel
theorem dX7_countIn_0 : decode cX7_countIn 0 = .ok (.iconst 0, 1) := by decide +kernel
theorem dX7_countIn_1 : decode cX7_countIn 1 = .ok (.istore_n 3, 1) := by decide +kernel
theorem dX7_countIn_2 : decode cX7_countIn 2 = .ok (.iconst 0, 1) := by decide +kernel
theorem dX7_countIn_3 : decode cX7_countIn 3 = .ok (.istore 4, 2) := by decide +kernel
theorem dX7_countIn_5 : decode cX7_countIn 5 = .ok (.iload 4, 2) := by decide +kernel
theorem dX7_countIn_7 : decode cX7_countIn 7 = .ok (.iconst 4, 1) := by decide +kernel
theorem dX7_countIn_8 : decode cX7_countIn 8 = .ok (.if_icmp .ge 84, 3) := by decide +kernel
theorem dX7_countIn_11 : decode cX7_countIn 11 = .ok (.aload_n 0, 1) := by decide +kernel
theorem dX7_countIn_12 : decode cX7_countIn 12 = .ok (.iload_n 1, 1) := by decide +kernel
theorem dX7_countIn_13 : decode cX7_countIn 13 = .ok (.invokevirtual 81, 3) := by decide +kernel
theorem dX7_countIn_16 : decode cX7_countIn 16 = .ok (.ifCond .eq 76, 3) := by decide +kernel
theorem dX7_countIn_19 : decode cX7_countIn 19 = .ok (.iload_n 2, 1) := by decide +kernel
theorem dX7_countIn_20 : decode cX7_countIn 20 = .ok (.bipush (-2), 2) := by decide +kernel
theorem dX7_countIn_22 : decode cX7_countIn 22 = .ok (.if_icmp .ne 13, 3) := by decide +kernel
theorem dX7_countIn_25 : decode cX7_countIn 25 = .ok (.aload_n 0, 1) := by decide +kernel
theorem dX7_countIn_26 : decode cX7_countIn 26 = .ok (.iload_n 1, 1) := by decide +kernel
theorem dX7_countIn_27 : decode cX7_countIn 27 = .ok (.iload 4, 2) := by decide +kernel
theorem dX7_countIn_29 : decode cX7_countIn 29 = .ok (.invokevirtual 122, 3) := by decide +kernel
theorem dX7_countIn_32 : decode cX7_countIn 32 = .ok (.goto 39, 3) := by decide +kernel
theorem dX7_countIn_35 : decode cX7_countIn 35 = .ok (.aload_n 0, 1) := by decide +kernel
theorem dX7_countIn_36 : decode cX7_countIn 36 = .ok (.iload_n 1, 1) := by decide +kernel
theorem dX7_countIn_37 : decode cX7_countIn 37 = .ok (.iload 4, 2) := by decide +kernel
theorem dX7_countIn_39 : decode cX7_countIn 39 = .ok (.invokevirtual 68, 3) := by decide +kernel
theorem dX7_countIn_42 : decode cX7_countIn 42 = .ok (.ifCond .eq 28, 3) := by decide +kernel
theorem dX7_countIn_45 : decode cX7_countIn 45 = .ok (.iload_n 2, 1) := by decide +kernel
theorem dX7_countIn_46 : decode cX7_countIn 46 = .ok (.iconst (-1), 1) := by decide +kernel
theorem dX7_countIn_47 : decode cX7_countIn 47 = .ok (.if_icmp .eq 19, 3) := by decide +kernel
theorem dX7_countIn_50 : decode cX7_countIn 50 = .ok (.aload_n 0, 1) := by decide +kernel
theorem dX7_countIn_51 : decode cX7_countIn 51 = .ok (.iload_n 1, 1) := by decide +kernel
theorem dX7_countIn_52 : decode cX7_countIn 52 = .ok (.iload 4, 2) := by decide +kernel
theorem dX7_countIn_54 : decode cX7_countIn 54 = .ok (.iconst 0, 1) := by decide +kernel
theorem dX7_countIn_55 : decode cX7_countIn 55 = .ok (.invokevirtual 56, 3) := by decide +kernel
theorem dX7_countIn_58 : decode cX7_countIn 58 = .ok (.sipush 10000, 3) := by decide +kernel
theorem dX7_countIn_61 : decode cX7_countIn 61 = .ok (.idiv, 1) := by decide +kernel
theorem dX7_countIn_62 : decode cX7_countIn 62 = .ok (.iload_n 2, 1) := by decide +kernel
theorem dX7_countIn_63 : decode cX7_countIn 63 = .ok (.if_icmp .ne 7, 3) := by decide +kernel
theorem dX7_countIn_66 : decode cX7_countIn 66 = .ok (.iconst 1, 1) := by decide +kernel
theorem dX7_countIn_67 : decode cX7_countIn 67 = .ok (.goto 4, 3) := by decide +kernel
theorem dX7_countIn_70 : decode cX7_countIn 70 = .ok (.iconst 0, 1) := by decide +kernel
theorem dX7_countIn_71 : decode cX7_countIn 71 = .ok (.istore 5, 2) := by decide +kernel
theorem dX7_countIn_73 : decode cX7_countIn 73 = .ok (.iload_n 3, 1) := by decide +kernel
theorem dX7_countIn_74 : decode cX7_countIn 74 = .ok (.iload 5, 2) := by decide +kernel
theorem dX7_countIn_76 : decode cX7_countIn 76 = .ok (.ifCond .eq 7, 3) := by decide +kernel
theorem dX7_countIn_79 : decode cX7_countIn 79 = .ok (.iconst 1, 1) := by decide +kernel
theorem dX7_countIn_80 : decode cX7_countIn 80 = .ok (.goto 4, 3) := by decide +kernel
theorem dX7_countIn_83 : decode cX7_countIn 83 = .ok (.iconst 0, 1) := by decide +kernel
theorem dX7_countIn_84 : decode cX7_countIn 84 = .ok (.iadd, 1) := by decide +kernel
theorem dX7_countIn_85 : decode cX7_countIn 85 = .ok (.istore_n 3, 1) := by decide +kernel
theorem dX7_countIn_86 : decode cX7_countIn 86 = .ok (.iinc 4 1, 3) := by decide +kernel
theorem dX7_countIn_89 : decode cX7_countIn 89 = .ok (.goto (-84), 3) := by decide +kernel
theorem dX7_countIn_92 : decode cX7_countIn 92 = .ok (.iload_n 3, 1) := by decide +kernel
theorem dX7_countIn_93 : decode cX7_countIn 93 = .ok (.ireturn, 1) := by decide +kernel
theorem dX7_count_0 : decode cX7_count 0 = .ok (.iconst 0, 1) := by decide +kernel
theorem dX7_count_1 : decode cX7_count 1 = .ok (.istore_n 2, 1) := by decide +kernel
theorem dX7_count_2 : decode cX7_count 2 = .ok (.iconst 0, 1) := by decide +kernel
theorem dX7_count_3 : decode cX7_count 3 = .ok (.istore_n 3, 1) := by decide +kernel
theorem dX7_count_4 : decode cX7_count 4 = .ok (.iload_n 3, 1) := by decide +kernel
theorem dX7_count_5 : decode cX7_count 5 = .ok (.iconst 5, 1) := by decide +kernel
theorem dX7_count_6 : decode cX7_count 6 = .ok (.if_icmp .ge 18, 3) := by decide +kernel
theorem dX7_count_9 : decode cX7_count 9 = .ok (.iload_n 2, 1) := by decide +kernel
theorem dX7_count_10 : decode cX7_count 10 = .ok (.aload_n 0, 1) := by decide +kernel
theorem dX7_count_11 : decode cX7_count 11 = .ok (.iload_n 3, 1) := by decide +kernel
theorem dX7_count_12 : decode cX7_count 12 = .ok (.iload_n 1, 1) := by decide +kernel
theorem dX7_count_13 : decode cX7_count 13 = .ok (.invokevirtual 125, 3) := by decide +kernel
theorem dX7_count_16 : decode cX7_count 16 = .ok (.iadd, 1) := by decide +kernel
theorem dX7_count_17 : decode cX7_count 17 = .ok (.istore_n 2, 1) := by decide +kernel
theorem dX7_count_18 : decode cX7_count 18 = .ok (.iinc 3 1, 3) := by decide +kernel
theorem dX7_count_21 : decode cX7_count 21 = .ok (.goto (-17), 3) := by decide +kernel
theorem dX7_count_24 : decode cX7_count 24 = .ok (.iload_n 2, 1) := by decide +kernel
theorem dX7_count_25 : decode cX7_count 25 = .ok (.ireturn, 1) := by decide +kernel
theorem dX7_block_0 : decode cX7_block 0 = .ok (.iload_n 1, 1) := by decide +kernel
theorem dX7_block_1 : decode cX7_block 1 = .ok (.invokestatic 119, 3) := by decide +kernel
theorem dX7_block_4 : decode cX7_block 4 = .ok (.ifCond .eq 12, 3) := by decide +kernel
theorem dX7_block_7 : decode cX7_block 7 = .ok (.iload_n 2, 1) := by decide +kernel
theorem dX7_block_8 : decode cX7_block 8 = .ok (.iconst 0, 1) := by decide +kernel
theorem dX7_block_9 : decode cX7_block 9 = .ok (.iconst 4, 1) := by decide +kernel
theorem dX7_block_10 : decode cX7_block 10 = .ok (.invokestatic 32, 3) := by decide +kernel
theorem dX7_block_13 : decode cX7_block 13 = .ok (.ifCond .ne 5, 3) := by decide +kernel
theorem dX7_block_16 : decode cX7_block 16 = .ok (.iconst (-1), 1) := by decide +kernel
theorem dX7_block_17 : decode cX7_block 17 = .ok (.ireturn, 1) := by decide +kernel
theorem dX7_block_18 : decode cX7_block 18 = .ok (.iload_n 2, 1) := by decide +kernel
theorem dX7_block_19 : decode cX7_block 19 = .ok (.tableswitch 78 0 3 #[29, 43, 63, 70], 29) := by decide +kernel
theorem dX7_block_48 : decode cX7_block 48 = .ok (.aload_n 0, 1) := by decide +kernel
theorem dX7_block_49 : decode cX7_block 49 = .ok (.iload_n 1, 1) := by decide +kernel
theorem dX7_block_50 : decode cX7_block 50 = .ok (.invokevirtual 81, 3) := by decide +kernel
theorem dX7_block_53 : decode cX7_block 53 = .ok (.ifCond .eq 7, 3) := by decide +kernel
theorem dX7_block_56 : decode cX7_block 56 = .ok (.iconst 1, 1) := by decide +kernel
theorem dX7_block_57 : decode cX7_block 57 = .ok (.goto 4, 3) := by decide +kernel
theorem dX7_block_60 : decode cX7_block 60 = .ok (.iconst 0, 1) := by decide +kernel
theorem dX7_block_61 : decode cX7_block 61 = .ok (.ireturn, 1) := by decide +kernel
theorem dX7_block_62 : decode cX7_block 62 = .ok (.aload_n 0, 1) := by decide +kernel
theorem dX7_block_63 : decode cX7_block 63 = .ok (.iload_n 1, 1) := by decide +kernel
theorem dX7_block_64 : decode cX7_block 64 = .ok (.invokevirtual 81, 3) := by decide +kernel
theorem dX7_block_67 : decode cX7_block 67 = .ok (.ifCond .eq 12, 3) := by decide +kernel
theorem dX7_block_70 : decode cX7_block 70 = .ok (.aload_n 0, 1) := by decide +kernel
theorem dX7_block_71 : decode cX7_block 71 = .ok (.iload_n 1, 1) := by decide +kernel
theorem dX7_block_72 : decode cX7_block 72 = .ok (.iconst 0, 1) := by decide +kernel
theorem dX7_block_73 : decode cX7_block 73 = .ok (.invokevirtual 45, 3) := by decide +kernel
theorem dX7_block_76 : decode cX7_block 76 = .ok (.goto 5, 3) := by decide +kernel
theorem dX7_block_79 : decode cX7_block 79 = .ok (.bipush (-9), 2) := by decide +kernel
theorem dX7_block_81 : decode cX7_block 81 = .ok (.ireturn, 1) := by decide +kernel
theorem dX7_block_82 : decode cX7_block 82 = .ok (.aload_n 0, 1) := by decide +kernel
theorem dX7_block_83 : decode cX7_block 83 = .ok (.iload_n 1, 1) := by decide +kernel
theorem dX7_block_84 : decode cX7_block 84 = .ok (.iconst (-1), 1) := by decide +kernel
theorem dX7_block_85 : decode cX7_block 85 = .ok (.invokevirtual 125, 3) := by decide +kernel
theorem dX7_block_88 : decode cX7_block 88 = .ok (.ireturn, 1) := by decide +kernel
theorem dX7_block_89 : decode cX7_block 89 = .ok (.aload_n 0, 1) := by decide +kernel
theorem dX7_block_90 : decode cX7_block 90 = .ok (.iload_n 1, 1) := by decide +kernel
theorem dX7_block_91 : decode cX7_block 91 = .ok (.bipush (-2), 2) := by decide +kernel
theorem dX7_block_93 : decode cX7_block 93 = .ok (.invokevirtual 125, 3) := by decide +kernel
theorem dX7_block_96 : decode cX7_block 96 = .ok (.ireturn, 1) := by decide +kernel
theorem dX7_block_97 : decode cX7_block 97 = .ok (.aload_n 0, 1) := by decide +kernel
theorem dX7_block_98 : decode cX7_block 98 = .ok (.getfield 7, 3) := by decide +kernel
theorem dX7_block_101 : decode cX7_block 101 = .ok (.bipush 110, 2) := by decide +kernel
theorem dX7_block_103 : decode cX7_block 103 = .ok (.iload_n 1, 1) := by decide +kernel
theorem dX7_block_104 : decode cX7_block 104 = .ok (.iadd, 1) := by decide +kernel
theorem dX7_block_105 : decode cX7_block 105 = .ok (.iaload, 1) := by decide +kernel
theorem dX7_block_106 : decode cX7_block 106 = .ok (.ireturn, 1) := by decide +kernel
theorem dX7_layRecords_0 : decode cX7_layRecords 0 = .ok (.aload_n 0, 1) := by decide +kernel
theorem dX7_layRecords_1 : decode cX7_layRecords 1 = .ok (.iconst 0, 1) := by decide +kernel
theorem dX7_layRecords_2 : decode cX7_layRecords 2 = .ok (.putfield 128, 3) := by decide +kernel
theorem dX7_layRecords_5 : decode cX7_layRecords 5 = .ok (.aload_n 0, 1) := by decide +kernel
theorem dX7_layRecords_6 : decode cX7_layRecords 6 = .ok (.aload_n 0, 1) := by decide +kernel
theorem dX7_layRecords_7 : decode cX7_layRecords 7 = .ok (.invokevirtual 84, 3) := by decide +kernel
theorem dX7_layRecords_10 : decode cX7_layRecords 10 = .ok (.iconst 0, 1) := by decide +kernel
theorem dX7_layRecords_11 : decode cX7_layRecords 11 = .ok (.invokevirtual 45, 3) := by decide +kernel
theorem dX7_layRecords_14 : decode cX7_layRecords 14 = .ok (.istore_n 1, 1) := by decide +kernel
theorem dX7_layRecords_15 : decode cX7_layRecords 15 = .ok (.iconst 4, 1) := by decide +kernel
theorem dX7_layRecords_16 : decode cX7_layRecords 16 = .ok (.istore_n 2, 1) := by decide +kernel
theorem dX7_layRecords_17 : decode cX7_layRecords 17 = .ok (.iload_n 2, 1) := by decide +kernel
theorem dX7_layRecords_18 : decode cX7_layRecords 18 = .ok (.ifCond .lt 55, 3) := by decide +kernel
theorem dX7_layRecords_21 : decode cX7_layRecords 21 = .ok (.iconst 0, 1) := by decide +kernel
theorem dX7_layRecords_22 : decode cX7_layRecords 22 = .ok (.istore_n 3, 1) := by decide +kernel
theorem dX7_layRecords_23 : decode cX7_layRecords 23 = .ok (.iload_n 3, 1) := by decide +kernel
theorem dX7_layRecords_24 : decode cX7_layRecords 24 = .ok (.iconst 5, 1) := by decide +kernel
theorem dX7_layRecords_25 : decode cX7_layRecords 25 = .ok (.if_icmp .ge 42, 3) := by decide +kernel
theorem dX7_layRecords_28 : decode cX7_layRecords 28 = .ok (.aload_n 0, 1) := by decide +kernel
theorem dX7_layRecords_29 : decode cX7_layRecords 29 = .ok (.iload_n 3, 1) := by decide +kernel
theorem dX7_layRecords_30 : decode cX7_layRecords 30 = .ok (.invokevirtual 81, 3) := by decide +kernel
theorem dX7_layRecords_33 : decode cX7_layRecords 33 = .ok (.ifCond .eq 28, 3) := by decide +kernel
theorem dX7_layRecords_36 : decode cX7_layRecords 36 = .ok (.iload_n 1, 1) := by decide +kernel
theorem dX7_layRecords_37 : decode cX7_layRecords 37 = .ok (.aload_n 0, 1) := by decide +kernel
theorem dX7_layRecords_38 : decode cX7_layRecords 38 = .ok (.iload_n 3, 1) := by decide +kernel
theorem dX7_layRecords_39 : decode cX7_layRecords 39 = .ok (.iconst 0, 1) := by decide +kernel
theorem dX7_layRecords_40 : decode cX7_layRecords 40 = .ok (.invokevirtual 45, 3) := by decide +kernel
theorem dX7_layRecords_43 : decode cX7_layRecords 43 = .ok (.isub, 1) := by decide +kernel
theorem dX7_layRecords_44 : decode cX7_layRecords 44 = .ok (.sipush 10000, 3) := by decide +kernel
theorem dX7_layRecords_47 : decode cX7_layRecords 47 = .ok (.iadd, 1) := by decide +kernel
theorem dX7_layRecords_48 : decode cX7_layRecords 48 = .ok (.sipush 10000, 3) := by decide +kernel
theorem dX7_layRecords_51 : decode cX7_layRecords 51 = .ok (.irem, 1) := by decide +kernel
theorem dX7_layRecords_52 : decode cX7_layRecords 52 = .ok (.iload_n 2, 1) := by decide +kernel
theorem dX7_layRecords_53 : decode cX7_layRecords 53 = .ok (.if_icmp .ne 8, 3) := by decide +kernel
theorem dX7_layRecords_56 : decode cX7_layRecords 56 = .ok (.aload_n 0, 1) := by decide +kernel
theorem dX7_layRecords_57 : decode cX7_layRecords 57 = .ok (.iload_n 3, 1) := by decide +kernel
theorem dX7_layRecords_58 : decode cX7_layRecords 58 = .ok (.invokevirtual 131, 3) := by decide +kernel
theorem dX7_layRecords_61 : decode cX7_layRecords 61 = .ok (.iinc 3 1, 3) := by decide +kernel
theorem dX7_layRecords_64 : decode cX7_layRecords 64 = .ok (.goto (-41), 3) := by decide +kernel
theorem dX7_layRecords_67 : decode cX7_layRecords 67 = .ok (.iinc 2 (-1), 3) := by decide +kernel
theorem dX7_layRecords_70 : decode cX7_layRecords 70 = .ok (.goto (-53), 3) := by decide +kernel
theorem dX7_layRecords_73 : decode cX7_layRecords 73 = .ok (.return_, 1) := by decide +kernel
theorem dX7_layBlock_0 : decode cX7_layBlock 0 = .ok (.iconst 0, 1) := by decide +kernel
theorem dX7_layBlock_1 : decode cX7_layBlock 1 = .ok (.istore_n 2, 1) := by decide +kernel
theorem dX7_layBlock_2 : decode cX7_layBlock 2 = .ok (.iload_n 2, 1) := by decide +kernel
theorem dX7_layBlock_3 : decode cX7_layBlock 3 = .ok (.iconst 4, 1) := by decide +kernel
theorem dX7_layBlock_4 : decode cX7_layBlock 4 = .ok (.if_icmp .ge 48, 3) := by decide +kernel
theorem dX7_layBlock_7 : decode cX7_layBlock 7 = .ok (.aload_n 0, 1) := by decide +kernel
theorem dX7_layBlock_8 : decode cX7_layBlock 8 = .ok (.iload_n 1, 1) := by decide +kernel
theorem dX7_layBlock_9 : decode cX7_layBlock 9 = .ok (.iload_n 2, 1) := by decide +kernel
theorem dX7_layBlock_10 : decode cX7_layBlock 10 = .ok (.invokevirtual 68, 3) := by decide +kernel
theorem dX7_layBlock_13 : decode cX7_layBlock 13 = .ok (.ifCond .eq 33, 3) := by decide +kernel
theorem dX7_layBlock_16 : decode cX7_layBlock 16 = .ok (.aload_n 0, 1) := by decide +kernel
theorem dX7_layBlock_17 : decode cX7_layBlock 17 = .ok (.getfield 25, 3) := by decide +kernel
theorem dX7_layBlock_20 : decode cX7_layBlock 20 = .ok (.aload_n 0, 1) := by decide +kernel
theorem dX7_layBlock_21 : decode cX7_layBlock 21 = .ok (.getfield 128, 3) := by decide +kernel
theorem dX7_layBlock_24 : decode cX7_layBlock 24 = .ok (.iload_n 1, 1) := by decide +kernel
theorem dX7_layBlock_25 : decode cX7_layBlock 25 = .ok (.iastore, 1) := by decide +kernel
theorem dX7_layBlock_26 : decode cX7_layBlock 26 = .ok (.aload_n 0, 1) := by decide +kernel
theorem dX7_layBlock_27 : decode cX7_layBlock 27 = .ok (.getfield 28, 3) := by decide +kernel
theorem dX7_layBlock_30 : decode cX7_layBlock 30 = .ok (.aload_n 0, 1) := by decide +kernel
theorem dX7_layBlock_31 : decode cX7_layBlock 31 = .ok (.getfield 128, 3) := by decide +kernel
theorem dX7_layBlock_34 : decode cX7_layBlock 34 = .ok (.iload_n 2, 1) := by decide +kernel
theorem dX7_layBlock_35 : decode cX7_layBlock 35 = .ok (.iastore, 1) := by decide +kernel
theorem dX7_layBlock_36 : decode cX7_layBlock 36 = .ok (.aload_n 0, 1) := by decide +kernel
theorem dX7_layBlock_37 : decode cX7_layBlock 37 = .ok (.dup, 1) := by decide +kernel
theorem dX7_layBlock_38 : decode cX7_layBlock 38 = .ok (.getfield 128, 3) := by decide +kernel
theorem dX7_layBlock_41 : decode cX7_layBlock 41 = .ok (.iconst 1, 1) := by decide +kernel
theorem dX7_layBlock_42 : decode cX7_layBlock 42 = .ok (.iadd, 1) := by decide +kernel
theorem dX7_layBlock_43 : decode cX7_layBlock 43 = .ok (.putfield 128, 3) := by decide +kernel
theorem dX7_layBlock_46 : decode cX7_layBlock 46 = .ok (.iinc 2 1, 3) := by decide +kernel
theorem dX7_layBlock_49 : decode cX7_layBlock 49 = .ok (.goto (-47), 3) := by decide +kernel
theorem dX7_layBlock_52 : decode cX7_layBlock 52 = .ok (.return_, 1) := by decide +kernel
theorem dX7_of_0 : decode cX7_of 0 = .ok (.aload_n 0, 1) := by decide +kernel
theorem dX7_of_1 : decode cX7_of 1 = .ok (.aload_n 0, 1) := by decide +kernel
theorem dX7_of_2 : decode cX7_of 2 = .ok (.getfield 25, 3) := by decide +kernel
theorem dX7_of_5 : decode cX7_of 5 = .ok (.iload_n 1, 1) := by decide +kernel
theorem dX7_of_6 : decode cX7_of 6 = .ok (.iaload, 1) := by decide +kernel
theorem dX7_of_7 : decode cX7_of 7 = .ok (.aload_n 0, 1) := by decide +kernel
theorem dX7_of_8 : decode cX7_of 8 = .ok (.getfield 28, 3) := by decide +kernel
theorem dX7_of_11 : decode cX7_of 11 = .ok (.iload_n 1, 1) := by decide +kernel
theorem dX7_of_12 : decode cX7_of 12 = .ok (.iaload, 1) := by decide +kernel
theorem dX7_of_13 : decode cX7_of 13 = .ok (.iload_n 2, 1) := by decide +kernel
theorem dX7_of_14 : decode cX7_of 14 = .ok (.invokevirtual 56, 3) := by decide +kernel
theorem dX7_of_17 : decode cX7_of 17 = .ok (.ireturn, 1) := by decide +kernel
theorem dX7_records_0 : decode cX7_records 0 = .ok (.iload_n 1, 1) := by decide +kernel
theorem dX7_records_1 : decode cX7_records 1 = .ok (.bipush (-2), 2) := by decide +kernel
theorem dX7_records_3 : decode cX7_records 3 = .ok (.iconst 4, 1) := by decide +kernel
theorem dX7_records_4 : decode cX7_records 4 = .ok (.invokestatic 32, 3) := by decide +kernel
theorem dX7_records_7 : decode cX7_records 7 = .ok (.ifCond .eq 11, 3) := by decide +kernel
theorem dX7_records_10 : decode cX7_records 10 = .ok (.aload_n 0, 1) := by decide +kernel
theorem dX7_records_11 : decode cX7_records 11 = .ok (.iload_n 1, 1) := by decide +kernel
theorem dX7_records_12 : decode cX7_records 12 = .ok (.invokevirtual 113, 3) := by decide +kernel
theorem dX7_records_15 : decode cX7_records 15 = .ok (.goto 4, 3) := by decide +kernel
theorem dX7_records_18 : decode cX7_records 18 = .ok (.iconst (-1), 1) := by decide +kernel
theorem dX7_records_19 : decode cX7_records 19 = .ok (.ireturn, 1) := by decide +kernel
theorem dX7_record_0 : decode cX7_record 0 = .ok (.iload_n 1, 1) := by decide +kernel
theorem dX7_record_1 : decode cX7_record 1 = .ok (.ifCond .lt 12, 3) := by decide +kernel
theorem dX7_record_4 : decode cX7_record 4 = .ok (.iload_n 2, 1) := by decide +kernel
theorem dX7_record_5 : decode cX7_record 5 = .ok (.iconst 0, 1) := by decide +kernel
theorem dX7_record_6 : decode cX7_record 6 = .ok (.iconst 5, 1) := by decide +kernel
theorem dX7_record_7 : decode cX7_record 7 = .ok (.invokestatic 32, 3) := by decide +kernel
theorem dX7_record_10 : decode cX7_record 10 = .ok (.ifCond .ne 5, 3) := by decide +kernel
theorem dX7_record_13 : decode cX7_record 13 = .ok (.iconst (-1), 1) := by decide +kernel
theorem dX7_record_14 : decode cX7_record 14 = .ok (.ireturn, 1) := by decide +kernel
theorem dX7_record_15 : decode cX7_record 15 = .ok (.aload_n 0, 1) := by decide +kernel
theorem dX7_record_16 : decode cX7_record 16 = .ok (.invokevirtual 135, 3) := by decide +kernel
theorem dX7_record_19 : decode cX7_record 19 = .ok (.iload_n 1, 1) := by decide +kernel
theorem dX7_record_20 : decode cX7_record 20 = .ok (.aload_n 0, 1) := by decide +kernel
theorem dX7_record_21 : decode cX7_record 21 = .ok (.getfield 128, 3) := by decide +kernel
theorem dX7_record_24 : decode cX7_record 24 = .ok (.if_icmp .lt 6, 3) := by decide +kernel
theorem dX7_record_27 : decode cX7_record 27 = .ok (.bipush (-9), 2) := by decide +kernel
theorem dX7_record_29 : decode cX7_record 29 = .ok (.ireturn, 1) := by decide +kernel
theorem dX7_record_30 : decode cX7_record 30 = .ok (.iload_n 2, 1) := by decide +kernel
theorem dX7_record_31 : decode cX7_record 31 = .ok (.tableswitch 76 0 4 #[33, 44, 55, 62, 69], 33) := by decide +kernel
theorem dX7_record_64 : decode cX7_record 64 = .ok (.aload_n 0, 1) := by decide +kernel
theorem dX7_record_65 : decode cX7_record 65 = .ok (.iload_n 1, 1) := by decide +kernel
theorem dX7_record_66 : decode cX7_record 66 = .ok (.iconst 0, 1) := by decide +kernel
theorem dX7_record_67 : decode cX7_record 67 = .ok (.invokevirtual 138, 3) := by decide +kernel
theorem dX7_record_70 : decode cX7_record 70 = .ok (.sipush 10000, 3) := by decide +kernel
theorem dX7_record_73 : decode cX7_record 73 = .ok (.irem, 1) := by decide +kernel
theorem dX7_record_74 : decode cX7_record 74 = .ok (.ireturn, 1) := by decide +kernel
theorem dX7_record_75 : decode cX7_record 75 = .ok (.aload_n 0, 1) := by decide +kernel
theorem dX7_record_76 : decode cX7_record 76 = .ok (.iload_n 1, 1) := by decide +kernel
theorem dX7_record_77 : decode cX7_record 77 = .ok (.iconst 0, 1) := by decide +kernel
theorem dX7_record_78 : decode cX7_record 78 = .ok (.invokevirtual 138, 3) := by decide +kernel
theorem dX7_record_81 : decode cX7_record 81 = .ok (.sipush 10000, 3) := by decide +kernel
theorem dX7_record_84 : decode cX7_record 84 = .ok (.idiv, 1) := by decide +kernel
theorem dX7_record_85 : decode cX7_record 85 = .ok (.ireturn, 1) := by decide +kernel
theorem dX7_record_86 : decode cX7_record 86 = .ok (.aload_n 0, 1) := by decide +kernel
theorem dX7_record_87 : decode cX7_record 87 = .ok (.iload_n 1, 1) := by decide +kernel
theorem dX7_record_88 : decode cX7_record 88 = .ok (.iconst 1, 1) := by decide +kernel
theorem dX7_record_89 : decode cX7_record 89 = .ok (.invokevirtual 138, 3) := by decide +kernel
theorem dX7_record_92 : decode cX7_record 92 = .ok (.ireturn, 1) := by decide +kernel
theorem dX7_record_93 : decode cX7_record 93 = .ok (.aload_n 0, 1) := by decide +kernel
theorem dX7_record_94 : decode cX7_record 94 = .ok (.iload_n 1, 1) := by decide +kernel
theorem dX7_record_95 : decode cX7_record 95 = .ok (.iconst 2, 1) := by decide +kernel
theorem dX7_record_96 : decode cX7_record 96 = .ok (.invokevirtual 138, 3) := by decide +kernel
theorem dX7_record_99 : decode cX7_record 99 = .ok (.ireturn, 1) := by decide +kernel
theorem dX7_record_100 : decode cX7_record 100 = .ok (.aload_n 0, 1) := by decide +kernel
theorem dX7_record_101 : decode cX7_record 101 = .ok (.getfield 25, 3) := by decide +kernel
theorem dX7_record_104 : decode cX7_record 104 = .ok (.iload_n 1, 1) := by decide +kernel
theorem dX7_record_105 : decode cX7_record 105 = .ok (.iaload, 1) := by decide +kernel
theorem dX7_record_106 : decode cX7_record 106 = .ok (.ireturn, 1) := by decide +kernel
theorem dX7_record_107 : decode cX7_record 107 = .ok (.aload_n 0, 1) := by decide +kernel
theorem dX7_record_108 : decode cX7_record 108 = .ok (.getfield 28, 3) := by decide +kernel
theorem dX7_record_111 : decode cX7_record 111 = .ok (.iload_n 1, 1) := by decide +kernel
theorem dX7_record_112 : decode cX7_record 112 = .ok (.iaload, 1) := by decide +kernel
theorem dX7_record_113 : decode cX7_record 113 = .ok (.ireturn, 1) := by decide +kernel
theorem dX7_takings_0 : decode cX7_takings 0 = .ok (.iload_n 1, 1) := by decide +kernel
theorem dX7_takings_1 : decode cX7_takings 1 = .ok (.iconst (-1), 1) := by decide +kernel
theorem dX7_takings_2 : decode cX7_takings 2 = .ok (.iconst 3, 1) := by decide +kernel
theorem dX7_takings_3 : decode cX7_takings 3 = .ok (.invokestatic 32, 3) := by decide +kernel
theorem dX7_takings_6 : decode cX7_takings 6 = .ok (.ifCond .ne 5, 3) := by decide +kernel
theorem dX7_takings_9 : decode cX7_takings 9 = .ok (.iconst (-1), 1) := by decide +kernel
theorem dX7_takings_10 : decode cX7_takings 10 = .ok (.ireturn, 1) := by decide +kernel
theorem dX7_takings_11 : decode cX7_takings 11 = .ok (.aload_n 0, 1) := by decide +kernel
theorem dX7_takings_12 : decode cX7_takings 12 = .ok (.invokevirtual 135, 3) := by decide +kernel
theorem dX7_takings_15 : decode cX7_takings 15 = .ok (.iconst 0, 1) := by decide +kernel
theorem dX7_takings_16 : decode cX7_takings 16 = .ok (.istore_n 2, 1) := by decide +kernel
theorem dX7_takings_17 : decode cX7_takings 17 = .ok (.iconst 0, 1) := by decide +kernel
theorem dX7_takings_18 : decode cX7_takings 18 = .ok (.istore_n 3, 1) := by decide +kernel
theorem dX7_takings_19 : decode cX7_takings 19 = .ok (.iload_n 3, 1) := by decide +kernel
theorem dX7_takings_20 : decode cX7_takings 20 = .ok (.aload_n 0, 1) := by decide +kernel
theorem dX7_takings_21 : decode cX7_takings 21 = .ok (.getfield 128, 3) := by decide +kernel
theorem dX7_takings_24 : decode cX7_takings 24 = .ok (.if_icmp .ge 94, 3) := by decide +kernel
theorem dX7_takings_27 : decode cX7_takings 27 = .ok (.aload_n 0, 1) := by decide +kernel
theorem dX7_takings_28 : decode cX7_takings 28 = .ok (.iload_n 3, 1) := by decide +kernel
theorem dX7_takings_29 : decode cX7_takings 29 = .ok (.iconst 0, 1) := by decide +kernel
theorem dX7_takings_30 : decode cX7_takings 30 = .ok (.invokevirtual 138, 3) := by decide +kernel
theorem dX7_takings_33 : decode cX7_takings 33 = .ok (.sipush 10000, 3) := by decide +kernel
theorem dX7_takings_36 : decode cX7_takings 36 = .ok (.idiv, 1) := by decide +kernel
theorem dX7_takings_37 : decode cX7_takings 37 = .ok (.istore 4, 2) := by decide +kernel
theorem dX7_takings_39 : decode cX7_takings 39 = .ok (.iload 4, 2) := by decide +kernel
theorem dX7_takings_41 : decode cX7_takings 41 = .ok (.iconst 2, 1) := by decide +kernel
theorem dX7_takings_42 : decode cX7_takings 42 = .ok (.if_icmp .ge 26, 3) := by decide +kernel
theorem dX7_takings_45 : decode cX7_takings 45 = .ok (.iload_n 1, 1) := by decide +kernel
theorem dX7_takings_46 : decode cX7_takings 46 = .ok (.iconst (-1), 1) := by decide +kernel
theorem dX7_takings_47 : decode cX7_takings 47 = .ok (.if_icmp .eq 17, 3) := by decide +kernel
theorem dX7_takings_50 : decode cX7_takings 50 = .ok (.aload_n 0, 1) := by decide +kernel
theorem dX7_takings_51 : decode cX7_takings 51 = .ok (.iload_n 3, 1) := by decide +kernel
theorem dX7_takings_52 : decode cX7_takings 52 = .ok (.iconst 2, 1) := by decide +kernel
theorem dX7_takings_53 : decode cX7_takings 53 = .ok (.invokevirtual 138, 3) := by decide +kernel
theorem dX7_takings_56 : decode cX7_takings 56 = .ok (.sipush 1000, 3) := by decide +kernel
theorem dX7_takings_59 : decode cX7_takings 59 = .ok (.idiv, 1) := by decide +kernel
theorem dX7_takings_60 : decode cX7_takings 60 = .ok (.iload_n 1, 1) := by decide +kernel
theorem dX7_takings_61 : decode cX7_takings 61 = .ok (.if_icmp .ne 7, 3) := by decide +kernel
theorem dX7_takings_64 : decode cX7_takings 64 = .ok (.iconst 1, 1) := by decide +kernel
theorem dX7_takings_65 : decode cX7_takings 65 = .ok (.goto 4, 3) := by decide +kernel
theorem dX7_takings_68 : decode cX7_takings 68 = .ok (.iconst 0, 1) := by decide +kernel
theorem dX7_takings_69 : decode cX7_takings 69 = .ok (.istore 5, 2) := by decide +kernel
theorem dX7_takings_71 : decode cX7_takings 71 = .ok (.iload_n 2, 1) := by decide +kernel
theorem dX7_takings_72 : decode cX7_takings 72 = .ok (.iload 5, 2) := by decide +kernel
theorem dX7_takings_74 : decode cX7_takings 74 = .ok (.ifCond .ne 7, 3) := by decide +kernel
theorem dX7_takings_77 : decode cX7_takings 77 = .ok (.iconst 0, 1) := by decide +kernel
theorem dX7_takings_78 : decode cX7_takings 78 = .ok (.goto 32, 3) := by decide +kernel
theorem dX7_takings_81 : decode cX7_takings 81 = .ok (.iload 4, 2) := by decide +kernel
theorem dX7_takings_83 : decode cX7_takings 83 = .ok (.ifCond .ne 16, 3) := by decide +kernel
theorem dX7_takings_86 : decode cX7_takings 86 = .ok (.aload_n 0, 1) := by decide +kernel
theorem dX7_takings_87 : decode cX7_takings 87 = .ok (.iload_n 3, 1) := by decide +kernel
theorem dX7_takings_88 : decode cX7_takings 88 = .ok (.iconst 2, 1) := by decide +kernel
theorem dX7_takings_89 : decode cX7_takings 89 = .ok (.invokevirtual 138, 3) := by decide +kernel
theorem dX7_takings_92 : decode cX7_takings 92 = .ok (.sipush 1000, 3) := by decide +kernel
theorem dX7_takings_95 : decode cX7_takings 95 = .ok (.irem, 1) := by decide +kernel
theorem dX7_takings_96 : decode cX7_takings 96 = .ok (.goto 14, 3) := by decide +kernel
theorem dX7_takings_99 : decode cX7_takings 99 = .ok (.aload_n 0, 1) := by decide +kernel
theorem dX7_takings_100 : decode cX7_takings 100 = .ok (.iload_n 3, 1) := by decide +kernel
theorem dX7_takings_101 : decode cX7_takings 101 = .ok (.iconst 2, 1) := by decide +kernel
theorem dX7_takings_102 : decode cX7_takings 102 = .ok (.invokevirtual 138, 3) := by decide +kernel
theorem dX7_takings_105 : decode cX7_takings 105 = .ok (.sipush 1000, 3) := by decide +kernel
theorem dX7_takings_108 : decode cX7_takings 108 = .ok (.irem, 1) := by decide +kernel
theorem dX7_takings_109 : decode cX7_takings 109 = .ok (.ineg, 1) := by decide +kernel
theorem dX7_takings_110 : decode cX7_takings 110 = .ok (.iadd, 1) := by decide +kernel
theorem dX7_takings_111 : decode cX7_takings 111 = .ok (.istore_n 2, 1) := by decide +kernel
theorem dX7_takings_112 : decode cX7_takings 112 = .ok (.iinc 3 1, 3) := by decide +kernel
theorem dX7_takings_115 : decode cX7_takings 115 = .ok (.goto (-96), 3) := by decide +kernel
theorem dX7_takings_118 : decode cX7_takings 118 = .ok (.iload_n 2, 1) := by decide +kernel
theorem dX7_takings_119 : decode cX7_takings 119 = .ok (.ireturn, 1) := by decide +kernel
theorem dX7_mean_0 : decode cX7_mean 0 = .ok (.aload_n 0, 1) := by decide +kernel
theorem dX7_mean_1 : decode cX7_mean 1 = .ok (.invokevirtual 135, 3) := by decide +kernel
theorem dX7_mean_4 : decode cX7_mean 4 = .ok (.iconst 0, 1) := by decide +kernel
theorem dX7_mean_5 : decode cX7_mean 5 = .ok (.istore_n 1, 1) := by decide +kernel
theorem dX7_mean_6 : decode cX7_mean 6 = .ok (.iconst 0, 1) := by decide +kernel
theorem dX7_mean_7 : decode cX7_mean 7 = .ok (.istore_n 2, 1) := by decide +kernel
theorem dX7_mean_8 : decode cX7_mean 8 = .ok (.iconst 0, 1) := by decide +kernel
theorem dX7_mean_9 : decode cX7_mean 9 = .ok (.istore_n 3, 1) := by decide +kernel
theorem dX7_mean_10 : decode cX7_mean 10 = .ok (.iload_n 3, 1) := by decide +kernel
theorem dX7_mean_11 : decode cX7_mean 11 = .ok (.aload_n 0, 1) := by decide +kernel
theorem dX7_mean_12 : decode cX7_mean 12 = .ok (.getfield 128, 3) := by decide +kernel
theorem dX7_mean_15 : decode cX7_mean 15 = .ok (.if_icmp .ge 64, 3) := by decide +kernel
theorem dX7_mean_18 : decode cX7_mean 18 = .ok (.aload_n 0, 1) := by decide +kernel
theorem dX7_mean_19 : decode cX7_mean 19 = .ok (.iload_n 3, 1) := by decide +kernel
theorem dX7_mean_20 : decode cX7_mean 20 = .ok (.iconst 0, 1) := by decide +kernel
theorem dX7_mean_21 : decode cX7_mean 21 = .ok (.invokevirtual 138, 3) := by decide +kernel
theorem dX7_mean_24 : decode cX7_mean 24 = .ok (.sipush 10000, 3) := by decide +kernel
theorem dX7_mean_27 : decode cX7_mean 27 = .ok (.idiv, 1) := by decide +kernel
theorem dX7_mean_28 : decode cX7_mean 28 = .ok (.ifCond .ne 7, 3) := by decide +kernel
theorem dX7_mean_31 : decode cX7_mean 31 = .ok (.iconst 1, 1) := by decide +kernel
theorem dX7_mean_32 : decode cX7_mean 32 = .ok (.goto 4, 3) := by decide +kernel
theorem dX7_mean_35 : decode cX7_mean 35 = .ok (.iconst 0, 1) := by decide +kernel
theorem dX7_mean_36 : decode cX7_mean 36 = .ok (.istore 4, 2) := by decide +kernel
theorem dX7_mean_38 : decode cX7_mean 38 = .ok (.iload_n 1, 1) := by decide +kernel
theorem dX7_mean_39 : decode cX7_mean 39 = .ok (.iload 4, 2) := by decide +kernel
theorem dX7_mean_41 : decode cX7_mean 41 = .ok (.ifCond .eq 16, 3) := by decide +kernel
theorem dX7_mean_44 : decode cX7_mean 44 = .ok (.aload_n 0, 1) := by decide +kernel
theorem dX7_mean_45 : decode cX7_mean 45 = .ok (.iload_n 3, 1) := by decide +kernel
theorem dX7_mean_46 : decode cX7_mean 46 = .ok (.iconst 2, 1) := by decide +kernel
theorem dX7_mean_47 : decode cX7_mean 47 = .ok (.invokevirtual 138, 3) := by decide +kernel
theorem dX7_mean_50 : decode cX7_mean 50 = .ok (.sipush 1000, 3) := by decide +kernel
theorem dX7_mean_53 : decode cX7_mean 53 = .ok (.irem, 1) := by decide +kernel
theorem dX7_mean_54 : decode cX7_mean 54 = .ok (.goto 4, 3) := by decide +kernel
theorem dX7_mean_57 : decode cX7_mean 57 = .ok (.iconst 0, 1) := by decide +kernel
theorem dX7_mean_58 : decode cX7_mean 58 = .ok (.iadd, 1) := by decide +kernel
theorem dX7_mean_59 : decode cX7_mean 59 = .ok (.istore_n 1, 1) := by decide +kernel
theorem dX7_mean_60 : decode cX7_mean 60 = .ok (.iload_n 2, 1) := by decide +kernel
theorem dX7_mean_61 : decode cX7_mean 61 = .ok (.iload 4, 2) := by decide +kernel
theorem dX7_mean_63 : decode cX7_mean 63 = .ok (.ifCond .eq 7, 3) := by decide +kernel
theorem dX7_mean_66 : decode cX7_mean 66 = .ok (.iconst 1, 1) := by decide +kernel
theorem dX7_mean_67 : decode cX7_mean 67 = .ok (.goto 4, 3) := by decide +kernel
theorem dX7_mean_70 : decode cX7_mean 70 = .ok (.iconst 0, 1) := by decide +kernel
theorem dX7_mean_71 : decode cX7_mean 71 = .ok (.iadd, 1) := by decide +kernel
theorem dX7_mean_72 : decode cX7_mean 72 = .ok (.istore_n 2, 1) := by decide +kernel
theorem dX7_mean_73 : decode cX7_mean 73 = .ok (.iinc 3 1, 3) := by decide +kernel
theorem dX7_mean_76 : decode cX7_mean 76 = .ok (.goto (-66), 3) := by decide +kernel
theorem dX7_mean_79 : decode cX7_mean 79 = .ok (.iload_n 2, 1) := by decide +kernel
theorem dX7_mean_80 : decode cX7_mean 80 = .ok (.ifCond .ne 7, 3) := by decide +kernel
theorem dX7_mean_83 : decode cX7_mean 83 = .ok (.fconst 0, 1) := by decide +kernel
theorem dX7_mean_84 : decode cX7_mean 84 = .ok (.goto 8, 3) := by decide +kernel
theorem dX7_mean_87 : decode cX7_mean 87 = .ok (.iload_n 1, 1) := by decide +kernel
theorem dX7_mean_88 : decode cX7_mean 88 = .ok (.i2f, 1) := by decide +kernel
theorem dX7_mean_89 : decode cX7_mean 89 = .ok (.iload_n 2, 1) := by decide +kernel
theorem dX7_mean_90 : decode cX7_mean 90 = .ok (.i2f, 1) := by decide +kernel
theorem dX7_mean_91 : decode cX7_mean 91 = .ok (.fdiv, 1) := by decide +kernel
theorem dX7_mean_92 : decode cX7_mean 92 = .ok (.freturn, 1) := by decide +kernel
theorem dX7_times_0 : decode cX7_times 0 = .ok (.iload_n 1, 1) := by decide +kernel
theorem dX7_times_1 : decode cX7_times 1 = .ok (.iconst 0, 1) := by decide +kernel
theorem dX7_times_2 : decode cX7_times 2 = .ok (.iconst 2, 1) := by decide +kernel
theorem dX7_times_3 : decode cX7_times 3 = .ok (.invokestatic 32, 3) := by decide +kernel
theorem dX7_times_6 : decode cX7_times 6 = .ok (.ifCond .ne 5, 3) := by decide +kernel
theorem dX7_times_9 : decode cX7_times 9 = .ok (.iconst (-1), 1) := by decide +kernel
theorem dX7_times_10 : decode cX7_times 10 = .ok (.ireturn, 1) := by decide +kernel
theorem dX7_times_11 : decode cX7_times 11 = .ok (.aload_n 0, 1) := by decide +kernel
theorem dX7_times_12 : decode cX7_times 12 = .ok (.invokevirtual 135, 3) := by decide +kernel
theorem dX7_times_15 : decode cX7_times 15 = .ok (.iconst 0, 1) := by decide +kernel
theorem dX7_times_16 : decode cX7_times 16 = .ok (.istore_n 2, 1) := by decide +kernel
theorem dX7_times_17 : decode cX7_times 17 = .ok (.iconst 0, 1) := by decide +kernel
theorem dX7_times_18 : decode cX7_times 18 = .ok (.istore_n 3, 1) := by decide +kernel
theorem dX7_times_19 : decode cX7_times 19 = .ok (.iconst 0, 1) := by decide +kernel
theorem dX7_times_20 : decode cX7_times 20 = .ok (.istore 4, 2) := by decide +kernel
theorem dX7_times_22 : decode cX7_times 22 = .ok (.iconst 1, 1) := by decide +kernel
theorem dX7_times_23 : decode cX7_times 23 = .ok (.istore 5, 2) := by decide +kernel
theorem dX7_times_25 : decode cX7_times 25 = .ok (.iload 5, 2) := by decide +kernel
theorem dX7_times_27 : decode cX7_times 27 = .ok (.aload_n 0, 1) := by decide +kernel
theorem dX7_times_28 : decode cX7_times 28 = .ok (.getfield 128, 3) := by decide +kernel
theorem dX7_times_31 : decode cX7_times 31 = .ok (.if_icmp .ge 103, 3) := by decide +kernel
theorem dX7_times_34 : decode cX7_times 34 = .ok (.aload_n 0, 1) := by decide +kernel
theorem dX7_times_35 : decode cX7_times 35 = .ok (.iload 5, 2) := by decide +kernel
theorem dX7_times_37 : decode cX7_times 37 = .ok (.iconst 1, 1) := by decide +kernel
theorem dX7_times_38 : decode cX7_times 38 = .ok (.invokevirtual 138, 3) := by decide +kernel
theorem dX7_times_41 : decode cX7_times 41 = .ok (.aload_n 0, 1) := by decide +kernel
theorem dX7_times_42 : decode cX7_times 42 = .ok (.iload 5, 2) := by decide +kernel
theorem dX7_times_44 : decode cX7_times 44 = .ok (.iconst 1, 1) := by decide +kernel
theorem dX7_times_45 : decode cX7_times 45 = .ok (.isub, 1) := by decide +kernel
theorem dX7_times_46 : decode cX7_times 46 = .ok (.iconst 1, 1) := by decide +kernel
theorem dX7_times_47 : decode cX7_times 47 = .ok (.invokevirtual 138, 3) := by decide +kernel
theorem dX7_times_50 : decode cX7_times 50 = .ok (.isub, 1) := by decide +kernel
theorem dX7_times_51 : decode cX7_times 51 = .ok (.istore 6, 2) := by decide +kernel
theorem dX7_times_53 : decode cX7_times 53 = .ok (.iload_n 2, 1) := by decide +kernel
theorem dX7_times_54 : decode cX7_times 54 = .ok (.iload 6, 2) := by decide +kernel
theorem dX7_times_56 : decode cX7_times 56 = .ok (.ifCond .ge 7, 3) := by decide +kernel
theorem dX7_times_59 : decode cX7_times 59 = .ok (.iconst 1, 1) := by decide +kernel
theorem dX7_times_60 : decode cX7_times 60 = .ok (.goto 4, 3) := by decide +kernel
theorem dX7_times_63 : decode cX7_times 63 = .ok (.iconst 0, 1) := by decide +kernel
theorem dX7_times_64 : decode cX7_times 64 = .ok (.iadd, 1) := by decide +kernel
theorem dX7_times_65 : decode cX7_times 65 = .ok (.istore_n 2, 1) := by decide +kernel
theorem dX7_times_66 : decode cX7_times 66 = .ok (.iload 5, 2) := by decide +kernel
theorem dX7_times_68 : decode cX7_times 68 = .ok (.iconst 1, 1) := by decide +kernel
theorem dX7_times_69 : decode cX7_times 69 = .ok (.if_icmp .eq 9, 3) := by decide +kernel
theorem dX7_times_72 : decode cX7_times 72 = .ok (.iload 6, 2) := by decide +kernel
theorem dX7_times_74 : decode cX7_times 74 = .ok (.iload_n 3, 1) := by decide +kernel
theorem dX7_times_75 : decode cX7_times 75 = .ok (.if_icmp .le 8, 3) := by decide +kernel
theorem dX7_times_78 : decode cX7_times 78 = .ok (.iload 6, 2) := by decide +kernel
theorem dX7_times_80 : decode cX7_times 80 = .ok (.goto 4, 3) := by decide +kernel
theorem dX7_times_83 : decode cX7_times 83 = .ok (.iload_n 3, 1) := by decide +kernel
theorem dX7_times_84 : decode cX7_times 84 = .ok (.istore_n 3, 1) := by decide +kernel
theorem dX7_times_85 : decode cX7_times 85 = .ok (.iload 4, 2) := by decide +kernel
theorem dX7_times_87 : decode cX7_times 87 = .ok (.aload_n 0, 1) := by decide +kernel
theorem dX7_times_88 : decode cX7_times 88 = .ok (.iload 5, 2) := by decide +kernel
theorem dX7_times_90 : decode cX7_times 90 = .ok (.iconst 0, 1) := by decide +kernel
theorem dX7_times_91 : decode cX7_times 91 = .ok (.invokevirtual 138, 3) := by decide +kernel
theorem dX7_times_94 : decode cX7_times 94 = .ok (.sipush 10000, 3) := by decide +kernel
theorem dX7_times_97 : decode cX7_times 97 = .ok (.irem, 1) := by decide +kernel
theorem dX7_times_98 : decode cX7_times 98 = .ok (.aload_n 0, 1) := by decide +kernel
theorem dX7_times_99 : decode cX7_times 99 = .ok (.iload 5, 2) := by decide +kernel
theorem dX7_times_101 : decode cX7_times 101 = .ok (.iconst 1, 1) := by decide +kernel
theorem dX7_times_102 : decode cX7_times 102 = .ok (.isub, 1) := by decide +kernel
theorem dX7_times_103 : decode cX7_times 103 = .ok (.iconst 0, 1) := by decide +kernel
theorem dX7_times_104 : decode cX7_times 104 = .ok (.invokevirtual 138, 3) := by decide +kernel
theorem dX7_times_107 : decode cX7_times 107 = .ok (.sipush 10000, 3) := by decide +kernel
theorem dX7_times_110 : decode cX7_times 110 = .ok (.irem, 1) := by decide +kernel
theorem dX7_times_111 : decode cX7_times 111 = .ok (.iconst 1, 1) := by decide +kernel
theorem dX7_times_112 : decode cX7_times 112 = .ok (.iadd, 1) := by decide +kernel
theorem dX7_times_113 : decode cX7_times 113 = .ok (.sipush 10000, 3) := by decide +kernel
theorem dX7_times_116 : decode cX7_times 116 = .ok (.irem, 1) := by decide +kernel
theorem dX7_times_117 : decode cX7_times 117 = .ok (.if_icmp .eq 7, 3) := by decide +kernel
theorem dX7_times_120 : decode cX7_times 120 = .ok (.iconst 1, 1) := by decide +kernel
theorem dX7_times_121 : decode cX7_times 121 = .ok (.goto 4, 3) := by decide +kernel
theorem dX7_times_124 : decode cX7_times 124 = .ok (.iconst 0, 1) := by decide +kernel
theorem dX7_times_125 : decode cX7_times 125 = .ok (.iadd, 1) := by decide +kernel
theorem dX7_times_126 : decode cX7_times 126 = .ok (.istore 4, 2) := by decide +kernel
theorem dX7_times_128 : decode cX7_times 128 = .ok (.iinc 5 1, 3) := by decide +kernel
theorem dX7_times_131 : decode cX7_times 131 = .ok (.goto (-106), 3) := by decide +kernel
theorem dX7_times_134 : decode cX7_times 134 = .ok (.iload_n 1, 1) := by decide +kernel
theorem dX7_times_135 : decode cX7_times 135 = .ok (.ifCond .ne 7, 3) := by decide +kernel
theorem dX7_times_138 : decode cX7_times 138 = .ok (.iload_n 2, 1) := by decide +kernel
theorem dX7_times_139 : decode cX7_times 139 = .ok (.goto 14, 3) := by decide +kernel
theorem dX7_times_142 : decode cX7_times 142 = .ok (.iload_n 1, 1) := by decide +kernel
theorem dX7_times_143 : decode cX7_times 143 = .ok (.iconst 1, 1) := by decide +kernel
theorem dX7_times_144 : decode cX7_times 144 = .ok (.if_icmp .ne 7, 3) := by decide +kernel
theorem dX7_times_147 : decode cX7_times 147 = .ok (.iload_n 3, 1) := by decide +kernel
theorem dX7_times_148 : decode cX7_times 148 = .ok (.goto 5, 3) := by decide +kernel
theorem dX7_times_151 : decode cX7_times 151 = .ok (.iload 4, 2) := by decide +kernel
theorem dX7_times_153 : decode cX7_times 153 = .ok (.ireturn, 1) := by decide +kernel
theorem dX7_putAside_0 : decode cX7_putAside 0 = .ok (.iconst 0, 1) := by decide +kernel
theorem dX7_putAside_1 : decode cX7_putAside 1 = .ok (.istore_n 1, 1) := by decide +kernel
theorem dX7_putAside_2 : decode cX7_putAside 2 = .ok (.iload_n 1, 1) := by decide +kernel
theorem dX7_putAside_3 : decode cX7_putAside 3 = .ok (.sipush 131, 3) := by decide +kernel
theorem dX7_putAside_6 : decode cX7_putAside 6 = .ok (.if_icmp .ge 21, 3) := by decide +kernel
theorem dX7_putAside_9 : decode cX7_putAside 9 = .ok (.aload_n 0, 1) := by decide +kernel
theorem dX7_putAside_10 : decode cX7_putAside 10 = .ok (.getfield 22, 3) := by decide +kernel
theorem dX7_putAside_13 : decode cX7_putAside 13 = .ok (.iload_n 1, 1) := by decide +kernel
theorem dX7_putAside_14 : decode cX7_putAside 14 = .ok (.aload_n 0, 1) := by decide +kernel
theorem dX7_putAside_15 : decode cX7_putAside 15 = .ok (.getfield 7, 3) := by decide +kernel
theorem dX7_putAside_18 : decode cX7_putAside 18 = .ok (.iload_n 1, 1) := by decide +kernel
theorem dX7_putAside_19 : decode cX7_putAside 19 = .ok (.iaload, 1) := by decide +kernel
theorem dX7_putAside_20 : decode cX7_putAside 20 = .ok (.iastore, 1) := by decide +kernel
theorem dX7_putAside_21 : decode cX7_putAside 21 = .ok (.iinc 1 1, 3) := by decide +kernel
theorem dX7_putAside_24 : decode cX7_putAside 24 = .ok (.goto (-22), 3) := by decide +kernel
theorem dX7_putAside_27 : decode cX7_putAside 27 = .ok (.return_, 1) := by decide +kernel
theorem dX7_putBack_0 : decode cX7_putBack 0 = .ok (.iconst 0, 1) := by decide +kernel
theorem dX7_putBack_1 : decode cX7_putBack 1 = .ok (.istore_n 1, 1) := by decide +kernel
theorem dX7_putBack_2 : decode cX7_putBack 2 = .ok (.iload_n 1, 1) := by decide +kernel
theorem dX7_putBack_3 : decode cX7_putBack 3 = .ok (.sipush 131, 3) := by decide +kernel
theorem dX7_putBack_6 : decode cX7_putBack 6 = .ok (.if_icmp .ge 21, 3) := by decide +kernel
theorem dX7_putBack_9 : decode cX7_putBack 9 = .ok (.aload_n 0, 1) := by decide +kernel
theorem dX7_putBack_10 : decode cX7_putBack 10 = .ok (.getfield 7, 3) := by decide +kernel
theorem dX7_putBack_13 : decode cX7_putBack 13 = .ok (.iload_n 1, 1) := by decide +kernel
theorem dX7_putBack_14 : decode cX7_putBack 14 = .ok (.aload_n 0, 1) := by decide +kernel
theorem dX7_putBack_15 : decode cX7_putBack 15 = .ok (.getfield 22, 3) := by decide +kernel
theorem dX7_putBack_18 : decode cX7_putBack 18 = .ok (.iload_n 1, 1) := by decide +kernel
theorem dX7_putBack_19 : decode cX7_putBack 19 = .ok (.iaload, 1) := by decide +kernel
theorem dX7_putBack_20 : decode cX7_putBack 20 = .ok (.iastore, 1) := by decide +kernel
theorem dX7_putBack_21 : decode cX7_putBack 21 = .ok (.iinc 1 1, 3) := by decide +kernel
theorem dX7_putBack_24 : decode cX7_putBack 24 = .ok (.goto (-22), 3) := by decide +kernel
theorem dX7_putBack_27 : decode cX7_putBack 27 = .ok (.return_, 1) := by decide +kernel
theorem dX7_operations_0 : decode cX7_operations 0 = .ok (.aload_n 0, 1) := by decide +kernel
theorem dX7_operations_1 : decode cX7_operations 1 = .ok (.iload_n 1, 1) := by decide +kernel
theorem dX7_operations_2 : decode cX7_operations 2 = .ok (.invokevirtual 103, 3) := by decide +kernel
theorem dX7_operations_5 : decode cX7_operations 5 = .ok (.istore_n 2, 1) := by decide +kernel
theorem dX7_operations_6 : decode cX7_operations 6 = .ok (.iload_n 2, 1) := by decide +kernel
theorem dX7_operations_7 : decode cX7_operations 7 = .ok (.ifCond .eq 5, 3) := by decide +kernel
theorem dX7_operations_10 : decode cX7_operations 10 = .ok (.iload_n 2, 1) := by decide +kernel
theorem dX7_operations_11 : decode cX7_operations 11 = .ok (.ireturn, 1) := by decide +kernel
theorem dX7_operations_12 : decode cX7_operations 12 = .ok (.aload_n 0, 1) := by decide +kernel
theorem dX7_operations_13 : decode cX7_operations 13 = .ok (.invokevirtual 141, 3) := by decide +kernel
theorem dX7_operations_16 : decode cX7_operations 16 = .ok (.aload_n 0, 1) := by decide +kernel
theorem dX7_operations_17 : decode cX7_operations 17 = .ok (.getfield 7, 3) := by decide +kernel
theorem dX7_operations_20 : decode cX7_operations 20 = .ok (.bipush 126, 2) := by decide +kernel
theorem dX7_operations_22 : decode cX7_operations 22 = .ok (.bipush (-9), 2) := by decide +kernel
theorem dX7_operations_24 : decode cX7_operations 24 = .ok (.iastore, 1) := by decide +kernel
theorem dX7_operations_25 : decode cX7_operations 25 = .ok (.aload_n 0, 1) := by decide +kernel
theorem dX7_operations_26 : decode cX7_operations 26 = .ok (.getfield 7, 3) := by decide +kernel
theorem dX7_operations_29 : decode cX7_operations 29 = .ok (.bipush 125, 2) := by decide +kernel
theorem dX7_operations_31 : decode cX7_operations 31 = .ok (.iaload, 1) := by decide +kernel
theorem dX7_operations_32 : decode cX7_operations 32 = .ok (.istore_n 3, 1) := by decide +kernel
theorem dX7_operations_33 : decode cX7_operations 33 = .ok (.aload_n 0, 1) := by decide +kernel
theorem dX7_operations_34 : decode cX7_operations 34 = .ok (.iload_n 1, 1) := by decide +kernel
theorem dX7_operations_35 : decode cX7_operations 35 = .ok (.invokevirtual 109, 3) := by decide +kernel
theorem dX7_operations_38 : decode cX7_operations 38 = .ok (.istore 4, 2) := by decide +kernel
theorem dX7_operations_40 : decode cX7_operations 40 = .ok (.aload_n 0, 1) := by decide +kernel
theorem dX7_operations_41 : decode cX7_operations 41 = .ok (.getfield 7, 3) := by decide +kernel
theorem dX7_operations_44 : decode cX7_operations 44 = .ok (.bipush 125, 2) := by decide +kernel
theorem dX7_operations_46 : decode cX7_operations 46 = .ok (.iaload, 1) := by decide +kernel
theorem dX7_operations_47 : decode cX7_operations 47 = .ok (.iload_n 3, 1) := by decide +kernel
theorem dX7_operations_48 : decode cX7_operations 48 = .ok (.isub, 1) := by decide +kernel
theorem dX7_operations_49 : decode cX7_operations 49 = .ok (.istore 5, 2) := by decide +kernel
theorem dX7_operations_51 : decode cX7_operations 51 = .ok (.aload_n 0, 1) := by decide +kernel
theorem dX7_operations_52 : decode cX7_operations 52 = .ok (.invokevirtual 144, 3) := by decide +kernel
theorem dX7_operations_55 : decode cX7_operations 55 = .ok (.iload 5, 2) := by decide +kernel
theorem dX7_operations_57 : decode cX7_operations 57 = .ok (.ireturn, 1) := by decide +kernel
theorem dX7_after_0 : decode cX7_after 0 = .ok (.iload_n 1, 1) := by decide +kernel
theorem dX7_after_1 : decode cX7_after 1 = .ok (.invokestatic 96, 3) := by decide +kernel
theorem dX7_after_4 : decode cX7_after 4 = .ok (.ifCond .eq 22, 3) := by decide +kernel
theorem dX7_after_7 : decode cX7_after 7 = .ok (.iload_n 2, 1) := by decide +kernel
theorem dX7_after_8 : decode cX7_after 8 = .ok (.iconst 0, 1) := by decide +kernel
theorem dX7_after_9 : decode cX7_after 9 = .ok (.bipush 30, 2) := by decide +kernel
theorem dX7_after_11 : decode cX7_after 11 = .ok (.invokestatic 32, 3) := by decide +kernel
theorem dX7_after_14 : decode cX7_after 14 = .ok (.ifCond .eq 12, 3) := by decide +kernel
theorem dX7_after_17 : decode cX7_after 17 = .ok (.iload_n 3, 1) := by decide +kernel
theorem dX7_after_18 : decode cX7_after 18 = .ok (.iconst 0, 1) := by decide +kernel
theorem dX7_after_19 : decode cX7_after 19 = .ok (.iconst 4, 1) := by decide +kernel
theorem dX7_after_20 : decode cX7_after 20 = .ok (.invokestatic 32, 3) := by decide +kernel
theorem dX7_after_23 : decode cX7_after 23 = .ok (.ifCond .ne 5, 3) := by decide +kernel
theorem dX7_after_26 : decode cX7_after 26 = .ok (.iconst (-1), 1) := by decide +kernel
theorem dX7_after_27 : decode cX7_after 27 = .ok (.ireturn, 1) := by decide +kernel
theorem dX7_after_28 : decode cX7_after 28 = .ok (.aload_n 0, 1) := by decide +kernel
theorem dX7_after_29 : decode cX7_after 29 = .ok (.iload_n 1, 1) := by decide +kernel
theorem dX7_after_30 : decode cX7_after 30 = .ok (.invokevirtual 103, 3) := by decide +kernel
theorem dX7_after_33 : decode cX7_after 33 = .ok (.istore 4, 2) := by decide +kernel
theorem dX7_after_35 : decode cX7_after 35 = .ok (.iload 4, 2) := by decide +kernel
theorem dX7_after_37 : decode cX7_after 37 = .ok (.ifCond .eq 6, 3) := by decide +kernel
theorem dX7_after_40 : decode cX7_after 40 = .ok (.iload 4, 2) := by decide +kernel
theorem dX7_after_42 : decode cX7_after 42 = .ok (.ireturn, 1) := by decide +kernel
theorem dX7_after_43 : decode cX7_after 43 = .ok (.aload_n 0, 1) := by decide +kernel
theorem dX7_after_44 : decode cX7_after 44 = .ok (.invokevirtual 141, 3) := by decide +kernel
theorem dX7_after_47 : decode cX7_after 47 = .ok (.aload_n 0, 1) := by decide +kernel
theorem dX7_after_48 : decode cX7_after 48 = .ok (.getfield 7, 3) := by decide +kernel
theorem dX7_after_51 : decode cX7_after 51 = .ok (.bipush 126, 2) := by decide +kernel
theorem dX7_after_53 : decode cX7_after 53 = .ok (.iload_n 2, 1) := by decide +kernel
theorem dX7_after_54 : decode cX7_after 54 = .ok (.iastore, 1) := by decide +kernel
theorem dX7_after_55 : decode cX7_after 55 = .ok (.aload_n 0, 1) := by decide +kernel
theorem dX7_after_56 : decode cX7_after 56 = .ok (.iload_n 1, 1) := by decide +kernel
theorem dX7_after_57 : decode cX7_after 57 = .ok (.invokevirtual 109, 3) := by decide +kernel
theorem dX7_after_60 : decode cX7_after 60 = .ok (.istore 5, 2) := by decide +kernel
theorem dX7_after_62 : decode cX7_after 62 = .ok (.aload_n 0, 1) := by decide +kernel
theorem dX7_after_63 : decode cX7_after 63 = .ok (.getfield 7, 3) := by decide +kernel
theorem dX7_after_66 : decode cX7_after 66 = .ok (.bipush 115, 2) := by decide +kernel
theorem dX7_after_68 : decode cX7_after 68 = .ok (.iaload, 1) := by decide +kernel
theorem dX7_after_69 : decode cX7_after 69 = .ok (.ifCond .ne 7, 3) := by decide +kernel
theorem dX7_after_72 : decode cX7_after 72 = .ok (.aload_n 0, 1) := by decide +kernel
theorem dX7_after_73 : decode cX7_after 73 = .ok (.invokevirtual 116, 3) := by decide +kernel
theorem dX7_after_76 : decode cX7_after 76 = .ok (.iload_n 3, 1) := by decide +kernel
theorem dX7_after_77 : decode cX7_after 77 = .ok (.ifCond .ne 11, 3) := by decide +kernel
theorem dX7_after_80 : decode cX7_after 80 = .ok (.aload_n 0, 1) := by decide +kernel
theorem dX7_after_81 : decode cX7_after 81 = .ok (.iconst (-1), 1) := by decide +kernel
theorem dX7_after_82 : decode cX7_after 82 = .ok (.invokevirtual 113, 3) := by decide +kernel
theorem dX7_after_85 : decode cX7_after 85 = .ok (.goto 54, 3) := by decide +kernel
theorem dX7_after_88 : decode cX7_after 88 = .ok (.iload_n 3, 1) := by decide +kernel
theorem dX7_after_89 : decode cX7_after 89 = .ok (.iconst 1, 1) := by decide +kernel
theorem dX7_after_90 : decode cX7_after 90 = .ok (.if_icmp .ne 12, 3) := by decide +kernel
theorem dX7_after_93 : decode cX7_after 93 = .ok (.aload_n 0, 1) := by decide +kernel
theorem dX7_after_94 : decode cX7_after 94 = .ok (.bipush (-2), 2) := by decide +kernel
theorem dX7_after_96 : decode cX7_after 96 = .ok (.invokevirtual 113, 3) := by decide +kernel
theorem dX7_after_99 : decode cX7_after 99 = .ok (.goto 40, 3) := by decide +kernel
theorem dX7_after_102 : decode cX7_after 102 = .ok (.iload_n 3, 1) := by decide +kernel
theorem dX7_after_103 : decode cX7_after 103 = .ok (.iconst 2, 1) := by decide +kernel
theorem dX7_after_104 : decode cX7_after 104 = .ok (.if_icmp .ne 13, 3) := by decide +kernel
theorem dX7_after_107 : decode cX7_after 107 = .ok (.aload_n 0, 1) := by decide +kernel
theorem dX7_after_108 : decode cX7_after 108 = .ok (.getfield 7, 3) := by decide +kernel
theorem dX7_after_111 : decode cX7_after 111 = .ok (.bipush 118, 2) := by decide +kernel
theorem dX7_after_113 : decode cX7_after 113 = .ok (.iaload, 1) := by decide +kernel
theorem dX7_after_114 : decode cX7_after 114 = .ok (.goto 25, 3) := by decide +kernel
theorem dX7_after_117 : decode cX7_after 117 = .ok (.iload_n 3, 1) := by decide +kernel
theorem dX7_after_118 : decode cX7_after 118 = .ok (.iconst 3, 1) := by decide +kernel
theorem dX7_after_119 : decode cX7_after 119 = .ok (.if_icmp .ne 13, 3) := by decide +kernel
theorem dX7_after_122 : decode cX7_after 122 = .ok (.aload_n 0, 1) := by decide +kernel
theorem dX7_after_123 : decode cX7_after 123 = .ok (.getfield 7, 3) := by decide +kernel
theorem dX7_after_126 : decode cX7_after 126 = .ok (.bipush 119, 2) := by decide +kernel
theorem dX7_after_128 : decode cX7_after 128 = .ok (.iaload, 1) := by decide +kernel
theorem dX7_after_129 : decode cX7_after 129 = .ok (.goto 10, 3) := by decide +kernel
theorem dX7_after_132 : decode cX7_after 132 = .ok (.aload_n 0, 1) := by decide +kernel
theorem dX7_after_133 : decode cX7_after 133 = .ok (.getfield 7, 3) := by decide +kernel
theorem dX7_after_136 : decode cX7_after 136 = .ok (.bipush 116, 2) := by decide +kernel
theorem dX7_after_138 : decode cX7_after 138 = .ok (.iaload, 1) := by decide +kernel
theorem dX7_after_139 : decode cX7_after 139 = .ok (.istore 6, 2) := by decide +kernel
theorem dX7_after_141 : decode cX7_after 141 = .ok (.aload_n 0, 1) := by decide +kernel
theorem dX7_after_142 : decode cX7_after 142 = .ok (.invokevirtual 144, 3) := by decide +kernel
theorem dX7_after_145 : decode cX7_after 145 = .ok (.iload 6, 2) := by decide +kernel
theorem dX7_after_147 : decode cX7_after 147 = .ok (.ireturn, 1) := by decide +kernel
theorem dX7_needed_0 : decode cX7_needed 0 = .ok (.aload_n 0, 1) := by decide +kernel
theorem dX7_needed_1 : decode cX7_needed 1 = .ok (.iload_n 1, 1) := by decide +kernel
theorem dX7_needed_2 : decode cX7_needed 2 = .ok (.invokevirtual 103, 3) := by decide +kernel
theorem dX7_needed_5 : decode cX7_needed 5 = .ok (.istore_n 2, 1) := by decide +kernel
theorem dX7_needed_6 : decode cX7_needed 6 = .ok (.iload_n 2, 1) := by decide +kernel
theorem dX7_needed_7 : decode cX7_needed 7 = .ok (.ifCond .eq 5, 3) := by decide +kernel
theorem dX7_needed_10 : decode cX7_needed 10 = .ok (.iload_n 2, 1) := by decide +kernel
theorem dX7_needed_11 : decode cX7_needed 11 = .ok (.ireturn, 1) := by decide +kernel
theorem dX7_needed_12 : decode cX7_needed 12 = .ok (.aload_n 0, 1) := by decide +kernel
theorem dX7_needed_13 : decode cX7_needed 13 = .ok (.getfield 7, 3) := by decide +kernel
theorem dX7_needed_16 : decode cX7_needed 16 = .ok (.bipush 117, 2) := by decide +kernel
theorem dX7_needed_18 : decode cX7_needed 18 = .ok (.iaload, 1) := by decide +kernel
theorem dX7_needed_19 : decode cX7_needed 19 = .ok (.iconst 4, 1) := by decide +kernel
theorem dX7_needed_20 : decode cX7_needed 20 = .ok (.if_icmp .ne 8, 3) := by decide +kernel
theorem dX7_needed_23 : decode cX7_needed 23 = .ok (.bipush 11, 2) := by decide +kernel
theorem dX7_needed_25 : decode cX7_needed 25 = .ok (.goto 4, 3) := by decide +kernel
theorem dX7_needed_28 : decode cX7_needed 28 = .ok (.iconst 4, 1) := by decide +kernel
theorem dX7_needed_29 : decode cX7_needed 29 = .ok (.ireturn, 1) := by decide +kernel
theorem dX7_isImage_0 : decode cX7_isImage 0 = .ok (.iload_n 0, 1) := by decide +kernel
theorem dX7_isImage_1 : decode cX7_isImage 1 = .ok (.iconst 0, 1) := by decide +kernel
theorem dX7_isImage_2 : decode cX7_isImage 2 = .ok (.iconst 1, 1) := by decide +kernel
theorem dX7_isImage_3 : decode cX7_isImage 3 = .ok (.invokestatic 32, 3) := by decide +kernel
theorem dX7_isImage_6 : decode cX7_isImage 6 = .ok (.ireturn, 1) := by decide +kernel
theorem dX7_keep__0 : decode cX7_keep_ 0 = .ok (.iload_n 1, 1) := by decide +kernel
theorem dX7_keep__1 : decode cX7_keep_ 1 = .ok (.invokestatic 147, 3) := by decide +kernel
theorem dX7_keep__4 : decode cX7_keep_ 4 = .ok (.ifCond .ne 5, 3) := by decide +kernel
theorem dX7_keep__7 : decode cX7_keep_ 7 = .ok (.iconst (-1), 1) := by decide +kernel
theorem dX7_keep__8 : decode cX7_keep_ 8 = .ok (.ireturn, 1) := by decide +kernel
theorem dX7_keep__9 : decode cX7_keep_ 9 = .ok (.iconst 0, 1) := by decide +kernel
theorem dX7_keep__10 : decode cX7_keep_ 10 = .ok (.istore_n 2, 1) := by decide +kernel
theorem dX7_keep__11 : decode cX7_keep_ 11 = .ok (.iload_n 2, 1) := by decide +kernel
theorem dX7_keep__12 : decode cX7_keep_ 12 = .ok (.sipush 131, 3) := by decide +kernel
theorem dX7_keep__15 : decode cX7_keep_ 15 = .ok (.if_icmp .ge 27, 3) := by decide +kernel
theorem dX7_keep__18 : decode cX7_keep_ 18 = .ok (.aload_n 0, 1) := by decide +kernel
theorem dX7_keep__19 : decode cX7_keep_ 19 = .ok (.getfield 16, 3) := by decide +kernel
theorem dX7_keep__22 : decode cX7_keep_ 22 = .ok (.sipush 131, 3) := by decide +kernel
theorem dX7_keep__25 : decode cX7_keep_ 25 = .ok (.iload_n 1, 1) := by decide +kernel
theorem dX7_keep__26 : decode cX7_keep_ 26 = .ok (.imul, 1) := by decide +kernel
theorem dX7_keep__27 : decode cX7_keep_ 27 = .ok (.iload_n 2, 1) := by decide +kernel
theorem dX7_keep__28 : decode cX7_keep_ 28 = .ok (.iadd, 1) := by decide +kernel
theorem dX7_keep__29 : decode cX7_keep_ 29 = .ok (.aload_n 0, 1) := by decide +kernel
theorem dX7_keep__30 : decode cX7_keep_ 30 = .ok (.getfield 7, 3) := by decide +kernel
theorem dX7_keep__33 : decode cX7_keep_ 33 = .ok (.iload_n 2, 1) := by decide +kernel
theorem dX7_keep__34 : decode cX7_keep_ 34 = .ok (.iaload, 1) := by decide +kernel
theorem dX7_keep__35 : decode cX7_keep_ 35 = .ok (.iastore, 1) := by decide +kernel
theorem dX7_keep__36 : decode cX7_keep_ 36 = .ok (.iinc 2 1, 3) := by decide +kernel
theorem dX7_keep__39 : decode cX7_keep_ 39 = .ok (.goto (-28), 3) := by decide +kernel
theorem dX7_keep__42 : decode cX7_keep_ 42 = .ok (.aload_n 0, 1) := by decide +kernel
theorem dX7_keep__43 : decode cX7_keep_ 43 = .ok (.getfield 19, 3) := by decide +kernel
theorem dX7_keep__46 : decode cX7_keep_ 46 = .ok (.iload_n 1, 1) := by decide +kernel
theorem dX7_keep__47 : decode cX7_keep_ 47 = .ok (.iconst 1, 1) := by decide +kernel
theorem dX7_keep__48 : decode cX7_keep_ 48 = .ok (.iastore, 1) := by decide +kernel
theorem dX7_keep__49 : decode cX7_keep_ 49 = .ok (.aload_n 0, 1) := by decide +kernel
theorem dX7_keep__50 : decode cX7_keep_ 50 = .ok (.iconst (-1), 1) := by decide +kernel
theorem dX7_keep__51 : decode cX7_keep_ 51 = .ok (.invokevirtual 113, 3) := by decide +kernel
theorem dX7_keep__54 : decode cX7_keep_ 54 = .ok (.ireturn, 1) := by decide +kernel
theorem dX7_back_0 : decode cX7_back 0 = .ok (.iload_n 1, 1) := by decide +kernel
theorem dX7_back_1 : decode cX7_back 1 = .ok (.invokestatic 147, 3) := by decide +kernel
theorem dX7_back_4 : decode cX7_back 4 = .ok (.ifCond .ne 5, 3) := by decide +kernel
theorem dX7_back_7 : decode cX7_back 7 = .ok (.iconst (-1), 1) := by decide +kernel
theorem dX7_back_8 : decode cX7_back 8 = .ok (.ireturn, 1) := by decide +kernel
theorem dX7_back_9 : decode cX7_back 9 = .ok (.aload_n 0, 1) := by decide +kernel
theorem dX7_back_10 : decode cX7_back 10 = .ok (.getfield 19, 3) := by decide +kernel
theorem dX7_back_13 : decode cX7_back 13 = .ok (.iload_n 1, 1) := by decide +kernel
theorem dX7_back_14 : decode cX7_back 14 = .ok (.iaload, 1) := by decide +kernel
theorem dX7_back_15 : decode cX7_back 15 = .ok (.ifCond .ne 6, 3) := by decide +kernel
theorem dX7_back_18 : decode cX7_back 18 = .ok (.bipush (-2), 2) := by decide +kernel
theorem dX7_back_20 : decode cX7_back 20 = .ok (.ireturn, 1) := by decide +kernel
theorem dX7_back_21 : decode cX7_back 21 = .ok (.aload_n 0, 1) := by decide +kernel
theorem dX7_back_22 : decode cX7_back 22 = .ok (.invokevirtual 106, 3) := by decide +kernel
theorem dX7_back_25 : decode cX7_back 25 = .ok (.iconst 0, 1) := by decide +kernel
theorem dX7_back_26 : decode cX7_back 26 = .ok (.istore_n 2, 1) := by decide +kernel
theorem dX7_back_27 : decode cX7_back 27 = .ok (.iload_n 2, 1) := by decide +kernel
theorem dX7_back_28 : decode cX7_back 28 = .ok (.sipush 131, 3) := by decide +kernel
theorem dX7_back_31 : decode cX7_back 31 = .ok (.if_icmp .ge 27, 3) := by decide +kernel
theorem dX7_back_34 : decode cX7_back 34 = .ok (.aload_n 0, 1) := by decide +kernel
theorem dX7_back_35 : decode cX7_back 35 = .ok (.getfield 7, 3) := by decide +kernel
theorem dX7_back_38 : decode cX7_back 38 = .ok (.iload_n 2, 1) := by decide +kernel
theorem dX7_back_39 : decode cX7_back 39 = .ok (.aload_n 0, 1) := by decide +kernel
theorem dX7_back_40 : decode cX7_back 40 = .ok (.getfield 16, 3) := by decide +kernel
theorem dX7_back_43 : decode cX7_back 43 = .ok (.sipush 131, 3) := by decide +kernel
theorem dX7_back_46 : decode cX7_back 46 = .ok (.iload_n 1, 1) := by decide +kernel
theorem dX7_back_47 : decode cX7_back 47 = .ok (.imul, 1) := by decide +kernel
theorem dX7_back_48 : decode cX7_back 48 = .ok (.iload_n 2, 1) := by decide +kernel
theorem dX7_back_49 : decode cX7_back 49 = .ok (.iadd, 1) := by decide +kernel
theorem dX7_back_50 : decode cX7_back 50 = .ok (.iaload, 1) := by decide +kernel
theorem dX7_back_51 : decode cX7_back 51 = .ok (.iastore, 1) := by decide +kernel
theorem dX7_back_52 : decode cX7_back 52 = .ok (.iinc 2 1, 3) := by decide +kernel
theorem dX7_back_55 : decode cX7_back 55 = .ok (.goto (-28), 3) := by decide +kernel
theorem dX7_back_58 : decode cX7_back 58 = .ok (.aload_n 0, 1) := by decide +kernel
theorem dX7_back_59 : decode cX7_back 59 = .ok (.iconst (-1), 1) := by decide +kernel
theorem dX7_back_60 : decode cX7_back 60 = .ok (.invokevirtual 113, 3) := by decide +kernel
theorem dX7_back_63 : decode cX7_back 63 = .ok (.ireturn, 1) := by decide +kernel
theorem dL_law_0 : decode cL_law 0 = .ok (.new 7, 3) := by decide +kernel
theorem dL_law_3 : decode cL_law 3 = .ok (.dup, 1) := by decide +kernel
theorem dL_law_4 : decode cL_law 4 = .ok (.invokespecial 9, 3) := by decide +kernel
theorem dL_law_7 : decode cL_law 7 = .ok (.astore_n 1, 1) := by decide +kernel
theorem dL_law_8 : decode cL_law 8 = .ok (.new 10, 3) := by decide +kernel
theorem dL_law_11 : decode cL_law 11 = .ok (.dup, 1) := by decide +kernel
theorem dL_law_12 : decode cL_law 12 = .ok (.invokespecial 12, 3) := by decide +kernel
theorem dL_law_15 : decode cL_law 15 = .ok (.astore_n 2, 1) := by decide +kernel
theorem dL_law_16 : decode cL_law 16 = .ok (.iconst 0, 1) := by decide +kernel
theorem dL_law_17 : decode cL_law 17 = .ok (.istore_n 3, 1) := by decide +kernel
theorem dL_law_18 : decode cL_law 18 = .ok (.iload_n 3, 1) := by decide +kernel
theorem dL_law_19 : decode cL_law 19 = .ok (.aload_n 0, 1) := by decide +kernel
theorem dL_law_20 : decode cL_law 20 = .ok (.arraylength, 1) := by decide +kernel
theorem dL_law_21 : decode cL_law 21 = .ok (.iconst 4, 1) := by decide +kernel
theorem dL_law_22 : decode cL_law 22 = .ok (.isub, 1) := by decide +kernel
theorem dL_law_23 : decode cL_law 23 = .ok (.if_icmp .gt 746, 3) := by decide +kernel
theorem dL_law_26 : decode cL_law 26 = .ok (.aload_n 0, 1) := by decide +kernel
theorem dL_law_27 : decode cL_law 27 = .ok (.iload_n 3, 1) := by decide +kernel
theorem dL_law_28 : decode cL_law 28 = .ok (.iaload, 1) := by decide +kernel
theorem dL_law_29 : decode cL_law 29 = .ok (.bipush 31, 2) := by decide +kernel
theorem dL_law_31 : decode cL_law 31 = .ok (.iand, 1) := by decide +kernel
theorem dL_law_32 : decode cL_law 32 = .ok (.tableswitch 731 0 24 #[116, 139, 152, 165, 198, 221, 244, 277, 300, 313, 326, 339, 362, 385, 418, 451, 474, 507, 530, 573, 596, 619, 662, 685, 708], 116) := by decide +kernel
theorem dL_law_148 : decode cL_law 148 = .ok (.aload_n 1, 1) := by decide +kernel
theorem dL_law_149 : decode cL_law 149 = .ok (.aload_n 0, 1) := by decide +kernel
theorem dL_law_150 : decode cL_law 150 = .ok (.iload_n 3, 1) := by decide +kernel
theorem dL_law_151 : decode cL_law 151 = .ok (.iconst 1, 1) := by decide +kernel
theorem dL_law_152 : decode cL_law 152 = .ok (.iadd, 1) := by decide +kernel
theorem dL_law_153 : decode cL_law 153 = .ok (.iaload, 1) := by decide +kernel
theorem dL_law_154 : decode cL_law 154 = .ok (.invokevirtual 13, 3) := by decide +kernel
theorem dL_law_157 : decode cL_law 157 = .ok (.aload_n 2, 1) := by decide +kernel
theorem dL_law_158 : decode cL_law 158 = .ok (.aload_n 0, 1) := by decide +kernel
theorem dL_law_159 : decode cL_law 159 = .ok (.iload_n 3, 1) := by decide +kernel
theorem dL_law_160 : decode cL_law 160 = .ok (.iconst 1, 1) := by decide +kernel
theorem dL_law_161 : decode cL_law 161 = .ok (.iadd, 1) := by decide +kernel
theorem dL_law_162 : decode cL_law 162 = .ok (.iaload, 1) := by decide +kernel
theorem dL_law_163 : decode cL_law 163 = .ok (.invokevirtual 17, 3) := by decide +kernel
theorem dL_law_166 : decode cL_law 166 = .ok (.if_icmp .eq 597, 3) := by decide +kernel
theorem dL_law_169 : decode cL_law 169 = .ok (.iconst 0, 1) := by decide +kernel
theorem dL_law_170 : decode cL_law 170 = .ok (.ireturn, 1) := by decide +kernel
theorem dL_law_171 : decode cL_law 171 = .ok (.aload_n 1, 1) := by decide +kernel
theorem dL_law_172 : decode cL_law 172 = .ok (.invokevirtual 18, 3) := by decide +kernel
theorem dL_law_175 : decode cL_law 175 = .ok (.aload_n 2, 1) := by decide +kernel
theorem dL_law_176 : decode cL_law 176 = .ok (.invokevirtual 22, 3) := by decide +kernel
theorem dL_law_179 : decode cL_law 179 = .ok (.if_icmp .eq 584, 3) := by decide +kernel
theorem dL_law_182 : decode cL_law 182 = .ok (.iconst 0, 1) := by decide +kernel
theorem dL_law_183 : decode cL_law 183 = .ok (.ireturn, 1) := by decide +kernel
theorem dL_law_184 : decode cL_law 184 = .ok (.aload_n 1, 1) := by decide +kernel
theorem dL_law_185 : decode cL_law 185 = .ok (.invokevirtual 23, 3) := by decide +kernel
theorem dL_law_188 : decode cL_law 188 = .ok (.aload_n 2, 1) := by decide +kernel
theorem dL_law_189 : decode cL_law 189 = .ok (.invokevirtual 26, 3) := by decide +kernel
theorem dL_law_192 : decode cL_law 192 = .ok (.if_icmp .eq 571, 3) := by decide +kernel
theorem dL_law_195 : decode cL_law 195 = .ok (.iconst 0, 1) := by decide +kernel
theorem dL_law_196 : decode cL_law 196 = .ok (.ireturn, 1) := by decide +kernel
theorem dL_law_197 : decode cL_law 197 = .ok (.aload_n 1, 1) := by decide +kernel
theorem dL_law_198 : decode cL_law 198 = .ok (.aload_n 0, 1) := by decide +kernel
theorem dL_law_199 : decode cL_law 199 = .ok (.iload_n 3, 1) := by decide +kernel
theorem dL_law_200 : decode cL_law 200 = .ok (.iconst 1, 1) := by decide +kernel
theorem dL_law_201 : decode cL_law 201 = .ok (.iadd, 1) := by decide +kernel
theorem dL_law_202 : decode cL_law 202 = .ok (.iaload, 1) := by decide +kernel
theorem dL_law_203 : decode cL_law 203 = .ok (.aload_n 0, 1) := by decide +kernel
theorem dL_law_204 : decode cL_law 204 = .ok (.iload_n 3, 1) := by decide +kernel
theorem dL_law_205 : decode cL_law 205 = .ok (.iconst 2, 1) := by decide +kernel
theorem dL_law_206 : decode cL_law 206 = .ok (.iadd, 1) := by decide +kernel
theorem dL_law_207 : decode cL_law 207 = .ok (.iaload, 1) := by decide +kernel
theorem dL_law_208 : decode cL_law 208 = .ok (.invokevirtual 27, 3) := by decide +kernel
theorem dL_law_211 : decode cL_law 211 = .ok (.aload_n 2, 1) := by decide +kernel
theorem dL_law_212 : decode cL_law 212 = .ok (.aload_n 0, 1) := by decide +kernel
theorem dL_law_213 : decode cL_law 213 = .ok (.iload_n 3, 1) := by decide +kernel
theorem dL_law_214 : decode cL_law 214 = .ok (.iconst 1, 1) := by decide +kernel
theorem dL_law_215 : decode cL_law 215 = .ok (.iadd, 1) := by decide +kernel
theorem dL_law_216 : decode cL_law 216 = .ok (.iaload, 1) := by decide +kernel
theorem dL_law_217 : decode cL_law 217 = .ok (.aload_n 0, 1) := by decide +kernel
theorem dL_law_218 : decode cL_law 218 = .ok (.iload_n 3, 1) := by decide +kernel
theorem dL_law_219 : decode cL_law 219 = .ok (.iconst 2, 1) := by decide +kernel
theorem dL_law_220 : decode cL_law 220 = .ok (.iadd, 1) := by decide +kernel
theorem dL_law_221 : decode cL_law 221 = .ok (.iaload, 1) := by decide +kernel
theorem dL_law_222 : decode cL_law 222 = .ok (.invokevirtual 31, 3) := by decide +kernel
theorem dL_law_225 : decode cL_law 225 = .ok (.if_icmp .eq 538, 3) := by decide +kernel
theorem dL_law_228 : decode cL_law 228 = .ok (.iconst 0, 1) := by decide +kernel
theorem dL_law_229 : decode cL_law 229 = .ok (.ireturn, 1) := by decide +kernel
theorem dL_law_230 : decode cL_law 230 = .ok (.aload_n 1, 1) := by decide +kernel
theorem dL_law_231 : decode cL_law 231 = .ok (.aload_n 0, 1) := by decide +kernel
theorem dL_law_232 : decode cL_law 232 = .ok (.iload_n 3, 1) := by decide +kernel
theorem dL_law_233 : decode cL_law 233 = .ok (.iconst 1, 1) := by decide +kernel
theorem dL_law_234 : decode cL_law 234 = .ok (.iadd, 1) := by decide +kernel
theorem dL_law_235 : decode cL_law 235 = .ok (.iaload, 1) := by decide +kernel
theorem dL_law_236 : decode cL_law 236 = .ok (.invokevirtual 32, 3) := by decide +kernel
theorem dL_law_239 : decode cL_law 239 = .ok (.aload_n 2, 1) := by decide +kernel
theorem dL_law_240 : decode cL_law 240 = .ok (.aload_n 0, 1) := by decide +kernel
theorem dL_law_241 : decode cL_law 241 = .ok (.iload_n 3, 1) := by decide +kernel
theorem dL_law_242 : decode cL_law 242 = .ok (.iconst 1, 1) := by decide +kernel
theorem dL_law_243 : decode cL_law 243 = .ok (.iadd, 1) := by decide +kernel
theorem dL_law_244 : decode cL_law 244 = .ok (.iaload, 1) := by decide +kernel
theorem dL_law_245 : decode cL_law 245 = .ok (.invokevirtual 35, 3) := by decide +kernel
theorem dL_law_248 : decode cL_law 248 = .ok (.if_icmp .eq 515, 3) := by decide +kernel
theorem dL_law_251 : decode cL_law 251 = .ok (.iconst 0, 1) := by decide +kernel
theorem dL_law_252 : decode cL_law 252 = .ok (.ireturn, 1) := by decide +kernel
theorem dL_law_253 : decode cL_law 253 = .ok (.aload_n 1, 1) := by decide +kernel
theorem dL_law_254 : decode cL_law 254 = .ok (.aload_n 0, 1) := by decide +kernel
theorem dL_law_255 : decode cL_law 255 = .ok (.iload_n 3, 1) := by decide +kernel
theorem dL_law_256 : decode cL_law 256 = .ok (.iconst 1, 1) := by decide +kernel
theorem dL_law_257 : decode cL_law 257 = .ok (.iadd, 1) := by decide +kernel
theorem dL_law_258 : decode cL_law 258 = .ok (.iaload, 1) := by decide +kernel
theorem dL_law_259 : decode cL_law 259 = .ok (.invokevirtual 36, 3) := by decide +kernel
theorem dL_law_262 : decode cL_law 262 = .ok (.aload_n 2, 1) := by decide +kernel
theorem dL_law_263 : decode cL_law 263 = .ok (.aload_n 0, 1) := by decide +kernel
theorem dL_law_264 : decode cL_law 264 = .ok (.iload_n 3, 1) := by decide +kernel
theorem dL_law_265 : decode cL_law 265 = .ok (.iconst 1, 1) := by decide +kernel
theorem dL_law_266 : decode cL_law 266 = .ok (.iadd, 1) := by decide +kernel
theorem dL_law_267 : decode cL_law 267 = .ok (.iaload, 1) := by decide +kernel
theorem dL_law_268 : decode cL_law 268 = .ok (.invokevirtual 39, 3) := by decide +kernel
theorem dL_law_271 : decode cL_law 271 = .ok (.if_icmp .eq 492, 3) := by decide +kernel
theorem dL_law_274 : decode cL_law 274 = .ok (.iconst 0, 1) := by decide +kernel
theorem dL_law_275 : decode cL_law 275 = .ok (.ireturn, 1) := by decide +kernel
theorem dL_law_276 : decode cL_law 276 = .ok (.aload_n 1, 1) := by decide +kernel
theorem dL_law_277 : decode cL_law 277 = .ok (.aload_n 0, 1) := by decide +kernel
theorem dL_law_278 : decode cL_law 278 = .ok (.iload_n 3, 1) := by decide +kernel
theorem dL_law_279 : decode cL_law 279 = .ok (.iconst 1, 1) := by decide +kernel
theorem dL_law_280 : decode cL_law 280 = .ok (.iadd, 1) := by decide +kernel
theorem dL_law_281 : decode cL_law 281 = .ok (.iaload, 1) := by decide +kernel
theorem dL_law_282 : decode cL_law 282 = .ok (.aload_n 0, 1) := by decide +kernel
theorem dL_law_283 : decode cL_law 283 = .ok (.iload_n 3, 1) := by decide +kernel
theorem dL_law_284 : decode cL_law 284 = .ok (.iconst 2, 1) := by decide +kernel
theorem dL_law_285 : decode cL_law 285 = .ok (.iadd, 1) := by decide +kernel
theorem dL_law_286 : decode cL_law 286 = .ok (.iaload, 1) := by decide +kernel
theorem dL_law_287 : decode cL_law 287 = .ok (.invokevirtual 40, 3) := by decide +kernel
theorem dL_law_290 : decode cL_law 290 = .ok (.aload_n 2, 1) := by decide +kernel
theorem dL_law_291 : decode cL_law 291 = .ok (.aload_n 0, 1) := by decide +kernel
theorem dL_law_292 : decode cL_law 292 = .ok (.iload_n 3, 1) := by decide +kernel
theorem dL_law_293 : decode cL_law 293 = .ok (.iconst 1, 1) := by decide +kernel
theorem dL_law_294 : decode cL_law 294 = .ok (.iadd, 1) := by decide +kernel
theorem dL_law_295 : decode cL_law 295 = .ok (.iaload, 1) := by decide +kernel
theorem dL_law_296 : decode cL_law 296 = .ok (.aload_n 0, 1) := by decide +kernel
theorem dL_law_297 : decode cL_law 297 = .ok (.iload_n 3, 1) := by decide +kernel
theorem dL_law_298 : decode cL_law 298 = .ok (.iconst 2, 1) := by decide +kernel
theorem dL_law_299 : decode cL_law 299 = .ok (.iadd, 1) := by decide +kernel
theorem dL_law_300 : decode cL_law 300 = .ok (.iaload, 1) := by decide +kernel
theorem dL_law_301 : decode cL_law 301 = .ok (.invokevirtual 43, 3) := by decide +kernel
theorem dL_law_304 : decode cL_law 304 = .ok (.if_icmp .eq 459, 3) := by decide +kernel
theorem dL_law_307 : decode cL_law 307 = .ok (.iconst 0, 1) := by decide +kernel
theorem dL_law_308 : decode cL_law 308 = .ok (.ireturn, 1) := by decide +kernel
theorem dL_law_309 : decode cL_law 309 = .ok (.aload_n 1, 1) := by decide +kernel
theorem dL_law_310 : decode cL_law 310 = .ok (.aload_n 0, 1) := by decide +kernel
theorem dL_law_311 : decode cL_law 311 = .ok (.iload_n 3, 1) := by decide +kernel
theorem dL_law_312 : decode cL_law 312 = .ok (.iconst 1, 1) := by decide +kernel
theorem dL_law_313 : decode cL_law 313 = .ok (.iadd, 1) := by decide +kernel
theorem dL_law_314 : decode cL_law 314 = .ok (.iaload, 1) := by decide +kernel
theorem dL_law_315 : decode cL_law 315 = .ok (.invokevirtual 44, 3) := by decide +kernel
theorem dL_law_318 : decode cL_law 318 = .ok (.aload_n 2, 1) := by decide +kernel
theorem dL_law_319 : decode cL_law 319 = .ok (.aload_n 0, 1) := by decide +kernel
theorem dL_law_320 : decode cL_law 320 = .ok (.iload_n 3, 1) := by decide +kernel
theorem dL_law_321 : decode cL_law 321 = .ok (.iconst 1, 1) := by decide +kernel
theorem dL_law_322 : decode cL_law 322 = .ok (.iadd, 1) := by decide +kernel
theorem dL_law_323 : decode cL_law 323 = .ok (.iaload, 1) := by decide +kernel
theorem dL_law_324 : decode cL_law 324 = .ok (.invokevirtual 47, 3) := by decide +kernel
theorem dL_law_327 : decode cL_law 327 = .ok (.if_icmp .eq 436, 3) := by decide +kernel
theorem dL_law_330 : decode cL_law 330 = .ok (.iconst 0, 1) := by decide +kernel
theorem dL_law_331 : decode cL_law 331 = .ok (.ireturn, 1) := by decide +kernel
theorem dL_law_332 : decode cL_law 332 = .ok (.aload_n 1, 1) := by decide +kernel
theorem dL_law_333 : decode cL_law 333 = .ok (.invokevirtual 48, 3) := by decide +kernel
theorem dL_law_336 : decode cL_law 336 = .ok (.aload_n 2, 1) := by decide +kernel
theorem dL_law_337 : decode cL_law 337 = .ok (.invokevirtual 51, 3) := by decide +kernel
theorem dL_law_340 : decode cL_law 340 = .ok (.if_icmp .eq 423, 3) := by decide +kernel
theorem dL_law_343 : decode cL_law 343 = .ok (.iconst 0, 1) := by decide +kernel
theorem dL_law_344 : decode cL_law 344 = .ok (.ireturn, 1) := by decide +kernel
theorem dL_law_345 : decode cL_law 345 = .ok (.aload_n 1, 1) := by decide +kernel
theorem dL_law_346 : decode cL_law 346 = .ok (.invokevirtual 52, 3) := by decide +kernel
theorem dL_law_349 : decode cL_law 349 = .ok (.aload_n 2, 1) := by decide +kernel
theorem dL_law_350 : decode cL_law 350 = .ok (.invokevirtual 55, 3) := by decide +kernel
theorem dL_law_353 : decode cL_law 353 = .ok (.if_icmp .eq 410, 3) := by decide +kernel
theorem dL_law_356 : decode cL_law 356 = .ok (.iconst 0, 1) := by decide +kernel
theorem dL_law_357 : decode cL_law 357 = .ok (.ireturn, 1) := by decide +kernel
theorem dL_law_358 : decode cL_law 358 = .ok (.aload_n 1, 1) := by decide +kernel
theorem dL_law_359 : decode cL_law 359 = .ok (.invokevirtual 56, 3) := by decide +kernel
theorem dL_law_362 : decode cL_law 362 = .ok (.aload_n 2, 1) := by decide +kernel
theorem dL_law_363 : decode cL_law 363 = .ok (.invokevirtual 59, 3) := by decide +kernel
theorem dL_law_366 : decode cL_law 366 = .ok (.if_icmp .eq 397, 3) := by decide +kernel
theorem dL_law_369 : decode cL_law 369 = .ok (.iconst 0, 1) := by decide +kernel
theorem dL_law_370 : decode cL_law 370 = .ok (.ireturn, 1) := by decide +kernel
theorem dL_law_371 : decode cL_law 371 = .ok (.aload_n 1, 1) := by decide +kernel
theorem dL_law_372 : decode cL_law 372 = .ok (.aload_n 0, 1) := by decide +kernel
theorem dL_law_373 : decode cL_law 373 = .ok (.iload_n 3, 1) := by decide +kernel
theorem dL_law_374 : decode cL_law 374 = .ok (.iconst 1, 1) := by decide +kernel
theorem dL_law_375 : decode cL_law 375 = .ok (.iadd, 1) := by decide +kernel
theorem dL_law_376 : decode cL_law 376 = .ok (.iaload, 1) := by decide +kernel
theorem dL_law_377 : decode cL_law 377 = .ok (.invokevirtual 60, 3) := by decide +kernel
theorem dL_law_380 : decode cL_law 380 = .ok (.aload_n 2, 1) := by decide +kernel
theorem dL_law_381 : decode cL_law 381 = .ok (.aload_n 0, 1) := by decide +kernel
theorem dL_law_382 : decode cL_law 382 = .ok (.iload_n 3, 1) := by decide +kernel
theorem dL_law_383 : decode cL_law 383 = .ok (.iconst 1, 1) := by decide +kernel
theorem dL_law_384 : decode cL_law 384 = .ok (.iadd, 1) := by decide +kernel
theorem dL_law_385 : decode cL_law 385 = .ok (.iaload, 1) := by decide +kernel
theorem dL_law_386 : decode cL_law 386 = .ok (.invokevirtual 63, 3) := by decide +kernel
theorem dL_law_389 : decode cL_law 389 = .ok (.if_icmp .eq 374, 3) := by decide +kernel
theorem dL_law_392 : decode cL_law 392 = .ok (.iconst 0, 1) := by decide +kernel
theorem dL_law_393 : decode cL_law 393 = .ok (.ireturn, 1) := by decide +kernel
theorem dL_law_394 : decode cL_law 394 = .ok (.aload_n 1, 1) := by decide +kernel
theorem dL_law_395 : decode cL_law 395 = .ok (.aload_n 0, 1) := by decide +kernel
theorem dL_law_396 : decode cL_law 396 = .ok (.iload_n 3, 1) := by decide +kernel
theorem dL_law_397 : decode cL_law 397 = .ok (.iconst 1, 1) := by decide +kernel
theorem dL_law_398 : decode cL_law 398 = .ok (.iadd, 1) := by decide +kernel
theorem dL_law_399 : decode cL_law 399 = .ok (.iaload, 1) := by decide +kernel
theorem dL_law_400 : decode cL_law 400 = .ok (.invokevirtual 64, 3) := by decide +kernel
theorem dL_law_403 : decode cL_law 403 = .ok (.aload_n 2, 1) := by decide +kernel
theorem dL_law_404 : decode cL_law 404 = .ok (.aload_n 0, 1) := by decide +kernel
theorem dL_law_405 : decode cL_law 405 = .ok (.iload_n 3, 1) := by decide +kernel
theorem dL_law_406 : decode cL_law 406 = .ok (.iconst 1, 1) := by decide +kernel
theorem dL_law_407 : decode cL_law 407 = .ok (.iadd, 1) := by decide +kernel
theorem dL_law_408 : decode cL_law 408 = .ok (.iaload, 1) := by decide +kernel
theorem dL_law_409 : decode cL_law 409 = .ok (.invokevirtual 67, 3) := by decide +kernel
theorem dL_law_412 : decode cL_law 412 = .ok (.if_icmp .eq 351, 3) := by decide +kernel
theorem dL_law_415 : decode cL_law 415 = .ok (.iconst 0, 1) := by decide +kernel
theorem dL_law_416 : decode cL_law 416 = .ok (.ireturn, 1) := by decide +kernel
theorem dL_law_417 : decode cL_law 417 = .ok (.aload_n 1, 1) := by decide +kernel
theorem dL_law_418 : decode cL_law 418 = .ok (.aload_n 0, 1) := by decide +kernel
theorem dL_law_419 : decode cL_law 419 = .ok (.iload_n 3, 1) := by decide +kernel
theorem dL_law_420 : decode cL_law 420 = .ok (.iconst 1, 1) := by decide +kernel
theorem dL_law_421 : decode cL_law 421 = .ok (.iadd, 1) := by decide +kernel
theorem dL_law_422 : decode cL_law 422 = .ok (.iaload, 1) := by decide +kernel
theorem dL_law_423 : decode cL_law 423 = .ok (.aload_n 0, 1) := by decide +kernel
theorem dL_law_424 : decode cL_law 424 = .ok (.iload_n 3, 1) := by decide +kernel
theorem dL_law_425 : decode cL_law 425 = .ok (.iconst 2, 1) := by decide +kernel
theorem dL_law_426 : decode cL_law 426 = .ok (.iadd, 1) := by decide +kernel
theorem dL_law_427 : decode cL_law 427 = .ok (.iaload, 1) := by decide +kernel
theorem dL_law_428 : decode cL_law 428 = .ok (.invokevirtual 68, 3) := by decide +kernel
theorem dL_law_431 : decode cL_law 431 = .ok (.aload_n 2, 1) := by decide +kernel
theorem dL_law_432 : decode cL_law 432 = .ok (.aload_n 0, 1) := by decide +kernel
theorem dL_law_433 : decode cL_law 433 = .ok (.iload_n 3, 1) := by decide +kernel
theorem dL_law_434 : decode cL_law 434 = .ok (.iconst 1, 1) := by decide +kernel
theorem dL_law_435 : decode cL_law 435 = .ok (.iadd, 1) := by decide +kernel
theorem dL_law_436 : decode cL_law 436 = .ok (.iaload, 1) := by decide +kernel
theorem dL_law_437 : decode cL_law 437 = .ok (.aload_n 0, 1) := by decide +kernel
theorem dL_law_438 : decode cL_law 438 = .ok (.iload_n 3, 1) := by decide +kernel
theorem dL_law_439 : decode cL_law 439 = .ok (.iconst 2, 1) := by decide +kernel
theorem dL_law_440 : decode cL_law 440 = .ok (.iadd, 1) := by decide +kernel
theorem dL_law_441 : decode cL_law 441 = .ok (.iaload, 1) := by decide +kernel
theorem dL_law_442 : decode cL_law 442 = .ok (.invokevirtual 71, 3) := by decide +kernel
theorem dL_law_445 : decode cL_law 445 = .ok (.if_icmp .eq 318, 3) := by decide +kernel
theorem dL_law_448 : decode cL_law 448 = .ok (.iconst 0, 1) := by decide +kernel
theorem dL_law_449 : decode cL_law 449 = .ok (.ireturn, 1) := by decide +kernel
theorem dL_law_450 : decode cL_law 450 = .ok (.aload_n 1, 1) := by decide +kernel
theorem dL_law_451 : decode cL_law 451 = .ok (.aload_n 0, 1) := by decide +kernel
theorem dL_law_452 : decode cL_law 452 = .ok (.iload_n 3, 1) := by decide +kernel
theorem dL_law_453 : decode cL_law 453 = .ok (.iconst 1, 1) := by decide +kernel
theorem dL_law_454 : decode cL_law 454 = .ok (.iadd, 1) := by decide +kernel
theorem dL_law_455 : decode cL_law 455 = .ok (.iaload, 1) := by decide +kernel
theorem dL_law_456 : decode cL_law 456 = .ok (.aload_n 0, 1) := by decide +kernel
theorem dL_law_457 : decode cL_law 457 = .ok (.iload_n 3, 1) := by decide +kernel
theorem dL_law_458 : decode cL_law 458 = .ok (.iconst 2, 1) := by decide +kernel
theorem dL_law_459 : decode cL_law 459 = .ok (.iadd, 1) := by decide +kernel
theorem dL_law_460 : decode cL_law 460 = .ok (.iaload, 1) := by decide +kernel
theorem dL_law_461 : decode cL_law 461 = .ok (.invokevirtual 72, 3) := by decide +kernel
theorem dL_law_464 : decode cL_law 464 = .ok (.aload_n 2, 1) := by decide +kernel
theorem dL_law_465 : decode cL_law 465 = .ok (.aload_n 0, 1) := by decide +kernel
theorem dL_law_466 : decode cL_law 466 = .ok (.iload_n 3, 1) := by decide +kernel
theorem dL_law_467 : decode cL_law 467 = .ok (.iconst 1, 1) := by decide +kernel
theorem dL_law_468 : decode cL_law 468 = .ok (.iadd, 1) := by decide +kernel
theorem dL_law_469 : decode cL_law 469 = .ok (.iaload, 1) := by decide +kernel
theorem dL_law_470 : decode cL_law 470 = .ok (.aload_n 0, 1) := by decide +kernel
theorem dL_law_471 : decode cL_law 471 = .ok (.iload_n 3, 1) := by decide +kernel
theorem dL_law_472 : decode cL_law 472 = .ok (.iconst 2, 1) := by decide +kernel
theorem dL_law_473 : decode cL_law 473 = .ok (.iadd, 1) := by decide +kernel
theorem dL_law_474 : decode cL_law 474 = .ok (.iaload, 1) := by decide +kernel
theorem dL_law_475 : decode cL_law 475 = .ok (.invokevirtual 75, 3) := by decide +kernel
theorem dL_law_478 : decode cL_law 478 = .ok (.if_icmp .eq 285, 3) := by decide +kernel
theorem dL_law_481 : decode cL_law 481 = .ok (.iconst 0, 1) := by decide +kernel
theorem dL_law_482 : decode cL_law 482 = .ok (.ireturn, 1) := by decide +kernel
theorem dL_law_483 : decode cL_law 483 = .ok (.aload_n 1, 1) := by decide +kernel
theorem dL_law_484 : decode cL_law 484 = .ok (.aload_n 0, 1) := by decide +kernel
theorem dL_law_485 : decode cL_law 485 = .ok (.iload_n 3, 1) := by decide +kernel
theorem dL_law_486 : decode cL_law 486 = .ok (.iconst 1, 1) := by decide +kernel
theorem dL_law_487 : decode cL_law 487 = .ok (.iadd, 1) := by decide +kernel
theorem dL_law_488 : decode cL_law 488 = .ok (.iaload, 1) := by decide +kernel
theorem dL_law_489 : decode cL_law 489 = .ok (.invokevirtual 76, 3) := by decide +kernel
theorem dL_law_492 : decode cL_law 492 = .ok (.aload_n 2, 1) := by decide +kernel
theorem dL_law_493 : decode cL_law 493 = .ok (.aload_n 0, 1) := by decide +kernel
theorem dL_law_494 : decode cL_law 494 = .ok (.iload_n 3, 1) := by decide +kernel
theorem dL_law_495 : decode cL_law 495 = .ok (.iconst 1, 1) := by decide +kernel
theorem dL_law_496 : decode cL_law 496 = .ok (.iadd, 1) := by decide +kernel
theorem dL_law_497 : decode cL_law 497 = .ok (.iaload, 1) := by decide +kernel
theorem dL_law_498 : decode cL_law 498 = .ok (.invokevirtual 79, 3) := by decide +kernel
theorem dL_law_501 : decode cL_law 501 = .ok (.if_icmp .eq 262, 3) := by decide +kernel
theorem dL_law_504 : decode cL_law 504 = .ok (.iconst 0, 1) := by decide +kernel
theorem dL_law_505 : decode cL_law 505 = .ok (.ireturn, 1) := by decide +kernel
theorem dL_law_506 : decode cL_law 506 = .ok (.aload_n 1, 1) := by decide +kernel
theorem dL_law_507 : decode cL_law 507 = .ok (.aload_n 0, 1) := by decide +kernel
theorem dL_law_508 : decode cL_law 508 = .ok (.iload_n 3, 1) := by decide +kernel
theorem dL_law_509 : decode cL_law 509 = .ok (.iconst 1, 1) := by decide +kernel
theorem dL_law_510 : decode cL_law 510 = .ok (.iadd, 1) := by decide +kernel
theorem dL_law_511 : decode cL_law 511 = .ok (.iaload, 1) := by decide +kernel
theorem dL_law_512 : decode cL_law 512 = .ok (.aload_n 0, 1) := by decide +kernel
theorem dL_law_513 : decode cL_law 513 = .ok (.iload_n 3, 1) := by decide +kernel
theorem dL_law_514 : decode cL_law 514 = .ok (.iconst 2, 1) := by decide +kernel
theorem dL_law_515 : decode cL_law 515 = .ok (.iadd, 1) := by decide +kernel
theorem dL_law_516 : decode cL_law 516 = .ok (.iaload, 1) := by decide +kernel
theorem dL_law_517 : decode cL_law 517 = .ok (.invokevirtual 80, 3) := by decide +kernel
theorem dL_law_520 : decode cL_law 520 = .ok (.aload_n 2, 1) := by decide +kernel
theorem dL_law_521 : decode cL_law 521 = .ok (.aload_n 0, 1) := by decide +kernel
theorem dL_law_522 : decode cL_law 522 = .ok (.iload_n 3, 1) := by decide +kernel
theorem dL_law_523 : decode cL_law 523 = .ok (.iconst 1, 1) := by decide +kernel
theorem dL_law_524 : decode cL_law 524 = .ok (.iadd, 1) := by decide +kernel
theorem dL_law_525 : decode cL_law 525 = .ok (.iaload, 1) := by decide +kernel
theorem dL_law_526 : decode cL_law 526 = .ok (.aload_n 0, 1) := by decide +kernel
theorem dL_law_527 : decode cL_law 527 = .ok (.iload_n 3, 1) := by decide +kernel
theorem dL_law_528 : decode cL_law 528 = .ok (.iconst 2, 1) := by decide +kernel
theorem dL_law_529 : decode cL_law 529 = .ok (.iadd, 1) := by decide +kernel
theorem dL_law_530 : decode cL_law 530 = .ok (.iaload, 1) := by decide +kernel
theorem dL_law_531 : decode cL_law 531 = .ok (.invokevirtual 83, 3) := by decide +kernel
theorem dL_law_534 : decode cL_law 534 = .ok (.if_icmp .eq 229, 3) := by decide +kernel
theorem dL_law_537 : decode cL_law 537 = .ok (.iconst 0, 1) := by decide +kernel
theorem dL_law_538 : decode cL_law 538 = .ok (.ireturn, 1) := by decide +kernel
theorem dL_law_539 : decode cL_law 539 = .ok (.aload_n 1, 1) := by decide +kernel
theorem dL_law_540 : decode cL_law 540 = .ok (.aload_n 0, 1) := by decide +kernel
theorem dL_law_541 : decode cL_law 541 = .ok (.iload_n 3, 1) := by decide +kernel
theorem dL_law_542 : decode cL_law 542 = .ok (.iconst 1, 1) := by decide +kernel
theorem dL_law_543 : decode cL_law 543 = .ok (.iadd, 1) := by decide +kernel
theorem dL_law_544 : decode cL_law 544 = .ok (.iaload, 1) := by decide +kernel
theorem dL_law_545 : decode cL_law 545 = .ok (.invokevirtual 84, 3) := by decide +kernel
theorem dL_law_548 : decode cL_law 548 = .ok (.aload_n 2, 1) := by decide +kernel
theorem dL_law_549 : decode cL_law 549 = .ok (.aload_n 0, 1) := by decide +kernel
theorem dL_law_550 : decode cL_law 550 = .ok (.iload_n 3, 1) := by decide +kernel
theorem dL_law_551 : decode cL_law 551 = .ok (.iconst 1, 1) := by decide +kernel
theorem dL_law_552 : decode cL_law 552 = .ok (.iadd, 1) := by decide +kernel
theorem dL_law_553 : decode cL_law 553 = .ok (.iaload, 1) := by decide +kernel
theorem dL_law_554 : decode cL_law 554 = .ok (.invokevirtual 87, 3) := by decide +kernel
theorem dL_law_557 : decode cL_law 557 = .ok (.if_icmp .eq 206, 3) := by decide +kernel
theorem dL_law_560 : decode cL_law 560 = .ok (.iconst 0, 1) := by decide +kernel
theorem dL_law_561 : decode cL_law 561 = .ok (.ireturn, 1) := by decide +kernel
theorem dL_law_562 : decode cL_law 562 = .ok (.aload_n 1, 1) := by decide +kernel
theorem dL_law_563 : decode cL_law 563 = .ok (.invokevirtual 88, 3) := by decide +kernel
theorem dL_law_566 : decode cL_law 566 = .ok (.f2d, 1) := by decide +kernel
theorem dL_law_567 : decode cL_law 567 = .ok (.dstore 4, 2) := by decide +kernel
theorem dL_law_569 : decode cL_law 569 = .ok (.aload_n 2, 1) := by decide +kernel
theorem dL_law_570 : decode cL_law 570 = .ok (.invokevirtual 92, 3) := by decide +kernel
theorem dL_law_573 : decode cL_law 573 = .ok (.f2d, 1) := by decide +kernel
theorem dL_law_574 : decode cL_law 574 = .ok (.dstore 6, 2) := by decide +kernel
theorem dL_law_576 : decode cL_law 576 = .ok (.dload 4, 2) := by decide +kernel
theorem dL_law_578 : decode cL_law 578 = .ok (.dload 6, 2) := by decide +kernel
theorem dL_law_580 : decode cL_law 580 = .ok (.dcmp .l, 1) := by decide +kernel
theorem dL_law_581 : decode cL_law 581 = .ok (.ifCond .eq 21, 3) := by decide +kernel
theorem dL_law_584 : decode cL_law 584 = .ok (.dload 4, 2) := by decide +kernel
theorem dL_law_586 : decode cL_law 586 = .ok (.dload 4, 2) := by decide +kernel
theorem dL_law_588 : decode cL_law 588 = .ok (.dcmp .l, 1) := by decide +kernel
theorem dL_law_589 : decode cL_law 589 = .ok (.ifCond .eq 11, 3) := by decide +kernel
theorem dL_law_592 : decode cL_law 592 = .ok (.dload 6, 2) := by decide +kernel
theorem dL_law_594 : decode cL_law 594 = .ok (.dload 6, 2) := by decide +kernel
theorem dL_law_596 : decode cL_law 596 = .ok (.dcmp .l, 1) := by decide +kernel
theorem dL_law_597 : decode cL_law 597 = .ok (.ifCond .ne 5, 3) := by decide +kernel
theorem dL_law_600 : decode cL_law 600 = .ok (.iconst 0, 1) := by decide +kernel
theorem dL_law_601 : decode cL_law 601 = .ok (.ireturn, 1) := by decide +kernel
theorem dL_law_602 : decode cL_law 602 = .ok (.goto 161, 3) := by decide +kernel
theorem dL_law_605 : decode cL_law 605 = .ok (.aload_n 1, 1) := by decide +kernel
theorem dL_law_606 : decode cL_law 606 = .ok (.aload_n 0, 1) := by decide +kernel
theorem dL_law_607 : decode cL_law 607 = .ok (.iload_n 3, 1) := by decide +kernel
theorem dL_law_608 : decode cL_law 608 = .ok (.iconst 1, 1) := by decide +kernel
theorem dL_law_609 : decode cL_law 609 = .ok (.iadd, 1) := by decide +kernel
theorem dL_law_610 : decode cL_law 610 = .ok (.iaload, 1) := by decide +kernel
theorem dL_law_611 : decode cL_law 611 = .ok (.invokevirtual 93, 3) := by decide +kernel
theorem dL_law_614 : decode cL_law 614 = .ok (.aload_n 2, 1) := by decide +kernel
theorem dL_law_615 : decode cL_law 615 = .ok (.aload_n 0, 1) := by decide +kernel
theorem dL_law_616 : decode cL_law 616 = .ok (.iload_n 3, 1) := by decide +kernel
theorem dL_law_617 : decode cL_law 617 = .ok (.iconst 1, 1) := by decide +kernel
theorem dL_law_618 : decode cL_law 618 = .ok (.iadd, 1) := by decide +kernel
theorem dL_law_619 : decode cL_law 619 = .ok (.iaload, 1) := by decide +kernel
theorem dL_law_620 : decode cL_law 620 = .ok (.invokevirtual 96, 3) := by decide +kernel
theorem dL_law_623 : decode cL_law 623 = .ok (.if_icmp .eq 140, 3) := by decide +kernel
theorem dL_law_626 : decode cL_law 626 = .ok (.iconst 0, 1) := by decide +kernel
theorem dL_law_627 : decode cL_law 627 = .ok (.ireturn, 1) := by decide +kernel
theorem dL_law_628 : decode cL_law 628 = .ok (.aload_n 1, 1) := by decide +kernel
theorem dL_law_629 : decode cL_law 629 = .ok (.aload_n 0, 1) := by decide +kernel
theorem dL_law_630 : decode cL_law 630 = .ok (.iload_n 3, 1) := by decide +kernel
theorem dL_law_631 : decode cL_law 631 = .ok (.iconst 1, 1) := by decide +kernel
theorem dL_law_632 : decode cL_law 632 = .ok (.iadd, 1) := by decide +kernel
theorem dL_law_633 : decode cL_law 633 = .ok (.iaload, 1) := by decide +kernel
theorem dL_law_634 : decode cL_law 634 = .ok (.invokevirtual 97, 3) := by decide +kernel
theorem dL_law_637 : decode cL_law 637 = .ok (.aload_n 2, 1) := by decide +kernel
theorem dL_law_638 : decode cL_law 638 = .ok (.aload_n 0, 1) := by decide +kernel
theorem dL_law_639 : decode cL_law 639 = .ok (.iload_n 3, 1) := by decide +kernel
theorem dL_law_640 : decode cL_law 640 = .ok (.iconst 1, 1) := by decide +kernel
theorem dL_law_641 : decode cL_law 641 = .ok (.iadd, 1) := by decide +kernel
theorem dL_law_642 : decode cL_law 642 = .ok (.iaload, 1) := by decide +kernel
theorem dL_law_643 : decode cL_law 643 = .ok (.invokevirtual 100, 3) := by decide +kernel
theorem dL_law_646 : decode cL_law 646 = .ok (.if_icmp .eq 117, 3) := by decide +kernel
theorem dL_law_649 : decode cL_law 649 = .ok (.iconst 0, 1) := by decide +kernel
theorem dL_law_650 : decode cL_law 650 = .ok (.ireturn, 1) := by decide +kernel
theorem dL_law_651 : decode cL_law 651 = .ok (.aload_n 1, 1) := by decide +kernel
theorem dL_law_652 : decode cL_law 652 = .ok (.aload_n 0, 1) := by decide +kernel
theorem dL_law_653 : decode cL_law 653 = .ok (.iload_n 3, 1) := by decide +kernel
theorem dL_law_654 : decode cL_law 654 = .ok (.iconst 1, 1) := by decide +kernel
theorem dL_law_655 : decode cL_law 655 = .ok (.iadd, 1) := by decide +kernel
theorem dL_law_656 : decode cL_law 656 = .ok (.iaload, 1) := by decide +kernel
theorem dL_law_657 : decode cL_law 657 = .ok (.aload_n 0, 1) := by decide +kernel
theorem dL_law_658 : decode cL_law 658 = .ok (.iload_n 3, 1) := by decide +kernel
theorem dL_law_659 : decode cL_law 659 = .ok (.iconst 2, 1) := by decide +kernel
theorem dL_law_660 : decode cL_law 660 = .ok (.iadd, 1) := by decide +kernel
theorem dL_law_661 : decode cL_law 661 = .ok (.iaload, 1) := by decide +kernel
theorem dL_law_662 : decode cL_law 662 = .ok (.aload_n 0, 1) := by decide +kernel
theorem dL_law_663 : decode cL_law 663 = .ok (.iload_n 3, 1) := by decide +kernel
theorem dL_law_664 : decode cL_law 664 = .ok (.iconst 3, 1) := by decide +kernel
theorem dL_law_665 : decode cL_law 665 = .ok (.iadd, 1) := by decide +kernel
theorem dL_law_666 : decode cL_law 666 = .ok (.iaload, 1) := by decide +kernel
theorem dL_law_667 : decode cL_law 667 = .ok (.invokevirtual 101, 3) := by decide +kernel
theorem dL_law_670 : decode cL_law 670 = .ok (.aload_n 2, 1) := by decide +kernel
theorem dL_law_671 : decode cL_law 671 = .ok (.aload_n 0, 1) := by decide +kernel
theorem dL_law_672 : decode cL_law 672 = .ok (.iload_n 3, 1) := by decide +kernel
theorem dL_law_673 : decode cL_law 673 = .ok (.iconst 1, 1) := by decide +kernel
theorem dL_law_674 : decode cL_law 674 = .ok (.iadd, 1) := by decide +kernel
theorem dL_law_675 : decode cL_law 675 = .ok (.iaload, 1) := by decide +kernel
theorem dL_law_676 : decode cL_law 676 = .ok (.aload_n 0, 1) := by decide +kernel
theorem dL_law_677 : decode cL_law 677 = .ok (.iload_n 3, 1) := by decide +kernel
theorem dL_law_678 : decode cL_law 678 = .ok (.iconst 2, 1) := by decide +kernel
theorem dL_law_679 : decode cL_law 679 = .ok (.iadd, 1) := by decide +kernel
theorem dL_law_680 : decode cL_law 680 = .ok (.iaload, 1) := by decide +kernel
theorem dL_law_681 : decode cL_law 681 = .ok (.aload_n 0, 1) := by decide +kernel
theorem dL_law_682 : decode cL_law 682 = .ok (.iload_n 3, 1) := by decide +kernel
theorem dL_law_683 : decode cL_law 683 = .ok (.iconst 3, 1) := by decide +kernel
theorem dL_law_684 : decode cL_law 684 = .ok (.iadd, 1) := by decide +kernel
theorem dL_law_685 : decode cL_law 685 = .ok (.iaload, 1) := by decide +kernel
theorem dL_law_686 : decode cL_law 686 = .ok (.invokevirtual 105, 3) := by decide +kernel
theorem dL_law_689 : decode cL_law 689 = .ok (.if_icmp .eq 74, 3) := by decide +kernel
theorem dL_law_692 : decode cL_law 692 = .ok (.iconst 0, 1) := by decide +kernel
theorem dL_law_693 : decode cL_law 693 = .ok (.ireturn, 1) := by decide +kernel
theorem dL_law_694 : decode cL_law 694 = .ok (.aload_n 1, 1) := by decide +kernel
theorem dL_law_695 : decode cL_law 695 = .ok (.aload_n 0, 1) := by decide +kernel
theorem dL_law_696 : decode cL_law 696 = .ok (.iload_n 3, 1) := by decide +kernel
theorem dL_law_697 : decode cL_law 697 = .ok (.iconst 1, 1) := by decide +kernel
theorem dL_law_698 : decode cL_law 698 = .ok (.iadd, 1) := by decide +kernel
theorem dL_law_699 : decode cL_law 699 = .ok (.iaload, 1) := by decide +kernel
theorem dL_law_700 : decode cL_law 700 = .ok (.invokevirtual 106, 3) := by decide +kernel
theorem dL_law_703 : decode cL_law 703 = .ok (.aload_n 2, 1) := by decide +kernel
theorem dL_law_704 : decode cL_law 704 = .ok (.aload_n 0, 1) := by decide +kernel
theorem dL_law_705 : decode cL_law 705 = .ok (.iload_n 3, 1) := by decide +kernel
theorem dL_law_706 : decode cL_law 706 = .ok (.iconst 1, 1) := by decide +kernel
theorem dL_law_707 : decode cL_law 707 = .ok (.iadd, 1) := by decide +kernel
theorem dL_law_708 : decode cL_law 708 = .ok (.iaload, 1) := by decide +kernel
theorem dL_law_709 : decode cL_law 709 = .ok (.invokevirtual 109, 3) := by decide +kernel
theorem dL_law_712 : decode cL_law 712 = .ok (.if_icmp .eq 51, 3) := by decide +kernel
theorem dL_law_715 : decode cL_law 715 = .ok (.iconst 0, 1) := by decide +kernel
theorem dL_law_716 : decode cL_law 716 = .ok (.ireturn, 1) := by decide +kernel
theorem dL_law_717 : decode cL_law 717 = .ok (.aload_n 1, 1) := by decide +kernel
theorem dL_law_718 : decode cL_law 718 = .ok (.aload_n 0, 1) := by decide +kernel
theorem dL_law_719 : decode cL_law 719 = .ok (.iload_n 3, 1) := by decide +kernel
theorem dL_law_720 : decode cL_law 720 = .ok (.iconst 1, 1) := by decide +kernel
theorem dL_law_721 : decode cL_law 721 = .ok (.iadd, 1) := by decide +kernel
theorem dL_law_722 : decode cL_law 722 = .ok (.iaload, 1) := by decide +kernel
theorem dL_law_723 : decode cL_law 723 = .ok (.invokevirtual 110, 3) := by decide +kernel
theorem dL_law_726 : decode cL_law 726 = .ok (.aload_n 2, 1) := by decide +kernel
theorem dL_law_727 : decode cL_law 727 = .ok (.aload_n 0, 1) := by decide +kernel
theorem dL_law_728 : decode cL_law 728 = .ok (.iload_n 3, 1) := by decide +kernel
theorem dL_law_729 : decode cL_law 729 = .ok (.iconst 1, 1) := by decide +kernel
theorem dL_law_730 : decode cL_law 730 = .ok (.iadd, 1) := by decide +kernel
theorem dL_law_731 : decode cL_law 731 = .ok (.iaload, 1) := by decide +kernel
theorem dL_law_732 : decode cL_law 732 = .ok (.invokevirtual 113, 3) := by decide +kernel
theorem dL_law_735 : decode cL_law 735 = .ok (.if_icmp .eq 28, 3) := by decide +kernel
theorem dL_law_738 : decode cL_law 738 = .ok (.iconst 0, 1) := by decide +kernel
theorem dL_law_739 : decode cL_law 739 = .ok (.ireturn, 1) := by decide +kernel
theorem dL_law_740 : decode cL_law 740 = .ok (.aload_n 1, 1) := by decide +kernel
theorem dL_law_741 : decode cL_law 741 = .ok (.aload_n 0, 1) := by decide +kernel
theorem dL_law_742 : decode cL_law 742 = .ok (.iload_n 3, 1) := by decide +kernel
theorem dL_law_743 : decode cL_law 743 = .ok (.iconst 1, 1) := by decide +kernel
theorem dL_law_744 : decode cL_law 744 = .ok (.iadd, 1) := by decide +kernel
theorem dL_law_745 : decode cL_law 745 = .ok (.iaload, 1) := by decide +kernel
theorem dL_law_746 : decode cL_law 746 = .ok (.invokevirtual 114, 3) := by decide +kernel
theorem dL_law_749 : decode cL_law 749 = .ok (.aload_n 2, 1) := by decide +kernel
theorem dL_law_750 : decode cL_law 750 = .ok (.aload_n 0, 1) := by decide +kernel
theorem dL_law_751 : decode cL_law 751 = .ok (.iload_n 3, 1) := by decide +kernel
theorem dL_law_752 : decode cL_law 752 = .ok (.iconst 1, 1) := by decide +kernel
theorem dL_law_753 : decode cL_law 753 = .ok (.iadd, 1) := by decide +kernel
theorem dL_law_754 : decode cL_law 754 = .ok (.iaload, 1) := by decide +kernel
theorem dL_law_755 : decode cL_law 755 = .ok (.invokevirtual 117, 3) := by decide +kernel
theorem dL_law_758 : decode cL_law 758 = .ok (.if_icmp .eq 5, 3) := by decide +kernel
theorem dL_law_761 : decode cL_law 761 = .ok (.iconst 0, 1) := by decide +kernel
theorem dL_law_762 : decode cL_law 762 = .ok (.ireturn, 1) := by decide +kernel
theorem dL_law_763 : decode cL_law 763 = .ok (.iinc 3 4, 3) := by decide +kernel
theorem dL_law_766 : decode cL_law 766 = .ok (.goto (-748), 3) := by decide +kernel
theorem dL_law_769 : decode cL_law 769 = .ok (.iconst 1, 1) := by decide +kernel
theorem dL_law_770 : decode cL_law 770 = .ok (.ireturn, 1) := by decide +kernel
