theorem dM_put_61 : decode bM_put 61 = .ok (.iload_n 1, 1) := by decide +kernel
theorem dM_put_62 : decode bM_put 62 = .ok (.iload_n 2, 1) := by decide +kernel
theorem dM_put_63 : decode bM_put 63 = .ok (.invokevirtual 160, 3) := by decide +kernel
theorem dM_put_66 : decode bM_put 66 = .ok (.istore 6, 2) := by decide +kernel
theorem dM_put_68 : decode bM_put 68 = .ok (.aload_n 0, 1) := by decide +kernel
theorem dM_put_69 : decode bM_put 69 = .ok (.getfield 15, 3) := by decide +kernel
theorem dM_put_72 : decode bM_put 72 = .ok (.iload_n 1, 1) := by decide +kernel
theorem dM_put_73 : decode bM_put 73 = .ok (.iaload, 1) := by decide +kernel
theorem dM_put_74 : decode bM_put 74 = .ok (.istore 7, 2) := by decide +kernel
theorem dM_put_76 : decode bM_put 76 = .ok (.iload 7, 2) := by decide +kernel
theorem dM_put_78 : decode bM_put 78 = .ok (.iload 6, 2) := by decide +kernel
theorem dM_put_80 : decode bM_put 80 = .ok (.if_icmp .le 20, 3) := by decide +kernel
theorem dM_put_83 : decode bM_put 83 = .ok (.aload_n 0, 1) := by decide +kernel
theorem dM_put_84 : decode bM_put 84 = .ok (.iload_n 1, 1) := by decide +kernel
theorem dM_put_85 : decode bM_put 85 = .ok (.iload 7, 2) := by decide +kernel
theorem dM_put_87 : decode bM_put 87 = .ok (.iconst 1, 1) := by decide +kernel
theorem dM_put_88 : decode bM_put 88 = .ok (.isub, 1) := by decide +kernel
theorem dM_put_89 : decode bM_put 89 = .ok (.iload 7, 2) := by decide +kernel
theorem dM_put_91 : decode bM_put 91 = .ok (.invokevirtual 175, 3) := by decide +kernel
theorem dM_put_94 : decode bM_put 94 = .ok (.iinc 7 (-1), 3) := by decide +kernel
theorem dM_put_97 : decode bM_put 97 = .ok (.goto (-21), 3) := by decide +kernel
theorem dM_put_100 : decode bM_put 100 = .ok (.aload_n 0, 1) := by decide +kernel
theorem dM_put_101 : decode bM_put 101 = .ok (.getfield 20, 3) := by decide +kernel
theorem dM_put_104 : decode bM_put 104 = .ok (.iload_n 1, 1) := by decide +kernel
theorem dM_put_105 : decode bM_put 105 = .ok (.aaload, 1) := by decide +kernel
theorem dM_put_106 : decode bM_put 106 = .ok (.iload 6, 2) := by decide +kernel
theorem dM_put_108 : decode bM_put 108 = .ok (.iload_n 2, 1) := by decide +kernel
theorem dM_put_109 : decode bM_put 109 = .ok (.iastore, 1) := by decide +kernel
theorem dM_put_110 : decode bM_put 110 = .ok (.iconst 0, 1) := by decide +kernel
theorem dM_put_111 : decode bM_put 111 = .ok (.istore 7, 2) := by decide +kernel
theorem dM_put_113 : decode bM_put 113 = .ok (.iload 7, 2) := by decide +kernel
theorem dM_put_115 : decode bM_put 115 = .ok (.bipush 6, 2) := by decide +kernel
theorem dM_put_117 : decode bM_put 117 = .ok (.if_icmp .ge 27, 3) := by decide +kernel
theorem dM_put_120 : decode bM_put 120 = .ok (.aload_n 0, 1) := by decide +kernel
theorem dM_put_121 : decode bM_put 121 = .ok (.getfield 25, 3) := by decide +kernel
theorem dM_put_124 : decode bM_put 124 = .ok (.iload_n 1, 1) := by decide +kernel
theorem dM_put_125 : decode bM_put 125 = .ok (.aaload, 1) := by decide +kernel
theorem dM_put_126 : decode bM_put 126 = .ok (.bipush 6, 2) := by decide +kernel
theorem dM_put_128 : decode bM_put 128 = .ok (.iload 6, 2) := by decide +kernel
theorem dM_put_130 : decode bM_put 130 = .ok (.imul, 1) := by decide +kernel
theorem dM_put_131 : decode bM_put 131 = .ok (.iload 7, 2) := by decide +kernel
theorem dM_put_133 : decode bM_put 133 = .ok (.iadd, 1) := by decide +kernel
theorem dM_put_134 : decode bM_put 134 = .ok (.ldc2_w 146, 3) := by decide +kernel
theorem dM_put_137 : decode bM_put 137 = .ok (.lastore, 1) := by decide +kernel
theorem dM_put_138 : decode bM_put 138 = .ok (.iinc 7 1, 3) := by decide +kernel
theorem dM_put_141 : decode bM_put 141 = .ok (.goto (-28), 3) := by decide +kernel
theorem dM_put_144 : decode bM_put 144 = .ok (.aload_n 0, 1) := by decide +kernel
theorem dM_put_145 : decode bM_put 145 = .ok (.getfield 15, 3) := by decide +kernel
theorem dM_put_148 : decode bM_put 148 = .ok (.iload_n 1, 1) := by decide +kernel
theorem dM_put_149 : decode bM_put 149 = .ok (.dup2, 1) := by decide +kernel
theorem dM_put_150 : decode bM_put 150 = .ok (.iaload, 1) := by decide +kernel
theorem dM_put_151 : decode bM_put 151 = .ok (.iconst 1, 1) := by decide +kernel
theorem dM_put_152 : decode bM_put 152 = .ok (.iadd, 1) := by decide +kernel
theorem dM_put_153 : decode bM_put 153 = .ok (.iastore, 1) := by decide +kernel
theorem dM_put_154 : decode bM_put 154 = .ok (.aload_n 0, 1) := by decide +kernel
theorem dM_put_155 : decode bM_put 155 = .ok (.getfield 25, 3) := by decide +kernel
theorem dM_put_158 : decode bM_put 158 = .ok (.iload_n 1, 1) := by decide +kernel
theorem dM_put_159 : decode bM_put 159 = .ok (.aaload, 1) := by decide +kernel
theorem dM_put_160 : decode bM_put 160 = .ok (.bipush 6, 2) := by decide +kernel
theorem dM_put_162 : decode bM_put 162 = .ok (.iload 6, 2) := by decide +kernel
theorem dM_put_164 : decode bM_put 164 = .ok (.imul, 1) := by decide +kernel
theorem dM_put_165 : decode bM_put 165 = .ok (.iload_n 3, 1) := by decide +kernel
theorem dM_put_166 : decode bM_put 166 = .ok (.iadd, 1) := by decide +kernel
theorem dM_put_167 : decode bM_put 167 = .ok (.iload 5, 2) := by decide +kernel
theorem dM_put_169 : decode bM_put 169 = .ok (.ifCond .eq 9, 3) := by decide +kernel
theorem dM_put_172 : decode bM_put 172 = .ok (.ldc2_w 146, 3) := by decide +kernel
theorem dM_put_175 : decode bM_put 175 = .ok (.goto 6, 3) := by decide +kernel
theorem dM_put_178 : decode bM_put 178 = .ok (.iload 4, 2) := by decide +kernel
theorem dM_put_180 : decode bM_put 180 = .ok (.i2l, 1) := by decide +kernel
theorem dM_put_181 : decode bM_put 181 = .ok (.lastore, 1) := by decide +kernel
theorem dM_put_182 : decode bM_put 182 = .ok (.aload_n 0, 1) := by decide +kernel
theorem dM_put_183 : decode bM_put 183 = .ok (.iload_n 1, 1) := by decide +kernel
theorem dM_put_184 : decode bM_put 184 = .ok (.invokevirtual 169, 3) := by decide +kernel
theorem dM_put_187 : decode bM_put 187 = .ok (.ireturn, 1) := by decide +kernel
theorem dM_find_0 : decode bM_find 0 = .ok (.aload_n 0, 1) := by decide +kernel
theorem dM_find_1 : decode bM_find 1 = .ok (.iload_n 1, 1) := by decide +kernel
theorem dM_find_2 : decode bM_find 2 = .ok (.iload_n 2, 1) := by decide +kernel
theorem dM_find_3 : decode bM_find 3 = .ok (.invokevirtual 160, 3) := by decide +kernel
theorem dM_find_6 : decode bM_find 6 = .ok (.istore_n 3, 1) := by decide +kernel
theorem dM_find_7 : decode bM_find 7 = .ok (.iload_n 3, 1) := by decide +kernel
theorem dM_find_8 : decode bM_find 8 = .ok (.aload_n 0, 1) := by decide +kernel
theorem dM_find_9 : decode bM_find 9 = .ok (.getfield 15, 3) := by decide +kernel
theorem dM_find_12 : decode bM_find 12 = .ok (.iload_n 1, 1) := by decide +kernel
theorem dM_find_13 : decode bM_find 13 = .ok (.iaload, 1) := by decide +kernel
theorem dM_find_14 : decode bM_find 14 = .ok (.if_icmp .ge 19, 3) := by decide +kernel
theorem dM_find_17 : decode bM_find 17 = .ok (.aload_n 0, 1) := by decide +kernel
theorem dM_find_18 : decode bM_find 18 = .ok (.getfield 20, 3) := by decide +kernel
theorem dM_find_21 : decode bM_find 21 = .ok (.iload_n 1, 1) := by decide +kernel
theorem dM_find_22 : decode bM_find 22 = .ok (.aaload, 1) := by decide +kernel
theorem dM_find_23 : decode bM_find 23 = .ok (.iload_n 3, 1) := by decide +kernel
theorem dM_find_24 : decode bM_find 24 = .ok (.iaload, 1) := by decide +kernel
theorem dM_find_25 : decode bM_find 25 = .ok (.iload_n 2, 1) := by decide +kernel
theorem dM_find_26 : decode bM_find 26 = .ok (.if_icmp .ne 7, 3) := by decide +kernel
theorem dM_find_29 : decode bM_find 29 = .ok (.iload_n 3, 1) := by decide +kernel
theorem dM_find_30 : decode bM_find 30 = .ok (.goto 4, 3) := by decide +kernel
theorem dM_find_33 : decode bM_find 33 = .ok (.iconst (-1), 1) := by decide +kernel
theorem dM_find_34 : decode bM_find 34 = .ok (.ireturn, 1) := by decide +kernel
theorem dM_placeOf_0 : decode bM_placeOf 0 = .ok (.iconst 0, 1) := by decide +kernel
theorem dM_placeOf_1 : decode bM_placeOf 1 = .ok (.istore_n 3, 1) := by decide +kernel
theorem dM_placeOf_2 : decode bM_placeOf 2 = .ok (.iload_n 3, 1) := by decide +kernel
theorem dM_placeOf_3 : decode bM_placeOf 3 = .ok (.aload_n 0, 1) := by decide +kernel
theorem dM_placeOf_4 : decode bM_placeOf 4 = .ok (.getfield 15, 3) := by decide +kernel
theorem dM_placeOf_7 : decode bM_placeOf 7 = .ok (.iload_n 1, 1) := by decide +kernel
theorem dM_placeOf_8 : decode bM_placeOf 8 = .ok (.iaload, 1) := by decide +kernel
theorem dM_placeOf_9 : decode bM_placeOf 9 = .ok (.if_icmp .ge 21, 3) := by decide +kernel
theorem dM_placeOf_12 : decode bM_placeOf 12 = .ok (.aload_n 0, 1) := by decide +kernel
theorem dM_placeOf_13 : decode bM_placeOf 13 = .ok (.getfield 20, 3) := by decide +kernel
theorem dM_placeOf_16 : decode bM_placeOf 16 = .ok (.iload_n 1, 1) := by decide +kernel
theorem dM_placeOf_17 : decode bM_placeOf 17 = .ok (.aaload, 1) := by decide +kernel
theorem dM_placeOf_18 : decode bM_placeOf 18 = .ok (.iload_n 3, 1) := by decide +kernel
theorem dM_placeOf_19 : decode bM_placeOf 19 = .ok (.iaload, 1) := by decide +kernel
theorem dM_placeOf_20 : decode bM_placeOf 20 = .ok (.iload_n 2, 1) := by decide +kernel
theorem dM_placeOf_21 : decode bM_placeOf 21 = .ok (.if_icmp .ge 9, 3) := by decide +kernel
theorem dM_placeOf_24 : decode bM_placeOf 24 = .ok (.iinc 3 1, 3) := by decide +kernel
theorem dM_placeOf_27 : decode bM_placeOf 27 = .ok (.goto (-25), 3) := by decide +kernel
theorem dM_placeOf_30 : decode bM_placeOf 30 = .ok (.iload_n 3, 1) := by decide +kernel
theorem dM_placeOf_31 : decode bM_placeOf 31 = .ok (.ireturn, 1) := by decide +kernel
theorem dM_move_0 : decode bM_move 0 = .ok (.aload_n 0, 1) := by decide +kernel
theorem dM_move_1 : decode bM_move 1 = .ok (.getfield 20, 3) := by decide +kernel
theorem dM_move_4 : decode bM_move 4 = .ok (.iload_n 1, 1) := by decide +kernel
theorem dM_move_5 : decode bM_move 5 = .ok (.aaload, 1) := by decide +kernel
theorem dM_move_6 : decode bM_move 6 = .ok (.iload_n 3, 1) := by decide +kernel
theorem dM_move_7 : decode bM_move 7 = .ok (.aload_n 0, 1) := by decide +kernel
theorem dM_move_8 : decode bM_move 8 = .ok (.getfield 20, 3) := by decide +kernel
theorem dM_move_11 : decode bM_move 11 = .ok (.iload_n 1, 1) := by decide +kernel
theorem dM_move_12 : decode bM_move 12 = .ok (.aaload, 1) := by decide +kernel
theorem dM_move_13 : decode bM_move 13 = .ok (.iload_n 2, 1) := by decide +kernel
theorem dM_move_14 : decode bM_move 14 = .ok (.iaload, 1) := by decide +kernel
theorem dM_move_15 : decode bM_move 15 = .ok (.iastore, 1) := by decide +kernel
theorem dM_move_16 : decode bM_move 16 = .ok (.iconst 0, 1) := by decide +kernel
theorem dM_move_17 : decode bM_move 17 = .ok (.istore 4, 2) := by decide +kernel
theorem dM_move_19 : decode bM_move 19 = .ok (.iload 4, 2) := by decide +kernel
theorem dM_move_21 : decode bM_move 21 = .ok (.bipush 6, 2) := by decide +kernel
theorem dM_move_23 : decode bM_move 23 = .ok (.if_icmp .ge 37, 3) := by decide +kernel
theorem dM_move_26 : decode bM_move 26 = .ok (.aload_n 0, 1) := by decide +kernel
theorem dM_move_27 : decode bM_move 27 = .ok (.getfield 25, 3) := by decide +kernel
theorem dM_move_30 : decode bM_move 30 = .ok (.iload_n 1, 1) := by decide +kernel
theorem dM_move_31 : decode bM_move 31 = .ok (.aaload, 1) := by decide +kernel
theorem dM_move_32 : decode bM_move 32 = .ok (.bipush 6, 2) := by decide +kernel
theorem dM_move_34 : decode bM_move 34 = .ok (.iload_n 3, 1) := by decide +kernel
theorem dM_move_35 : decode bM_move 35 = .ok (.imul, 1) := by decide +kernel
theorem dM_move_36 : decode bM_move 36 = .ok (.iload 4, 2) := by decide +kernel
theorem dM_move_38 : decode bM_move 38 = .ok (.iadd, 1) := by decide +kernel
theorem dM_move_39 : decode bM_move 39 = .ok (.aload_n 0, 1) := by decide +kernel
theorem dM_move_40 : decode bM_move 40 = .ok (.getfield 25, 3) := by decide +kernel
theorem dM_move_43 : decode bM_move 43 = .ok (.iload_n 1, 1) := by decide +kernel
theorem dM_move_44 : decode bM_move 44 = .ok (.aaload, 1) := by decide +kernel
theorem dM_move_45 : decode bM_move 45 = .ok (.bipush 6, 2) := by decide +kernel
theorem dM_move_47 : decode bM_move 47 = .ok (.iload_n 2, 1) := by decide +kernel
theorem dM_move_48 : decode bM_move 48 = .ok (.imul, 1) := by decide +kernel
theorem dM_move_49 : decode bM_move 49 = .ok (.iload 4, 2) := by decide +kernel
theorem dM_move_51 : decode bM_move 51 = .ok (.iadd, 1) := by decide +kernel
theorem dM_move_52 : decode bM_move 52 = .ok (.laload, 1) := by decide +kernel
theorem dM_move_53 : decode bM_move 53 = .ok (.lastore, 1) := by decide +kernel
theorem dM_move_54 : decode bM_move 54 = .ok (.iinc 4 1, 3) := by decide +kernel
theorem dM_move_57 : decode bM_move 57 = .ok (.goto (-38), 3) := by decide +kernel
theorem dM_move_60 : decode bM_move 60 = .ok (.return_, 1) := by decide +kernel
theorem dM_remove_0 : decode bM_remove 0 = .ok (.iload_n 1, 1) := by decide +kernel
theorem dM_remove_1 : decode bM_remove 1 = .ok (.iconst 0, 1) := by decide +kernel
theorem dM_remove_2 : decode bM_remove 2 = .ok (.iconst 5, 1) := by decide +kernel
theorem dM_remove_3 : decode bM_remove 3 = .ok (.invokestatic 163, 3) := by decide +kernel
theorem dM_remove_6 : decode bM_remove 6 = .ok (.ifCond .ne 5, 3) := by decide +kernel
theorem dM_remove_9 : decode bM_remove 9 = .ok (.iconst (-1), 1) := by decide +kernel
theorem dM_remove_10 : decode bM_remove 10 = .ok (.ireturn, 1) := by decide +kernel
theorem dM_remove_11 : decode bM_remove 11 = .ok (.aload_n 0, 1) := by decide +kernel
theorem dM_remove_12 : decode bM_remove 12 = .ok (.iload_n 1, 1) := by decide +kernel
theorem dM_remove_13 : decode bM_remove 13 = .ok (.iload_n 2, 1) := by decide +kernel
theorem dM_remove_14 : decode bM_remove 14 = .ok (.invokevirtual 172, 3) := by decide +kernel
theorem dM_remove_17 : decode bM_remove 17 = .ok (.istore_n 3, 1) := by decide +kernel
theorem dM_remove_18 : decode bM_remove 18 = .ok (.iload_n 3, 1) := by decide +kernel
theorem dM_remove_19 : decode bM_remove 19 = .ok (.ifCond .ge 6, 3) := by decide +kernel
theorem dM_remove_22 : decode bM_remove 22 = .ok (.bipush (-2), 2) := by decide +kernel
theorem dM_remove_24 : decode bM_remove 24 = .ok (.ireturn, 1) := by decide +kernel
theorem dM_remove_25 : decode bM_remove 25 = .ok (.aload_n 0, 1) := by decide +kernel
theorem dM_remove_26 : decode bM_remove 26 = .ok (.iload_n 1, 1) := by decide +kernel
theorem dM_remove_27 : decode bM_remove 27 = .ok (.invokevirtual 166, 3) := by decide +kernel
theorem dM_remove_30 : decode bM_remove 30 = .ok (.iload_n 3, 1) := by decide +kernel
theorem dM_remove_31 : decode bM_remove 31 = .ok (.iconst 1, 1) := by decide +kernel
theorem dM_remove_32 : decode bM_remove 32 = .ok (.iadd, 1) := by decide +kernel
theorem dM_remove_33 : decode bM_remove 33 = .ok (.istore 4, 2) := by decide +kernel
theorem dM_remove_35 : decode bM_remove 35 = .ok (.iload 4, 2) := by decide +kernel
theorem dM_remove_37 : decode bM_remove 37 = .ok (.aload_n 0, 1) := by decide +kernel
theorem dM_remove_38 : decode bM_remove 38 = .ok (.getfield 15, 3) := by decide +kernel
theorem dM_remove_41 : decode bM_remove 41 = .ok (.iload_n 1, 1) := by decide +kernel
theorem dM_remove_42 : decode bM_remove 42 = .ok (.iaload, 1) := by decide +kernel
theorem dM_remove_43 : decode bM_remove 43 = .ok (.if_icmp .ge 20, 3) := by decide +kernel
theorem dM_remove_46 : decode bM_remove 46 = .ok (.aload_n 0, 1) := by decide +kernel
theorem dM_remove_47 : decode bM_remove 47 = .ok (.iload_n 1, 1) := by decide +kernel
theorem dM_remove_48 : decode bM_remove 48 = .ok (.iload 4, 2) := by decide +kernel
theorem dM_remove_50 : decode bM_remove 50 = .ok (.iload 4, 2) := by decide +kernel
theorem dM_remove_52 : decode bM_remove 52 = .ok (.iconst 1, 1) := by decide +kernel
theorem dM_remove_53 : decode bM_remove 53 = .ok (.isub, 1) := by decide +kernel
theorem dM_remove_54 : decode bM_remove 54 = .ok (.invokevirtual 175, 3) := by decide +kernel
theorem dM_remove_57 : decode bM_remove 57 = .ok (.iinc 4 1, 3) := by decide +kernel
theorem dM_remove_60 : decode bM_remove 60 = .ok (.goto (-25), 3) := by decide +kernel
theorem dM_remove_63 : decode bM_remove 63 = .ok (.aload_n 0, 1) := by decide +kernel
theorem dM_remove_64 : decode bM_remove 64 = .ok (.getfield 15, 3) := by decide +kernel
theorem dM_remove_67 : decode bM_remove 67 = .ok (.iload_n 1, 1) := by decide +kernel
theorem dM_remove_68 : decode bM_remove 68 = .ok (.dup2, 1) := by decide +kernel
theorem dM_remove_69 : decode bM_remove 69 = .ok (.iaload, 1) := by decide +kernel
theorem dM_remove_70 : decode bM_remove 70 = .ok (.iconst 1, 1) := by decide +kernel
theorem dM_remove_71 : decode bM_remove 71 = .ok (.isub, 1) := by decide +kernel
theorem dM_remove_72 : decode bM_remove 72 = .ok (.iastore, 1) := by decide +kernel
theorem dM_remove_73 : decode bM_remove 73 = .ok (.aload_n 0, 1) := by decide +kernel
theorem dM_remove_74 : decode bM_remove 74 = .ok (.iload_n 1, 1) := by decide +kernel
theorem dM_remove_75 : decode bM_remove 75 = .ok (.invokevirtual 169, 3) := by decide +kernel
theorem dM_remove_78 : decode bM_remove 78 = .ok (.ireturn, 1) := by decide +kernel
theorem dM_copy_0 : decode bM_copy 0 = .ok (.iload_n 1, 1) := by decide +kernel
theorem dM_copy_1 : decode bM_copy 1 = .ok (.iconst 0, 1) := by decide +kernel
theorem dM_copy_2 : decode bM_copy 2 = .ok (.iconst 5, 1) := by decide +kernel
theorem dM_copy_3 : decode bM_copy 3 = .ok (.invokestatic 163, 3) := by decide +kernel
theorem dM_copy_6 : decode bM_copy 6 = .ok (.ifCond .eq 12, 3) := by decide +kernel
theorem dM_copy_9 : decode bM_copy 9 = .ok (.iload_n 2, 1) := by decide +kernel
theorem dM_copy_10 : decode bM_copy 10 = .ok (.iconst 0, 1) := by decide +kernel
theorem dM_copy_11 : decode bM_copy 11 = .ok (.iconst 5, 1) := by decide +kernel
theorem dM_copy_12 : decode bM_copy 12 = .ok (.invokestatic 163, 3) := by decide +kernel
theorem dM_copy_15 : decode bM_copy 15 = .ok (.ifCond .ne 5, 3) := by decide +kernel
theorem dM_copy_18 : decode bM_copy 18 = .ok (.iconst (-1), 1) := by decide +kernel
theorem dM_copy_19 : decode bM_copy 19 = .ok (.ireturn, 1) := by decide +kernel
theorem dM_copy_20 : decode bM_copy 20 = .ok (.aload_n 0, 1) := by decide +kernel
theorem dM_copy_21 : decode bM_copy 21 = .ok (.getfield 11, 3) := by decide +kernel
theorem dM_copy_24 : decode bM_copy 24 = .ok (.iload_n 1, 1) := by decide +kernel
theorem dM_copy_25 : decode bM_copy 25 = .ok (.aload_n 0, 1) := by decide +kernel
theorem dM_copy_26 : decode bM_copy 26 = .ok (.getfield 11, 3) := by decide +kernel
theorem dM_copy_29 : decode bM_copy 29 = .ok (.iload_n 2, 1) := by decide +kernel
theorem dM_copy_30 : decode bM_copy 30 = .ok (.iaload, 1) := by decide +kernel
theorem dM_copy_31 : decode bM_copy 31 = .ok (.iastore, 1) := by decide +kernel
theorem dM_copy_32 : decode bM_copy 32 = .ok (.aload_n 0, 1) := by decide +kernel
theorem dM_copy_33 : decode bM_copy 33 = .ok (.getfield 15, 3) := by decide +kernel
theorem dM_copy_36 : decode bM_copy 36 = .ok (.iload_n 1, 1) := by decide +kernel
theorem dM_copy_37 : decode bM_copy 37 = .ok (.aload_n 0, 1) := by decide +kernel
theorem dM_copy_38 : decode bM_copy 38 = .ok (.getfield 15, 3) := by decide +kernel
theorem dM_copy_41 : decode bM_copy 41 = .ok (.iload_n 2, 1) := by decide +kernel
theorem dM_copy_42 : decode bM_copy 42 = .ok (.iaload, 1) := by decide +kernel
theorem dM_copy_43 : decode bM_copy 43 = .ok (.iastore, 1) := by decide +kernel
theorem dM_copy_44 : decode bM_copy 44 = .ok (.aload_n 0, 1) := by decide +kernel
theorem dM_copy_45 : decode bM_copy 45 = .ok (.getfield 20, 3) := by decide +kernel
theorem dM_copy_48 : decode bM_copy 48 = .ok (.iload_n 2, 1) := by decide +kernel
theorem dM_copy_49 : decode bM_copy 49 = .ok (.aaload, 1) := by decide +kernel
theorem dM_copy_50 : decode bM_copy 50 = .ok (.iconst 0, 1) := by decide +kernel
theorem dM_copy_51 : decode bM_copy 51 = .ok (.aload_n 0, 1) := by decide +kernel
theorem dM_copy_52 : decode bM_copy 52 = .ok (.getfield 20, 3) := by decide +kernel
theorem dM_copy_55 : decode bM_copy 55 = .ok (.iload_n 1, 1) := by decide +kernel
theorem dM_copy_56 : decode bM_copy 56 = .ok (.aaload, 1) := by decide +kernel
theorem dM_copy_57 : decode bM_copy 57 = .ok (.iconst 0, 1) := by decide +kernel
theorem dM_copy_58 : decode bM_copy 58 = .ok (.aload_n 0, 1) := by decide +kernel
theorem dM_copy_59 : decode bM_copy 59 = .ok (.getfield 15, 3) := by decide +kernel
theorem dM_copy_62 : decode bM_copy 62 = .ok (.iload_n 1, 1) := by decide +kernel
theorem dM_copy_63 : decode bM_copy 63 = .ok (.iaload, 1) := by decide +kernel
theorem dM_copy_64 : decode bM_copy 64 = .ok (.invokestatic 108, 3) := by decide +kernel
theorem dM_copy_67 : decode bM_copy 67 = .ok (.aload_n 0, 1) := by decide +kernel
theorem dM_copy_68 : decode bM_copy 68 = .ok (.getfield 25, 3) := by decide +kernel
theorem dM_copy_71 : decode bM_copy 71 = .ok (.iload_n 2, 1) := by decide +kernel
theorem dM_copy_72 : decode bM_copy 72 = .ok (.aaload, 1) := by decide +kernel
theorem dM_copy_73 : decode bM_copy 73 = .ok (.iconst 0, 1) := by decide +kernel
theorem dM_copy_74 : decode bM_copy 74 = .ok (.aload_n 0, 1) := by decide +kernel
theorem dM_copy_75 : decode bM_copy 75 = .ok (.getfield 25, 3) := by decide +kernel
theorem dM_copy_78 : decode bM_copy 78 = .ok (.iload_n 1, 1) := by decide +kernel
theorem dM_copy_79 : decode bM_copy 79 = .ok (.aaload, 1) := by decide +kernel
theorem dM_copy_80 : decode bM_copy 80 = .ok (.iconst 0, 1) := by decide +kernel
theorem dM_copy_81 : decode bM_copy 81 = .ok (.bipush 6, 2) := by decide +kernel
theorem dM_copy_83 : decode bM_copy 83 = .ok (.aload_n 0, 1) := by decide +kernel
theorem dM_copy_84 : decode bM_copy 84 = .ok (.getfield 15, 3) := by decide +kernel
theorem dM_copy_87 : decode bM_copy 87 = .ok (.iload_n 1, 1) := by decide +kernel
theorem dM_copy_88 : decode bM_copy 88 = .ok (.iaload, 1) := by decide +kernel
theorem dM_copy_89 : decode bM_copy 89 = .ok (.imul, 1) := by decide +kernel
theorem dM_copy_90 : decode bM_copy 90 = .ok (.invokestatic 108, 3) := by decide +kernel
theorem dM_copy_93 : decode bM_copy 93 = .ok (.iconst 0, 1) := by decide +kernel
theorem dM_copy_94 : decode bM_copy 94 = .ok (.ireturn, 1) := by decide +kernel
theorem dM_get_0 : decode bM_get 0 = .ok (.iload_n 1, 1) := by decide +kernel
theorem dM_get_1 : decode bM_get 1 = .ok (.iconst 0, 1) := by decide +kernel
theorem dM_get_2 : decode bM_get 2 = .ok (.iconst 5, 1) := by decide +kernel
theorem dM_get_3 : decode bM_get 3 = .ok (.invokestatic 163, 3) := by decide +kernel
theorem dM_get_6 : decode bM_get 6 = .ok (.ifCond .eq 19, 3) := by decide +kernel
theorem dM_get_9 : decode bM_get 9 = .ok (.iload_n 3, 1) := by decide +kernel
theorem dM_get_10 : decode bM_get 10 = .ok (.iconst 0, 1) := by decide +kernel
theorem dM_get_11 : decode bM_get 11 = .ok (.aload_n 0, 1) := by decide +kernel
theorem dM_get_12 : decode bM_get 12 = .ok (.getfield 11, 3) := by decide +kernel
theorem dM_get_15 : decode bM_get 15 = .ok (.iload_n 1, 1) := by decide +kernel
theorem dM_get_16 : decode bM_get 16 = .ok (.iaload, 1) := by decide +kernel
theorem dM_get_17 : decode bM_get 17 = .ok (.iconst 1, 1) := by decide +kernel
theorem dM_get_18 : decode bM_get 18 = .ok (.isub, 1) := by decide +kernel
theorem dM_get_19 : decode bM_get 19 = .ok (.invokestatic 163, 3) := by decide +kernel
theorem dM_get_22 : decode bM_get 22 = .ok (.ifCond .ne 7, 3) := by decide +kernel
theorem dM_get_25 : decode bM_get 25 = .ok (.ldc2_w 179, 3) := by decide +kernel
theorem dM_get_28 : decode bM_get 28 = .ok (.lreturn, 1) := by decide +kernel
theorem dM_get_29 : decode bM_get 29 = .ok (.aload_n 0, 1) := by decide +kernel
theorem dM_get_30 : decode bM_get 30 = .ok (.iload_n 1, 1) := by decide +kernel
theorem dM_get_31 : decode bM_get 31 = .ok (.iload_n 2, 1) := by decide +kernel
theorem dM_get_32 : decode bM_get 32 = .ok (.invokevirtual 172, 3) := by decide +kernel
theorem dM_get_35 : decode bM_get 35 = .ok (.istore 4, 2) := by decide +kernel
theorem dM_get_37 : decode bM_get 37 = .ok (.iload 4, 2) := by decide +kernel
theorem dM_get_39 : decode bM_get 39 = .ok (.ifCond .ge 7, 3) := by decide +kernel
theorem dM_get_42 : decode bM_get 42 = .ok (.ldc2_w 181, 3) := by decide +kernel
theorem dM_get_45 : decode bM_get 45 = .ok (.lreturn, 1) := by decide +kernel
theorem dM_get_46 : decode bM_get 46 = .ok (.aload_n 0, 1) := by decide +kernel
theorem dM_get_47 : decode bM_get 47 = .ok (.getfield 25, 3) := by decide +kernel
theorem dM_get_50 : decode bM_get 50 = .ok (.iload_n 1, 1) := by decide +kernel
theorem dM_get_51 : decode bM_get 51 = .ok (.aaload, 1) := by decide +kernel
theorem dM_get_52 : decode bM_get 52 = .ok (.bipush 6, 2) := by decide +kernel
theorem dM_get_54 : decode bM_get 54 = .ok (.iload 4, 2) := by decide +kernel
theorem dM_get_56 : decode bM_get 56 = .ok (.imul, 1) := by decide +kernel
theorem dM_get_57 : decode bM_get 57 = .ok (.iload_n 3, 1) := by decide +kernel
theorem dM_get_58 : decode bM_get 58 = .ok (.iadd, 1) := by decide +kernel
theorem dM_get_59 : decode bM_get 59 = .ok (.laload, 1) := by decide +kernel
theorem dM_get_60 : decode bM_get 60 = .ok (.lstore 5, 2) := by decide +kernel
theorem dM_get_62 : decode bM_get 62 = .ok (.lload 5, 2) := by decide +kernel
theorem dM_get_64 : decode bM_get 64 = .ok (.ldc2_w 146, 3) := by decide +kernel
theorem dM_get_67 : decode bM_get 67 = .ok (.lcmp, 1) := by decide +kernel
theorem dM_get_68 : decode bM_get 68 = .ok (.ifCond .ne 9, 3) := by decide +kernel
theorem dM_get_71 : decode bM_get 71 = .ok (.ldc2_w 183, 3) := by decide +kernel
theorem dM_get_74 : decode bM_get 74 = .ok (.goto 5, 3) := by decide +kernel
theorem dM_get_77 : decode bM_get 77 = .ok (.lload 5, 2) := by decide +kernel
theorem dM_get_79 : decode bM_get 79 = .ok (.lreturn, 1) := by decide +kernel
theorem dM_measure_0 : decode bM_measure 0 = .ok (.iload_n 1, 1) := by decide +kernel
theorem dM_measure_1 : decode bM_measure 1 = .ok (.iconst 0, 1) := by decide +kernel
theorem dM_measure_2 : decode bM_measure 2 = .ok (.iconst 5, 1) := by decide +kernel
theorem dM_measure_3 : decode bM_measure 3 = .ok (.invokestatic 163, 3) := by decide +kernel
theorem dM_measure_6 : decode bM_measure 6 = .ok (.ifCond .eq 12, 3) := by decide +kernel
theorem dM_measure_9 : decode bM_measure 9 = .ok (.iload_n 2, 1) := by decide +kernel
theorem dM_measure_10 : decode bM_measure 10 = .ok (.iconst 0, 1) := by decide +kernel
theorem dM_measure_11 : decode bM_measure 11 = .ok (.iconst 3, 1) := by decide +kernel
theorem dM_measure_12 : decode bM_measure 12 = .ok (.invokestatic 163, 3) := by decide +kernel
theorem dM_measure_15 : decode bM_measure 15 = .ok (.ifCond .ne 5, 3) := by decide +kernel
theorem dM_measure_18 : decode bM_measure 18 = .ok (.iconst (-1), 1) := by decide +kernel
theorem dM_measure_19 : decode bM_measure 19 = .ok (.ireturn, 1) := by decide +kernel
theorem dM_measure_20 : decode bM_measure 20 = .ok (.aload_n 0, 1) := by decide +kernel
theorem dM_measure_21 : decode bM_measure 21 = .ok (.iload_n 1, 1) := by decide +kernel
theorem dM_measure_22 : decode bM_measure 22 = .ok (.invokevirtual 75, 3) := by decide +kernel
theorem dM_measure_25 : decode bM_measure 25 = .ok (.pop, 1) := by decide +kernel
theorem dM_measure_26 : decode bM_measure 26 = .ok (.iload_n 2, 1) := by decide +kernel
theorem dM_measure_27 : decode bM_measure 27 = .ok (.ifCond .ne 12, 3) := by decide +kernel
theorem dM_measure_30 : decode bM_measure 30 = .ok (.aload_n 0, 1) := by decide +kernel
theorem dM_measure_31 : decode bM_measure 31 = .ok (.getfield 15, 3) := by decide +kernel
theorem dM_measure_34 : decode bM_measure 34 = .ok (.iload_n 1, 1) := by decide +kernel
theorem dM_measure_35 : decode bM_measure 35 = .ok (.iaload, 1) := by decide +kernel
theorem dM_measure_36 : decode bM_measure 36 = .ok (.goto 33, 3) := by decide +kernel
theorem dM_measure_39 : decode bM_measure 39 = .ok (.iload_n 2, 1) := by decide +kernel
theorem dM_measure_40 : decode bM_measure 40 = .ok (.iconst 1, 1) := by decide +kernel
theorem dM_measure_41 : decode bM_measure 41 = .ok (.if_icmp .ne 12, 3) := by decide +kernel
theorem dM_measure_44 : decode bM_measure 44 = .ok (.aload_n 0, 1) := by decide +kernel
theorem dM_measure_45 : decode bM_measure 45 = .ok (.getfield 11, 3) := by decide +kernel
theorem dM_measure_48 : decode bM_measure 48 = .ok (.iload_n 1, 1) := by decide +kernel
theorem dM_measure_49 : decode bM_measure 49 = .ok (.iaload, 1) := by decide +kernel
theorem dM_measure_50 : decode bM_measure 50 = .ok (.goto 19, 3) := by decide +kernel
theorem dM_measure_53 : decode bM_measure 53 = .ok (.iload_n 2, 1) := by decide +kernel
theorem dM_measure_54 : decode bM_measure 54 = .ok (.iconst 2, 1) := by decide +kernel
theorem dM_measure_55 : decode bM_measure 55 = .ok (.if_icmp .ne 10, 3) := by decide +kernel
theorem dM_measure_58 : decode bM_measure 58 = .ok (.aload_n 0, 1) := by decide +kernel
theorem dM_measure_59 : decode bM_measure 59 = .ok (.getfield 117, 3) := by decide +kernel
theorem dM_measure_62 : decode bM_measure 62 = .ok (.goto 7, 3) := by decide +kernel
theorem dM_measure_65 : decode bM_measure 65 = .ok (.aload_n 0, 1) := by decide +kernel
theorem dM_measure_66 : decode bM_measure 66 = .ok (.getfield 120, 3) := by decide +kernel
theorem dM_measure_69 : decode bM_measure 69 = .ok (.ireturn, 1) := by decide +kernel
theorem dM_address_0 : decode bM_address 0 = .ok (.iload_n 1, 1) := by decide +kernel
theorem dM_address_1 : decode bM_address 1 = .ok (.iconst 0, 1) := by decide +kernel
theorem dM_address_2 : decode bM_address 2 = .ok (.iconst 5, 1) := by decide +kernel
theorem dM_address_3 : decode bM_address 3 = .ok (.invokestatic 163, 3) := by decide +kernel
theorem dM_address_6 : decode bM_address 6 = .ok (.ifCond .ne 5, 3) := by decide +kernel
theorem dM_address_9 : decode bM_address 9 = .ok (.lconst 0, 1) := by decide +kernel
theorem dM_address_10 : decode bM_address 10 = .ok (.lreturn, 1) := by decide +kernel
theorem dM_address_11 : decode bM_address 11 = .ok (.aload_n 0, 1) := by decide +kernel
theorem dM_address_12 : decode bM_address 12 = .ok (.iload_n 1, 1) := by decide +kernel
theorem dM_address_13 : decode bM_address 13 = .ok (.invokevirtual 75, 3) := by decide +kernel
theorem dM_address_16 : decode bM_address 16 = .ok (.pop, 1) := by decide +kernel
theorem dM_address_17 : decode bM_address 17 = .ok (.aload_n 0, 1) := by decide +kernel
theorem dM_address_18 : decode bM_address 18 = .ok (.aload_n 0, 1) := by decide +kernel
theorem dM_address_19 : decode bM_address 19 = .ok (.getfield 66, 3) := by decide +kernel
theorem dM_address_22 : decode bM_address 22 = .ok (.iconst 0, 1) := by decide +kernel
theorem dM_address_23 : decode bM_address 23 = .ok (.iaload, 1) := by decide +kernel
theorem dM_address_24 : decode bM_address 24 = .ok (.invokevirtual 142, 3) := by decide +kernel
theorem dM_address_27 : decode bM_address 27 = .ok (.lreturn, 1) := by decide +kernel
theorem dM_addressOf_0 : decode bM_addressOf 0 = .ok (.ldc2_w 136, 3) := by decide +kernel
theorem dM_addressOf_3 : decode bM_addressOf 3 = .ok (.aload_n 0, 1) := by decide +kernel
theorem dM_addressOf_4 : decode bM_addressOf 4 = .ok (.getfield 45, 3) := by decide +kernel
theorem dM_addressOf_7 : decode bM_addressOf 7 = .ok (.iload_n 1, 1) := by decide +kernel
theorem dM_addressOf_8 : decode bM_addressOf 8 = .ok (.iaload, 1) := by decide +kernel
theorem dM_addressOf_9 : decode bM_addressOf 9 = .ok (.i2l, 1) := by decide +kernel
theorem dM_addressOf_10 : decode bM_addressOf 10 = .ok (.invokestatic 138, 3) := by decide +kernel
theorem dM_addressOf_13 : decode bM_addressOf 13 = .ok (.lstore_n 2, 1) := by decide +kernel
theorem dM_addressOf_14 : decode bM_addressOf 14 = .ok (.aload_n 0, 1) := by decide +kernel
theorem dM_addressOf_15 : decode bM_addressOf 15 = .ok (.getfield 45, 3) := by decide +kernel
theorem dM_addressOf_18 : decode bM_addressOf 18 = .ok (.iload_n 1, 1) := by decide +kernel
theorem dM_addressOf_19 : decode bM_addressOf 19 = .ok (.iaload, 1) := by decide +kernel
theorem dM_addressOf_20 : decode bM_addressOf 20 = .ok (.ifCond .le 49, 3) := by decide +kernel
theorem dM_addressOf_23 : decode bM_addressOf 23 = .ok (.iconst 0, 1) := by decide +kernel
theorem dM_addressOf_24 : decode bM_addressOf 24 = .ok (.istore 4, 2) := by decide +kernel
theorem dM_addressOf_26 : decode bM_addressOf 26 = .ok (.iload 4, 2) := by decide +kernel
theorem dM_addressOf_28 : decode bM_addressOf 28 = .ok (.aload_n 0, 1) := by decide +kernel
theorem dM_addressOf_29 : decode bM_addressOf 29 = .ok (.getfield 51, 3) := by decide +kernel
theorem dM_addressOf_32 : decode bM_addressOf 32 = .ok (.iload_n 1, 1) := by decide +kernel
theorem dM_addressOf_33 : decode bM_addressOf 33 = .ok (.iaload, 1) := by decide +kernel
theorem dM_addressOf_34 : decode bM_addressOf 34 = .ok (.if_icmp .ge 33, 3) := by decide +kernel
theorem dM_addressOf_37 : decode bM_addressOf 37 = .ok (.lload_n 2, 1) := by decide +kernel
theorem dM_addressOf_38 : decode bM_addressOf 38 = .ok (.aload_n 0, 1) := by decide +kernel
theorem dM_addressOf_39 : decode bM_addressOf 39 = .ok (.aload_n 0, 1) := by decide +kernel
theorem dM_addressOf_40 : decode bM_addressOf 40 = .ok (.getfield 60, 3) := by decide +kernel
theorem dM_addressOf_43 : decode bM_addressOf 43 = .ok (.aload_n 0, 1) := by decide +kernel
theorem dM_addressOf_44 : decode bM_addressOf 44 = .ok (.getfield 48, 3) := by decide +kernel
theorem dM_addressOf_47 : decode bM_addressOf 47 = .ok (.iload_n 1, 1) := by decide +kernel
theorem dM_addressOf_48 : decode bM_addressOf 48 = .ok (.iaload, 1) := by decide +kernel
theorem dM_addressOf_49 : decode bM_addressOf 49 = .ok (.iload 4, 2) := by decide +kernel
theorem dM_addressOf_51 : decode bM_addressOf 51 = .ok (.iadd, 1) := by decide +kernel
theorem dM_addressOf_52 : decode bM_addressOf 52 = .ok (.laload, 1) := by decide +kernel
theorem dM_addressOf_53 : decode bM_addressOf 53 = .ok (.l2i, 1) := by decide +kernel
theorem dM_addressOf_54 : decode bM_addressOf 54 = .ok (.invokevirtual 142, 3) := by decide +kernel
theorem dM_addressOf_57 : decode bM_addressOf 57 = .ok (.invokestatic 138, 3) := by decide +kernel
theorem dM_addressOf_60 : decode bM_addressOf 60 = .ok (.lstore_n 2, 1) := by decide +kernel
theorem dM_addressOf_61 : decode bM_addressOf 61 = .ok (.iinc 4 1, 3) := by decide +kernel
theorem dM_addressOf_64 : decode bM_addressOf 64 = .ok (.goto (-38), 3) := by decide +kernel
theorem dM_addressOf_67 : decode bM_addressOf 67 = .ok (.lload_n 2, 1) := by decide +kernel
theorem dM_addressOf_68 : decode bM_addressOf 68 = .ok (.lreturn, 1) := by decide +kernel
theorem dM_addressOf_69 : decode bM_addressOf 69 = .ok (.iconst 0, 1) := by decide +kernel
theorem dM_addressOf_70 : decode bM_addressOf 70 = .ok (.istore 4, 2) := by decide +kernel
theorem dM_addressOf_72 : decode bM_addressOf 72 = .ok (.iload 4, 2) := by decide +kernel
theorem dM_addressOf_74 : decode bM_addressOf 74 = .ok (.aload_n 0, 1) := by decide +kernel
theorem dM_addressOf_75 : decode bM_addressOf 75 = .ok (.getfield 51, 3) := by decide +kernel
theorem dM_addressOf_78 : decode bM_addressOf 78 = .ok (.iload_n 1, 1) := by decide +kernel
theorem dM_addressOf_79 : decode bM_addressOf 79 = .ok (.iaload, 1) := by decide +kernel
theorem dM_addressOf_80 : decode bM_addressOf 80 = .ok (.if_icmp .ge 112, 3) := by decide +kernel
theorem dM_addressOf_83 : decode bM_addressOf 83 = .ok (.lload_n 2, 1) := by decide +kernel
theorem dM_addressOf_84 : decode bM_addressOf 84 = .ok (.aload_n 0, 1) := by decide +kernel
theorem dM_addressOf_85 : decode bM_addressOf 85 = .ok (.getfield 60, 3) := by decide +kernel
theorem dM_addressOf_88 : decode bM_addressOf 88 = .ok (.aload_n 0, 1) := by decide +kernel
theorem dM_addressOf_89 : decode bM_addressOf 89 = .ok (.getfield 48, 3) := by decide +kernel
theorem dM_addressOf_92 : decode bM_addressOf 92 = .ok (.iload_n 1, 1) := by decide +kernel
theorem dM_addressOf_93 : decode bM_addressOf 93 = .ok (.iaload, 1) := by decide +kernel
theorem dM_addressOf_94 : decode bM_addressOf 94 = .ok (.iload 4, 2) := by decide +kernel
theorem dM_addressOf_96 : decode bM_addressOf 96 = .ok (.iadd, 1) := by decide +kernel
theorem dM_addressOf_97 : decode bM_addressOf 97 = .ok (.laload, 1) := by decide +kernel
theorem dM_addressOf_98 : decode bM_addressOf 98 = .ok (.invokestatic 138, 3) := by decide +kernel
theorem dM_addressOf_101 : decode bM_addressOf 101 = .ok (.lstore_n 2, 1) := by decide +kernel
theorem dM_addressOf_102 : decode bM_addressOf 102 = .ok (.iconst 1, 1) := by decide +kernel
theorem dM_addressOf_103 : decode bM_addressOf 103 = .ok (.istore 5, 2) := by decide +kernel
theorem dM_addressOf_105 : decode bM_addressOf 105 = .ok (.iload 5, 2) := by decide +kernel
theorem dM_addressOf_107 : decode bM_addressOf 107 = .ok (.aload_n 0, 1) := by decide +kernel
theorem dM_addressOf_108 : decode bM_addressOf 108 = .ok (.getfield 54, 3) := by decide +kernel
theorem dM_addressOf_111 : decode bM_addressOf 111 = .ok (.iload_n 1, 1) := by decide +kernel
theorem dM_addressOf_112 : decode bM_addressOf 112 = .ok (.iaload, 1) := by decide +kernel
theorem dM_addressOf_113 : decode bM_addressOf 113 = .ok (.if_icmp .gt 63, 3) := by decide +kernel
theorem dM_addressOf_116 : decode bM_addressOf 116 = .ok (.aload_n 0, 1) := by decide +kernel
theorem dM_addressOf_117 : decode bM_addressOf 117 = .ok (.getfield 60, 3) := by decide +kernel
theorem dM_addressOf_120 : decode bM_addressOf 120 = .ok (.aload_n 0, 1) := by decide +kernel
theorem dM_addressOf_121 : decode bM_addressOf 121 = .ok (.getfield 48, 3) := by decide +kernel
theorem dM_addressOf_124 : decode bM_addressOf 124 = .ok (.iload_n 1, 1) := by decide +kernel
theorem dM_addressOf_125 : decode bM_addressOf 125 = .ok (.iaload, 1) := by decide +kernel
theorem dM_addressOf_126 : decode bM_addressOf 126 = .ok (.iload 4, 2) := by decide +kernel
theorem dM_addressOf_128 : decode bM_addressOf 128 = .ok (.iadd, 1) := by decide +kernel
theorem dM_addressOf_129 : decode bM_addressOf 129 = .ok (.iload 5, 2) := by decide +kernel
theorem dM_addressOf_131 : decode bM_addressOf 131 = .ok (.iadd, 1) := by decide +kernel
theorem dM_addressOf_132 : decode bM_addressOf 132 = .ok (.laload, 1) := by decide +kernel
theorem dM_addressOf_133 : decode bM_addressOf 133 = .ok (.lstore 6, 2) := by decide +kernel
theorem dM_addressOf_135 : decode bM_addressOf 135 = .ok (.lload_n 2, 1) := by decide +kernel
theorem dM_addressOf_136 : decode bM_addressOf 136 = .ok (.lload 6, 2) := by decide +kernel
theorem dM_addressOf_138 : decode bM_addressOf 138 = .ok (.ldc2_w 146, 3) := by decide +kernel
theorem dM_addressOf_141 : decode bM_addressOf 141 = .ok (.lcmp, 1) := by decide +kernel
theorem dM_addressOf_142 : decode bM_addressOf 142 = .ok (.ifCond .ne 7, 3) := by decide +kernel
theorem dM_addressOf_145 : decode bM_addressOf 145 = .ok (.lconst 0, 1) := by decide +kernel
theorem dM_addressOf_146 : decode bM_addressOf 146 = .ok (.goto 4, 3) := by decide +kernel
theorem dM_addressOf_149 : decode bM_addressOf 149 = .ok (.lconst 1, 1) := by decide +kernel
theorem dM_addressOf_150 : decode bM_addressOf 150 = .ok (.invokestatic 138, 3) := by decide +kernel
theorem dM_addressOf_153 : decode bM_addressOf 153 = .ok (.lstore_n 2, 1) := by decide +kernel
theorem dM_addressOf_154 : decode bM_addressOf 154 = .ok (.lload 6, 2) := by decide +kernel
theorem dM_addressOf_156 : decode bM_addressOf 156 = .ok (.ldc2_w 146, 3) := by decide +kernel
theorem dM_addressOf_159 : decode bM_addressOf 159 = .ok (.lcmp, 1) := by decide +kernel
theorem dM_addressOf_160 : decode bM_addressOf 160 = .ok (.ifCond .eq 10, 3) := by decide +kernel
theorem dM_addressOf_163 : decode bM_addressOf 163 = .ok (.lload_n 2, 1) := by decide +kernel
theorem dM_addressOf_164 : decode bM_addressOf 164 = .ok (.lload 6, 2) := by decide +kernel
theorem dM_addressOf_166 : decode bM_addressOf 166 = .ok (.invokestatic 138, 3) := by decide +kernel
theorem dM_addressOf_169 : decode bM_addressOf 169 = .ok (.lstore_n 2, 1) := by decide +kernel
theorem dM_addressOf_170 : decode bM_addressOf 170 = .ok (.iinc 5 1, 3) := by decide +kernel
theorem dM_addressOf_173 : decode bM_addressOf 173 = .ok (.goto (-68), 3) := by decide +kernel
theorem dM_addressOf_176 : decode bM_addressOf 176 = .ok (.iload 4, 2) := by decide +kernel
theorem dM_addressOf_178 : decode bM_addressOf 178 = .ok (.iconst 1, 1) := by decide +kernel
theorem dM_addressOf_179 : decode bM_addressOf 179 = .ok (.aload_n 0, 1) := by decide +kernel
theorem dM_addressOf_180 : decode bM_addressOf 180 = .ok (.getfield 54, 3) := by decide +kernel
theorem dM_addressOf_183 : decode bM_addressOf 183 = .ok (.iload_n 1, 1) := by decide +kernel
theorem dM_addressOf_184 : decode bM_addressOf 184 = .ok (.iaload, 1) := by decide +kernel
theorem dM_addressOf_185 : decode bM_addressOf 185 = .ok (.iadd, 1) := by decide +kernel
theorem dM_addressOf_186 : decode bM_addressOf 186 = .ok (.iadd, 1) := by decide +kernel
theorem dM_addressOf_187 : decode bM_addressOf 187 = .ok (.istore 4, 2) := by decide +kernel
theorem dM_addressOf_189 : decode bM_addressOf 189 = .ok (.goto (-117), 3) := by decide +kernel
theorem dM_addressOf_192 : decode bM_addressOf 192 = .ok (.lload_n 2, 1) := by decide +kernel
theorem dM_addressOf_193 : decode bM_addressOf 193 = .ok (.lreturn, 1) := by decide +kernel
theorem dM_step_0 : decode bM_step 0 = .ok (.lload_n 0, 1) := by decide +kernel
theorem dM_step_1 : decode bM_step 1 = .ok (.lload_n 2, 1) := by decide +kernel
theorem dM_step_2 : decode bM_step 2 = .ok (.lxor, 1) := by decide +kernel
theorem dM_step_3 : decode bM_step 3 = .ok (.ldc2_w 148, 3) := by decide +kernel
theorem dM_step_6 : decode bM_step 6 = .ok (.lmul, 1) := by decide +kernel
theorem dM_step_7 : decode bM_step 7 = .ok (.lreturn, 1) := by decide +kernel
theorem dM_row_0 : decode bM_row 0 = .ok (.iload_n 1, 1) := by decide +kernel
theorem dM_row_1 : decode bM_row 1 = .ok (.iconst 0, 1) := by decide +kernel
theorem dM_row_2 : decode bM_row 2 = .ok (.iconst 5, 1) := by decide +kernel
theorem dM_row_3 : decode bM_row 3 = .ok (.invokestatic 163, 3) := by decide +kernel
theorem dM_row_6 : decode bM_row 6 = .ok (.ifCond .eq 31, 3) := by decide +kernel
theorem dM_row_9 : decode bM_row 9 = .ok (.iload_n 2, 1) := by decide +kernel
theorem dM_row_10 : decode bM_row 10 = .ok (.iconst 0, 1) := by decide +kernel
theorem dM_row_11 : decode bM_row 11 = .ok (.aload_n 0, 1) := by decide +kernel
theorem dM_row_12 : decode bM_row 12 = .ok (.getfield 15, 3) := by decide +kernel
theorem dM_row_15 : decode bM_row 15 = .ok (.iload_n 1, 1) := by decide +kernel
theorem dM_row_16 : decode bM_row 16 = .ok (.iaload, 1) := by decide +kernel
theorem dM_row_17 : decode bM_row 17 = .ok (.iconst 1, 1) := by decide +kernel
theorem dM_row_18 : decode bM_row 18 = .ok (.isub, 1) := by decide +kernel
theorem dM_row_19 : decode bM_row 19 = .ok (.invokestatic 163, 3) := by decide +kernel
theorem dM_row_22 : decode bM_row 22 = .ok (.ifCond .eq 15, 3) := by decide +kernel
theorem dM_row_25 : decode bM_row 25 = .ok (.aload_n 0, 1) := by decide +kernel
theorem dM_row_26 : decode bM_row 26 = .ok (.getfield 20, 3) := by decide +kernel
theorem dM_row_29 : decode bM_row 29 = .ok (.iload_n 1, 1) := by decide +kernel
theorem dM_row_30 : decode bM_row 30 = .ok (.aaload, 1) := by decide +kernel
theorem dM_row_31 : decode bM_row 31 = .ok (.iload_n 2, 1) := by decide +kernel
theorem dM_row_32 : decode bM_row 32 = .ok (.iaload, 1) := by decide +kernel
theorem dM_row_33 : decode bM_row 33 = .ok (.i2l, 1) := by decide +kernel
theorem dM_row_34 : decode bM_row 34 = .ok (.goto 6, 3) := by decide +kernel
theorem dM_row_37 : decode bM_row 37 = .ok (.ldc2_w 183, 3) := by decide +kernel
theorem dM_row_40 : decode bM_row 40 = .ok (.lreturn, 1) := by decide +kernel
theorem dM_compare_0 : decode bM_compare 0 = .ok (.iload_n 1, 1) := by decide +kernel
theorem dM_compare_1 : decode bM_compare 1 = .ok (.iconst 0, 1) := by decide +kernel
theorem dM_compare_2 : decode bM_compare 2 = .ok (.iconst 5, 1) := by decide +kernel
theorem dM_compare_3 : decode bM_compare 3 = .ok (.invokestatic 163, 3) := by decide +kernel
theorem dM_compare_6 : decode bM_compare 6 = .ok (.ifCond .eq 27, 3) := by decide +kernel
theorem dM_compare_9 : decode bM_compare 9 = .ok (.iload_n 2, 1) := by decide +kernel
theorem dM_compare_10 : decode bM_compare 10 = .ok (.iconst 0, 1) := by decide +kernel
theorem dM_compare_11 : decode bM_compare 11 = .ok (.iconst 5, 1) := by decide +kernel
theorem dM_compare_12 : decode bM_compare 12 = .ok (.invokestatic 163, 3) := by decide +kernel
theorem dM_compare_15 : decode bM_compare 15 = .ok (.ifCond .eq 18, 3) := by decide +kernel
theorem dM_compare_18 : decode bM_compare 18 = .ok (.aload_n 0, 1) := by decide +kernel
theorem dM_compare_19 : decode bM_compare 19 = .ok (.getfield 11, 3) := by decide +kernel
theorem dM_compare_22 : decode bM_compare 22 = .ok (.iload_n 1, 1) := by decide +kernel
theorem dM_compare_23 : decode bM_compare 23 = .ok (.iaload, 1) := by decide +kernel
theorem dM_compare_24 : decode bM_compare 24 = .ok (.aload_n 0, 1) := by decide +kernel
theorem dM_compare_25 : decode bM_compare 25 = .ok (.getfield 11, 3) := by decide +kernel
theorem dM_compare_28 : decode bM_compare 28 = .ok (.iload_n 2, 1) := by decide +kernel
theorem dM_compare_29 : decode bM_compare 29 = .ok (.iaload, 1) := by decide +kernel
theorem dM_compare_30 : decode bM_compare 30 = .ok (.if_icmp .eq 5, 3) := by decide +kernel
theorem dM_compare_33 : decode bM_compare 33 = .ok (.iconst (-1), 1) := by decide +kernel
theorem dM_compare_34 : decode bM_compare 34 = .ok (.ireturn, 1) := by decide +kernel
theorem dM_compare_35 : decode bM_compare 35 = .ok (.iconst 0, 1) := by decide +kernel
theorem dM_compare_36 : decode bM_compare 36 = .ok (.istore_n 3, 1) := by decide +kernel
theorem dM_compare_37 : decode bM_compare 37 = .ok (.iconst 0, 1) := by decide +kernel
theorem dM_compare_38 : decode bM_compare 38 = .ok (.istore 4, 2) := by decide +kernel
theorem dM_compare_40 : decode bM_compare 40 = .ok (.iconst 0, 1) := by decide +kernel
theorem dM_compare_41 : decode bM_compare 41 = .ok (.istore 5, 2) := by decide +kernel
theorem dM_compare_43 : decode bM_compare 43 = .ok (.iload_n 3, 1) := by decide +kernel
theorem dM_compare_44 : decode bM_compare 44 = .ok (.aload_n 0, 1) := by decide +kernel
theorem dM_compare_45 : decode bM_compare 45 = .ok (.getfield 15, 3) := by decide +kernel
theorem dM_compare_48 : decode bM_compare 48 = .ok (.iload_n 1, 1) := by decide +kernel
theorem dM_compare_49 : decode bM_compare 49 = .ok (.iaload, 1) := by decide +kernel
theorem dM_compare_50 : decode bM_compare 50 = .ok (.if_icmp .lt 14, 3) := by decide +kernel
theorem dM_compare_53 : decode bM_compare 53 = .ok (.iload 4, 2) := by decide +kernel
theorem dM_compare_55 : decode bM_compare 55 = .ok (.aload_n 0, 1) := by decide +kernel
theorem dM_compare_56 : decode bM_compare 56 = .ok (.getfield 15, 3) := by decide +kernel
theorem dM_compare_59 : decode bM_compare 59 = .ok (.iload_n 2, 1) := by decide +kernel
theorem dM_compare_60 : decode bM_compare 60 = .ok (.iaload, 1) := by decide +kernel
theorem dM_compare_61 : decode bM_compare 61 = .ok (.if_icmp .ge 283, 3) := by decide +kernel
theorem dM_compare_64 : decode bM_compare 64 = .ok (.iload_n 3, 1) := by decide +kernel
theorem dM_compare_65 : decode bM_compare 65 = .ok (.aload_n 0, 1) := by decide +kernel
theorem dM_compare_66 : decode bM_compare 66 = .ok (.getfield 15, 3) := by decide +kernel
theorem dM_compare_69 : decode bM_compare 69 = .ok (.iload_n 1, 1) := by decide +kernel
theorem dM_compare_70 : decode bM_compare 70 = .ok (.iaload, 1) := by decide +kernel
theorem dM_compare_71 : decode bM_compare 71 = .ok (.if_icmp .ge 38, 3) := by decide +kernel
theorem dM_compare_74 : decode bM_compare 74 = .ok (.iload 4, 2) := by decide +kernel
theorem dM_compare_76 : decode bM_compare 76 = .ok (.aload_n 0, 1) := by decide +kernel
theorem dM_compare_77 : decode bM_compare 77 = .ok (.getfield 15, 3) := by decide +kernel
theorem dM_compare_80 : decode bM_compare 80 = .ok (.iload_n 2, 1) := by decide +kernel
theorem dM_compare_81 : decode bM_compare 81 = .ok (.iaload, 1) := by decide +kernel
theorem dM_compare_82 : decode bM_compare 82 = .ok (.if_icmp .eq 23, 3) := by decide +kernel
theorem dM_compare_85 : decode bM_compare 85 = .ok (.aload_n 0, 1) := by decide +kernel
theorem dM_compare_86 : decode bM_compare 86 = .ok (.getfield 20, 3) := by decide +kernel
theorem dM_compare_89 : decode bM_compare 89 = .ok (.iload_n 1, 1) := by decide +kernel
theorem dM_compare_90 : decode bM_compare 90 = .ok (.aaload, 1) := by decide +kernel
theorem dM_compare_91 : decode bM_compare 91 = .ok (.iload_n 3, 1) := by decide +kernel
theorem dM_compare_92 : decode bM_compare 92 = .ok (.iaload, 1) := by decide +kernel
theorem dM_compare_93 : decode bM_compare 93 = .ok (.aload_n 0, 1) := by decide +kernel
theorem dM_compare_94 : decode bM_compare 94 = .ok (.getfield 20, 3) := by decide +kernel
theorem dM_compare_97 : decode bM_compare 97 = .ok (.iload_n 2, 1) := by decide +kernel
theorem dM_compare_98 : decode bM_compare 98 = .ok (.aaload, 1) := by decide +kernel
theorem dM_compare_99 : decode bM_compare 99 = .ok (.iload 4, 2) := by decide +kernel
theorem dM_compare_101 : decode bM_compare 101 = .ok (.iaload, 1) := by decide +kernel
theorem dM_compare_102 : decode bM_compare 102 = .ok (.if_icmp .gt 7, 3) := by decide +kernel
theorem dM_compare_105 : decode bM_compare 105 = .ok (.iconst 1, 1) := by decide +kernel
theorem dM_compare_106 : decode bM_compare 106 = .ok (.goto 4, 3) := by decide +kernel
theorem dM_compare_109 : decode bM_compare 109 = .ok (.iconst 0, 1) := by decide +kernel
theorem dM_compare_110 : decode bM_compare 110 = .ok (.istore 6, 2) := by decide +kernel
theorem dM_compare_112 : decode bM_compare 112 = .ok (.iload 4, 2) := by decide +kernel
theorem dM_compare_114 : decode bM_compare 114 = .ok (.aload_n 0, 1) := by decide +kernel
theorem dM_compare_115 : decode bM_compare 115 = .ok (.getfield 15, 3) := by decide +kernel
theorem dM_compare_118 : decode bM_compare 118 = .ok (.iload_n 2, 1) := by decide +kernel
theorem dM_compare_119 : decode bM_compare 119 = .ok (.iaload, 1) := by decide +kernel
theorem dM_compare_120 : decode bM_compare 120 = .ok (.if_icmp .ge 37, 3) := by decide +kernel
theorem dM_compare_123 : decode bM_compare 123 = .ok (.iload_n 3, 1) := by decide +kernel
theorem dM_compare_124 : decode bM_compare 124 = .ok (.aload_n 0, 1) := by decide +kernel
theorem dM_compare_125 : decode bM_compare 125 = .ok (.getfield 15, 3) := by decide +kernel
theorem dM_compare_128 : decode bM_compare 128 = .ok (.iload_n 1, 1) := by decide +kernel
theorem dM_compare_129 : decode bM_compare 129 = .ok (.iaload, 1) := by decide +kernel
theorem dM_compare_130 : decode bM_compare 130 = .ok (.if_icmp .eq 23, 3) := by decide +kernel
theorem dM_compare_133 : decode bM_compare 133 = .ok (.aload_n 0, 1) := by decide +kernel
theorem dM_compare_134 : decode bM_compare 134 = .ok (.getfield 20, 3) := by decide +kernel
theorem dM_compare_137 : decode bM_compare 137 = .ok (.iload_n 2, 1) := by decide +kernel
theorem dM_compare_138 : decode bM_compare 138 = .ok (.aaload, 1) := by decide +kernel
theorem dM_compare_139 : decode bM_compare 139 = .ok (.iload 4, 2) := by decide +kernel
theorem dM_compare_141 : decode bM_compare 141 = .ok (.iaload, 1) := by decide +kernel
theorem dM_compare_142 : decode bM_compare 142 = .ok (.aload_n 0, 1) := by decide +kernel
theorem dM_compare_143 : decode bM_compare 143 = .ok (.getfield 20, 3) := by decide +kernel
theorem dM_compare_146 : decode bM_compare 146 = .ok (.iload_n 1, 1) := by decide +kernel
theorem dM_compare_147 : decode bM_compare 147 = .ok (.aaload, 1) := by decide +kernel
theorem dM_compare_148 : decode bM_compare 148 = .ok (.iload_n 3, 1) := by decide +kernel
theorem dM_compare_149 : decode bM_compare 149 = .ok (.iaload, 1) := by decide +kernel
theorem dM_compare_150 : decode bM_compare 150 = .ok (.if_icmp .gt 7, 3) := by decide +kernel
theorem dM_compare_153 : decode bM_compare 153 = .ok (.iconst 1, 1) := by decide +kernel
theorem dM_compare_154 : decode bM_compare 154 = .ok (.goto 4, 3) := by decide +kernel
theorem dM_compare_157 : decode bM_compare 157 = .ok (.iconst 0, 1) := by decide +kernel
theorem dM_compare_158 : decode bM_compare 158 = .ok (.istore 7, 2) := by decide +kernel
theorem dM_compare_160 : decode bM_compare 160 = .ok (.iconst 0, 1) := by decide +kernel
theorem dM_compare_161 : decode bM_compare 161 = .ok (.istore 8, 2) := by decide +kernel
theorem dM_compare_163 : decode bM_compare 163 = .ok (.iconst 0, 1) := by decide +kernel
theorem dM_compare_164 : decode bM_compare 164 = .ok (.istore 9, 2) := by decide +kernel
theorem dM_compare_166 : decode bM_compare 166 = .ok (.iload 9, 2) := by decide +kernel
theorem dM_compare_168 : decode bM_compare 168 = .ok (.aload_n 0, 1) := by decide +kernel
theorem dM_compare_169 : decode bM_compare 169 = .ok (.getfield 11, 3) := by decide +kernel
theorem dM_compare_172 : decode bM_compare 172 = .ok (.iload_n 1, 1) := by decide +kernel
theorem dM_compare_173 : decode bM_compare 173 = .ok (.iaload, 1) := by decide +kernel
theorem dM_compare_174 : decode bM_compare 174 = .ok (.if_icmp .ge 61, 3) := by decide +kernel
theorem dM_compare_177 : decode bM_compare 177 = .ok (.iload 6, 2) := by decide +kernel
theorem dM_compare_179 : decode bM_compare 179 = .ok (.ifCond .eq 56, 3) := by decide +kernel
theorem dM_compare_182 : decode bM_compare 182 = .ok (.iload 7, 2) := by decide +kernel
theorem dM_compare_184 : decode bM_compare 184 = .ok (.ifCond .eq 51, 3) := by decide +kernel
theorem dM_compare_187 : decode bM_compare 187 = .ok (.aload_n 0, 1) := by decide +kernel
theorem dM_compare_188 : decode bM_compare 188 = .ok (.getfield 25, 3) := by decide +kernel
theorem dM_compare_191 : decode bM_compare 191 = .ok (.iload_n 1, 1) := by decide +kernel
theorem dM_compare_192 : decode bM_compare 192 = .ok (.aaload, 1) := by decide +kernel
theorem dM_compare_193 : decode bM_compare 193 = .ok (.bipush 6, 2) := by decide +kernel
theorem dM_compare_195 : decode bM_compare 195 = .ok (.iload_n 3, 1) := by decide +kernel
theorem dM_compare_196 : decode bM_compare 196 = .ok (.imul, 1) := by decide +kernel
theorem dM_compare_197 : decode bM_compare 197 = .ok (.iload 9, 2) := by decide +kernel
theorem dM_compare_199 : decode bM_compare 199 = .ok (.iadd, 1) := by decide +kernel
theorem dM_compare_200 : decode bM_compare 200 = .ok (.laload, 1) := by decide +kernel
theorem dM_compare_201 : decode bM_compare 201 = .ok (.aload_n 0, 1) := by decide +kernel
theorem dM_compare_202 : decode bM_compare 202 = .ok (.getfield 25, 3) := by decide +kernel
theorem dM_compare_205 : decode bM_compare 205 = .ok (.iload_n 2, 1) := by decide +kernel
theorem dM_compare_206 : decode bM_compare 206 = .ok (.aaload, 1) := by decide +kernel
theorem dM_compare_207 : decode bM_compare 207 = .ok (.bipush 6, 2) := by decide +kernel
theorem dM_compare_209 : decode bM_compare 209 = .ok (.iload 4, 2) := by decide +kernel
theorem dM_compare_211 : decode bM_compare 211 = .ok (.imul, 1) := by decide +kernel
theorem dM_compare_212 : decode bM_compare 212 = .ok (.iload 9, 2) := by decide +kernel
theorem dM_compare_214 : decode bM_compare 214 = .ok (.iadd, 1) := by decide +kernel
theorem dM_compare_215 : decode bM_compare 215 = .ok (.laload, 1) := by decide +kernel
theorem dM_compare_216 : decode bM_compare 216 = .ok (.lcmp, 1) := by decide +kernel
theorem dM_compare_217 : decode bM_compare 217 = .ok (.ifCond .eq 12, 3) := by decide +kernel
theorem dM_compare_220 : decode bM_compare 220 = .ok (.iload 8, 2) := by decide +kernel
theorem dM_compare_222 : decode bM_compare 222 = .ok (.iconst 1, 1) := by decide +kernel
theorem dM_compare_223 : decode bM_compare 223 = .ok (.iload 9, 2) := by decide +kernel
theorem dM_compare_225 : decode bM_compare 225 = .ok (.ishl, 1) := by decide +kernel
theorem dM_compare_226 : decode bM_compare 226 = .ok (.ior, 1) := by decide +kernel
theorem dM_compare_227 : decode bM_compare 227 = .ok (.istore 8, 2) := by decide +kernel
theorem dM_compare_229 : decode bM_compare 229 = .ok (.iinc 9 1, 3) := by decide +kernel
theorem dM_compare_232 : decode bM_compare 232 = .ok (.goto (-66), 3) := by decide +kernel
theorem dM_compare_235 : decode bM_compare 235 = .ok (.iload 8, 2) := by decide +kernel
theorem dM_compare_237 : decode bM_compare 237 = .ok (.ifCond .gt 13, 3) := by decide +kernel
theorem dM_compare_240 : decode bM_compare 240 = .ok (.iload 6, 2) := by decide +kernel
theorem dM_compare_242 : decode bM_compare 242 = .ok (.ifCond .eq 8, 3) := by decide +kernel
theorem dM_compare_245 : decode bM_compare 245 = .ok (.iload 7, 2) := by decide +kernel
theorem dM_compare_247 : decode bM_compare 247 = .ok (.ifCond .ne 78, 3) := by decide +kernel
theorem dM_compare_250 : decode bM_compare 250 = .ok (.aload_n 0, 1) := by decide +kernel
theorem dM_compare_251 : decode bM_compare 251 = .ok (.getfield 35, 3) := by decide +kernel
theorem dM_compare_254 : decode bM_compare 254 = .ok (.iload 5, 2) := by decide +kernel
theorem dM_compare_256 : decode bM_compare 256 = .ok (.iload 6, 2) := by decide +kernel
theorem dM_compare_258 : decode bM_compare 258 = .ok (.ifCond .eq 14, 3) := by decide +kernel
theorem dM_compare_261 : decode bM_compare 261 = .ok (.aload_n 0, 1) := by decide +kernel
theorem dM_compare_262 : decode bM_compare 262 = .ok (.getfield 20, 3) := by decide +kernel
theorem dM_compare_265 : decode bM_compare 265 = .ok (.iload_n 1, 1) := by decide +kernel
theorem dM_compare_266 : decode bM_compare 266 = .ok (.aaload, 1) := by decide +kernel
theorem dM_compare_267 : decode bM_compare 267 = .ok (.iload_n 3, 1) := by decide +kernel
theorem dM_compare_268 : decode bM_compare 268 = .ok (.iaload, 1) := by decide +kernel
theorem dM_compare_269 : decode bM_compare 269 = .ok (.goto 12, 3) := by decide +kernel
theorem dM_compare_272 : decode bM_compare 272 = .ok (.aload_n 0, 1) := by decide +kernel
theorem dM_compare_273 : decode bM_compare 273 = .ok (.getfield 20, 3) := by decide +kernel
theorem dM_compare_276 : decode bM_compare 276 = .ok (.iload_n 2, 1) := by decide +kernel
theorem dM_compare_277 : decode bM_compare 277 = .ok (.aaload, 1) := by decide +kernel
theorem dM_compare_278 : decode bM_compare 278 = .ok (.iload 4, 2) := by decide +kernel
theorem dM_compare_280 : decode bM_compare 280 = .ok (.iaload, 1) := by decide +kernel
theorem dM_compare_281 : decode bM_compare 281 = .ok (.iastore, 1) := by decide +kernel
theorem dM_compare_282 : decode bM_compare 282 = .ok (.aload_n 0, 1) := by decide +kernel
theorem dM_compare_283 : decode bM_compare 283 = .ok (.getfield 38, 3) := by decide +kernel
theorem dM_compare_286 : decode bM_compare 286 = .ok (.iload 5, 2) := by decide +kernel
theorem dM_compare_288 : decode bM_compare 288 = .ok (.iload 6, 2) := by decide +kernel
theorem dM_compare_290 : decode bM_compare 290 = .ok (.ifCond .eq 12, 3) := by decide +kernel
theorem dM_compare_293 : decode bM_compare 293 = .ok (.iload 7, 2) := by decide +kernel
theorem dM_compare_295 : decode bM_compare 295 = .ok (.ifCond .eq 7, 3) := by decide +kernel
theorem dM_compare_298 : decode bM_compare 298 = .ok (.iconst 2, 1) := by decide +kernel
theorem dM_compare_299 : decode bM_compare 299 = .ok (.goto 13, 3) := by decide +kernel
theorem dM_compare_302 : decode bM_compare 302 = .ok (.iload 6, 2) := by decide +kernel
theorem dM_compare_304 : decode bM_compare 304 = .ok (.ifCond .eq 7, 3) := by decide +kernel
theorem dM_compare_307 : decode bM_compare 307 = .ok (.iconst 1, 1) := by decide +kernel
theorem dM_compare_308 : decode bM_compare 308 = .ok (.goto 4, 3) := by decide +kernel
theorem dM_compare_311 : decode bM_compare 311 = .ok (.iconst 0, 1) := by decide +kernel
theorem dM_compare_312 : decode bM_compare 312 = .ok (.iastore, 1) := by decide +kernel
theorem dM_compare_313 : decode bM_compare 313 = .ok (.aload_n 0, 1) := by decide +kernel
theorem dM_compare_314 : decode bM_compare 314 = .ok (.getfield 41, 3) := by decide +kernel
theorem dM_compare_317 : decode bM_compare 317 = .ok (.iload 5, 2) := by decide +kernel
theorem dM_compare_319 : decode bM_compare 319 = .ok (.iload 8, 2) := by decide +kernel
theorem dM_compare_321 : decode bM_compare 321 = .ok (.iastore, 1) := by decide +kernel
theorem dM_compare_322 : decode bM_compare 322 = .ok (.iinc 5 1, 3) := by decide +kernel
theorem dM_compare_325 : decode bM_compare 325 = .ok (.iload 6, 2) := by decide +kernel
theorem dM_compare_327 : decode bM_compare 327 = .ok (.ifCond .eq 6, 3) := by decide +kernel
theorem dM_compare_330 : decode bM_compare 330 = .ok (.iinc 3 1, 3) := by decide +kernel
theorem dM_compare_333 : decode bM_compare 333 = .ok (.iload 7, 2) := by decide +kernel
theorem dM_compare_335 : decode bM_compare 335 = .ok (.ifCond .eq 6, 3) := by decide +kernel
theorem dM_compare_338 : decode bM_compare 338 = .ok (.iinc 4 1, 3) := by decide +kernel
theorem dM_compare_341 : decode bM_compare 341 = .ok (.goto (-298), 3) := by decide +kernel
theorem dM_compare_344 : decode bM_compare 344 = .ok (.aload_n 0, 1) := by decide +kernel
theorem dM_compare_345 : decode bM_compare 345 = .ok (.iload 5, 2) := by decide +kernel
theorem dM_compare_347 : decode bM_compare 347 = .ok (.putfield 185, 3) := by decide +kernel
theorem dM_compare_350 : decode bM_compare 350 = .ok (.iload 5, 2) := by decide +kernel
theorem dM_compare_352 : decode bM_compare 352 = .ok (.ireturn, 1) := by decide +kernel
theorem dM_difference_0 : decode bM_difference 0 = .ok (.iload_n 1, 1) := by decide +kernel
theorem dM_difference_1 : decode bM_difference 1 = .ok (.iconst 0, 1) := by decide +kernel
theorem dM_difference_2 : decode bM_difference 2 = .ok (.aload_n 0, 1) := by decide +kernel
theorem dM_difference_3 : decode bM_difference 3 = .ok (.getfield 185, 3) := by decide +kernel
theorem dM_difference_6 : decode bM_difference 6 = .ok (.iconst 1, 1) := by decide +kernel
theorem dM_difference_7 : decode bM_difference 7 = .ok (.isub, 1) := by decide +kernel
theorem dM_difference_8 : decode bM_difference 8 = .ok (.invokestatic 163, 3) := by decide +kernel
theorem dM_difference_11 : decode bM_difference 11 = .ok (.ifCond .eq 12, 3) := by decide +kernel
theorem dM_difference_14 : decode bM_difference 14 = .ok (.iload_n 2, 1) := by decide +kernel
theorem dM_difference_15 : decode bM_difference 15 = .ok (.iconst 0, 1) := by decide +kernel
theorem dM_difference_16 : decode bM_difference 16 = .ok (.iconst 2, 1) := by decide +kernel
theorem dM_difference_17 : decode bM_difference 17 = .ok (.invokestatic 163, 3) := by decide +kernel
theorem dM_difference_20 : decode bM_difference 20 = .ok (.ifCond .ne 7, 3) := by decide +kernel
theorem dM_difference_23 : decode bM_difference 23 = .ok (.ldc2_w 183, 3) := by decide +kernel
theorem dM_difference_26 : decode bM_difference 26 = .ok (.lreturn, 1) := by decide +kernel
theorem dM_difference_27 : decode bM_difference 27 = .ok (.iload_n 2, 1) := by decide +kernel
theorem dM_difference_28 : decode bM_difference 28 = .ok (.ifCond .ne 13, 3) := by decide +kernel
theorem dM_difference_31 : decode bM_difference 31 = .ok (.aload_n 0, 1) := by decide +kernel
theorem dM_difference_32 : decode bM_difference 32 = .ok (.getfield 35, 3) := by decide +kernel
theorem dM_difference_35 : decode bM_difference 35 = .ok (.iload_n 1, 1) := by decide +kernel
theorem dM_difference_36 : decode bM_difference 36 = .ok (.iaload, 1) := by decide +kernel
theorem dM_difference_37 : decode bM_difference 37 = .ok (.i2l, 1) := by decide +kernel
theorem dM_difference_38 : decode bM_difference 38 = .ok (.goto 25, 3) := by decide +kernel
theorem dM_difference_41 : decode bM_difference 41 = .ok (.iload_n 2, 1) := by decide +kernel
theorem dM_difference_42 : decode bM_difference 42 = .ok (.iconst 1, 1) := by decide +kernel
theorem dM_difference_43 : decode bM_difference 43 = .ok (.if_icmp .ne 13, 3) := by decide +kernel
theorem dM_difference_46 : decode bM_difference 46 = .ok (.aload_n 0, 1) := by decide +kernel
theorem dM_difference_47 : decode bM_difference 47 = .ok (.getfield 38, 3) := by decide +kernel
theorem dM_difference_50 : decode bM_difference 50 = .ok (.iload_n 1, 1) := by decide +kernel
theorem dM_difference_51 : decode bM_difference 51 = .ok (.iaload, 1) := by decide +kernel
theorem dM_difference_52 : decode bM_difference 52 = .ok (.i2l, 1) := by decide +kernel
theorem dM_difference_53 : decode bM_difference 53 = .ok (.goto 10, 3) := by decide +kernel
theorem dM_difference_56 : decode bM_difference 56 = .ok (.aload_n 0, 1) := by decide +kernel
theorem dM_difference_57 : decode bM_difference 57 = .ok (.getfield 41, 3) := by decide +kernel
theorem dM_difference_60 : decode bM_difference 60 = .ok (.iload_n 1, 1) := by decide +kernel
theorem dM_difference_61 : decode bM_difference 61 = .ok (.iaload, 1) := by decide +kernel
theorem dM_difference_62 : decode bM_difference 62 = .ok (.i2l, 1) := by decide +kernel
theorem dM_difference_63 : decode bM_difference 63 = .ok (.lreturn, 1) := by decide +kernel
theorem dM_sweep_0 : decode bM_sweep 0 = .ok (.aload_n 0, 1) := by decide +kernel
theorem dM_sweep_1 : decode bM_sweep 1 = .ok (.getfield 105, 3) := by decide +kernel
theorem dM_sweep_4 : decode bM_sweep 4 = .ok (.istore_n 1, 1) := by decide +kernel
theorem dM_sweep_5 : decode bM_sweep 5 = .ok (.aload_n 0, 1) := by decide +kernel
theorem dM_sweep_6 : decode bM_sweep 6 = .ok (.iconst 0, 1) := by decide +kernel
theorem dM_sweep_7 : decode bM_sweep 7 = .ok (.putfield 105, 3) := by decide +kernel
theorem dM_sweep_10 : decode bM_sweep 10 = .ok (.aload_n 0, 1) := by decide +kernel
theorem dM_sweep_11 : decode bM_sweep 11 = .ok (.iconst 0, 1) := by decide +kernel
theorem dM_sweep_12 : decode bM_sweep 12 = .ok (.putfield 102, 3) := by decide +kernel
theorem dM_sweep_15 : decode bM_sweep 15 = .ok (.aload_n 0, 1) := by decide +kernel
theorem dM_sweep_16 : decode bM_sweep 16 = .ok (.getfield 63, 3) := by decide +kernel
theorem dM_sweep_19 : decode bM_sweep 19 = .ok (.iconst 0, 1) := by decide +kernel
theorem dM_sweep_20 : decode bM_sweep 20 = .ok (.invokestatic 188, 3) := by decide +kernel
theorem dM_sweep_23 : decode bM_sweep 23 = .ok (.iconst 0, 1) := by decide +kernel
theorem dM_sweep_24 : decode bM_sweep 24 = .ok (.istore_n 2, 1) := by decide +kernel
theorem dM_sweep_25 : decode bM_sweep 25 = .ok (.iload_n 2, 1) := by decide +kernel
theorem dM_sweep_26 : decode bM_sweep 26 = .ok (.bipush 6, 2) := by decide +kernel
theorem dM_sweep_28 : decode bM_sweep 28 = .ok (.if_icmp .ge 15, 3) := by decide +kernel
theorem dM_sweep_31 : decode bM_sweep 31 = .ok (.aload_n 0, 1) := by decide +kernel
theorem dM_sweep_32 : decode bM_sweep 32 = .ok (.iload_n 2, 1) := by decide +kernel
theorem dM_sweep_33 : decode bM_sweep 33 = .ok (.invokevirtual 75, 3) := by decide +kernel
theorem dM_sweep_36 : decode bM_sweep 36 = .ok (.pop, 1) := by decide +kernel
theorem dM_sweep_37 : decode bM_sweep 37 = .ok (.iinc 2 1, 3) := by decide +kernel
theorem dM_sweep_40 : decode bM_sweep 40 = .ok (.goto (-15), 3) := by decide +kernel
theorem dM_sweep_43 : decode bM_sweep 43 = .ok (.iload_n 1, 1) := by decide +kernel
theorem dM_sweep_44 : decode bM_sweep 44 = .ok (.aload_n 0, 1) := by decide +kernel
theorem dM_sweep_45 : decode bM_sweep 45 = .ok (.getfield 105, 3) := by decide +kernel
theorem dM_sweep_48 : decode bM_sweep 48 = .ok (.isub, 1) := by decide +kernel
theorem dM_sweep_49 : decode bM_sweep 49 = .ok (.ireturn, 1) := by decide +kernel
theorem dM_count_0 : decode bM_count 0 = .ok (.iload_n 1, 1) := by decide +kernel
theorem dM_count_1 : decode bM_count 1 = .ok (.ifCond .ne 10, 3) := by decide +kernel
theorem dM_count_4 : decode bM_count 4 = .ok (.aload_n 0, 1) := by decide +kernel
theorem dM_count_5 : decode bM_count 5 = .ok (.getfield 105, 3) := by decide +kernel
theorem dM_count_8 : decode bM_count 8 = .ok (.goto 16, 3) := by decide +kernel
theorem dM_count_11 : decode bM_count 11 = .ok (.iload_n 1, 1) := by decide +kernel
theorem dM_count_12 : decode bM_count 12 = .ok (.iconst 1, 1) := by decide +kernel
theorem dM_count_13 : decode bM_count 13 = .ok (.if_icmp .ne 10, 3) := by decide +kernel
theorem dM_count_16 : decode bM_count 16 = .ok (.aload_n 0, 1) := by decide +kernel
theorem dM_count_17 : decode bM_count 17 = .ok (.getfield 102, 3) := by decide +kernel
theorem dM_count_20 : decode bM_count 20 = .ok (.goto 4, 3) := by decide +kernel
theorem dM_count_23 : decode bM_count 23 = .ok (.iconst (-1), 1) := by decide +kernel
theorem dM_count_24 : decode bM_count 24 = .ok (.ireturn, 1) := by decide +kernel
