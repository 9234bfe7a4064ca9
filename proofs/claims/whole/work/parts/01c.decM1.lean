theorem dM_init_0 : decode bM_init 0 = .ok (.aload_n 0, 1) := by decide +kernel
theorem dM_init_1 : decode bM_init 1 = .ok (.invokespecial 3, 3) := by decide +kernel
theorem dM_init_4 : decode bM_init 4 = .ok (.aload_n 0, 1) := by decide +kernel
theorem dM_init_5 : decode bM_init 5 = .ok (.bipush 6, 2) := by decide +kernel
theorem dM_init_7 : decode bM_init 7 = .ok (.newarray .int, 2) := by decide +kernel
theorem dM_init_9 : decode bM_init 9 = .ok (.putfield 11, 3) := by decide +kernel
theorem dM_init_12 : decode bM_init 12 = .ok (.aload_n 0, 1) := by decide +kernel
theorem dM_init_13 : decode bM_init 13 = .ok (.bipush 6, 2) := by decide +kernel
theorem dM_init_15 : decode bM_init 15 = .ok (.newarray .int, 2) := by decide +kernel
theorem dM_init_17 : decode bM_init 17 = .ok (.putfield 15, 3) := by decide +kernel
theorem dM_init_20 : decode bM_init 20 = .ok (.aload_n 0, 1) := by decide +kernel
theorem dM_init_21 : decode bM_init 21 = .ok (.bipush 6, 2) := by decide +kernel
theorem dM_init_23 : decode bM_init 23 = .ok (.sipush 301, 3) := by decide +kernel
theorem dM_init_26 : decode bM_init 26 = .ok (.multianewarray 18 2, 4) := by decide +kernel
theorem dM_init_30 : decode bM_init 30 = .ok (.putfield 20, 3) := by decide +kernel
theorem dM_init_33 : decode bM_init 33 = .ok (.aload_n 0, 1) := by decide +kernel
theorem dM_init_34 : decode bM_init 34 = .ok (.bipush 6, 2) := by decide +kernel
theorem dM_init_36 : decode bM_init 36 = .ok (.sipush 1806, 3) := by decide +kernel
theorem dM_init_39 : decode bM_init 39 = .ok (.multianewarray 23 2, 4) := by decide +kernel
theorem dM_init_43 : decode bM_init 43 = .ok (.putfield 25, 3) := by decide +kernel
theorem dM_init_46 : decode bM_init 46 = .ok (.aload_n 0, 1) := by decide +kernel
theorem dM_init_47 : decode bM_init 47 = .ok (.sipush 301, 3) := by decide +kernel
theorem dM_init_50 : decode bM_init 50 = .ok (.newarray .int, 2) := by decide +kernel
theorem dM_init_52 : decode bM_init 52 = .ok (.putfield 28, 3) := by decide +kernel
theorem dM_init_55 : decode bM_init 55 = .ok (.aload_n 0, 1) := by decide +kernel
theorem dM_init_56 : decode bM_init 56 = .ok (.sipush 1806, 3) := by decide +kernel
theorem dM_init_59 : decode bM_init 59 = .ok (.newarray .long, 2) := by decide +kernel
theorem dM_init_61 : decode bM_init 61 = .ok (.putfield 31, 3) := by decide +kernel
theorem dM_init_64 : decode bM_init 64 = .ok (.aload_n 0, 1) := by decide +kernel
theorem dM_init_65 : decode bM_init 65 = .ok (.sipush 600, 3) := by decide +kernel
theorem dM_init_68 : decode bM_init 68 = .ok (.newarray .int, 2) := by decide +kernel
theorem dM_init_70 : decode bM_init 70 = .ok (.putfield 35, 3) := by decide +kernel
theorem dM_init_73 : decode bM_init 73 = .ok (.aload_n 0, 1) := by decide +kernel
theorem dM_init_74 : decode bM_init 74 = .ok (.sipush 600, 3) := by decide +kernel
theorem dM_init_77 : decode bM_init 77 = .ok (.newarray .int, 2) := by decide +kernel
theorem dM_init_79 : decode bM_init 79 = .ok (.putfield 38, 3) := by decide +kernel
theorem dM_init_82 : decode bM_init 82 = .ok (.aload_n 0, 1) := by decide +kernel
theorem dM_init_83 : decode bM_init 83 = .ok (.sipush 600, 3) := by decide +kernel
theorem dM_init_86 : decode bM_init 86 = .ok (.newarray .int, 2) := by decide +kernel
theorem dM_init_88 : decode bM_init 88 = .ok (.putfield 41, 3) := by decide +kernel
theorem dM_init_91 : decode bM_init 91 = .ok (.aload_n 0, 1) := by decide +kernel
theorem dM_init_92 : decode bM_init 92 = .ok (.ldc 44, 2) := by decide +kernel
theorem dM_init_94 : decode bM_init 94 = .ok (.newarray .int, 2) := by decide +kernel
theorem dM_init_96 : decode bM_init 96 = .ok (.putfield 45, 3) := by decide +kernel
theorem dM_init_99 : decode bM_init 99 = .ok (.aload_n 0, 1) := by decide +kernel
theorem dM_init_100 : decode bM_init 100 = .ok (.ldc 44, 2) := by decide +kernel
theorem dM_init_102 : decode bM_init 102 = .ok (.newarray .int, 2) := by decide +kernel
theorem dM_init_104 : decode bM_init 104 = .ok (.putfield 48, 3) := by decide +kernel
theorem dM_init_107 : decode bM_init 107 = .ok (.aload_n 0, 1) := by decide +kernel
theorem dM_init_108 : decode bM_init 108 = .ok (.ldc 44, 2) := by decide +kernel
theorem dM_init_110 : decode bM_init 110 = .ok (.newarray .int, 2) := by decide +kernel
theorem dM_init_112 : decode bM_init 112 = .ok (.putfield 51, 3) := by decide +kernel
theorem dM_init_115 : decode bM_init 115 = .ok (.aload_n 0, 1) := by decide +kernel
theorem dM_init_116 : decode bM_init 116 = .ok (.ldc 44, 2) := by decide +kernel
theorem dM_init_118 : decode bM_init 118 = .ok (.newarray .int, 2) := by decide +kernel
theorem dM_init_120 : decode bM_init 120 = .ok (.putfield 54, 3) := by decide +kernel
theorem dM_init_123 : decode bM_init 123 = .ok (.aload_n 0, 1) := by decide +kernel
theorem dM_init_124 : decode bM_init 124 = .ok (.ldc 44, 2) := by decide +kernel
theorem dM_init_126 : decode bM_init 126 = .ok (.newarray .int, 2) := by decide +kernel
theorem dM_init_128 : decode bM_init 128 = .ok (.putfield 57, 3) := by decide +kernel
theorem dM_init_131 : decode bM_init 131 = .ok (.aload_n 0, 1) := by decide +kernel
theorem dM_init_132 : decode bM_init 132 = .ok (.ldc 44, 2) := by decide +kernel
theorem dM_init_134 : decode bM_init 134 = .ok (.newarray .long, 2) := by decide +kernel
theorem dM_init_136 : decode bM_init 136 = .ok (.putfield 60, 3) := by decide +kernel
theorem dM_init_139 : decode bM_init 139 = .ok (.aload_n 0, 1) := by decide +kernel
theorem dM_init_140 : decode bM_init 140 = .ok (.sipush 4096, 3) := by decide +kernel
theorem dM_init_143 : decode bM_init 143 = .ok (.newarray .int, 2) := by decide +kernel
theorem dM_init_145 : decode bM_init 145 = .ok (.putfield 63, 3) := by decide +kernel
theorem dM_init_148 : decode bM_init 148 = .ok (.aload_n 0, 1) := by decide +kernel
theorem dM_init_149 : decode bM_init 149 = .ok (.sipush 301, 3) := by decide +kernel
theorem dM_init_152 : decode bM_init 152 = .ok (.newarray .int, 2) := by decide +kernel
theorem dM_init_154 : decode bM_init 154 = .ok (.putfield 66, 3) := by decide +kernel
theorem dM_init_157 : decode bM_init 157 = .ok (.aload_n 0, 1) := by decide +kernel
theorem dM_init_158 : decode bM_init 158 = .ok (.sipush 301, 3) := by decide +kernel
theorem dM_init_161 : decode bM_init 161 = .ok (.newarray .int, 2) := by decide +kernel
theorem dM_init_163 : decode bM_init 163 = .ok (.putfield 69, 3) := by decide +kernel
theorem dM_init_166 : decode bM_init 166 = .ok (.aload_n 0, 1) := by decide +kernel
theorem dM_init_167 : decode bM_init 167 = .ok (.sipush 2100, 3) := by decide +kernel
theorem dM_init_170 : decode bM_init 170 = .ok (.newarray .long, 2) := by decide +kernel
theorem dM_init_172 : decode bM_init 172 = .ok (.putfield 72, 3) := by decide +kernel
theorem dM_init_175 : decode bM_init 175 = .ok (.iconst 0, 1) := by decide +kernel
theorem dM_init_176 : decode bM_init 176 = .ok (.istore_n 1, 1) := by decide +kernel
theorem dM_init_177 : decode bM_init 177 = .ok (.iload_n 1, 1) := by decide +kernel
theorem dM_init_178 : decode bM_init 178 = .ok (.bipush 6, 2) := by decide +kernel
theorem dM_init_180 : decode bM_init 180 = .ok (.if_icmp .ge 22, 3) := by decide +kernel
theorem dM_init_183 : decode bM_init 183 = .ok (.aload_n 0, 1) := by decide +kernel
theorem dM_init_184 : decode bM_init 184 = .ok (.getfield 11, 3) := by decide +kernel
theorem dM_init_187 : decode bM_init 187 = .ok (.iload_n 1, 1) := by decide +kernel
theorem dM_init_188 : decode bM_init 188 = .ok (.iconst 1, 1) := by decide +kernel
theorem dM_init_189 : decode bM_init 189 = .ok (.iastore, 1) := by decide +kernel
theorem dM_init_190 : decode bM_init 190 = .ok (.aload_n 0, 1) := by decide +kernel
theorem dM_init_191 : decode bM_init 191 = .ok (.iload_n 1, 1) := by decide +kernel
theorem dM_init_192 : decode bM_init 192 = .ok (.invokevirtual 75, 3) := by decide +kernel
theorem dM_init_195 : decode bM_init 195 = .ok (.pop, 1) := by decide +kernel
theorem dM_init_196 : decode bM_init 196 = .ok (.iinc 1 1, 3) := by decide +kernel
theorem dM_init_199 : decode bM_init 199 = .ok (.goto (-22), 3) := by decide +kernel
theorem dM_init_202 : decode bM_init 202 = .ok (.return_, 1) := by decide +kernel
theorem dM_lay_0 : decode bM_lay 0 = .ok (.iconst 0, 1) := by decide +kernel
theorem dM_lay_1 : decode bM_lay 1 = .ok (.istore_n 2, 1) := by decide +kernel
theorem dM_lay_2 : decode bM_lay 2 = .ok (.aload_n 0, 1) := by decide +kernel
theorem dM_lay_3 : decode bM_lay 3 = .ok (.getfield 15, 3) := by decide +kernel
theorem dM_lay_6 : decode bM_lay 6 = .ok (.iload_n 1, 1) := by decide +kernel
theorem dM_lay_7 : decode bM_lay 7 = .ok (.iaload, 1) := by decide +kernel
theorem dM_lay_8 : decode bM_lay 8 = .ok (.istore_n 3, 1) := by decide +kernel
theorem dM_lay_9 : decode bM_lay 9 = .ok (.aload_n 0, 1) := by decide +kernel
theorem dM_lay_10 : decode bM_lay 10 = .ok (.getfield 11, 3) := by decide +kernel
theorem dM_lay_13 : decode bM_lay 13 = .ok (.iload_n 1, 1) := by decide +kernel
theorem dM_lay_14 : decode bM_lay 14 = .ok (.iaload, 1) := by decide +kernel
theorem dM_lay_15 : decode bM_lay 15 = .ok (.istore 4, 2) := by decide +kernel
theorem dM_lay_17 : decode bM_lay 17 = .ok (.aload_n 0, 1) := by decide +kernel
theorem dM_lay_18 : decode bM_lay 18 = .ok (.iconst 0, 1) := by decide +kernel
theorem dM_lay_19 : decode bM_lay 19 = .ok (.putfield 114, 3) := by decide +kernel
theorem dM_lay_22 : decode bM_lay 22 = .ok (.aload_n 0, 1) := by decide +kernel
theorem dM_lay_23 : decode bM_lay 23 = .ok (.iconst 0, 1) := by decide +kernel
theorem dM_lay_24 : decode bM_lay 24 = .ok (.putfield 117, 3) := by decide +kernel
theorem dM_lay_27 : decode bM_lay 27 = .ok (.aload_n 0, 1) := by decide +kernel
theorem dM_lay_28 : decode bM_lay 28 = .ok (.iconst 0, 1) := by decide +kernel
theorem dM_lay_29 : decode bM_lay 29 = .ok (.putfield 120, 3) := by decide +kernel
theorem dM_lay_32 : decode bM_lay 32 = .ok (.aload_n 0, 1) := by decide +kernel
theorem dM_lay_33 : decode bM_lay 33 = .ok (.iconst 0, 1) := by decide +kernel
theorem dM_lay_34 : decode bM_lay 34 = .ok (.putfield 123, 3) := by decide +kernel
theorem dM_lay_37 : decode bM_lay 37 = .ok (.aload_n 0, 1) := by decide +kernel
theorem dM_lay_38 : decode bM_lay 38 = .ok (.iconst 0, 1) := by decide +kernel
theorem dM_lay_39 : decode bM_lay 39 = .ok (.putfield 89, 3) := by decide +kernel
theorem dM_lay_42 : decode bM_lay 42 = .ok (.iload_n 2, 1) := by decide +kernel
theorem dM_lay_43 : decode bM_lay 43 = .ok (.istore 5, 2) := by decide +kernel
theorem dM_lay_45 : decode bM_lay 45 = .ok (.iload 5, 2) := by decide +kernel
theorem dM_lay_47 : decode bM_lay 47 = .ok (.iload_n 3, 1) := by decide +kernel
theorem dM_lay_48 : decode bM_lay 48 = .ok (.if_icmp .lt 14, 3) := by decide +kernel
theorem dM_lay_51 : decode bM_lay 51 = .ok (.iload 5, 2) := by decide +kernel
theorem dM_lay_53 : decode bM_lay 53 = .ok (.iload_n 2, 1) := by decide +kernel
theorem dM_lay_54 : decode bM_lay 54 = .ok (.if_icmp .ne 142, 3) := by decide +kernel
theorem dM_lay_57 : decode bM_lay 57 = .ok (.iload_n 2, 1) := by decide +kernel
theorem dM_lay_58 : decode bM_lay 58 = .ok (.iload_n 3, 1) := by decide +kernel
theorem dM_lay_59 : decode bM_lay 59 = .ok (.if_icmp .ne 137, 3) := by decide +kernel
theorem dM_lay_62 : decode bM_lay 62 = .ok (.iload_n 2, 1) := by decide +kernel
theorem dM_lay_63 : decode bM_lay 63 = .ok (.iload_n 3, 1) := by decide +kernel
theorem dM_lay_64 : decode bM_lay 64 = .ok (.if_icmp .ge 76, 3) := by decide +kernel
theorem dM_lay_67 : decode bM_lay 67 = .ok (.aload_n 0, 1) := by decide +kernel
theorem dM_lay_68 : decode bM_lay 68 = .ok (.getfield 72, 3) := by decide +kernel
theorem dM_lay_71 : decode bM_lay 71 = .ok (.aload_n 0, 1) := by decide +kernel
theorem dM_lay_72 : decode bM_lay 72 = .ok (.dup, 1) := by decide +kernel
theorem dM_lay_73 : decode bM_lay 73 = .ok (.getfield 89, 3) := by decide +kernel
theorem dM_lay_76 : decode bM_lay 76 = .ok (.dup_x1, 1) := by decide +kernel
theorem dM_lay_77 : decode bM_lay 77 = .ok (.iconst 1, 1) := by decide +kernel
theorem dM_lay_78 : decode bM_lay 78 = .ok (.iadd, 1) := by decide +kernel
theorem dM_lay_79 : decode bM_lay 79 = .ok (.putfield 89, 3) := by decide +kernel
theorem dM_lay_82 : decode bM_lay 82 = .ok (.aload_n 0, 1) := by decide +kernel
theorem dM_lay_83 : decode bM_lay 83 = .ok (.getfield 20, 3) := by decide +kernel
theorem dM_lay_86 : decode bM_lay 86 = .ok (.iload_n 1, 1) := by decide +kernel
theorem dM_lay_87 : decode bM_lay 87 = .ok (.aaload, 1) := by decide +kernel
theorem dM_lay_88 : decode bM_lay 88 = .ok (.iload 5, 2) := by decide +kernel
theorem dM_lay_90 : decode bM_lay 90 = .ok (.iaload, 1) := by decide +kernel
theorem dM_lay_91 : decode bM_lay 91 = .ok (.i2l, 1) := by decide +kernel
theorem dM_lay_92 : decode bM_lay 92 = .ok (.lastore, 1) := by decide +kernel
theorem dM_lay_93 : decode bM_lay 93 = .ok (.iconst 0, 1) := by decide +kernel
theorem dM_lay_94 : decode bM_lay 94 = .ok (.istore 6, 2) := by decide +kernel
theorem dM_lay_96 : decode bM_lay 96 = .ok (.iload 6, 2) := by decide +kernel
theorem dM_lay_98 : decode bM_lay 98 = .ok (.iload 4, 2) := by decide +kernel
theorem dM_lay_100 : decode bM_lay 100 = .ok (.if_icmp .ge 40, 3) := by decide +kernel
theorem dM_lay_103 : decode bM_lay 103 = .ok (.aload_n 0, 1) := by decide +kernel
theorem dM_lay_104 : decode bM_lay 104 = .ok (.getfield 72, 3) := by decide +kernel
theorem dM_lay_107 : decode bM_lay 107 = .ok (.aload_n 0, 1) := by decide +kernel
theorem dM_lay_108 : decode bM_lay 108 = .ok (.dup, 1) := by decide +kernel
theorem dM_lay_109 : decode bM_lay 109 = .ok (.getfield 89, 3) := by decide +kernel
theorem dM_lay_112 : decode bM_lay 112 = .ok (.dup_x1, 1) := by decide +kernel
theorem dM_lay_113 : decode bM_lay 113 = .ok (.iconst 1, 1) := by decide +kernel
theorem dM_lay_114 : decode bM_lay 114 = .ok (.iadd, 1) := by decide +kernel
theorem dM_lay_115 : decode bM_lay 115 = .ok (.putfield 89, 3) := by decide +kernel
theorem dM_lay_118 : decode bM_lay 118 = .ok (.aload_n 0, 1) := by decide +kernel
theorem dM_lay_119 : decode bM_lay 119 = .ok (.getfield 25, 3) := by decide +kernel
theorem dM_lay_122 : decode bM_lay 122 = .ok (.iload_n 1, 1) := by decide +kernel
theorem dM_lay_123 : decode bM_lay 123 = .ok (.aaload, 1) := by decide +kernel
theorem dM_lay_124 : decode bM_lay 124 = .ok (.bipush 6, 2) := by decide +kernel
theorem dM_lay_126 : decode bM_lay 126 = .ok (.iload 5, 2) := by decide +kernel
theorem dM_lay_128 : decode bM_lay 128 = .ok (.imul, 1) := by decide +kernel
theorem dM_lay_129 : decode bM_lay 129 = .ok (.iload 6, 2) := by decide +kernel
theorem dM_lay_131 : decode bM_lay 131 = .ok (.iadd, 1) := by decide +kernel
theorem dM_lay_132 : decode bM_lay 132 = .ok (.laload, 1) := by decide +kernel
theorem dM_lay_133 : decode bM_lay 133 = .ok (.lastore, 1) := by decide +kernel
theorem dM_lay_134 : decode bM_lay 134 = .ok (.iinc 6 1, 3) := by decide +kernel
theorem dM_lay_137 : decode bM_lay 137 = .ok (.goto (-41), 3) := by decide +kernel
theorem dM_lay_140 : decode bM_lay 140 = .ok (.iload 5, 2) := by decide +kernel
theorem dM_lay_142 : decode bM_lay 142 = .ok (.iload_n 3, 1) := by decide +kernel
theorem dM_lay_143 : decode bM_lay 143 = .ok (.iconst 1, 1) := by decide +kernel
theorem dM_lay_144 : decode bM_lay 144 = .ok (.isub, 1) := by decide +kernel
theorem dM_lay_145 : decode bM_lay 145 = .ok (.if_icmp .ge 22, 3) := by decide +kernel
theorem dM_lay_148 : decode bM_lay 148 = .ok (.aload_n 0, 1) := by decide +kernel
theorem dM_lay_149 : decode bM_lay 149 = .ok (.getfield 20, 3) := by decide +kernel
theorem dM_lay_152 : decode bM_lay 152 = .ok (.iload_n 1, 1) := by decide +kernel
theorem dM_lay_153 : decode bM_lay 153 = .ok (.aaload, 1) := by decide +kernel
theorem dM_lay_154 : decode bM_lay 154 = .ok (.iload 5, 2) := by decide +kernel
theorem dM_lay_156 : decode bM_lay 156 = .ok (.iaload, 1) := by decide +kernel
theorem dM_lay_157 : decode bM_lay 157 = .ok (.invokestatic 126, 3) := by decide +kernel
theorem dM_lay_160 : decode bM_lay 160 = .ok (.iconst 1, 1) := by decide +kernel
theorem dM_lay_161 : decode bM_lay 161 = .ok (.if_icmp .ge 6, 3) := by decide +kernel
theorem dM_lay_164 : decode bM_lay 164 = .ok (.goto 26, 3) := by decide +kernel
theorem dM_lay_167 : decode bM_lay 167 = .ok (.aload_n 0, 1) := by decide +kernel
theorem dM_lay_168 : decode bM_lay 168 = .ok (.iconst 0, 1) := by decide +kernel
theorem dM_lay_169 : decode bM_lay 169 = .ok (.iload_n 2, 1) := by decide +kernel
theorem dM_lay_170 : decode bM_lay 170 = .ok (.iload_n 3, 1) := by decide +kernel
theorem dM_lay_171 : decode bM_lay 171 = .ok (.if_icmp .ge 8, 3) := by decide +kernel
theorem dM_lay_174 : decode bM_lay 174 = .ok (.iload 4, 2) := by decide +kernel
theorem dM_lay_176 : decode bM_lay 176 = .ok (.goto 4, 3) := by decide +kernel
theorem dM_lay_179 : decode bM_lay 179 = .ok (.iconst 0, 1) := by decide +kernel
theorem dM_lay_180 : decode bM_lay 180 = .ok (.iload 5, 2) := by decide +kernel
theorem dM_lay_182 : decode bM_lay 182 = .ok (.invokevirtual 130, 3) := by decide +kernel
theorem dM_lay_185 : decode bM_lay 185 = .ok (.ifCond .ne 5, 3) := by decide +kernel
theorem dM_lay_188 : decode bM_lay 188 = .ok (.iconst 0, 1) := by decide +kernel
theorem dM_lay_189 : decode bM_lay 189 = .ok (.ireturn, 1) := by decide +kernel
theorem dM_lay_190 : decode bM_lay 190 = .ok (.iinc 5 1, 3) := by decide +kernel
theorem dM_lay_193 : decode bM_lay 193 = .ok (.goto (-148), 3) := by decide +kernel
theorem dM_lay_196 : decode bM_lay 196 = .ok (.aload_n 0, 1) := by decide +kernel
theorem dM_lay_197 : decode bM_lay 197 = .ok (.getfield 114, 3) := by decide +kernel
theorem dM_lay_200 : decode bM_lay 200 = .ok (.iconst 1, 1) := by decide +kernel
theorem dM_lay_201 : decode bM_lay 201 = .ok (.if_icmp .le 131, 3) := by decide +kernel
theorem dM_lay_204 : decode bM_lay 204 = .ok (.aload_n 0, 1) := by decide +kernel
theorem dM_lay_205 : decode bM_lay 205 = .ok (.getfield 114, 3) := by decide +kernel
theorem dM_lay_208 : decode bM_lay 208 = .ok (.istore 5, 2) := by decide +kernel
theorem dM_lay_210 : decode bM_lay 210 = .ok (.aload_n 0, 1) := by decide +kernel
theorem dM_lay_211 : decode bM_lay 211 = .ok (.iconst 0, 1) := by decide +kernel
theorem dM_lay_212 : decode bM_lay 212 = .ok (.putfield 114, 3) := by decide +kernel
theorem dM_lay_215 : decode bM_lay 215 = .ok (.aload_n 0, 1) := by decide +kernel
theorem dM_lay_216 : decode bM_lay 216 = .ok (.dup, 1) := by decide +kernel
theorem dM_lay_217 : decode bM_lay 217 = .ok (.getfield 117, 3) := by decide +kernel
theorem dM_lay_220 : decode bM_lay 220 = .ok (.iconst 1, 1) := by decide +kernel
theorem dM_lay_221 : decode bM_lay 221 = .ok (.iadd, 1) := by decide +kernel
theorem dM_lay_222 : decode bM_lay 222 = .ok (.putfield 117, 3) := by decide +kernel
theorem dM_lay_225 : decode bM_lay 225 = .ok (.aload_n 0, 1) := by decide +kernel
theorem dM_lay_226 : decode bM_lay 226 = .ok (.iconst 0, 1) := by decide +kernel
theorem dM_lay_227 : decode bM_lay 227 = .ok (.putfield 89, 3) := by decide +kernel
theorem dM_lay_230 : decode bM_lay 230 = .ok (.iconst 0, 1) := by decide +kernel
theorem dM_lay_231 : decode bM_lay 231 = .ok (.istore 6, 2) := by decide +kernel
theorem dM_lay_233 : decode bM_lay 233 = .ok (.iload 6, 2) := by decide +kernel
theorem dM_lay_235 : decode bM_lay 235 = .ok (.iload 5, 2) := by decide +kernel
theorem dM_lay_237 : decode bM_lay 237 = .ok (.if_icmp .ge 92, 3) := by decide +kernel
theorem dM_lay_240 : decode bM_lay 240 = .ok (.aload_n 0, 1) := by decide +kernel
theorem dM_lay_241 : decode bM_lay 241 = .ok (.getfield 72, 3) := by decide +kernel
theorem dM_lay_244 : decode bM_lay 244 = .ok (.aload_n 0, 1) := by decide +kernel
theorem dM_lay_245 : decode bM_lay 245 = .ok (.dup, 1) := by decide +kernel
theorem dM_lay_246 : decode bM_lay 246 = .ok (.getfield 89, 3) := by decide +kernel
theorem dM_lay_249 : decode bM_lay 249 = .ok (.dup_x1, 1) := by decide +kernel
theorem dM_lay_250 : decode bM_lay 250 = .ok (.iconst 1, 1) := by decide +kernel
theorem dM_lay_251 : decode bM_lay 251 = .ok (.iadd, 1) := by decide +kernel
theorem dM_lay_252 : decode bM_lay 252 = .ok (.putfield 89, 3) := by decide +kernel
theorem dM_lay_255 : decode bM_lay 255 = .ok (.aload_n 0, 1) := by decide +kernel
theorem dM_lay_256 : decode bM_lay 256 = .ok (.getfield 66, 3) := by decide +kernel
theorem dM_lay_259 : decode bM_lay 259 = .ok (.iload 6, 2) := by decide +kernel
theorem dM_lay_261 : decode bM_lay 261 = .ok (.iaload, 1) := by decide +kernel
theorem dM_lay_262 : decode bM_lay 262 = .ok (.i2l, 1) := by decide +kernel
theorem dM_lay_263 : decode bM_lay 263 = .ok (.lastore, 1) := by decide +kernel
theorem dM_lay_264 : decode bM_lay 264 = .ok (.iload 6, 2) := by decide +kernel
theorem dM_lay_266 : decode bM_lay 266 = .ok (.iload 5, 2) := by decide +kernel
theorem dM_lay_268 : decode bM_lay 268 = .ok (.iconst 1, 1) := by decide +kernel
theorem dM_lay_269 : decode bM_lay 269 = .ok (.isub, 1) := by decide +kernel
theorem dM_lay_270 : decode bM_lay 270 = .ok (.if_icmp .ge 32, 3) := by decide +kernel
theorem dM_lay_273 : decode bM_lay 273 = .ok (.aload_n 0, 1) := by decide +kernel
theorem dM_lay_274 : decode bM_lay 274 = .ok (.getfield 20, 3) := by decide +kernel
theorem dM_lay_277 : decode bM_lay 277 = .ok (.iload_n 1, 1) := by decide +kernel
theorem dM_lay_278 : decode bM_lay 278 = .ok (.aaload, 1) := by decide +kernel
theorem dM_lay_279 : decode bM_lay 279 = .ok (.aload_n 0, 1) := by decide +kernel
theorem dM_lay_280 : decode bM_lay 280 = .ok (.getfield 69, 3) := by decide +kernel
theorem dM_lay_283 : decode bM_lay 283 = .ok (.iload 6, 2) := by decide +kernel
theorem dM_lay_285 : decode bM_lay 285 = .ok (.iaload, 1) := by decide +kernel
theorem dM_lay_286 : decode bM_lay 286 = .ok (.iaload, 1) := by decide +kernel
theorem dM_lay_287 : decode bM_lay 287 = .ok (.invokestatic 126, 3) := by decide +kernel
theorem dM_lay_290 : decode bM_lay 290 = .ok (.aload_n 0, 1) := by decide +kernel
theorem dM_lay_291 : decode bM_lay 291 = .ok (.getfield 117, 3) := by decide +kernel
theorem dM_lay_294 : decode bM_lay 294 = .ok (.iconst 1, 1) := by decide +kernel
theorem dM_lay_295 : decode bM_lay 295 = .ok (.iadd, 1) := by decide +kernel
theorem dM_lay_296 : decode bM_lay 296 = .ok (.if_icmp .ge 6, 3) := by decide +kernel
theorem dM_lay_299 : decode bM_lay 299 = .ok (.goto 24, 3) := by decide +kernel
theorem dM_lay_302 : decode bM_lay 302 = .ok (.aload_n 0, 1) := by decide +kernel
theorem dM_lay_303 : decode bM_lay 303 = .ok (.aload_n 0, 1) := by decide +kernel
theorem dM_lay_304 : decode bM_lay 304 = .ok (.getfield 117, 3) := by decide +kernel
theorem dM_lay_307 : decode bM_lay 307 = .ok (.iconst 0, 1) := by decide +kernel
theorem dM_lay_308 : decode bM_lay 308 = .ok (.aload_n 0, 1) := by decide +kernel
theorem dM_lay_309 : decode bM_lay 309 = .ok (.getfield 69, 3) := by decide +kernel
theorem dM_lay_312 : decode bM_lay 312 = .ok (.iload 6, 2) := by decide +kernel
theorem dM_lay_314 : decode bM_lay 314 = .ok (.iaload, 1) := by decide +kernel
theorem dM_lay_315 : decode bM_lay 315 = .ok (.invokevirtual 130, 3) := by decide +kernel
theorem dM_lay_318 : decode bM_lay 318 = .ok (.ifCond .ne 5, 3) := by decide +kernel
theorem dM_lay_321 : decode bM_lay 321 = .ok (.iconst 0, 1) := by decide +kernel
theorem dM_lay_322 : decode bM_lay 322 = .ok (.ireturn, 1) := by decide +kernel
theorem dM_lay_323 : decode bM_lay 323 = .ok (.iinc 6 1, 3) := by decide +kernel
theorem dM_lay_326 : decode bM_lay 326 = .ok (.goto (-93), 3) := by decide +kernel
theorem dM_lay_329 : decode bM_lay 329 = .ok (.goto (-133), 3) := by decide +kernel
theorem dM_lay_332 : decode bM_lay 332 = .ok (.iconst 1, 1) := by decide +kernel
theorem dM_lay_333 : decode bM_lay 333 = .ok (.ireturn, 1) := by decide +kernel
theorem dM_levelOf_0 : decode bM_levelOf 0 = .ok (.iload_n 0, 1) := by decide +kernel
theorem dM_levelOf_1 : decode bM_levelOf 1 = .ok (.ldc 79, 2) := by decide +kernel
theorem dM_levelOf_3 : decode bM_levelOf 3 = .ok (.imul, 1) := by decide +kernel
theorem dM_levelOf_4 : decode bM_levelOf 4 = .ok (.istore_n 1, 1) := by decide +kernel
theorem dM_levelOf_5 : decode bM_levelOf 5 = .ok (.iload_n 1, 1) := by decide +kernel
theorem dM_levelOf_6 : decode bM_levelOf 6 = .ok (.iload_n 1, 1) := by decide +kernel
theorem dM_levelOf_7 : decode bM_levelOf 7 = .ok (.bipush 15, 2) := by decide +kernel
theorem dM_levelOf_9 : decode bM_levelOf 9 = .ok (.iushr, 1) := by decide +kernel
theorem dM_levelOf_10 : decode bM_levelOf 10 = .ok (.ixor, 1) := by decide +kernel
theorem dM_levelOf_11 : decode bM_levelOf 11 = .ok (.istore_n 1, 1) := by decide +kernel
theorem dM_levelOf_12 : decode bM_levelOf 12 = .ok (.iload_n 1, 1) := by decide +kernel
theorem dM_levelOf_13 : decode bM_levelOf 13 = .ok (.ldc 80, 2) := by decide +kernel
theorem dM_levelOf_15 : decode bM_levelOf 15 = .ok (.imul, 1) := by decide +kernel
theorem dM_levelOf_16 : decode bM_levelOf 16 = .ok (.istore_n 1, 1) := by decide +kernel
theorem dM_levelOf_17 : decode bM_levelOf 17 = .ok (.iload_n 1, 1) := by decide +kernel
theorem dM_levelOf_18 : decode bM_levelOf 18 = .ok (.iload_n 1, 1) := by decide +kernel
theorem dM_levelOf_19 : decode bM_levelOf 19 = .ok (.bipush 13, 2) := by decide +kernel
theorem dM_levelOf_21 : decode bM_levelOf 21 = .ok (.iushr, 1) := by decide +kernel
theorem dM_levelOf_22 : decode bM_levelOf 22 = .ok (.ixor, 1) := by decide +kernel
theorem dM_levelOf_23 : decode bM_levelOf 23 = .ok (.istore_n 1, 1) := by decide +kernel
theorem dM_levelOf_24 : decode bM_levelOf 24 = .ok (.iload_n 1, 1) := by decide +kernel
theorem dM_levelOf_25 : decode bM_levelOf 25 = .ok (.ifCond .ne 5, 3) := by decide +kernel
theorem dM_levelOf_28 : decode bM_levelOf 28 = .ok (.iconst 5, 1) := by decide +kernel
theorem dM_levelOf_29 : decode bM_levelOf 29 = .ok (.ireturn, 1) := by decide +kernel
theorem dM_levelOf_30 : decode bM_levelOf 30 = .ok (.iconst 0, 1) := by decide +kernel
theorem dM_levelOf_31 : decode bM_levelOf 31 = .ok (.istore_n 2, 1) := by decide +kernel
theorem dM_levelOf_32 : decode bM_levelOf 32 = .ok (.iload_n 1, 1) := by decide +kernel
theorem dM_levelOf_33 : decode bM_levelOf 33 = .ok (.iload_n 2, 1) := by decide +kernel
theorem dM_levelOf_34 : decode bM_levelOf 34 = .ok (.ishr, 1) := by decide +kernel
theorem dM_levelOf_35 : decode bM_levelOf 35 = .ok (.iconst 1, 1) := by decide +kernel
theorem dM_levelOf_36 : decode bM_levelOf 36 = .ok (.iand, 1) := by decide +kernel
theorem dM_levelOf_37 : decode bM_levelOf 37 = .ok (.ifCond .ne 9, 3) := by decide +kernel
theorem dM_levelOf_40 : decode bM_levelOf 40 = .ok (.iinc 2 1, 3) := by decide +kernel
theorem dM_levelOf_43 : decode bM_levelOf 43 = .ok (.goto (-11), 3) := by decide +kernel
theorem dM_levelOf_46 : decode bM_levelOf 46 = .ok (.iconst 5, 1) := by decide +kernel
theorem dM_levelOf_47 : decode bM_levelOf 47 = .ok (.iload_n 2, 1) := by decide +kernel
theorem dM_levelOf_48 : decode bM_levelOf 48 = .ok (.iconst 2, 1) := by decide +kernel
theorem dM_levelOf_49 : decode bM_levelOf 49 = .ok (.idiv, 1) := by decide +kernel
theorem dM_levelOf_50 : decode bM_levelOf 50 = .ok (.invokestatic 81, 3) := by decide +kernel
theorem dM_levelOf_53 : decode bM_levelOf 53 = .ok (.ireturn, 1) := by decide +kernel
theorem dM_keep_0 : decode bM_keep 0 = .ok (.aload_n 0, 1) := by decide +kernel
theorem dM_keep_1 : decode bM_keep 1 = .ok (.iload_n 1, 1) := by decide +kernel
theorem dM_keep_2 : decode bM_keep 2 = .ok (.iload_n 2, 1) := by decide +kernel
theorem dM_keep_3 : decode bM_keep 3 = .ok (.invokevirtual 133, 3) := by decide +kernel
theorem dM_keep_6 : decode bM_keep 6 = .ok (.istore 4, 2) := by decide +kernel
theorem dM_keep_8 : decode bM_keep 8 = .ok (.iload 4, 2) := by decide +kernel
theorem dM_keep_10 : decode bM_keep 10 = .ok (.ifCond .ge 5, 3) := by decide +kernel
theorem dM_keep_13 : decode bM_keep 13 = .ok (.iconst 0, 1) := by decide +kernel
theorem dM_keep_14 : decode bM_keep 14 = .ok (.ireturn, 1) := by decide +kernel
theorem dM_keep_15 : decode bM_keep 15 = .ok (.aload_n 0, 1) := by decide +kernel
theorem dM_keep_16 : decode bM_keep 16 = .ok (.dup, 1) := by decide +kernel
theorem dM_keep_17 : decode bM_keep 17 = .ok (.getfield 120, 3) := by decide +kernel
theorem dM_keep_20 : decode bM_keep 20 = .ok (.iconst 1, 1) := by decide +kernel
theorem dM_keep_21 : decode bM_keep 21 = .ok (.iadd, 1) := by decide +kernel
theorem dM_keep_22 : decode bM_keep 22 = .ok (.putfield 120, 3) := by decide +kernel
theorem dM_keep_25 : decode bM_keep 25 = .ok (.aload_n 0, 1) := by decide +kernel
theorem dM_keep_26 : decode bM_keep 26 = .ok (.dup, 1) := by decide +kernel
theorem dM_keep_27 : decode bM_keep 27 = .ok (.getfield 123, 3) := by decide +kernel
theorem dM_keep_30 : decode bM_keep 30 = .ok (.aload_n 0, 1) := by decide +kernel
theorem dM_keep_31 : decode bM_keep 31 = .ok (.getfield 89, 3) := by decide +kernel
theorem dM_keep_34 : decode bM_keep 34 = .ok (.iadd, 1) := by decide +kernel
theorem dM_keep_35 : decode bM_keep 35 = .ok (.putfield 123, 3) := by decide +kernel
theorem dM_keep_38 : decode bM_keep 38 = .ok (.aload_n 0, 1) := by decide +kernel
theorem dM_keep_39 : decode bM_keep 39 = .ok (.getfield 66, 3) := by decide +kernel
theorem dM_keep_42 : decode bM_keep 42 = .ok (.aload_n 0, 1) := by decide +kernel
theorem dM_keep_43 : decode bM_keep 43 = .ok (.getfield 114, 3) := by decide +kernel
theorem dM_keep_46 : decode bM_keep 46 = .ok (.iload 4, 2) := by decide +kernel
theorem dM_keep_48 : decode bM_keep 48 = .ok (.iastore, 1) := by decide +kernel
theorem dM_keep_49 : decode bM_keep 49 = .ok (.aload_n 0, 1) := by decide +kernel
theorem dM_keep_50 : decode bM_keep 50 = .ok (.getfield 69, 3) := by decide +kernel
theorem dM_keep_53 : decode bM_keep 53 = .ok (.aload_n 0, 1) := by decide +kernel
theorem dM_keep_54 : decode bM_keep 54 = .ok (.getfield 114, 3) := by decide +kernel
theorem dM_keep_57 : decode bM_keep 57 = .ok (.iload_n 3, 1) := by decide +kernel
theorem dM_keep_58 : decode bM_keep 58 = .ok (.iastore, 1) := by decide +kernel
theorem dM_keep_59 : decode bM_keep 59 = .ok (.aload_n 0, 1) := by decide +kernel
theorem dM_keep_60 : decode bM_keep 60 = .ok (.dup, 1) := by decide +kernel
theorem dM_keep_61 : decode bM_keep 61 = .ok (.getfield 114, 3) := by decide +kernel
theorem dM_keep_64 : decode bM_keep 64 = .ok (.iconst 1, 1) := by decide +kernel
theorem dM_keep_65 : decode bM_keep 65 = .ok (.iadd, 1) := by decide +kernel
theorem dM_keep_66 : decode bM_keep 66 = .ok (.putfield 114, 3) := by decide +kernel
theorem dM_keep_69 : decode bM_keep 69 = .ok (.aload_n 0, 1) := by decide +kernel
theorem dM_keep_70 : decode bM_keep 70 = .ok (.iconst 0, 1) := by decide +kernel
theorem dM_keep_71 : decode bM_keep 71 = .ok (.putfield 89, 3) := by decide +kernel
theorem dM_keep_74 : decode bM_keep 74 = .ok (.iconst 1, 1) := by decide +kernel
theorem dM_keep_75 : decode bM_keep 75 = .ok (.ireturn, 1) := by decide +kernel
theorem dM_node_0 : decode bM_node 0 = .ok (.aload_n 0, 1) := by decide +kernel
theorem dM_node_1 : decode bM_node 1 = .ok (.iload_n 1, 1) := by decide +kernel
theorem dM_node_2 : decode bM_node 2 = .ok (.iload_n 2, 1) := by decide +kernel
theorem dM_node_3 : decode bM_node 3 = .ok (.invokevirtual 95, 3) := by decide +kernel
theorem dM_node_6 : decode bM_node 6 = .ok (.istore_n 3, 1) := by decide +kernel
theorem dM_node_7 : decode bM_node 7 = .ok (.aload_n 0, 1) := by decide +kernel
theorem dM_node_8 : decode bM_node 8 = .ok (.getfield 63, 3) := by decide +kernel
theorem dM_node_11 : decode bM_node 11 = .ok (.iload_n 3, 1) := by decide +kernel
theorem dM_node_12 : decode bM_node 12 = .ok (.iaload, 1) := by decide +kernel
theorem dM_node_13 : decode bM_node 13 = .ok (.iconst 1, 1) := by decide +kernel
theorem dM_node_14 : decode bM_node 14 = .ok (.isub, 1) := by decide +kernel
theorem dM_node_15 : decode bM_node 15 = .ok (.istore 4, 2) := by decide +kernel
theorem dM_node_17 : decode bM_node 17 = .ok (.iload 4, 2) := by decide +kernel
theorem dM_node_19 : decode bM_node 19 = .ok (.ifCond .lt 29, 3) := by decide +kernel
theorem dM_node_22 : decode bM_node 22 = .ok (.aload_n 0, 1) := by decide +kernel
theorem dM_node_23 : decode bM_node 23 = .ok (.iload 4, 2) := by decide +kernel
theorem dM_node_25 : decode bM_node 25 = .ok (.iload_n 1, 1) := by decide +kernel
theorem dM_node_26 : decode bM_node 26 = .ok (.iload_n 2, 1) := by decide +kernel
theorem dM_node_27 : decode bM_node 27 = .ok (.invokevirtual 98, 3) := by decide +kernel
theorem dM_node_30 : decode bM_node 30 = .ok (.ifCond .eq 6, 3) := by decide +kernel
theorem dM_node_33 : decode bM_node 33 = .ok (.iload 4, 2) := by decide +kernel
theorem dM_node_35 : decode bM_node 35 = .ok (.ireturn, 1) := by decide +kernel
theorem dM_node_36 : decode bM_node 36 = .ok (.aload_n 0, 1) := by decide +kernel
theorem dM_node_37 : decode bM_node 37 = .ok (.getfield 57, 3) := by decide +kernel
theorem dM_node_40 : decode bM_node 40 = .ok (.iload 4, 2) := by decide +kernel
theorem dM_node_42 : decode bM_node 42 = .ok (.iaload, 1) := by decide +kernel
theorem dM_node_43 : decode bM_node 43 = .ok (.istore 4, 2) := by decide +kernel
theorem dM_node_45 : decode bM_node 45 = .ok (.goto (-28), 3) := by decide +kernel
theorem dM_node_48 : decode bM_node 48 = .ok (.aload_n 0, 1) := by decide +kernel
theorem dM_node_49 : decode bM_node 49 = .ok (.getfield 102, 3) := by decide +kernel
theorem dM_node_52 : decode bM_node 52 = .ok (.aload_n 0, 1) := by decide +kernel
theorem dM_node_53 : decode bM_node 53 = .ok (.getfield 89, 3) := by decide +kernel
theorem dM_node_56 : decode bM_node 56 = .ok (.iadd, 1) := by decide +kernel
theorem dM_node_57 : decode bM_node 57 = .ok (.ldc 44, 2) := by decide +kernel
theorem dM_node_59 : decode bM_node 59 = .ok (.if_icmp .gt 12, 3) := by decide +kernel
theorem dM_node_62 : decode bM_node 62 = .ok (.aload_n 0, 1) := by decide +kernel
theorem dM_node_63 : decode bM_node 63 = .ok (.getfield 105, 3) := by decide +kernel
theorem dM_node_66 : decode bM_node 66 = .ok (.ldc 44, 2) := by decide +kernel
theorem dM_node_68 : decode bM_node 68 = .ok (.if_icmp .ne 6, 3) := by decide +kernel
theorem dM_node_71 : decode bM_node 71 = .ok (.bipush (-2), 2) := by decide +kernel
theorem dM_node_73 : decode bM_node 73 = .ok (.ireturn, 1) := by decide +kernel
theorem dM_node_74 : decode bM_node 74 = .ok (.aload_n 0, 1) := by decide +kernel
theorem dM_node_75 : decode bM_node 75 = .ok (.getfield 45, 3) := by decide +kernel
theorem dM_node_78 : decode bM_node 78 = .ok (.aload_n 0, 1) := by decide +kernel
theorem dM_node_79 : decode bM_node 79 = .ok (.getfield 105, 3) := by decide +kernel
theorem dM_node_82 : decode bM_node 82 = .ok (.iload_n 1, 1) := by decide +kernel
theorem dM_node_83 : decode bM_node 83 = .ok (.iastore, 1) := by decide +kernel
theorem dM_node_84 : decode bM_node 84 = .ok (.aload_n 0, 1) := by decide +kernel
theorem dM_node_85 : decode bM_node 85 = .ok (.getfield 54, 3) := by decide +kernel
theorem dM_node_88 : decode bM_node 88 = .ok (.aload_n 0, 1) := by decide +kernel
theorem dM_node_89 : decode bM_node 89 = .ok (.getfield 105, 3) := by decide +kernel
theorem dM_node_92 : decode bM_node 92 = .ok (.iload_n 2, 1) := by decide +kernel
theorem dM_node_93 : decode bM_node 93 = .ok (.iastore, 1) := by decide +kernel
theorem dM_node_94 : decode bM_node 94 = .ok (.aload_n 0, 1) := by decide +kernel
theorem dM_node_95 : decode bM_node 95 = .ok (.getfield 48, 3) := by decide +kernel
theorem dM_node_98 : decode bM_node 98 = .ok (.aload_n 0, 1) := by decide +kernel
theorem dM_node_99 : decode bM_node 99 = .ok (.getfield 105, 3) := by decide +kernel
theorem dM_node_102 : decode bM_node 102 = .ok (.aload_n 0, 1) := by decide +kernel
theorem dM_node_103 : decode bM_node 103 = .ok (.getfield 102, 3) := by decide +kernel
theorem dM_node_106 : decode bM_node 106 = .ok (.iastore, 1) := by decide +kernel
theorem dM_node_107 : decode bM_node 107 = .ok (.aload_n 0, 1) := by decide +kernel
theorem dM_node_108 : decode bM_node 108 = .ok (.getfield 51, 3) := by decide +kernel
theorem dM_node_111 : decode bM_node 111 = .ok (.aload_n 0, 1) := by decide +kernel
theorem dM_node_112 : decode bM_node 112 = .ok (.getfield 105, 3) := by decide +kernel
theorem dM_node_115 : decode bM_node 115 = .ok (.aload_n 0, 1) := by decide +kernel
theorem dM_node_116 : decode bM_node 116 = .ok (.getfield 89, 3) := by decide +kernel
theorem dM_node_119 : decode bM_node 119 = .ok (.iastore, 1) := by decide +kernel
theorem dM_node_120 : decode bM_node 120 = .ok (.aload_n 0, 1) := by decide +kernel
theorem dM_node_121 : decode bM_node 121 = .ok (.getfield 72, 3) := by decide +kernel
theorem dM_node_124 : decode bM_node 124 = .ok (.iconst 0, 1) := by decide +kernel
theorem dM_node_125 : decode bM_node 125 = .ok (.aload_n 0, 1) := by decide +kernel
theorem dM_node_126 : decode bM_node 126 = .ok (.getfield 60, 3) := by decide +kernel
theorem dM_node_129 : decode bM_node 129 = .ok (.aload_n 0, 1) := by decide +kernel
theorem dM_node_130 : decode bM_node 130 = .ok (.getfield 102, 3) := by decide +kernel
theorem dM_node_133 : decode bM_node 133 = .ok (.aload_n 0, 1) := by decide +kernel
theorem dM_node_134 : decode bM_node 134 = .ok (.getfield 89, 3) := by decide +kernel
theorem dM_node_137 : decode bM_node 137 = .ok (.invokestatic 108, 3) := by decide +kernel
theorem dM_node_140 : decode bM_node 140 = .ok (.aload_n 0, 1) := by decide +kernel
theorem dM_node_141 : decode bM_node 141 = .ok (.getfield 57, 3) := by decide +kernel
theorem dM_node_144 : decode bM_node 144 = .ok (.aload_n 0, 1) := by decide +kernel
theorem dM_node_145 : decode bM_node 145 = .ok (.getfield 105, 3) := by decide +kernel
theorem dM_node_148 : decode bM_node 148 = .ok (.aload_n 0, 1) := by decide +kernel
theorem dM_node_149 : decode bM_node 149 = .ok (.getfield 63, 3) := by decide +kernel
theorem dM_node_152 : decode bM_node 152 = .ok (.iload_n 3, 1) := by decide +kernel
theorem dM_node_153 : decode bM_node 153 = .ok (.iaload, 1) := by decide +kernel
theorem dM_node_154 : decode bM_node 154 = .ok (.iconst 1, 1) := by decide +kernel
theorem dM_node_155 : decode bM_node 155 = .ok (.isub, 1) := by decide +kernel
theorem dM_node_156 : decode bM_node 156 = .ok (.iastore, 1) := by decide +kernel
theorem dM_node_157 : decode bM_node 157 = .ok (.aload_n 0, 1) := by decide +kernel
theorem dM_node_158 : decode bM_node 158 = .ok (.getfield 63, 3) := by decide +kernel
theorem dM_node_161 : decode bM_node 161 = .ok (.iload_n 3, 1) := by decide +kernel
theorem dM_node_162 : decode bM_node 162 = .ok (.aload_n 0, 1) := by decide +kernel
theorem dM_node_163 : decode bM_node 163 = .ok (.getfield 105, 3) := by decide +kernel
theorem dM_node_166 : decode bM_node 166 = .ok (.iconst 1, 1) := by decide +kernel
theorem dM_node_167 : decode bM_node 167 = .ok (.iadd, 1) := by decide +kernel
theorem dM_node_168 : decode bM_node 168 = .ok (.iastore, 1) := by decide +kernel
theorem dM_node_169 : decode bM_node 169 = .ok (.aload_n 0, 1) := by decide +kernel
theorem dM_node_170 : decode bM_node 170 = .ok (.dup, 1) := by decide +kernel
theorem dM_node_171 : decode bM_node 171 = .ok (.getfield 102, 3) := by decide +kernel
theorem dM_node_174 : decode bM_node 174 = .ok (.aload_n 0, 1) := by decide +kernel
theorem dM_node_175 : decode bM_node 175 = .ok (.getfield 89, 3) := by decide +kernel
theorem dM_node_178 : decode bM_node 178 = .ok (.iadd, 1) := by decide +kernel
theorem dM_node_179 : decode bM_node 179 = .ok (.putfield 102, 3) := by decide +kernel
theorem dM_node_182 : decode bM_node 182 = .ok (.aload_n 0, 1) := by decide +kernel
theorem dM_node_183 : decode bM_node 183 = .ok (.dup, 1) := by decide +kernel
theorem dM_node_184 : decode bM_node 184 = .ok (.getfield 105, 3) := by decide +kernel
theorem dM_node_187 : decode bM_node 187 = .ok (.iconst 1, 1) := by decide +kernel
theorem dM_node_188 : decode bM_node 188 = .ok (.iadd, 1) := by decide +kernel
theorem dM_node_189 : decode bM_node 189 = .ok (.putfield 105, 3) := by decide +kernel
theorem dM_node_192 : decode bM_node 192 = .ok (.aload_n 0, 1) := by decide +kernel
theorem dM_node_193 : decode bM_node 193 = .ok (.getfield 105, 3) := by decide +kernel
theorem dM_node_196 : decode bM_node 196 = .ok (.iconst 1, 1) := by decide +kernel
theorem dM_node_197 : decode bM_node 197 = .ok (.isub, 1) := by decide +kernel
theorem dM_node_198 : decode bM_node 198 = .ok (.ireturn, 1) := by decide +kernel
theorem dM_hash_0 : decode bM_hash 0 = .ok (.ldc2_w 87, 3) := by decide +kernel
theorem dM_hash_3 : decode bM_hash 3 = .ok (.iload_n 1, 1) := by decide +kernel
theorem dM_hash_4 : decode bM_hash 4 = .ok (.i2l, 1) := by decide +kernel
theorem dM_hash_5 : decode bM_hash 5 = .ok (.lmul, 1) := by decide +kernel
theorem dM_hash_6 : decode bM_hash 6 = .ok (.iload_n 2, 1) := by decide +kernel
theorem dM_hash_7 : decode bM_hash 7 = .ok (.i2l, 1) := by decide +kernel
theorem dM_hash_8 : decode bM_hash 8 = .ok (.ladd, 1) := by decide +kernel
theorem dM_hash_9 : decode bM_hash 9 = .ok (.lstore_n 3, 1) := by decide +kernel
theorem dM_hash_10 : decode bM_hash 10 = .ok (.iconst 0, 1) := by decide +kernel
theorem dM_hash_11 : decode bM_hash 11 = .ok (.istore 5, 2) := by decide +kernel
theorem dM_hash_13 : decode bM_hash 13 = .ok (.iload 5, 2) := by decide +kernel
theorem dM_hash_15 : decode bM_hash 15 = .ok (.aload_n 0, 1) := by decide +kernel
theorem dM_hash_16 : decode bM_hash 16 = .ok (.getfield 89, 3) := by decide +kernel
theorem dM_hash_19 : decode bM_hash 19 = .ok (.if_icmp .ge 23, 3) := by decide +kernel
theorem dM_hash_22 : decode bM_hash 22 = .ok (.lload_n 3, 1) := by decide +kernel
theorem dM_hash_23 : decode bM_hash 23 = .ok (.ldc2_w 93, 3) := by decide +kernel
theorem dM_hash_26 : decode bM_hash 26 = .ok (.lmul, 1) := by decide +kernel
theorem dM_hash_27 : decode bM_hash 27 = .ok (.aload_n 0, 1) := by decide +kernel
theorem dM_hash_28 : decode bM_hash 28 = .ok (.getfield 72, 3) := by decide +kernel
theorem dM_hash_31 : decode bM_hash 31 = .ok (.iload 5, 2) := by decide +kernel
theorem dM_hash_33 : decode bM_hash 33 = .ok (.laload, 1) := by decide +kernel
theorem dM_hash_34 : decode bM_hash 34 = .ok (.ladd, 1) := by decide +kernel
theorem dM_hash_35 : decode bM_hash 35 = .ok (.lstore_n 3, 1) := by decide +kernel
theorem dM_hash_36 : decode bM_hash 36 = .ok (.iinc 5 1, 3) := by decide +kernel
theorem dM_hash_39 : decode bM_hash 39 = .ok (.goto (-26), 3) := by decide +kernel
theorem dM_hash_42 : decode bM_hash 42 = .ok (.lload_n 3, 1) := by decide +kernel
theorem dM_hash_43 : decode bM_hash 43 = .ok (.lload_n 3, 1) := by decide +kernel
theorem dM_hash_44 : decode bM_hash 44 = .ok (.bipush 29, 2) := by decide +kernel
theorem dM_hash_46 : decode bM_hash 46 = .ok (.lushr, 1) := by decide +kernel
theorem dM_hash_47 : decode bM_hash 47 = .ok (.lxor, 1) := by decide +kernel
theorem dM_hash_48 : decode bM_hash 48 = .ok (.l2i, 1) := by decide +kernel
theorem dM_hash_49 : decode bM_hash 49 = .ok (.sipush 4095, 3) := by decide +kernel
theorem dM_hash_52 : decode bM_hash 52 = .ok (.iand, 1) := by decide +kernel
theorem dM_hash_53 : decode bM_hash 53 = .ok (.ireturn, 1) := by decide +kernel
theorem dM_isMade_0 : decode bM_isMade 0 = .ok (.aload_n 0, 1) := by decide +kernel
theorem dM_isMade_1 : decode bM_isMade 1 = .ok (.getfield 45, 3) := by decide +kernel
theorem dM_isMade_4 : decode bM_isMade 4 = .ok (.iload_n 1, 1) := by decide +kernel
theorem dM_isMade_5 : decode bM_isMade 5 = .ok (.iaload, 1) := by decide +kernel
theorem dM_isMade_6 : decode bM_isMade 6 = .ok (.iload_n 2, 1) := by decide +kernel
theorem dM_isMade_7 : decode bM_isMade 7 = .ok (.if_icmp .ne 26, 3) := by decide +kernel
theorem dM_isMade_10 : decode bM_isMade 10 = .ok (.aload_n 0, 1) := by decide +kernel
theorem dM_isMade_11 : decode bM_isMade 11 = .ok (.getfield 54, 3) := by decide +kernel
theorem dM_isMade_14 : decode bM_isMade 14 = .ok (.iload_n 1, 1) := by decide +kernel
theorem dM_isMade_15 : decode bM_isMade 15 = .ok (.iaload, 1) := by decide +kernel
theorem dM_isMade_16 : decode bM_isMade 16 = .ok (.iload_n 3, 1) := by decide +kernel
theorem dM_isMade_17 : decode bM_isMade 17 = .ok (.if_icmp .ne 16, 3) := by decide +kernel
theorem dM_isMade_20 : decode bM_isMade 20 = .ok (.aload_n 0, 1) := by decide +kernel
theorem dM_isMade_21 : decode bM_isMade 21 = .ok (.getfield 51, 3) := by decide +kernel
theorem dM_isMade_24 : decode bM_isMade 24 = .ok (.iload_n 1, 1) := by decide +kernel
theorem dM_isMade_25 : decode bM_isMade 25 = .ok (.iaload, 1) := by decide +kernel
theorem dM_isMade_26 : decode bM_isMade 26 = .ok (.aload_n 0, 1) := by decide +kernel
theorem dM_isMade_27 : decode bM_isMade 27 = .ok (.getfield 89, 3) := by decide +kernel
theorem dM_isMade_30 : decode bM_isMade 30 = .ok (.if_icmp .eq 5, 3) := by decide +kernel
theorem dM_isMade_33 : decode bM_isMade 33 = .ok (.iconst 0, 1) := by decide +kernel
theorem dM_isMade_34 : decode bM_isMade 34 = .ok (.ireturn, 1) := by decide +kernel
theorem dM_isMade_35 : decode bM_isMade 35 = .ok (.iconst 0, 1) := by decide +kernel
theorem dM_isMade_36 : decode bM_isMade 36 = .ok (.istore 4, 2) := by decide +kernel
theorem dM_isMade_38 : decode bM_isMade 38 = .ok (.iload 4, 2) := by decide +kernel
theorem dM_isMade_40 : decode bM_isMade 40 = .ok (.aload_n 0, 1) := by decide +kernel
theorem dM_isMade_41 : decode bM_isMade 41 = .ok (.getfield 89, 3) := by decide +kernel
theorem dM_isMade_44 : decode bM_isMade 44 = .ok (.if_icmp .ge 36, 3) := by decide +kernel
theorem dM_isMade_47 : decode bM_isMade 47 = .ok (.aload_n 0, 1) := by decide +kernel
theorem dM_isMade_48 : decode bM_isMade 48 = .ok (.getfield 60, 3) := by decide +kernel
theorem dM_isMade_51 : decode bM_isMade 51 = .ok (.aload_n 0, 1) := by decide +kernel
theorem dM_isMade_52 : decode bM_isMade 52 = .ok (.getfield 48, 3) := by decide +kernel
theorem dM_isMade_55 : decode bM_isMade 55 = .ok (.iload_n 1, 1) := by decide +kernel
theorem dM_isMade_56 : decode bM_isMade 56 = .ok (.iaload, 1) := by decide +kernel
theorem dM_isMade_57 : decode bM_isMade 57 = .ok (.iload 4, 2) := by decide +kernel
theorem dM_isMade_59 : decode bM_isMade 59 = .ok (.iadd, 1) := by decide +kernel
theorem dM_isMade_60 : decode bM_isMade 60 = .ok (.laload, 1) := by decide +kernel
theorem dM_isMade_61 : decode bM_isMade 61 = .ok (.aload_n 0, 1) := by decide +kernel
theorem dM_isMade_62 : decode bM_isMade 62 = .ok (.getfield 72, 3) := by decide +kernel
theorem dM_isMade_65 : decode bM_isMade 65 = .ok (.iload 4, 2) := by decide +kernel
theorem dM_isMade_67 : decode bM_isMade 67 = .ok (.laload, 1) := by decide +kernel
theorem dM_isMade_68 : decode bM_isMade 68 = .ok (.lcmp, 1) := by decide +kernel
theorem dM_isMade_69 : decode bM_isMade 69 = .ok (.ifCond .eq 5, 3) := by decide +kernel
theorem dM_isMade_72 : decode bM_isMade 72 = .ok (.iconst 0, 1) := by decide +kernel
theorem dM_isMade_73 : decode bM_isMade 73 = .ok (.ireturn, 1) := by decide +kernel
theorem dM_isMade_74 : decode bM_isMade 74 = .ok (.iinc 4 1, 3) := by decide +kernel
theorem dM_isMade_77 : decode bM_isMade 77 = .ok (.goto (-39), 3) := by decide +kernel
theorem dM_isMade_80 : decode bM_isMade 80 = .ok (.iconst 1, 1) := by decide +kernel
theorem dM_isMade_81 : decode bM_isMade 81 = .ok (.ireturn, 1) := by decide +kernel
theorem dM_make_0 : decode bM_make 0 = .ok (.iload_n 1, 1) := by decide +kernel
theorem dM_make_1 : decode bM_make 1 = .ok (.iconst 0, 1) := by decide +kernel
theorem dM_make_2 : decode bM_make 2 = .ok (.iconst 5, 1) := by decide +kernel
theorem dM_make_3 : decode bM_make 3 = .ok (.invokestatic 163, 3) := by decide +kernel
theorem dM_make_6 : decode bM_make 6 = .ok (.ifCond .eq 13, 3) := by decide +kernel
theorem dM_make_9 : decode bM_make 9 = .ok (.iload_n 2, 1) := by decide +kernel
theorem dM_make_10 : decode bM_make 10 = .ok (.iconst 1, 1) := by decide +kernel
theorem dM_make_11 : decode bM_make 11 = .ok (.bipush 6, 2) := by decide +kernel
theorem dM_make_13 : decode bM_make 13 = .ok (.invokestatic 163, 3) := by decide +kernel
theorem dM_make_16 : decode bM_make 16 = .ok (.ifCond .ne 5, 3) := by decide +kernel
theorem dM_make_19 : decode bM_make 19 = .ok (.iconst (-1), 1) := by decide +kernel
theorem dM_make_20 : decode bM_make 20 = .ok (.ireturn, 1) := by decide +kernel
theorem dM_make_21 : decode bM_make 21 = .ok (.aload_n 0, 1) := by decide +kernel
theorem dM_make_22 : decode bM_make 22 = .ok (.iload_n 1, 1) := by decide +kernel
theorem dM_make_23 : decode bM_make 23 = .ok (.invokevirtual 166, 3) := by decide +kernel
theorem dM_make_26 : decode bM_make 26 = .ok (.aload_n 0, 1) := by decide +kernel
theorem dM_make_27 : decode bM_make 27 = .ok (.getfield 11, 3) := by decide +kernel
theorem dM_make_30 : decode bM_make 30 = .ok (.iload_n 1, 1) := by decide +kernel
theorem dM_make_31 : decode bM_make 31 = .ok (.iload_n 2, 1) := by decide +kernel
theorem dM_make_32 : decode bM_make 32 = .ok (.iastore, 1) := by decide +kernel
theorem dM_make_33 : decode bM_make 33 = .ok (.aload_n 0, 1) := by decide +kernel
theorem dM_make_34 : decode bM_make 34 = .ok (.getfield 15, 3) := by decide +kernel
theorem dM_make_37 : decode bM_make 37 = .ok (.iload_n 1, 1) := by decide +kernel
theorem dM_make_38 : decode bM_make 38 = .ok (.iconst 0, 1) := by decide +kernel
theorem dM_make_39 : decode bM_make 39 = .ok (.iastore, 1) := by decide +kernel
theorem dM_make_40 : decode bM_make 40 = .ok (.aload_n 0, 1) := by decide +kernel
theorem dM_make_41 : decode bM_make 41 = .ok (.iload_n 1, 1) := by decide +kernel
theorem dM_make_42 : decode bM_make 42 = .ok (.invokevirtual 169, 3) := by decide +kernel
theorem dM_make_45 : decode bM_make 45 = .ok (.ireturn, 1) := by decide +kernel
theorem dM_in_0 : decode bM_in 0 = .ok (.iload_n 0, 1) := by decide +kernel
theorem dM_in_1 : decode bM_in 1 = .ok (.iload_n 1, 1) := by decide +kernel
theorem dM_in_2 : decode bM_in 2 = .ok (.if_icmp .lt 12, 3) := by decide +kernel
theorem dM_in_5 : decode bM_in 5 = .ok (.iload_n 0, 1) := by decide +kernel
theorem dM_in_6 : decode bM_in 6 = .ok (.iload_n 2, 1) := by decide +kernel
theorem dM_in_7 : decode bM_in 7 = .ok (.if_icmp .gt 7, 3) := by decide +kernel
theorem dM_in_10 : decode bM_in 10 = .ok (.iconst 1, 1) := by decide +kernel
theorem dM_in_11 : decode bM_in 11 = .ok (.goto 4, 3) := by decide +kernel
theorem dM_in_14 : decode bM_in 14 = .ok (.iconst 0, 1) := by decide +kernel
theorem dM_in_15 : decode bM_in 15 = .ok (.ireturn, 1) := by decide +kernel
theorem dM_remember_0 : decode bM_remember 0 = .ok (.aload_n 0, 1) := by decide +kernel
theorem dM_remember_1 : decode bM_remember 1 = .ok (.aload_n 0, 1) := by decide +kernel
theorem dM_remember_2 : decode bM_remember 2 = .ok (.getfield 11, 3) := by decide +kernel
theorem dM_remember_5 : decode bM_remember 5 = .ok (.iload_n 1, 1) := by decide +kernel
theorem dM_remember_6 : decode bM_remember 6 = .ok (.iaload, 1) := by decide +kernel
theorem dM_remember_7 : decode bM_remember 7 = .ok (.putfield 150, 3) := by decide +kernel
theorem dM_remember_10 : decode bM_remember 10 = .ok (.aload_n 0, 1) := by decide +kernel
theorem dM_remember_11 : decode bM_remember 11 = .ok (.aload_n 0, 1) := by decide +kernel
theorem dM_remember_12 : decode bM_remember 12 = .ok (.getfield 15, 3) := by decide +kernel
theorem dM_remember_15 : decode bM_remember 15 = .ok (.iload_n 1, 1) := by decide +kernel
theorem dM_remember_16 : decode bM_remember 16 = .ok (.iaload, 1) := by decide +kernel
theorem dM_remember_17 : decode bM_remember 17 = .ok (.putfield 153, 3) := by decide +kernel
theorem dM_remember_20 : decode bM_remember 20 = .ok (.aload_n 0, 1) := by decide +kernel
theorem dM_remember_21 : decode bM_remember 21 = .ok (.getfield 20, 3) := by decide +kernel
theorem dM_remember_24 : decode bM_remember 24 = .ok (.iload_n 1, 1) := by decide +kernel
theorem dM_remember_25 : decode bM_remember 25 = .ok (.aaload, 1) := by decide +kernel
theorem dM_remember_26 : decode bM_remember 26 = .ok (.iconst 0, 1) := by decide +kernel
theorem dM_remember_27 : decode bM_remember 27 = .ok (.aload_n 0, 1) := by decide +kernel
theorem dM_remember_28 : decode bM_remember 28 = .ok (.getfield 28, 3) := by decide +kernel
theorem dM_remember_31 : decode bM_remember 31 = .ok (.iconst 0, 1) := by decide +kernel
theorem dM_remember_32 : decode bM_remember 32 = .ok (.aload_n 0, 1) := by decide +kernel
theorem dM_remember_33 : decode bM_remember 33 = .ok (.getfield 15, 3) := by decide +kernel
theorem dM_remember_36 : decode bM_remember 36 = .ok (.iload_n 1, 1) := by decide +kernel
theorem dM_remember_37 : decode bM_remember 37 = .ok (.iaload, 1) := by decide +kernel
theorem dM_remember_38 : decode bM_remember 38 = .ok (.invokestatic 108, 3) := by decide +kernel
theorem dM_remember_41 : decode bM_remember 41 = .ok (.aload_n 0, 1) := by decide +kernel
theorem dM_remember_42 : decode bM_remember 42 = .ok (.getfield 25, 3) := by decide +kernel
theorem dM_remember_45 : decode bM_remember 45 = .ok (.iload_n 1, 1) := by decide +kernel
theorem dM_remember_46 : decode bM_remember 46 = .ok (.aaload, 1) := by decide +kernel
theorem dM_remember_47 : decode bM_remember 47 = .ok (.iconst 0, 1) := by decide +kernel
theorem dM_remember_48 : decode bM_remember 48 = .ok (.aload_n 0, 1) := by decide +kernel
theorem dM_remember_49 : decode bM_remember 49 = .ok (.getfield 31, 3) := by decide +kernel
theorem dM_remember_52 : decode bM_remember 52 = .ok (.iconst 0, 1) := by decide +kernel
theorem dM_remember_53 : decode bM_remember 53 = .ok (.bipush 6, 2) := by decide +kernel
theorem dM_remember_55 : decode bM_remember 55 = .ok (.aload_n 0, 1) := by decide +kernel
theorem dM_remember_56 : decode bM_remember 56 = .ok (.getfield 15, 3) := by decide +kernel
theorem dM_remember_59 : decode bM_remember 59 = .ok (.iload_n 1, 1) := by decide +kernel
theorem dM_remember_60 : decode bM_remember 60 = .ok (.iaload, 1) := by decide +kernel
theorem dM_remember_61 : decode bM_remember 61 = .ok (.imul, 1) := by decide +kernel
theorem dM_remember_62 : decode bM_remember 62 = .ok (.invokestatic 108, 3) := by decide +kernel
theorem dM_remember_65 : decode bM_remember 65 = .ok (.return_, 1) := by decide +kernel
theorem dM_write_0 : decode bM_write 0 = .ok (.aload_n 0, 1) := by decide +kernel
theorem dM_write_1 : decode bM_write 1 = .ok (.getfield 105, 3) := by decide +kernel
theorem dM_write_4 : decode bM_write 4 = .ok (.istore_n 2, 1) := by decide +kernel
theorem dM_write_5 : decode bM_write 5 = .ok (.aload_n 0, 1) := by decide +kernel
theorem dM_write_6 : decode bM_write 6 = .ok (.iload_n 1, 1) := by decide +kernel
theorem dM_write_7 : decode bM_write 7 = .ok (.invokevirtual 75, 3) := by decide +kernel
theorem dM_write_10 : decode bM_write 10 = .ok (.ifCond .eq 10, 3) := by decide +kernel
theorem dM_write_13 : decode bM_write 13 = .ok (.aload_n 0, 1) := by decide +kernel
theorem dM_write_14 : decode bM_write 14 = .ok (.getfield 105, 3) := by decide +kernel
theorem dM_write_17 : decode bM_write 17 = .ok (.iload_n 2, 1) := by decide +kernel
theorem dM_write_18 : decode bM_write 18 = .ok (.isub, 1) := by decide +kernel
theorem dM_write_19 : decode bM_write 19 = .ok (.ireturn, 1) := by decide +kernel
theorem dM_write_20 : decode bM_write 20 = .ok (.aload_n 0, 1) := by decide +kernel
theorem dM_write_21 : decode bM_write 21 = .ok (.iload_n 2, 1) := by decide +kernel
theorem dM_write_22 : decode bM_write 22 = .ok (.invokevirtual 156, 3) := by decide +kernel
theorem dM_write_25 : decode bM_write 25 = .ok (.aload_n 0, 1) := by decide +kernel
theorem dM_write_26 : decode bM_write 26 = .ok (.getfield 11, 3) := by decide +kernel
theorem dM_write_29 : decode bM_write 29 = .ok (.iload_n 1, 1) := by decide +kernel
theorem dM_write_30 : decode bM_write 30 = .ok (.aload_n 0, 1) := by decide +kernel
theorem dM_write_31 : decode bM_write 31 = .ok (.getfield 150, 3) := by decide +kernel
theorem dM_write_34 : decode bM_write 34 = .ok (.iastore, 1) := by decide +kernel
theorem dM_write_35 : decode bM_write 35 = .ok (.aload_n 0, 1) := by decide +kernel
theorem dM_write_36 : decode bM_write 36 = .ok (.getfield 15, 3) := by decide +kernel
theorem dM_write_39 : decode bM_write 39 = .ok (.iload_n 1, 1) := by decide +kernel
theorem dM_write_40 : decode bM_write 40 = .ok (.aload_n 0, 1) := by decide +kernel
theorem dM_write_41 : decode bM_write 41 = .ok (.getfield 153, 3) := by decide +kernel
theorem dM_write_44 : decode bM_write 44 = .ok (.iastore, 1) := by decide +kernel
theorem dM_write_45 : decode bM_write 45 = .ok (.aload_n 0, 1) := by decide +kernel
theorem dM_write_46 : decode bM_write 46 = .ok (.getfield 28, 3) := by decide +kernel
theorem dM_write_49 : decode bM_write 49 = .ok (.iconst 0, 1) := by decide +kernel
theorem dM_write_50 : decode bM_write 50 = .ok (.aload_n 0, 1) := by decide +kernel
theorem dM_write_51 : decode bM_write 51 = .ok (.getfield 20, 3) := by decide +kernel
theorem dM_write_54 : decode bM_write 54 = .ok (.iload_n 1, 1) := by decide +kernel
theorem dM_write_55 : decode bM_write 55 = .ok (.aaload, 1) := by decide +kernel
theorem dM_write_56 : decode bM_write 56 = .ok (.iconst 0, 1) := by decide +kernel
theorem dM_write_57 : decode bM_write 57 = .ok (.aload_n 0, 1) := by decide +kernel
theorem dM_write_58 : decode bM_write 58 = .ok (.getfield 153, 3) := by decide +kernel
theorem dM_write_61 : decode bM_write 61 = .ok (.invokestatic 108, 3) := by decide +kernel
theorem dM_write_64 : decode bM_write 64 = .ok (.aload_n 0, 1) := by decide +kernel
theorem dM_write_65 : decode bM_write 65 = .ok (.getfield 31, 3) := by decide +kernel
theorem dM_write_68 : decode bM_write 68 = .ok (.iconst 0, 1) := by decide +kernel
theorem dM_write_69 : decode bM_write 69 = .ok (.aload_n 0, 1) := by decide +kernel
theorem dM_write_70 : decode bM_write 70 = .ok (.getfield 25, 3) := by decide +kernel
theorem dM_write_73 : decode bM_write 73 = .ok (.iload_n 1, 1) := by decide +kernel
theorem dM_write_74 : decode bM_write 74 = .ok (.aaload, 1) := by decide +kernel
theorem dM_write_75 : decode bM_write 75 = .ok (.iconst 0, 1) := by decide +kernel
theorem dM_write_76 : decode bM_write 76 = .ok (.bipush 6, 2) := by decide +kernel
theorem dM_write_78 : decode bM_write 78 = .ok (.aload_n 0, 1) := by decide +kernel
theorem dM_write_79 : decode bM_write 79 = .ok (.getfield 153, 3) := by decide +kernel
theorem dM_write_82 : decode bM_write 82 = .ok (.imul, 1) := by decide +kernel
theorem dM_write_83 : decode bM_write 83 = .ok (.invokestatic 108, 3) := by decide +kernel
theorem dM_write_86 : decode bM_write 86 = .ok (.bipush (-3), 2) := by decide +kernel
theorem dM_write_88 : decode bM_write 88 = .ok (.ireturn, 1) := by decide +kernel
theorem dM_back_0 : decode bM_back 0 = .ok (.aload_n 0, 1) := by decide +kernel
theorem dM_back_1 : decode bM_back 1 = .ok (.getfield 105, 3) := by decide +kernel
theorem dM_back_4 : decode bM_back 4 = .ok (.iload_n 1, 1) := by decide +kernel
theorem dM_back_5 : decode bM_back 5 = .ok (.if_icmp .le 105, 3) := by decide +kernel
theorem dM_back_8 : decode bM_back 8 = .ok (.aload_n 0, 1) := by decide +kernel
theorem dM_back_9 : decode bM_back 9 = .ok (.dup, 1) := by decide +kernel
theorem dM_back_10 : decode bM_back 10 = .ok (.getfield 105, 3) := by decide +kernel
theorem dM_back_13 : decode bM_back 13 = .ok (.iconst 1, 1) := by decide +kernel
theorem dM_back_14 : decode bM_back 14 = .ok (.isub, 1) := by decide +kernel
theorem dM_back_15 : decode bM_back 15 = .ok (.putfield 105, 3) := by decide +kernel
theorem dM_back_18 : decode bM_back 18 = .ok (.aload_n 0, 1) := by decide +kernel
theorem dM_back_19 : decode bM_back 19 = .ok (.aload_n 0, 1) := by decide +kernel
theorem dM_back_20 : decode bM_back 20 = .ok (.getfield 51, 3) := by decide +kernel
theorem dM_back_23 : decode bM_back 23 = .ok (.aload_n 0, 1) := by decide +kernel
theorem dM_back_24 : decode bM_back 24 = .ok (.getfield 105, 3) := by decide +kernel
theorem dM_back_27 : decode bM_back 27 = .ok (.iaload, 1) := by decide +kernel
theorem dM_back_28 : decode bM_back 28 = .ok (.putfield 89, 3) := by decide +kernel
theorem dM_back_31 : decode bM_back 31 = .ok (.aload_n 0, 1) := by decide +kernel
theorem dM_back_32 : decode bM_back 32 = .ok (.getfield 60, 3) := by decide +kernel
theorem dM_back_35 : decode bM_back 35 = .ok (.aload_n 0, 1) := by decide +kernel
theorem dM_back_36 : decode bM_back 36 = .ok (.getfield 48, 3) := by decide +kernel
theorem dM_back_39 : decode bM_back 39 = .ok (.aload_n 0, 1) := by decide +kernel
theorem dM_back_40 : decode bM_back 40 = .ok (.getfield 105, 3) := by decide +kernel
theorem dM_back_43 : decode bM_back 43 = .ok (.iaload, 1) := by decide +kernel
theorem dM_back_44 : decode bM_back 44 = .ok (.aload_n 0, 1) := by decide +kernel
theorem dM_back_45 : decode bM_back 45 = .ok (.getfield 72, 3) := by decide +kernel
theorem dM_back_48 : decode bM_back 48 = .ok (.iconst 0, 1) := by decide +kernel
theorem dM_back_49 : decode bM_back 49 = .ok (.aload_n 0, 1) := by decide +kernel
theorem dM_back_50 : decode bM_back 50 = .ok (.getfield 89, 3) := by decide +kernel
theorem dM_back_53 : decode bM_back 53 = .ok (.invokestatic 108, 3) := by decide +kernel
theorem dM_back_56 : decode bM_back 56 = .ok (.aload_n 0, 1) := by decide +kernel
theorem dM_back_57 : decode bM_back 57 = .ok (.getfield 63, 3) := by decide +kernel
theorem dM_back_60 : decode bM_back 60 = .ok (.aload_n 0, 1) := by decide +kernel
theorem dM_back_61 : decode bM_back 61 = .ok (.aload_n 0, 1) := by decide +kernel
theorem dM_back_62 : decode bM_back 62 = .ok (.getfield 45, 3) := by decide +kernel
theorem dM_back_65 : decode bM_back 65 = .ok (.aload_n 0, 1) := by decide +kernel
theorem dM_back_66 : decode bM_back 66 = .ok (.getfield 105, 3) := by decide +kernel
theorem dM_back_69 : decode bM_back 69 = .ok (.iaload, 1) := by decide +kernel
theorem dM_back_70 : decode bM_back 70 = .ok (.aload_n 0, 1) := by decide +kernel
theorem dM_back_71 : decode bM_back 71 = .ok (.getfield 54, 3) := by decide +kernel
theorem dM_back_74 : decode bM_back 74 = .ok (.aload_n 0, 1) := by decide +kernel
theorem dM_back_75 : decode bM_back 75 = .ok (.getfield 105, 3) := by decide +kernel
theorem dM_back_78 : decode bM_back 78 = .ok (.iaload, 1) := by decide +kernel
theorem dM_back_79 : decode bM_back 79 = .ok (.invokevirtual 95, 3) := by decide +kernel
theorem dM_back_82 : decode bM_back 82 = .ok (.aload_n 0, 1) := by decide +kernel
theorem dM_back_83 : decode bM_back 83 = .ok (.getfield 57, 3) := by decide +kernel
theorem dM_back_86 : decode bM_back 86 = .ok (.aload_n 0, 1) := by decide +kernel
theorem dM_back_87 : decode bM_back 87 = .ok (.getfield 105, 3) := by decide +kernel
theorem dM_back_90 : decode bM_back 90 = .ok (.iaload, 1) := by decide +kernel
theorem dM_back_91 : decode bM_back 91 = .ok (.iconst 1, 1) := by decide +kernel
theorem dM_back_92 : decode bM_back 92 = .ok (.iadd, 1) := by decide +kernel
theorem dM_back_93 : decode bM_back 93 = .ok (.iastore, 1) := by decide +kernel
theorem dM_back_94 : decode bM_back 94 = .ok (.aload_n 0, 1) := by decide +kernel
theorem dM_back_95 : decode bM_back 95 = .ok (.aload_n 0, 1) := by decide +kernel
theorem dM_back_96 : decode bM_back 96 = .ok (.getfield 48, 3) := by decide +kernel
theorem dM_back_99 : decode bM_back 99 = .ok (.aload_n 0, 1) := by decide +kernel
theorem dM_back_100 : decode bM_back 100 = .ok (.getfield 105, 3) := by decide +kernel
theorem dM_back_103 : decode bM_back 103 = .ok (.iaload, 1) := by decide +kernel
theorem dM_back_104 : decode bM_back 104 = .ok (.putfield 102, 3) := by decide +kernel
theorem dM_back_107 : decode bM_back 107 = .ok (.goto (-107), 3) := by decide +kernel
theorem dM_back_110 : decode bM_back 110 = .ok (.return_, 1) := by decide +kernel
theorem dM_put_0 : decode bM_put 0 = .ok (.iload_n 1, 1) := by decide +kernel
theorem dM_put_1 : decode bM_put 1 = .ok (.iconst 0, 1) := by decide +kernel
theorem dM_put_2 : decode bM_put 2 = .ok (.iconst 5, 1) := by decide +kernel
theorem dM_put_3 : decode bM_put 3 = .ok (.invokestatic 163, 3) := by decide +kernel
theorem dM_put_6 : decode bM_put 6 = .ok (.ifCond .eq 19, 3) := by decide +kernel
theorem dM_put_9 : decode bM_put 9 = .ok (.iload_n 3, 1) := by decide +kernel
theorem dM_put_10 : decode bM_put 10 = .ok (.iconst 0, 1) := by decide +kernel
theorem dM_put_11 : decode bM_put 11 = .ok (.aload_n 0, 1) := by decide +kernel
theorem dM_put_12 : decode bM_put 12 = .ok (.getfield 11, 3) := by decide +kernel
theorem dM_put_15 : decode bM_put 15 = .ok (.iload_n 1, 1) := by decide +kernel
theorem dM_put_16 : decode bM_put 16 = .ok (.iaload, 1) := by decide +kernel
theorem dM_put_17 : decode bM_put 17 = .ok (.iconst 1, 1) := by decide +kernel
theorem dM_put_18 : decode bM_put 18 = .ok (.isub, 1) := by decide +kernel
theorem dM_put_19 : decode bM_put 19 = .ok (.invokestatic 163, 3) := by decide +kernel
theorem dM_put_22 : decode bM_put 22 = .ok (.ifCond .ne 5, 3) := by decide +kernel
theorem dM_put_25 : decode bM_put 25 = .ok (.iconst (-1), 1) := by decide +kernel
theorem dM_put_26 : decode bM_put 26 = .ok (.ireturn, 1) := by decide +kernel
theorem dM_put_27 : decode bM_put 27 = .ok (.aload_n 0, 1) := by decide +kernel
theorem dM_put_28 : decode bM_put 28 = .ok (.iload_n 1, 1) := by decide +kernel
theorem dM_put_29 : decode bM_put 29 = .ok (.invokevirtual 166, 3) := by decide +kernel
theorem dM_put_32 : decode bM_put 32 = .ok (.aload_n 0, 1) := by decide +kernel
theorem dM_put_33 : decode bM_put 33 = .ok (.iload_n 1, 1) := by decide +kernel
theorem dM_put_34 : decode bM_put 34 = .ok (.iload_n 2, 1) := by decide +kernel
theorem dM_put_35 : decode bM_put 35 = .ok (.invokevirtual 172, 3) := by decide +kernel
theorem dM_put_38 : decode bM_put 38 = .ok (.istore 6, 2) := by decide +kernel
theorem dM_put_40 : decode bM_put 40 = .ok (.iload 6, 2) := by decide +kernel
theorem dM_put_42 : decode bM_put 42 = .ok (.ifCond .ge 112, 3) := by decide +kernel
theorem dM_put_45 : decode bM_put 45 = .ok (.aload_n 0, 1) := by decide +kernel
theorem dM_put_46 : decode bM_put 46 = .ok (.getfield 15, 3) := by decide +kernel
theorem dM_put_49 : decode bM_put 49 = .ok (.iload_n 1, 1) := by decide +kernel
theorem dM_put_50 : decode bM_put 50 = .ok (.iaload, 1) := by decide +kernel
theorem dM_put_51 : decode bM_put 51 = .ok (.sipush 300, 3) := by decide +kernel
theorem dM_put_54 : decode bM_put 54 = .ok (.if_icmp .ne 6, 3) := by decide +kernel
theorem dM_put_57 : decode bM_put 57 = .ok (.bipush (-3), 2) := by decide +kernel
theorem dM_put_59 : decode bM_put 59 = .ok (.ireturn, 1) := by decide +kernel
theorem dM_put_60 : decode bM_put 60 = .ok (.aload_n 0, 1) := by decide +kernel
