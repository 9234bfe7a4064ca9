abbrev bL_law : ByteArray := code
theorem dL_law_0 : decode bL_law 0 = .ok (.new 7, 3) := by decide +kernel
theorem dL_law_3 : decode bL_law 3 = .ok (.dup, 1) := by decide +kernel
theorem dL_law_4 : decode bL_law 4 = .ok (.invokespecial 9, 3) := by decide +kernel
theorem dL_law_7 : decode bL_law 7 = .ok (.astore_n 1, 1) := by decide +kernel
theorem dL_law_8 : decode bL_law 8 = .ok (.new 10, 3) := by decide +kernel
theorem dL_law_11 : decode bL_law 11 = .ok (.dup, 1) := by decide +kernel
theorem dL_law_12 : decode bL_law 12 = .ok (.invokespecial 12, 3) := by decide +kernel
theorem dL_law_15 : decode bL_law 15 = .ok (.astore_n 2, 1) := by decide +kernel
theorem dL_law_16 : decode bL_law 16 = .ok (.iconst 0, 1) := by decide +kernel
theorem dL_law_17 : decode bL_law 17 = .ok (.istore_n 3, 1) := by decide +kernel
theorem dL_law_18 : decode bL_law 18 = .ok (.iload_n 3, 1) := by decide +kernel
theorem dL_law_19 : decode bL_law 19 = .ok (.aload_n 0, 1) := by decide +kernel
theorem dL_law_20 : decode bL_law 20 = .ok (.arraylength, 1) := by decide +kernel
theorem dL_law_21 : decode bL_law 21 = .ok (.bipush 6, 2) := by decide +kernel
theorem dL_law_23 : decode bL_law 23 = .ok (.isub, 1) := by decide +kernel
theorem dL_law_24 : decode bL_law 24 = .ok (.if_icmp .gt 494, 3) := by decide +kernel
theorem dL_law_27 : decode bL_law 27 = .ok (.aload_n 0, 1) := by decide +kernel
theorem dL_law_28 : decode bL_law 28 = .ok (.iload_n 3, 1) := by decide +kernel
theorem dL_law_29 : decode bL_law 29 = .ok (.iaload, 1) := by decide +kernel
theorem dL_law_30 : decode bL_law 30 = .ok (.bipush 15, 2) := by decide +kernel
theorem dL_law_32 : decode bL_law 32 = .ok (.iand, 1) := by decide +kernel
theorem dL_law_33 : decode bL_law 33 = .ok (.tableswitch 479 0 11 #[63, 96, 175, 208, 241, 285, 318, 342, 376, 409, 443, 456], 63) := by decide +kernel
theorem dL_law_96 : decode bL_law 96 = .ok (.aload_n 1, 1) := by decide +kernel
theorem dL_law_97 : decode bL_law 97 = .ok (.aload_n 0, 1) := by decide +kernel
theorem dL_law_98 : decode bL_law 98 = .ok (.iload_n 3, 1) := by decide +kernel
theorem dL_law_99 : decode bL_law 99 = .ok (.iconst 1, 1) := by decide +kernel
theorem dL_law_100 : decode bL_law 100 = .ok (.iadd, 1) := by decide +kernel
theorem dL_law_101 : decode bL_law 101 = .ok (.iaload, 1) := by decide +kernel
theorem dL_law_102 : decode bL_law 102 = .ok (.aload_n 0, 1) := by decide +kernel
theorem dL_law_103 : decode bL_law 103 = .ok (.iload_n 3, 1) := by decide +kernel
theorem dL_law_104 : decode bL_law 104 = .ok (.iconst 2, 1) := by decide +kernel
theorem dL_law_105 : decode bL_law 105 = .ok (.iadd, 1) := by decide +kernel
theorem dL_law_106 : decode bL_law 106 = .ok (.iaload, 1) := by decide +kernel
theorem dL_law_107 : decode bL_law 107 = .ok (.invokevirtual 13, 3) := by decide +kernel
theorem dL_law_110 : decode bL_law 110 = .ok (.aload_n 2, 1) := by decide +kernel
theorem dL_law_111 : decode bL_law 111 = .ok (.aload_n 0, 1) := by decide +kernel
theorem dL_law_112 : decode bL_law 112 = .ok (.iload_n 3, 1) := by decide +kernel
theorem dL_law_113 : decode bL_law 113 = .ok (.iconst 1, 1) := by decide +kernel
theorem dL_law_114 : decode bL_law 114 = .ok (.iadd, 1) := by decide +kernel
theorem dL_law_115 : decode bL_law 115 = .ok (.iaload, 1) := by decide +kernel
theorem dL_law_116 : decode bL_law 116 = .ok (.aload_n 0, 1) := by decide +kernel
theorem dL_law_117 : decode bL_law 117 = .ok (.iload_n 3, 1) := by decide +kernel
theorem dL_law_118 : decode bL_law 118 = .ok (.iconst 2, 1) := by decide +kernel
theorem dL_law_119 : decode bL_law 119 = .ok (.iadd, 1) := by decide +kernel
theorem dL_law_120 : decode bL_law 120 = .ok (.iaload, 1) := by decide +kernel
theorem dL_law_121 : decode bL_law 121 = .ok (.invokevirtual 17, 3) := by decide +kernel
theorem dL_law_124 : decode bL_law 124 = .ok (.if_icmp .eq 388, 3) := by decide +kernel
theorem dL_law_127 : decode bL_law 127 = .ok (.iconst 0, 1) := by decide +kernel
theorem dL_law_128 : decode bL_law 128 = .ok (.ireturn, 1) := by decide +kernel
theorem dL_law_129 : decode bL_law 129 = .ok (.aload_n 1, 1) := by decide +kernel
theorem dL_law_130 : decode bL_law 130 = .ok (.aload_n 0, 1) := by decide +kernel
theorem dL_law_131 : decode bL_law 131 = .ok (.iload_n 3, 1) := by decide +kernel
theorem dL_law_132 : decode bL_law 132 = .ok (.iconst 1, 1) := by decide +kernel
theorem dL_law_133 : decode bL_law 133 = .ok (.iadd, 1) := by decide +kernel
theorem dL_law_134 : decode bL_law 134 = .ok (.iaload, 1) := by decide +kernel
theorem dL_law_135 : decode bL_law 135 = .ok (.aload_n 0, 1) := by decide +kernel
theorem dL_law_136 : decode bL_law 136 = .ok (.iload_n 3, 1) := by decide +kernel
theorem dL_law_137 : decode bL_law 137 = .ok (.iconst 2, 1) := by decide +kernel
theorem dL_law_138 : decode bL_law 138 = .ok (.iadd, 1) := by decide +kernel
theorem dL_law_139 : decode bL_law 139 = .ok (.iaload, 1) := by decide +kernel
theorem dL_law_140 : decode bL_law 140 = .ok (.aload_n 0, 1) := by decide +kernel
theorem dL_law_141 : decode bL_law 141 = .ok (.iload_n 3, 1) := by decide +kernel
theorem dL_law_142 : decode bL_law 142 = .ok (.iconst 3, 1) := by decide +kernel
theorem dL_law_143 : decode bL_law 143 = .ok (.iadd, 1) := by decide +kernel
theorem dL_law_144 : decode bL_law 144 = .ok (.iaload, 1) := by decide +kernel
theorem dL_law_145 : decode bL_law 145 = .ok (.aload_n 0, 1) := by decide +kernel
theorem dL_law_146 : decode bL_law 146 = .ok (.iload_n 3, 1) := by decide +kernel
theorem dL_law_147 : decode bL_law 147 = .ok (.iconst 4, 1) := by decide +kernel
theorem dL_law_148 : decode bL_law 148 = .ok (.iadd, 1) := by decide +kernel
theorem dL_law_149 : decode bL_law 149 = .ok (.iaload, 1) := by decide +kernel
theorem dL_law_150 : decode bL_law 150 = .ok (.aload_n 0, 1) := by decide +kernel
theorem dL_law_151 : decode bL_law 151 = .ok (.iload_n 3, 1) := by decide +kernel
theorem dL_law_152 : decode bL_law 152 = .ok (.iconst 5, 1) := by decide +kernel
theorem dL_law_153 : decode bL_law 153 = .ok (.iadd, 1) := by decide +kernel
theorem dL_law_154 : decode bL_law 154 = .ok (.iaload, 1) := by decide +kernel
theorem dL_law_155 : decode bL_law 155 = .ok (.ifCond .eq 7, 3) := by decide +kernel
theorem dL_law_158 : decode bL_law 158 = .ok (.iconst 1, 1) := by decide +kernel
theorem dL_law_159 : decode bL_law 159 = .ok (.goto 4, 3) := by decide +kernel
theorem dL_law_162 : decode bL_law 162 = .ok (.iconst 0, 1) := by decide +kernel
theorem dL_law_163 : decode bL_law 163 = .ok (.invokevirtual 18, 3) := by decide +kernel
theorem dL_law_166 : decode bL_law 166 = .ok (.aload_n 2, 1) := by decide +kernel
theorem dL_law_167 : decode bL_law 167 = .ok (.aload_n 0, 1) := by decide +kernel
theorem dL_law_168 : decode bL_law 168 = .ok (.iload_n 3, 1) := by decide +kernel
theorem dL_law_169 : decode bL_law 169 = .ok (.iconst 1, 1) := by decide +kernel
theorem dL_law_170 : decode bL_law 170 = .ok (.iadd, 1) := by decide +kernel
theorem dL_law_171 : decode bL_law 171 = .ok (.iaload, 1) := by decide +kernel
theorem dL_law_172 : decode bL_law 172 = .ok (.aload_n 0, 1) := by decide +kernel
theorem dL_law_173 : decode bL_law 173 = .ok (.iload_n 3, 1) := by decide +kernel
theorem dL_law_174 : decode bL_law 174 = .ok (.iconst 2, 1) := by decide +kernel
theorem dL_law_175 : decode bL_law 175 = .ok (.iadd, 1) := by decide +kernel
theorem dL_law_176 : decode bL_law 176 = .ok (.iaload, 1) := by decide +kernel
theorem dL_law_177 : decode bL_law 177 = .ok (.aload_n 0, 1) := by decide +kernel
theorem dL_law_178 : decode bL_law 178 = .ok (.iload_n 3, 1) := by decide +kernel
theorem dL_law_179 : decode bL_law 179 = .ok (.iconst 3, 1) := by decide +kernel
theorem dL_law_180 : decode bL_law 180 = .ok (.iadd, 1) := by decide +kernel
theorem dL_law_181 : decode bL_law 181 = .ok (.iaload, 1) := by decide +kernel
theorem dL_law_182 : decode bL_law 182 = .ok (.aload_n 0, 1) := by decide +kernel
theorem dL_law_183 : decode bL_law 183 = .ok (.iload_n 3, 1) := by decide +kernel
theorem dL_law_184 : decode bL_law 184 = .ok (.iconst 4, 1) := by decide +kernel
theorem dL_law_185 : decode bL_law 185 = .ok (.iadd, 1) := by decide +kernel
theorem dL_law_186 : decode bL_law 186 = .ok (.iaload, 1) := by decide +kernel
theorem dL_law_187 : decode bL_law 187 = .ok (.aload_n 0, 1) := by decide +kernel
theorem dL_law_188 : decode bL_law 188 = .ok (.iload_n 3, 1) := by decide +kernel
theorem dL_law_189 : decode bL_law 189 = .ok (.iconst 5, 1) := by decide +kernel
theorem dL_law_190 : decode bL_law 190 = .ok (.iadd, 1) := by decide +kernel
theorem dL_law_191 : decode bL_law 191 = .ok (.iaload, 1) := by decide +kernel
theorem dL_law_192 : decode bL_law 192 = .ok (.ifCond .eq 7, 3) := by decide +kernel
theorem dL_law_195 : decode bL_law 195 = .ok (.iconst 1, 1) := by decide +kernel
theorem dL_law_196 : decode bL_law 196 = .ok (.goto 4, 3) := by decide +kernel
theorem dL_law_199 : decode bL_law 199 = .ok (.iconst 0, 1) := by decide +kernel
theorem dL_law_200 : decode bL_law 200 = .ok (.invokevirtual 22, 3) := by decide +kernel
theorem dL_law_203 : decode bL_law 203 = .ok (.if_icmp .eq 309, 3) := by decide +kernel
theorem dL_law_206 : decode bL_law 206 = .ok (.iconst 0, 1) := by decide +kernel
theorem dL_law_207 : decode bL_law 207 = .ok (.ireturn, 1) := by decide +kernel
theorem dL_law_208 : decode bL_law 208 = .ok (.aload_n 1, 1) := by decide +kernel
theorem dL_law_209 : decode bL_law 209 = .ok (.aload_n 0, 1) := by decide +kernel
theorem dL_law_210 : decode bL_law 210 = .ok (.iload_n 3, 1) := by decide +kernel
theorem dL_law_211 : decode bL_law 211 = .ok (.iconst 1, 1) := by decide +kernel
theorem dL_law_212 : decode bL_law 212 = .ok (.iadd, 1) := by decide +kernel
theorem dL_law_213 : decode bL_law 213 = .ok (.iaload, 1) := by decide +kernel
theorem dL_law_214 : decode bL_law 214 = .ok (.aload_n 0, 1) := by decide +kernel
theorem dL_law_215 : decode bL_law 215 = .ok (.iload_n 3, 1) := by decide +kernel
theorem dL_law_216 : decode bL_law 216 = .ok (.iconst 2, 1) := by decide +kernel
theorem dL_law_217 : decode bL_law 217 = .ok (.iadd, 1) := by decide +kernel
theorem dL_law_218 : decode bL_law 218 = .ok (.iaload, 1) := by decide +kernel
theorem dL_law_219 : decode bL_law 219 = .ok (.invokevirtual 23, 3) := by decide +kernel
theorem dL_law_222 : decode bL_law 222 = .ok (.aload_n 2, 1) := by decide +kernel
theorem dL_law_223 : decode bL_law 223 = .ok (.aload_n 0, 1) := by decide +kernel
theorem dL_law_224 : decode bL_law 224 = .ok (.iload_n 3, 1) := by decide +kernel
theorem dL_law_225 : decode bL_law 225 = .ok (.iconst 1, 1) := by decide +kernel
theorem dL_law_226 : decode bL_law 226 = .ok (.iadd, 1) := by decide +kernel
theorem dL_law_227 : decode bL_law 227 = .ok (.iaload, 1) := by decide +kernel
theorem dL_law_228 : decode bL_law 228 = .ok (.aload_n 0, 1) := by decide +kernel
theorem dL_law_229 : decode bL_law 229 = .ok (.iload_n 3, 1) := by decide +kernel
theorem dL_law_230 : decode bL_law 230 = .ok (.iconst 2, 1) := by decide +kernel
theorem dL_law_231 : decode bL_law 231 = .ok (.iadd, 1) := by decide +kernel
theorem dL_law_232 : decode bL_law 232 = .ok (.iaload, 1) := by decide +kernel
theorem dL_law_233 : decode bL_law 233 = .ok (.invokevirtual 26, 3) := by decide +kernel
theorem dL_law_236 : decode bL_law 236 = .ok (.if_icmp .eq 276, 3) := by decide +kernel
theorem dL_law_239 : decode bL_law 239 = .ok (.iconst 0, 1) := by decide +kernel
theorem dL_law_240 : decode bL_law 240 = .ok (.ireturn, 1) := by decide +kernel
theorem dL_law_241 : decode bL_law 241 = .ok (.aload_n 1, 1) := by decide +kernel
theorem dL_law_242 : decode bL_law 242 = .ok (.aload_n 0, 1) := by decide +kernel
theorem dL_law_243 : decode bL_law 243 = .ok (.iload_n 3, 1) := by decide +kernel
theorem dL_law_244 : decode bL_law 244 = .ok (.iconst 1, 1) := by decide +kernel
theorem dL_law_245 : decode bL_law 245 = .ok (.iadd, 1) := by decide +kernel
theorem dL_law_246 : decode bL_law 246 = .ok (.iaload, 1) := by decide +kernel
theorem dL_law_247 : decode bL_law 247 = .ok (.aload_n 0, 1) := by decide +kernel
theorem dL_law_248 : decode bL_law 248 = .ok (.iload_n 3, 1) := by decide +kernel
theorem dL_law_249 : decode bL_law 249 = .ok (.iconst 2, 1) := by decide +kernel
theorem dL_law_250 : decode bL_law 250 = .ok (.iadd, 1) := by decide +kernel
theorem dL_law_251 : decode bL_law 251 = .ok (.iaload, 1) := by decide +kernel
theorem dL_law_252 : decode bL_law 252 = .ok (.invokevirtual 27, 3) := by decide +kernel
theorem dL_law_255 : decode bL_law 255 = .ok (.aload_n 2, 1) := by decide +kernel
theorem dL_law_256 : decode bL_law 256 = .ok (.aload_n 0, 1) := by decide +kernel
theorem dL_law_257 : decode bL_law 257 = .ok (.iload_n 3, 1) := by decide +kernel
theorem dL_law_258 : decode bL_law 258 = .ok (.iconst 1, 1) := by decide +kernel
theorem dL_law_259 : decode bL_law 259 = .ok (.iadd, 1) := by decide +kernel
theorem dL_law_260 : decode bL_law 260 = .ok (.iaload, 1) := by decide +kernel
theorem dL_law_261 : decode bL_law 261 = .ok (.aload_n 0, 1) := by decide +kernel
theorem dL_law_262 : decode bL_law 262 = .ok (.iload_n 3, 1) := by decide +kernel
theorem dL_law_263 : decode bL_law 263 = .ok (.iconst 2, 1) := by decide +kernel
theorem dL_law_264 : decode bL_law 264 = .ok (.iadd, 1) := by decide +kernel
theorem dL_law_265 : decode bL_law 265 = .ok (.iaload, 1) := by decide +kernel
theorem dL_law_266 : decode bL_law 266 = .ok (.invokevirtual 30, 3) := by decide +kernel
theorem dL_law_269 : decode bL_law 269 = .ok (.if_icmp .eq 243, 3) := by decide +kernel
theorem dL_law_272 : decode bL_law 272 = .ok (.iconst 0, 1) := by decide +kernel
theorem dL_law_273 : decode bL_law 273 = .ok (.ireturn, 1) := by decide +kernel
theorem dL_law_274 : decode bL_law 274 = .ok (.aload_n 1, 1) := by decide +kernel
theorem dL_law_275 : decode bL_law 275 = .ok (.aload_n 0, 1) := by decide +kernel
theorem dL_law_276 : decode bL_law 276 = .ok (.iload_n 3, 1) := by decide +kernel
theorem dL_law_277 : decode bL_law 277 = .ok (.iconst 1, 1) := by decide +kernel
theorem dL_law_278 : decode bL_law 278 = .ok (.iadd, 1) := by decide +kernel
theorem dL_law_279 : decode bL_law 279 = .ok (.iaload, 1) := by decide +kernel
theorem dL_law_280 : decode bL_law 280 = .ok (.aload_n 0, 1) := by decide +kernel
theorem dL_law_281 : decode bL_law 281 = .ok (.iload_n 3, 1) := by decide +kernel
theorem dL_law_282 : decode bL_law 282 = .ok (.iconst 2, 1) := by decide +kernel
theorem dL_law_283 : decode bL_law 283 = .ok (.iadd, 1) := by decide +kernel
theorem dL_law_284 : decode bL_law 284 = .ok (.iaload, 1) := by decide +kernel
theorem dL_law_285 : decode bL_law 285 = .ok (.aload_n 0, 1) := by decide +kernel
theorem dL_law_286 : decode bL_law 286 = .ok (.iload_n 3, 1) := by decide +kernel
theorem dL_law_287 : decode bL_law 287 = .ok (.iconst 3, 1) := by decide +kernel
theorem dL_law_288 : decode bL_law 288 = .ok (.iadd, 1) := by decide +kernel
theorem dL_law_289 : decode bL_law 289 = .ok (.iaload, 1) := by decide +kernel
theorem dL_law_290 : decode bL_law 290 = .ok (.invokevirtual 31, 3) := by decide +kernel
theorem dL_law_293 : decode bL_law 293 = .ok (.aload_n 2, 1) := by decide +kernel
theorem dL_law_294 : decode bL_law 294 = .ok (.aload_n 0, 1) := by decide +kernel
theorem dL_law_295 : decode bL_law 295 = .ok (.iload_n 3, 1) := by decide +kernel
theorem dL_law_296 : decode bL_law 296 = .ok (.iconst 1, 1) := by decide +kernel
theorem dL_law_297 : decode bL_law 297 = .ok (.iadd, 1) := by decide +kernel
theorem dL_law_298 : decode bL_law 298 = .ok (.iaload, 1) := by decide +kernel
theorem dL_law_299 : decode bL_law 299 = .ok (.aload_n 0, 1) := by decide +kernel
theorem dL_law_300 : decode bL_law 300 = .ok (.iload_n 3, 1) := by decide +kernel
theorem dL_law_301 : decode bL_law 301 = .ok (.iconst 2, 1) := by decide +kernel
theorem dL_law_302 : decode bL_law 302 = .ok (.iadd, 1) := by decide +kernel
theorem dL_law_303 : decode bL_law 303 = .ok (.iaload, 1) := by decide +kernel
theorem dL_law_304 : decode bL_law 304 = .ok (.aload_n 0, 1) := by decide +kernel
theorem dL_law_305 : decode bL_law 305 = .ok (.iload_n 3, 1) := by decide +kernel
theorem dL_law_306 : decode bL_law 306 = .ok (.iconst 3, 1) := by decide +kernel
theorem dL_law_307 : decode bL_law 307 = .ok (.iadd, 1) := by decide +kernel
theorem dL_law_308 : decode bL_law 308 = .ok (.iaload, 1) := by decide +kernel
theorem dL_law_309 : decode bL_law 309 = .ok (.invokevirtual 35, 3) := by decide +kernel
theorem dL_law_312 : decode bL_law 312 = .ok (.lcmp, 1) := by decide +kernel
theorem dL_law_313 : decode bL_law 313 = .ok (.ifCond .eq 199, 3) := by decide +kernel
theorem dL_law_316 : decode bL_law 316 = .ok (.iconst 0, 1) := by decide +kernel
theorem dL_law_317 : decode bL_law 317 = .ok (.ireturn, 1) := by decide +kernel
theorem dL_law_318 : decode bL_law 318 = .ok (.aload_n 1, 1) := by decide +kernel
theorem dL_law_319 : decode bL_law 319 = .ok (.aload_n 0, 1) := by decide +kernel
theorem dL_law_320 : decode bL_law 320 = .ok (.iload_n 3, 1) := by decide +kernel
theorem dL_law_321 : decode bL_law 321 = .ok (.iconst 1, 1) := by decide +kernel
theorem dL_law_322 : decode bL_law 322 = .ok (.iadd, 1) := by decide +kernel
theorem dL_law_323 : decode bL_law 323 = .ok (.iaload, 1) := by decide +kernel
theorem dL_law_324 : decode bL_law 324 = .ok (.aload_n 0, 1) := by decide +kernel
theorem dL_law_325 : decode bL_law 325 = .ok (.iload_n 3, 1) := by decide +kernel
theorem dL_law_326 : decode bL_law 326 = .ok (.iconst 2, 1) := by decide +kernel
theorem dL_law_327 : decode bL_law 327 = .ok (.iadd, 1) := by decide +kernel
theorem dL_law_328 : decode bL_law 328 = .ok (.iaload, 1) := by decide +kernel
theorem dL_law_329 : decode bL_law 329 = .ok (.invokevirtual 36, 3) := by decide +kernel
theorem dL_law_332 : decode bL_law 332 = .ok (.aload_n 2, 1) := by decide +kernel
theorem dL_law_333 : decode bL_law 333 = .ok (.aload_n 0, 1) := by decide +kernel
theorem dL_law_334 : decode bL_law 334 = .ok (.iload_n 3, 1) := by decide +kernel
theorem dL_law_335 : decode bL_law 335 = .ok (.iconst 1, 1) := by decide +kernel
theorem dL_law_336 : decode bL_law 336 = .ok (.iadd, 1) := by decide +kernel
theorem dL_law_337 : decode bL_law 337 = .ok (.iaload, 1) := by decide +kernel
theorem dL_law_338 : decode bL_law 338 = .ok (.aload_n 0, 1) := by decide +kernel
theorem dL_law_339 : decode bL_law 339 = .ok (.iload_n 3, 1) := by decide +kernel
theorem dL_law_340 : decode bL_law 340 = .ok (.iconst 2, 1) := by decide +kernel
theorem dL_law_341 : decode bL_law 341 = .ok (.iadd, 1) := by decide +kernel
theorem dL_law_342 : decode bL_law 342 = .ok (.iaload, 1) := by decide +kernel
theorem dL_law_343 : decode bL_law 343 = .ok (.invokevirtual 39, 3) := by decide +kernel
theorem dL_law_346 : decode bL_law 346 = .ok (.if_icmp .eq 166, 3) := by decide +kernel
theorem dL_law_349 : decode bL_law 349 = .ok (.iconst 0, 1) := by decide +kernel
theorem dL_law_350 : decode bL_law 350 = .ok (.ireturn, 1) := by decide +kernel
theorem dL_law_351 : decode bL_law 351 = .ok (.aload_n 1, 1) := by decide +kernel
theorem dL_law_352 : decode bL_law 352 = .ok (.aload_n 0, 1) := by decide +kernel
theorem dL_law_353 : decode bL_law 353 = .ok (.iload_n 3, 1) := by decide +kernel
theorem dL_law_354 : decode bL_law 354 = .ok (.iconst 1, 1) := by decide +kernel
theorem dL_law_355 : decode bL_law 355 = .ok (.iadd, 1) := by decide +kernel
theorem dL_law_356 : decode bL_law 356 = .ok (.iaload, 1) := by decide +kernel
theorem dL_law_357 : decode bL_law 357 = .ok (.invokevirtual 40, 3) := by decide +kernel
theorem dL_law_360 : decode bL_law 360 = .ok (.aload_n 2, 1) := by decide +kernel
theorem dL_law_361 : decode bL_law 361 = .ok (.aload_n 0, 1) := by decide +kernel
theorem dL_law_362 : decode bL_law 362 = .ok (.iload_n 3, 1) := by decide +kernel
theorem dL_law_363 : decode bL_law 363 = .ok (.iconst 1, 1) := by decide +kernel
theorem dL_law_364 : decode bL_law 364 = .ok (.iadd, 1) := by decide +kernel
theorem dL_law_365 : decode bL_law 365 = .ok (.iaload, 1) := by decide +kernel
theorem dL_law_366 : decode bL_law 366 = .ok (.invokevirtual 44, 3) := by decide +kernel
theorem dL_law_369 : decode bL_law 369 = .ok (.lcmp, 1) := by decide +kernel
theorem dL_law_370 : decode bL_law 370 = .ok (.ifCond .eq 142, 3) := by decide +kernel
theorem dL_law_373 : decode bL_law 373 = .ok (.iconst 0, 1) := by decide +kernel
theorem dL_law_374 : decode bL_law 374 = .ok (.ireturn, 1) := by decide +kernel
theorem dL_law_375 : decode bL_law 375 = .ok (.aload_n 1, 1) := by decide +kernel
theorem dL_law_376 : decode bL_law 376 = .ok (.aload_n 0, 1) := by decide +kernel
theorem dL_law_377 : decode bL_law 377 = .ok (.iload_n 3, 1) := by decide +kernel
theorem dL_law_378 : decode bL_law 378 = .ok (.iconst 1, 1) := by decide +kernel
theorem dL_law_379 : decode bL_law 379 = .ok (.iadd, 1) := by decide +kernel
theorem dL_law_380 : decode bL_law 380 = .ok (.iaload, 1) := by decide +kernel
theorem dL_law_381 : decode bL_law 381 = .ok (.aload_n 0, 1) := by decide +kernel
theorem dL_law_382 : decode bL_law 382 = .ok (.iload_n 3, 1) := by decide +kernel
theorem dL_law_383 : decode bL_law 383 = .ok (.iconst 2, 1) := by decide +kernel
theorem dL_law_384 : decode bL_law 384 = .ok (.iadd, 1) := by decide +kernel
theorem dL_law_385 : decode bL_law 385 = .ok (.iaload, 1) := by decide +kernel
theorem dL_law_386 : decode bL_law 386 = .ok (.invokevirtual 45, 3) := by decide +kernel
theorem dL_law_389 : decode bL_law 389 = .ok (.aload_n 2, 1) := by decide +kernel
theorem dL_law_390 : decode bL_law 390 = .ok (.aload_n 0, 1) := by decide +kernel
theorem dL_law_391 : decode bL_law 391 = .ok (.iload_n 3, 1) := by decide +kernel
theorem dL_law_392 : decode bL_law 392 = .ok (.iconst 1, 1) := by decide +kernel
theorem dL_law_393 : decode bL_law 393 = .ok (.iadd, 1) := by decide +kernel
theorem dL_law_394 : decode bL_law 394 = .ok (.iaload, 1) := by decide +kernel
theorem dL_law_395 : decode bL_law 395 = .ok (.aload_n 0, 1) := by decide +kernel
theorem dL_law_396 : decode bL_law 396 = .ok (.iload_n 3, 1) := by decide +kernel
theorem dL_law_397 : decode bL_law 397 = .ok (.iconst 2, 1) := by decide +kernel
theorem dL_law_398 : decode bL_law 398 = .ok (.iadd, 1) := by decide +kernel
theorem dL_law_399 : decode bL_law 399 = .ok (.iaload, 1) := by decide +kernel
theorem dL_law_400 : decode bL_law 400 = .ok (.invokevirtual 49, 3) := by decide +kernel
theorem dL_law_403 : decode bL_law 403 = .ok (.lcmp, 1) := by decide +kernel
theorem dL_law_404 : decode bL_law 404 = .ok (.ifCond .eq 108, 3) := by decide +kernel
theorem dL_law_407 : decode bL_law 407 = .ok (.iconst 0, 1) := by decide +kernel
theorem dL_law_408 : decode bL_law 408 = .ok (.ireturn, 1) := by decide +kernel
theorem dL_law_409 : decode bL_law 409 = .ok (.aload_n 1, 1) := by decide +kernel
theorem dL_law_410 : decode bL_law 410 = .ok (.aload_n 0, 1) := by decide +kernel
theorem dL_law_411 : decode bL_law 411 = .ok (.iload_n 3, 1) := by decide +kernel
theorem dL_law_412 : decode bL_law 412 = .ok (.iconst 1, 1) := by decide +kernel
theorem dL_law_413 : decode bL_law 413 = .ok (.iadd, 1) := by decide +kernel
theorem dL_law_414 : decode bL_law 414 = .ok (.iaload, 1) := by decide +kernel
theorem dL_law_415 : decode bL_law 415 = .ok (.aload_n 0, 1) := by decide +kernel
theorem dL_law_416 : decode bL_law 416 = .ok (.iload_n 3, 1) := by decide +kernel
theorem dL_law_417 : decode bL_law 417 = .ok (.iconst 2, 1) := by decide +kernel
theorem dL_law_418 : decode bL_law 418 = .ok (.iadd, 1) := by decide +kernel
theorem dL_law_419 : decode bL_law 419 = .ok (.iaload, 1) := by decide +kernel
theorem dL_law_420 : decode bL_law 420 = .ok (.invokevirtual 50, 3) := by decide +kernel
theorem dL_law_423 : decode bL_law 423 = .ok (.aload_n 2, 1) := by decide +kernel
theorem dL_law_424 : decode bL_law 424 = .ok (.aload_n 0, 1) := by decide +kernel
theorem dL_law_425 : decode bL_law 425 = .ok (.iload_n 3, 1) := by decide +kernel
theorem dL_law_426 : decode bL_law 426 = .ok (.iconst 1, 1) := by decide +kernel
theorem dL_law_427 : decode bL_law 427 = .ok (.iadd, 1) := by decide +kernel
theorem dL_law_428 : decode bL_law 428 = .ok (.iaload, 1) := by decide +kernel
theorem dL_law_429 : decode bL_law 429 = .ok (.aload_n 0, 1) := by decide +kernel
theorem dL_law_430 : decode bL_law 430 = .ok (.iload_n 3, 1) := by decide +kernel
theorem dL_law_431 : decode bL_law 431 = .ok (.iconst 2, 1) := by decide +kernel
theorem dL_law_432 : decode bL_law 432 = .ok (.iadd, 1) := by decide +kernel
theorem dL_law_433 : decode bL_law 433 = .ok (.iaload, 1) := by decide +kernel
theorem dL_law_434 : decode bL_law 434 = .ok (.invokevirtual 53, 3) := by decide +kernel
theorem dL_law_437 : decode bL_law 437 = .ok (.if_icmp .eq 75, 3) := by decide +kernel
theorem dL_law_440 : decode bL_law 440 = .ok (.iconst 0, 1) := by decide +kernel
theorem dL_law_441 : decode bL_law 441 = .ok (.ireturn, 1) := by decide +kernel
theorem dL_law_442 : decode bL_law 442 = .ok (.aload_n 1, 1) := by decide +kernel
theorem dL_law_443 : decode bL_law 443 = .ok (.aload_n 0, 1) := by decide +kernel
theorem dL_law_444 : decode bL_law 444 = .ok (.iload_n 3, 1) := by decide +kernel
theorem dL_law_445 : decode bL_law 445 = .ok (.iconst 1, 1) := by decide +kernel
theorem dL_law_446 : decode bL_law 446 = .ok (.iadd, 1) := by decide +kernel
theorem dL_law_447 : decode bL_law 447 = .ok (.iaload, 1) := by decide +kernel
theorem dL_law_448 : decode bL_law 448 = .ok (.aload_n 0, 1) := by decide +kernel
theorem dL_law_449 : decode bL_law 449 = .ok (.iload_n 3, 1) := by decide +kernel
theorem dL_law_450 : decode bL_law 450 = .ok (.iconst 2, 1) := by decide +kernel
theorem dL_law_451 : decode bL_law 451 = .ok (.iadd, 1) := by decide +kernel
theorem dL_law_452 : decode bL_law 452 = .ok (.iaload, 1) := by decide +kernel
theorem dL_law_453 : decode bL_law 453 = .ok (.invokevirtual 54, 3) := by decide +kernel
theorem dL_law_456 : decode bL_law 456 = .ok (.aload_n 2, 1) := by decide +kernel
theorem dL_law_457 : decode bL_law 457 = .ok (.aload_n 0, 1) := by decide +kernel
theorem dL_law_458 : decode bL_law 458 = .ok (.iload_n 3, 1) := by decide +kernel
theorem dL_law_459 : decode bL_law 459 = .ok (.iconst 1, 1) := by decide +kernel
theorem dL_law_460 : decode bL_law 460 = .ok (.iadd, 1) := by decide +kernel
theorem dL_law_461 : decode bL_law 461 = .ok (.iaload, 1) := by decide +kernel
theorem dL_law_462 : decode bL_law 462 = .ok (.aload_n 0, 1) := by decide +kernel
theorem dL_law_463 : decode bL_law 463 = .ok (.iload_n 3, 1) := by decide +kernel
theorem dL_law_464 : decode bL_law 464 = .ok (.iconst 2, 1) := by decide +kernel
theorem dL_law_465 : decode bL_law 465 = .ok (.iadd, 1) := by decide +kernel
theorem dL_law_466 : decode bL_law 466 = .ok (.iaload, 1) := by decide +kernel
theorem dL_law_467 : decode bL_law 467 = .ok (.invokevirtual 57, 3) := by decide +kernel
theorem dL_law_470 : decode bL_law 470 = .ok (.lcmp, 1) := by decide +kernel
theorem dL_law_471 : decode bL_law 471 = .ok (.ifCond .eq 41, 3) := by decide +kernel
theorem dL_law_474 : decode bL_law 474 = .ok (.iconst 0, 1) := by decide +kernel
theorem dL_law_475 : decode bL_law 475 = .ok (.ireturn, 1) := by decide +kernel
theorem dL_law_476 : decode bL_law 476 = .ok (.aload_n 1, 1) := by decide +kernel
theorem dL_law_477 : decode bL_law 477 = .ok (.invokevirtual 58, 3) := by decide +kernel
theorem dL_law_480 : decode bL_law 480 = .ok (.aload_n 2, 1) := by decide +kernel
theorem dL_law_481 : decode bL_law 481 = .ok (.invokevirtual 62, 3) := by decide +kernel
theorem dL_law_484 : decode bL_law 484 = .ok (.if_icmp .eq 28, 3) := by decide +kernel
theorem dL_law_487 : decode bL_law 487 = .ok (.iconst 0, 1) := by decide +kernel
theorem dL_law_488 : decode bL_law 488 = .ok (.ireturn, 1) := by decide +kernel
theorem dL_law_489 : decode bL_law 489 = .ok (.aload_n 1, 1) := by decide +kernel
theorem dL_law_490 : decode bL_law 490 = .ok (.aload_n 0, 1) := by decide +kernel
theorem dL_law_491 : decode bL_law 491 = .ok (.iload_n 3, 1) := by decide +kernel
theorem dL_law_492 : decode bL_law 492 = .ok (.iconst 1, 1) := by decide +kernel
theorem dL_law_493 : decode bL_law 493 = .ok (.iadd, 1) := by decide +kernel
theorem dL_law_494 : decode bL_law 494 = .ok (.iaload, 1) := by decide +kernel
theorem dL_law_495 : decode bL_law 495 = .ok (.invokevirtual 63, 3) := by decide +kernel
theorem dL_law_498 : decode bL_law 498 = .ok (.aload_n 2, 1) := by decide +kernel
theorem dL_law_499 : decode bL_law 499 = .ok (.aload_n 0, 1) := by decide +kernel
theorem dL_law_500 : decode bL_law 500 = .ok (.iload_n 3, 1) := by decide +kernel
theorem dL_law_501 : decode bL_law 501 = .ok (.iconst 1, 1) := by decide +kernel
theorem dL_law_502 : decode bL_law 502 = .ok (.iadd, 1) := by decide +kernel
theorem dL_law_503 : decode bL_law 503 = .ok (.iaload, 1) := by decide +kernel
theorem dL_law_504 : decode bL_law 504 = .ok (.invokevirtual 67, 3) := by decide +kernel
theorem dL_law_507 : decode bL_law 507 = .ok (.if_icmp .eq 5, 3) := by decide +kernel
theorem dL_law_510 : decode bL_law 510 = .ok (.iconst 0, 1) := by decide +kernel
theorem dL_law_511 : decode bL_law 511 = .ok (.ireturn, 1) := by decide +kernel
theorem dL_law_512 : decode bL_law 512 = .ok (.iinc 3 6, 3) := by decide +kernel
theorem dL_law_515 : decode bL_law 515 = .ok (.goto (-497), 3) := by decide +kernel
theorem dL_law_518 : decode bL_law 518 = .ok (.iconst 1, 1) := by decide +kernel
theorem dL_law_519 : decode bL_law 519 = .ok (.ireturn, 1) := by decide +kernel
