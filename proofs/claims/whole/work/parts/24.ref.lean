theorem dX5_read_333 : decode cX5_read 333 = .ok (.aload_n 0, 1) := by decide +kernel
theorem dX5_read_334 : decode cX5_read 334 = .ok (.iload 5, 2) := by decide +kernel
theorem dX5_read_336 : decode cX5_read 336 = .ok (.iload 6, 2) := by decide +kernel
theorem dX5_read_338 : decode cX5_read 338 = .ok (.iload_n 1, 1) := by decide +kernel
theorem dX5_read_339 : decode cX5_read 339 = .ok (.invokevirtual 134, 3) := by decide +kernel
theorem dX5_read_342 : decode cX5_read 342 = .ok (.ireturn, 1) := by decide +kernel
theorem dX5_read_330 : decode cX5_read 330 = .ok (.bipush (-4), 2) := by decide +kernel
theorem dX5_read_332 : decode cX5_read 332 = .ok (.ireturn, 1) := by decide +kernel
theorem dX5_read_323 : decode cX5_read 323 = .ok (.iload 7, 2) := by decide +kernel
theorem dX5_read_325 : decode cX5_read 325 = .ok (.bipush 12, 2) := by decide +kernel
theorem dX5_read_327 : decode cX5_read 327 = .ok (.if_icmp .le 6, 3) := by decide +kernel
theorem dX5_read_315 : decode cX5_read 315 = .ok (.aload_n 0, 1) := by decide +kernel
theorem dX5_read_316 : decode cX5_read 316 = .ok (.getfield 102, 3) := by decide +kernel
theorem dX5_read_319 : decode cX5_read 319 = .ok (.iconst 3, 1) := by decide +kernel
theorem dX5_read_320 : decode cX5_read 320 = .ok (.if_icmp .gt 10, 3) := by decide +kernel
theorem dX5_read_306 : decode cX5_read 306 = .ok (.aload_n 0, 1) := by decide +kernel
theorem dX5_read_307 : decode cX5_read 307 = .ok (.getfield 99, 3) := by decide +kernel
theorem dX5_read_310 : decode cX5_read 310 = .ok (.bipush 12, 2) := by decide +kernel
theorem dX5_read_312 : decode cX5_read 312 = .ok (.if_icmp .gt 18, 3) := by decide +kernel
theorem dX5_read_273 : decode cX5_read 273 = .ok (.aload_n 0, 1) := by decide +kernel
theorem dX5_read_274 : decode cX5_read 274 = .ok (.getfield 74, 3) := by decide +kernel
theorem dX5_read_277 : decode cX5_read 277 = .ok (.iload_n 1, 1) := by decide +kernel
theorem dX5_read_278 : decode cX5_read 278 = .ok (.isub, 1) := by decide +kernel
theorem dX5_read_279 : decode cX5_read 279 = .ok (.iconst 1, 1) := by decide +kernel
theorem dX5_read_280 : decode cX5_read 280 = .ok (.isub, 1) := by decide +kernel
theorem dX5_read_281 : decode cX5_read 281 = .ok (.aload_n 0, 1) := by decide +kernel
theorem dX5_read_282 : decode cX5_read 282 = .ok (.bipush 124, 2) := by decide +kernel
theorem dX5_read_284 : decode cX5_read 284 = .ok (.iload_n 1, 1) := by decide +kernel
theorem dX5_read_285 : decode cX5_read 285 = .ok (.iconst 1, 1) := by decide +kernel
theorem dX5_read_286 : decode cX5_read 286 = .ok (.iadd, 1) := by decide +kernel
theorem dX5_read_287 : decode cX5_read 287 = .ok (.aload_n 0, 1) := by decide +kernel
theorem dX5_read_288 : decode cX5_read 288 = .ok (.getfield 74, 3) := by decide +kernel
theorem dX5_read_291 : decode cX5_read 291 = .ok (.invokevirtual 112, 3) := by decide +kernel
theorem dX5_read_294 : decode cX5_read 294 = .ok (.isub, 1) := by decide +kernel
theorem dX5_read_295 : decode cX5_read 295 = .ok (.istore 7, 2) := by decide +kernel
theorem dX5_read_297 : decode cX5_read 297 = .ok (.aload_n 0, 1) := by decide +kernel
theorem dX5_read_298 : decode cX5_read 298 = .ok (.getfield 131, 3) := by decide +kernel
theorem dX5_read_301 : decode cX5_read 301 = .ok (.bipush 8, 2) := by decide +kernel
theorem dX5_read_303 : decode cX5_read 303 = .ok (.if_icmp .eq 27, 3) := by decide +kernel
theorem dX5_read_267 : decode cX5_read 267 = .ok (.iinc 7 1, 3) := by decide +kernel
theorem dX5_read_270 : decode cX5_read 270 = .ok (.goto (-31), 3) := by decide +kernel
theorem dX5_read_264 : decode cX5_read 264 = .ok (.bipush (-3), 2) := by decide +kernel
theorem dX5_read_266 : decode cX5_read 266 = .ok (.ireturn, 1) := by decide +kernel
theorem dX5_read_245 : decode cX5_read 245 = .ok (.aload_n 0, 1) := by decide +kernel
theorem dX5_read_246 : decode cX5_read 246 = .ok (.bipush 48, 2) := by decide +kernel
theorem dX5_read_248 : decode cX5_read 248 = .ok (.iload 7, 2) := by decide +kernel
theorem dX5_read_250 : decode cX5_read 250 = .ok (.iadd, 1) := by decide +kernel
theorem dX5_read_251 : decode cX5_read 251 = .ok (.iload_n 1, 1) := by decide +kernel
theorem dX5_read_252 : decode cX5_read 252 = .ok (.iconst 1, 1) := by decide +kernel
theorem dX5_read_253 : decode cX5_read 253 = .ok (.iadd, 1) := by decide +kernel
theorem dX5_read_254 : decode cX5_read 254 = .ok (.aload_n 0, 1) := by decide +kernel
theorem dX5_read_255 : decode cX5_read 255 = .ok (.getfield 74, 3) := by decide +kernel
theorem dX5_read_258 : decode cX5_read 258 = .ok (.invokevirtual 112, 3) := by decide +kernel
theorem dX5_read_261 : decode cX5_read 261 = .ok (.ifCond .le 6, 3) := by decide +kernel
theorem dX5_read_239 : decode cX5_read 239 = .ok (.iload 7, 2) := by decide +kernel
theorem dX5_read_241 : decode cX5_read 241 = .ok (.iconst 3, 1) := by decide +kernel
theorem dX5_read_242 : decode cX5_read 242 = .ok (.if_icmp .gt 31, 3) := by decide +kernel
theorem dX5_read_231 : decode cX5_read 231 = .ok (.aload_n 0, 1) := by decide +kernel
theorem dX5_read_232 : decode cX5_read 232 = .ok (.getfield 102, 3) := by decide +kernel
theorem dX5_read_235 : decode cX5_read 235 = .ok (.iconst 1, 1) := by decide +kernel
theorem dX5_read_236 : decode cX5_read 236 = .ok (.iadd, 1) := by decide +kernel
theorem dX5_read_237 : decode cX5_read 237 = .ok (.istore 7, 2) := by decide +kernel
theorem dX5_read_228 : decode cX5_read 228 = .ok (.bipush (-2), 2) := by decide +kernel
theorem dX5_read_230 : decode cX5_read 230 = .ok (.ireturn, 1) := by decide +kernel
theorem dX5_read_221 : decode cX5_read 221 = .ok (.aload_n 0, 1) := by decide +kernel
theorem dX5_read_222 : decode cX5_read 222 = .ok (.getfield 92, 3) := by decide +kernel
theorem dX5_read_225 : decode cX5_read 225 = .ok (.ifCond .eq 6, 3) := by decide +kernel
theorem dX5_read_219 : decode cX5_read 219 = .ok (.iconst (-1), 1) := by decide +kernel
theorem dX5_read_220 : decode cX5_read 220 = .ok (.ireturn, 1) := by decide +kernel
theorem dX5_read_212 : decode cX5_read 212 = .ok (.istore 4, 2) := by decide +kernel
theorem dX5_read_214 : decode cX5_read 214 = .ok (.iload 4, 2) := by decide +kernel
theorem dX5_read_216 : decode cX5_read 216 = .ok (.ifCond .ne 5, 3) := by decide +kernel
theorem dX5_read_211 : decode cX5_read 211 = .ok (.iconst 0, 1) := by decide +kernel
theorem dX5_read_207 : decode cX5_read 207 = .ok (.iconst 1, 1) := by decide +kernel
theorem dX5_read_208 : decode cX5_read 208 = .ok (.goto 4, 3) := by decide +kernel
theorem dX5_read_195 : decode cX5_read 195 = .ok (.aload_n 0, 1) := by decide +kernel
theorem dX5_read_196 : decode cX5_read 196 = .ok (.iload_n 3, 1) := by decide +kernel
theorem dX5_read_197 : decode cX5_read 197 = .ok (.iconst 1, 1) := by decide +kernel
theorem dX5_read_198 : decode cX5_read 198 = .ok (.iadd, 1) := by decide +kernel
theorem dX5_read_199 : decode cX5_read 199 = .ok (.iload_n 1, 1) := by decide +kernel
theorem dX5_read_200 : decode cX5_read 200 = .ok (.iconst 0, 1) := by decide +kernel
theorem dX5_read_201 : decode cX5_read 201 = .ok (.invokevirtual 127, 3) := by decide +kernel
theorem dX5_read_204 : decode cX5_read 204 = .ok (.ifCond .eq 7, 3) := by decide +kernel
theorem dX5_read_190 : decode cX5_read 190 = .ok (.iload_n 3, 1) := by decide +kernel
theorem dX5_read_191 : decode cX5_read 191 = .ok (.iload_n 1, 1) := by decide +kernel
theorem dX5_read_192 : decode cX5_read 192 = .ok (.if_icmp .eq 15, 3) := by decide +kernel
theorem dX5_read_183 : decode cX5_read 183 = .ok (.iload 6, 2) := by decide +kernel
theorem dX5_read_185 : decode cX5_read 185 = .ok (.iload 5, 2) := by decide +kernel
theorem dX5_read_187 : decode cX5_read 187 = .ok (.if_icmp .le 24, 3) := by decide +kernel
theorem dX5_read_170 : decode cX5_read 170 = .ok (.istore 4, 2) := by decide +kernel
theorem dX5_read_172 : decode cX5_read 172 = .ok (.aload_n 0, 1) := by decide +kernel
theorem dX5_read_173 : decode cX5_read 173 = .ok (.getfield 99, 3) := by decide +kernel
theorem dX5_read_176 : decode cX5_read 176 = .ok (.istore 6, 2) := by decide +kernel
theorem dX5_read_178 : decode cX5_read 178 = .ok (.iload 4, 2) := by decide +kernel
theorem dX5_read_180 : decode cX5_read 180 = .ok (.ifCond .eq 31, 3) := by decide +kernel
theorem dX5_read_169 : decode cX5_read 169 = .ok (.iconst 0, 1) := by decide +kernel
theorem dX5_read_165 : decode cX5_read 165 = .ok (.iconst 1, 1) := by decide +kernel
theorem dX5_read_166 : decode cX5_read 166 = .ok (.goto 4, 3) := by decide +kernel
theorem dX5_read_153 : decode cX5_read 153 = .ok (.aload_n 0, 1) := by decide +kernel
theorem dX5_read_154 : decode cX5_read 154 = .ok (.iload_n 2, 1) := by decide +kernel
theorem dX5_read_155 : decode cX5_read 155 = .ok (.iconst 1, 1) := by decide +kernel
theorem dX5_read_156 : decode cX5_read 156 = .ok (.iadd, 1) := by decide +kernel
theorem dX5_read_157 : decode cX5_read 157 = .ok (.iload_n 3, 1) := by decide +kernel
theorem dX5_read_158 : decode cX5_read 158 = .ok (.iconst 1, 1) := by decide +kernel
theorem dX5_read_159 : decode cX5_read 159 = .ok (.invokevirtual 127, 3) := by decide +kernel
theorem dX5_read_162 : decode cX5_read 162 = .ok (.ifCond .eq 7, 3) := by decide +kernel
theorem dX5_read_136 : decode cX5_read 136 = .ok (.iconst 0, 1) := by decide +kernel
theorem dX5_read_137 : decode cX5_read 137 = .ok (.invokevirtual 127, 3) := by decide +kernel
theorem dX5_read_140 : decode cX5_read 140 = .ok (.istore 4, 2) := by decide +kernel
theorem dX5_read_142 : decode cX5_read 142 = .ok (.aload_n 0, 1) := by decide +kernel
theorem dX5_read_143 : decode cX5_read 143 = .ok (.getfield 99, 3) := by decide +kernel
theorem dX5_read_146 : decode cX5_read 146 = .ok (.istore 5, 2) := by decide +kernel
theorem dX5_read_148 : decode cX5_read 148 = .ok (.iload 4, 2) := by decide +kernel
theorem dX5_read_150 : decode cX5_read 150 = .ok (.ifCond .eq 19, 3) := by decide +kernel
theorem dX5_read_135 : decode cX5_read 135 = .ok (.iload_n 2, 1) := by decide +kernel
theorem dX5_read_131 : decode cX5_read 131 = .ok (.iconst 0, 1) := by decide +kernel
theorem dX5_read_132 : decode cX5_read 132 = .ok (.goto 4, 3) := by decide +kernel
theorem dX5_read_125 : decode cX5_read 125 = .ok (.aload_n 0, 1) := by decide +kernel
theorem dX5_read_126 : decode cX5_read 126 = .ok (.iconst 0, 1) := by decide +kernel
theorem dX5_read_127 : decode cX5_read 127 = .ok (.iload_n 2, 1) := by decide +kernel
theorem dX5_read_128 : decode cX5_read 128 = .ok (.ifCond .ge 7, 3) := by decide +kernel
theorem dX5_read_123 : decode cX5_read 123 = .ok (.iconst (-1), 1) := by decide +kernel
theorem dX5_read_124 : decode cX5_read 124 = .ok (.ireturn, 1) := by decide +kernel
theorem dX5_read_113 : decode cX5_read 113 = .ok (.aload_n 0, 1) := by decide +kernel
theorem dX5_read_114 : decode cX5_read 114 = .ok (.iload_n 1, 1) := by decide +kernel
theorem dX5_read_115 : decode cX5_read 115 = .ok (.iconst 1, 1) := by decide +kernel
theorem dX5_read_116 : decode cX5_read 116 = .ok (.iadd, 1) := by decide +kernel
theorem dX5_read_117 : decode cX5_read 117 = .ok (.invokevirtual 124, 3) := by decide +kernel
theorem dX5_read_120 : decode cX5_read 120 = .ok (.ifCond .ne 5, 3) := by decide +kernel
theorem dX5_read_108 : decode cX5_read 108 = .ok (.iload_n 2, 1) := by decide +kernel
theorem dX5_read_109 : decode cX5_read 109 = .ok (.iload_n 3, 1) := by decide +kernel
theorem dX5_read_110 : decode cX5_read 110 = .ok (.if_icmp .gt 13, 3) := by decide +kernel
theorem dX5_read_99 : decode cX5_read 99 = .ok (.istore_n 3, 1) := by decide +kernel
theorem dX5_read_100 : decode cX5_read 100 = .ok (.iload_n 1, 1) := by decide +kernel
theorem dX5_read_101 : decode cX5_read 101 = .ok (.aload_n 0, 1) := by decide +kernel
theorem dX5_read_102 : decode cX5_read 102 = .ok (.getfield 74, 3) := by decide +kernel
theorem dX5_read_105 : decode cX5_read 105 = .ok (.if_icmp .eq 18, 3) := by decide +kernel
theorem dX5_read_98 : decode cX5_read 98 = .ok (.iload_n 1, 1) := by decide +kernel
theorem dX5_read_89 : decode cX5_read 89 = .ok (.aload_n 0, 1) := by decide +kernel
theorem dX5_read_90 : decode cX5_read 90 = .ok (.bipush 125, 2) := by decide +kernel
theorem dX5_read_92 : decode cX5_read 92 = .ok (.invokevirtual 120, 3) := by decide +kernel
theorem dX5_read_95 : decode cX5_read 95 = .ok (.goto 4, 3) := by decide +kernel
theorem dX5_read_78 : decode cX5_read 78 = .ok (.istore_n 2, 1) := by decide +kernel
theorem dX5_read_79 : decode cX5_read 79 = .ok (.aload_n 0, 1) := by decide +kernel
theorem dX5_read_80 : decode cX5_read 80 = .ok (.bipush 125, 2) := by decide +kernel
theorem dX5_read_82 : decode cX5_read 82 = .ok (.invokevirtual 120, 3) := by decide +kernel
theorem dX5_read_85 : decode cX5_read 85 = .ok (.iload_n 1, 1) := by decide +kernel
theorem dX5_read_86 : decode cX5_read 86 = .ok (.if_icmp .ge 12, 3) := by decide +kernel
theorem dX5_read_77 : decode cX5_read 77 = .ok (.iconst (-1), 1) := by decide +kernel
theorem dX5_read_68 : decode cX5_read 68 = .ok (.aload_n 0, 1) := by decide +kernel
theorem dX5_read_69 : decode cX5_read 69 = .ok (.bipush 123, 2) := by decide +kernel
theorem dX5_read_71 : decode cX5_read 71 = .ok (.invokevirtual 120, 3) := by decide +kernel
theorem dX5_read_74 : decode cX5_read 74 = .ok (.goto 4, 3) := by decide +kernel
theorem dX5_read_51 : decode cX5_read 51 = .ok (.aload_n 0, 1) := by decide +kernel
theorem dX5_read_52 : decode cX5_read 52 = .ok (.bipush 62, 2) := by decide +kernel
theorem dX5_read_54 : decode cX5_read 54 = .ok (.invokevirtual 120, 3) := by decide +kernel
theorem dX5_read_57 : decode cX5_read 57 = .ok (.istore_n 1, 1) := by decide +kernel
theorem dX5_read_58 : decode cX5_read 58 = .ok (.aload_n 0, 1) := by decide +kernel
theorem dX5_read_59 : decode cX5_read 59 = .ok (.bipush 123, 2) := by decide +kernel
theorem dX5_read_61 : decode cX5_read 61 = .ok (.invokevirtual 120, 3) := by decide +kernel
theorem dX5_read_64 : decode cX5_read 64 = .ok (.iload_n 1, 1) := by decide +kernel
theorem dX5_read_65 : decode cX5_read 65 = .ok (.if_icmp .ge 12, 3) := by decide +kernel
theorem dX5_read_46 : decode cX5_read 46 = .ok (.aload_n 0, 1) := by decide +kernel
theorem dX5_read_47 : decode cX5_read 47 = .ok (.invokevirtual 116, 3) := by decide +kernel
theorem dX5_read_50 : decode cX5_read 50 = .ok (.ireturn, 1) := by decide +kernel
theorem dX5_read_35 : decode cX5_read 35 = .ok (.aload_n 0, 1) := by decide +kernel
theorem dX5_read_36 : decode cX5_read 36 = .ok (.getfield 7, 3) := by decide +kernel
theorem dX5_read_39 : decode cX5_read 39 = .ok (.iconst 1, 1) := by decide +kernel
theorem dX5_read_40 : decode cX5_read 40 = .ok (.iaload, 1) := by decide +kernel
theorem dX5_read_41 : decode cX5_read 41 = .ok (.bipush 61, 2) := by decide +kernel
theorem dX5_read_43 : decode cX5_read 43 = .ok (.if_icmp .ne 8, 3) := by decide +kernel
theorem dX5_read_23 : decode cX5_read 23 = .ok (.aload_n 0, 1) := by decide +kernel
theorem dX5_read_24 : decode cX5_read 24 = .ok (.getfield 7, 3) := by decide +kernel
theorem dX5_read_27 : decode cX5_read 27 = .ok (.iconst 0, 1) := by decide +kernel
theorem dX5_read_28 : decode cX5_read 28 = .ok (.iaload, 1) := by decide +kernel
theorem dX5_read_29 : decode cX5_read 29 = .ok (.invokestatic 89, 3) := by decide +kernel
theorem dX5_read_32 : decode cX5_read 32 = .ok (.ifCond .eq 19, 3) := by decide +kernel
theorem dX5_read_0 : decode cX5_read 0 = .ok (.aload_n 0, 1) := by decide +kernel
theorem dX5_read_1 : decode cX5_read 1 = .ok (.iconst 0, 1) := by decide +kernel
theorem dX5_read_2 : decode cX5_read 2 = .ok (.putfield 99, 3) := by decide +kernel
theorem dX5_read_5 : decode cX5_read 5 = .ok (.aload_n 0, 1) := by decide +kernel
theorem dX5_read_6 : decode cX5_read 6 = .ok (.iconst 0, 1) := by decide +kernel
theorem dX5_read_7 : decode cX5_read 7 = .ok (.putfield 102, 3) := by decide +kernel
theorem dX5_read_10 : decode cX5_read 10 = .ok (.aload_n 0, 1) := by decide +kernel
theorem dX5_read_11 : decode cX5_read 11 = .ok (.iconst 0, 1) := by decide +kernel
theorem dX5_read_12 : decode cX5_read 12 = .ok (.putfield 92, 3) := by decide +kernel
theorem dX5_read_15 : decode cX5_read 15 = .ok (.aload_n 0, 1) := by decide +kernel
theorem dX5_read_16 : decode cX5_read 16 = .ok (.getfield 74, 3) := by decide +kernel
theorem dX5_read_19 : decode cX5_read 19 = .ok (.iconst 2, 1) := by decide +kernel
theorem dX5_read_20 : decode cX5_read 20 = .ok (.if_icmp .le 31, 3) := by decide +kernel
theorem dX5_code_53 : decode cX5_code 53 = .ok (.aload_n 0, 1) := by decide +kernel
theorem dX5_code_54 : decode cX5_code 54 = .ok (.getfield 7, 3) := by decide +kernel
theorem dX5_code_57 : decode cX5_code 57 = .ok (.aload_n 0, 1) := by decide +kernel
theorem dX5_code_58 : decode cX5_code 58 = .ok (.getfield 74, 3) := by decide +kernel
theorem dX5_code_61 : decode cX5_code 61 = .ok (.iload_n 1, 1) := by decide +kernel
theorem dX5_code_62 : decode cX5_code 62 = .ok (.iastore, 1) := by decide +kernel
theorem dX5_code_63 : decode cX5_code 63 = .ok (.aload_n 0, 1) := by decide +kernel
theorem dX5_code_64 : decode cX5_code 64 = .ok (.dup, 1) := by decide +kernel
theorem dX5_code_65 : decode cX5_code 65 = .ok (.getfield 74, 3) := by decide +kernel
theorem dX5_code_68 : decode cX5_code 68 = .ok (.iconst 1, 1) := by decide +kernel
theorem dX5_code_69 : decode cX5_code 69 = .ok (.iadd, 1) := by decide +kernel
theorem dX5_code_70 : decode cX5_code 70 = .ok (.putfield 74, 3) := by decide +kernel
theorem dX5_code_73 : decode cX5_code 73 = .ok (.iconst 0, 1) := by decide +kernel
theorem dX5_code_74 : decode cX5_code 74 = .ok (.ireturn, 1) := by decide +kernel
theorem dX5_code_50 : decode cX5_code 50 = .ok (.bipush (-6), 2) := by decide +kernel
theorem dX5_code_52 : decode cX5_code 52 = .ok (.ireturn, 1) := by decide +kernel
theorem dX5_code_41 : decode cX5_code 41 = .ok (.aload_n 0, 1) := by decide +kernel
theorem dX5_code_42 : decode cX5_code 42 = .ok (.getfield 74, 3) := by decide +kernel
theorem dX5_code_45 : decode cX5_code 45 = .ok (.bipush 48, 2) := by decide +kernel
theorem dX5_code_47 : decode cX5_code 47 = .ok (.if_icmp .ne 6, 3) := by decide +kernel
theorem dX5_code_39 : decode cX5_code 39 = .ok (.iconst 0, 1) := by decide +kernel
theorem dX5_code_40 : decode cX5_code 40 = .ok (.ireturn, 1) := by decide +kernel
theorem dX5_code_33 : decode cX5_code 33 = .ok (.iload_n 1, 1) := by decide +kernel
theorem dX5_code_34 : decode cX5_code 34 = .ok (.bipush 32, 2) := by decide +kernel
theorem dX5_code_36 : decode cX5_code 36 = .ok (.if_icmp .ne 5, 3) := by decide +kernel
theorem dX5_code_21 : decode cX5_code 21 = .ok (.aload_n 0, 1) := by decide +kernel
theorem dX5_code_22 : decode cX5_code 22 = .ok (.invokevirtual 144, 3) := by decide +kernel
theorem dX5_code_25 : decode cX5_code 25 = .ok (.istore_n 2, 1) := by decide +kernel
theorem dX5_code_26 : decode cX5_code 26 = .ok (.aload_n 0, 1) := by decide +kernel
theorem dX5_code_27 : decode cX5_code 27 = .ok (.iconst 0, 1) := by decide +kernel
theorem dX5_code_28 : decode cX5_code 28 = .ok (.putfield 74, 3) := by decide +kernel
theorem dX5_code_31 : decode cX5_code 31 = .ok (.iload_n 2, 1) := by decide +kernel
theorem dX5_code_32 : decode cX5_code 32 = .ok (.ireturn, 1) := by decide +kernel
theorem dX5_code_15 : decode cX5_code 15 = .ok (.iload_n 1, 1) := by decide +kernel
theorem dX5_code_16 : decode cX5_code 16 = .ok (.bipush 59, 2) := by decide +kernel
theorem dX5_code_18 : decode cX5_code 18 = .ok (.if_icmp .ne 15, 3) := by decide +kernel
theorem dX5_code_12 : decode cX5_code 12 = .ok (.bipush (-6), 2) := by decide +kernel
theorem dX5_code_14 : decode cX5_code 14 = .ok (.ireturn, 1) := by decide +kernel
theorem dX5_code_6 : decode cX5_code 6 = .ok (.iload_n 1, 1) := by decide +kernel
theorem dX5_code_7 : decode cX5_code 7 = .ok (.bipush 126, 2) := by decide +kernel
theorem dX5_code_9 : decode cX5_code 9 = .ok (.if_icmp .le 6, 3) := by decide +kernel
theorem dX5_code_0 : decode cX5_code 0 = .ok (.iload_n 1, 1) := by decide +kernel
theorem dX5_code_1 : decode cX5_code 1 = .ok (.bipush 32, 2) := by decide +kernel
theorem dX5_code_3 : decode cX5_code 3 = .ok (.if_icmp .lt 9, 3) := by decide +kernel
theorem dX5_rules_0 : decode cX5_rules 0 = .ok (.aload_n 0, 1) := by decide +kernel
theorem dX5_rules_1 : decode cX5_rules 1 = .ok (.getfield 131, 3) := by decide +kernel
theorem dX5_rules_4 : decode cX5_rules 4 = .ok (.ireturn, 1) := by decide +kernel
theorem dX5_restart_0 : decode cX5_restart 0 = .ok (.aload_n 0, 1) := by decide +kernel
theorem dX5_restart_1 : decode cX5_restart 1 = .ok (.iconst 0, 1) := by decide +kernel
theorem dX5_restart_2 : decode cX5_restart 2 = .ok (.putfield 150, 3) := by decide +kernel
theorem dX5_restart_5 : decode cX5_restart 5 = .ok (.aload_n 0, 1) := by decide +kernel
theorem dX5_restart_6 : decode cX5_restart 6 = .ok (.iconst 0, 1) := by decide +kernel
theorem dX5_restart_7 : decode cX5_restart 7 = .ok (.putfield 153, 3) := by decide +kernel
theorem dX5_restart_10 : decode cX5_restart 10 = .ok (.aload_n 0, 1) := by decide +kernel
theorem dX5_restart_11 : decode cX5_restart 11 = .ok (.iconst 0, 1) := by decide +kernel
theorem dX5_restart_12 : decode cX5_restart 12 = .ok (.putfield 156, 3) := by decide +kernel
theorem dX5_restart_15 : decode cX5_restart 15 = .ok (.aload_n 0, 1) := by decide +kernel
theorem dX5_restart_16 : decode cX5_restart 16 = .ok (.iconst (-1), 1) := by decide +kernel
theorem dX5_restart_17 : decode cX5_restart 17 = .ok (.putfield 64, 3) := by decide +kernel
theorem dX5_restart_20 : decode cX5_restart 20 = .ok (.aload_n 0, 1) := by decide +kernel
theorem dX5_restart_21 : decode cX5_restart 21 = .ok (.iconst 0, 1) := by decide +kernel
theorem dX5_restart_22 : decode cX5_restart 22 = .ok (.putfield 159, 3) := by decide +kernel
theorem dX5_restart_25 : decode cX5_restart 25 = .ok (.return_, 1) := by decide +kernel
theorem dX5_forget_31 : decode cX5_forget 31 = .ok (.aload_n 0, 1) := by decide +kernel
theorem dX5_forget_32 : decode cX5_forget 32 = .ok (.invokevirtual 147, 3) := by decide +kernel
theorem dX5_forget_35 : decode cX5_forget 35 = .ok (.return_, 1) := by decide +kernel
theorem dX5_forget_18 : decode cX5_forget 18 = .ok (.aload_n 0, 1) := by decide +kernel
theorem dX5_forget_19 : decode cX5_forget 19 = .ok (.getfield 13, 3) := by decide +kernel
theorem dX5_forget_22 : decode cX5_forget 22 = .ok (.iload_n 1, 1) := by decide +kernel
theorem dX5_forget_23 : decode cX5_forget 23 = .ok (.iconst (-1), 1) := by decide +kernel
theorem dX5_forget_24 : decode cX5_forget 24 = .ok (.iastore, 1) := by decide +kernel
theorem dX5_forget_25 : decode cX5_forget 25 = .ok (.iinc 1 1, 3) := by decide +kernel
theorem dX5_forget_28 : decode cX5_forget 28 = .ok (.goto (-16), 3) := by decide +kernel
theorem dX5_forget_12 : decode cX5_forget 12 = .ok (.iload_n 1, 1) := by decide +kernel
theorem dX5_forget_13 : decode cX5_forget 13 = .ok (.bipush 26, 2) := by decide +kernel
theorem dX5_forget_15 : decode cX5_forget 15 = .ok (.if_icmp .ge 16, 3) := by decide +kernel
theorem dX5_forget_0 : decode cX5_forget 0 = .ok (.aload_n 0, 1) := by decide +kernel
theorem dX5_forget_1 : decode cX5_forget 1 = .ok (.iconst 0, 1) := by decide +kernel
theorem dX5_forget_2 : decode cX5_forget 2 = .ok (.putfield 131, 3) := by decide +kernel
theorem dX5_forget_5 : decode cX5_forget 5 = .ok (.aload_n 0, 1) := by decide +kernel
theorem dX5_forget_6 : decode cX5_forget 6 = .ok (.iconst 0, 1) := by decide +kernel
theorem dX5_forget_7 : decode cX5_forget 7 = .ok (.putfield 74, 3) := by decide +kernel
theorem dX5_forget_10 : decode cX5_forget 10 = .ok (.iconst 0, 1) := by decide +kernel
theorem dX5_forget_11 : decode cX5_forget 11 = .ok (.istore_n 1, 1) := by decide +kernel
theorem dX5_write_25 : decode cX5_write 25 = .ok (.aload_n 0, 1) := by decide +kernel
theorem dX5_write_26 : decode cX5_write 26 = .ok (.getfield 58, 3) := by decide +kernel
theorem dX5_write_29 : decode cX5_write 29 = .ok (.aload_n 0, 1) := by decide +kernel
theorem dX5_write_30 : decode cX5_write 30 = .ok (.getfield 150, 3) := by decide +kernel
theorem dX5_write_33 : decode cX5_write 33 = .ok (.iload_n 1, 1) := by decide +kernel
theorem dX5_write_34 : decode cX5_write 34 = .ok (.iastore, 1) := by decide +kernel
theorem dX5_write_35 : decode cX5_write 35 = .ok (.aload_n 0, 1) := by decide +kernel
theorem dX5_write_36 : decode cX5_write 36 = .ok (.dup, 1) := by decide +kernel
theorem dX5_write_37 : decode cX5_write 37 = .ok (.getfield 150, 3) := by decide +kernel
theorem dX5_write_40 : decode cX5_write 40 = .ok (.iconst 1, 1) := by decide +kernel
theorem dX5_write_41 : decode cX5_write 41 = .ok (.iadd, 1) := by decide +kernel
theorem dX5_write_42 : decode cX5_write 42 = .ok (.putfield 150, 3) := by decide +kernel
theorem dX5_write_45 : decode cX5_write 45 = .ok (.iconst 1, 1) := by decide +kernel
theorem dX5_write_46 : decode cX5_write 46 = .ok (.ireturn, 1) := by decide +kernel
theorem dX5_write_23 : decode cX5_write 23 = .ok (.iconst 0, 1) := by decide +kernel
theorem dX5_write_24 : decode cX5_write 24 = .ok (.ireturn, 1) := by decide +kernel
theorem dX5_write_16 : decode cX5_write 16 = .ok (.aload_n 0, 1) := by decide +kernel
theorem dX5_write_17 : decode cX5_write 17 = .ok (.getfield 159, 3) := by decide +kernel
theorem dX5_write_20 : decode cX5_write 20 = .ok (.ifCond .eq 5, 3) := by decide +kernel
theorem dX5_write_7 : decode cX5_write 7 = .ok (.aload_n 0, 1) := by decide +kernel
theorem dX5_write_8 : decode cX5_write 8 = .ok (.getfield 150, 3) := by decide +kernel
theorem dX5_write_11 : decode cX5_write 11 = .ok (.bipush 60, 2) := by decide +kernel
theorem dX5_write_13 : decode cX5_write 13 = .ok (.if_icmp .eq 10, 3) := by decide +kernel
theorem dX5_write_0 : decode cX5_write 0 = .ok (.iload_n 1, 1) := by decide +kernel
theorem dX5_write_1 : decode cX5_write 1 = .ok (.invokestatic 81, 3) := by decide +kernel
theorem dX5_write_4 : decode cX5_write 4 = .ok (.ifCond .eq 19, 3) := by decide +kernel
-- X5_read
def wX5_read : List Cond := Cond.code yX5_read cX5_read 8 (some .int) :: kv_tb
abbrev SX5_read (pc : Nat) (F : kv_D) : Prop := kv_S cX5_read 8 RX5 wX5_read (some .int) false 4 104 none pc F
def fX5_read_333 (K : Nat → kv_D) : kv_D := o_aload 0 (o_iload 5 (o_iload 6 (o_iload 1 (o_callV 5 3 mX5_enter (o_iret .int)))))
theorem sX5_read_333 {K : Nat → kv_D} (hK : ∀ pc, SX5_read pc (K pc)) : SX5_read 333 (fX5_read_333 K) := k_aload_n dX5_read_333 rfl (k_iload dX5_read_334 (k_iload dX5_read_336 (k_iload_n dX5_read_338 rfl (k_callV (q := (RX5, TX5, 32)) dX5_read_339 cX5_enter_ct rfl (kv_goodV mw_567 mw_569 sel_X5_enter mw_6 mw_570) (by decide +kernel) rfl (by decide) (by decide) (k_iret dX5_read_342 rfl)))))
theorem nX5_read_333 : kv_cn (fun K => fX5_read_333 K) := cn_aload 0 (cn_iload 5 (cn_iload 6 (cn_iload 1 (cn_callV 5 3 mX5_enter (cn_c _)))))
def fX5_read_330 (K : Nat → kv_D) : kv_D := o_const (-4) (o_iret .int)
theorem sX5_read_330 {K : Nat → kv_D} (hK : ∀ pc, SX5_read pc (K pc)) : SX5_read 330 (fX5_read_330 K) := k_bipush dX5_read_330 (by decide +kernel) (k_iret dX5_read_332 rfl)
theorem nX5_read_330 : kv_cn (fun K => fX5_read_330 K) := cn_const (-4) (cn_c _)
def fX5_read_323 (K : Nat → kv_D) : kv_D := o_iload 7 (o_const 12 (o_icle (fX5_read_333 K) (fX5_read_330 K)))
theorem sX5_read_323 {K : Nat → kv_D} (hK : ∀ pc, SX5_read pc (K pc)) : SX5_read 323 (fX5_read_323 K) := k_iload dX5_read_323 (k_bipush dX5_read_325 (by decide +kernel) (k_icle dX5_read_327 rfl (sX5_read_333 hK) (sX5_read_330 hK)))
theorem nX5_read_323 : kv_cn (fun K => fX5_read_323 K) := cn_iload 7 (cn_const 12 (cn_icle nX5_read_333 nX5_read_330))
def fX5_read_315 (K : Nat → kv_D) : kv_D := o_aload 0 (o_getf 5 8 (o_const 3 (o_icgt (fX5_read_330 K) (fX5_read_323 K))))
theorem sX5_read_315 {K : Nat → kv_D} (hK : ∀ pc, SX5_read pc (K pc)) : SX5_read 315 (fX5_read_315 K) := k_aload_n dX5_read_315 rfl (k_getf (C := RX5) (T := TX5) (N := 32) (ci := 5) (index := 102) (kf := 8) dX5_read_316 rfl (fun w h => List.mem_cons_of_mem _ (inX5 w h)) (by decide) (List.mem_cons_of_mem _ mw_427) (k_iconst dX5_read_319 (by decide +kernel) (k_icgt dX5_read_320 rfl (sX5_read_330 hK) (sX5_read_323 hK))))
theorem nX5_read_315 : kv_cn (fun K => fX5_read_315 K) := cn_aload 0 (cn_getf 5 8 (cn_const 3 (cn_icgt nX5_read_330 nX5_read_323)))
def fX5_read_306 (K : Nat → kv_D) : kv_D := o_aload 0 (o_getf 5 3 (o_const 12 (o_icgt (fX5_read_330 K) (fX5_read_315 K))))
theorem sX5_read_306 {K : Nat → kv_D} (hK : ∀ pc, SX5_read pc (K pc)) : SX5_read 306 (fX5_read_306 K) := k_aload_n dX5_read_306 rfl (k_getf (C := RX5) (T := TX5) (N := 32) (ci := 5) (index := 99) (kf := 3) dX5_read_307 rfl (fun w h => List.mem_cons_of_mem _ (inX5 w h)) (by decide) (List.mem_cons_of_mem _ mw_422) (k_bipush dX5_read_310 (by decide +kernel) (k_icgt dX5_read_312 rfl (sX5_read_330 hK) (sX5_read_315 hK))))
theorem nX5_read_306 : kv_cn (fun K => fX5_read_306 K) := cn_aload 0 (cn_getf 5 3 (cn_const 12 (cn_icgt nX5_read_330 nX5_read_315)))
def fX5_read_273 (K : Nat → kv_D) : kv_D := o_aload 0 (o_getf 5 0 (o_iload 1 (o_isub (o_const 1 (o_isub (o_aload 0 (o_const 124 (o_iload 1 (o_const 1 (o_iadd (o_aload 0 (o_getf 5 0 (o_callV 5 3 mX5_count (o_isub (o_istore 7 (o_aload 0 (o_getf 5 11 (o_const 8 (o_iceq (fX5_read_330 K) (fX5_read_306 K))))))))))))))))))))
theorem sX5_read_273 {K : Nat → kv_D} (hK : ∀ pc, SX5_read pc (K pc)) : SX5_read 273 (fX5_read_273 K) := k_aload_n dX5_read_273 rfl (k_getf (C := RX5) (T := TX5) (N := 32) (ci := 5) (index := 74) (kf := 0) dX5_read_274 rfl (fun w h => List.mem_cons_of_mem _ (inX5 w h)) (by decide) (List.mem_cons_of_mem _ mw_419) (k_iload_n dX5_read_277 rfl (k_isub dX5_read_278 (k_iconst dX5_read_279 (by decide +kernel) (k_isub dX5_read_280 (k_aload_n dX5_read_281 rfl (k_bipush dX5_read_282 (by decide +kernel) (k_iload_n dX5_read_284 rfl (k_iconst dX5_read_285 (by decide +kernel) (k_iadd dX5_read_286 (k_aload_n dX5_read_287 rfl (k_getf (C := RX5) (T := TX5) (N := 32) (ci := 5) (index := 74) (kf := 0) dX5_read_288 rfl (fun w h => List.mem_cons_of_mem _ (inX5 w h)) (by decide) (List.mem_cons_of_mem _ mw_419) (k_callV (q := (RX5, TX5, 32)) dX5_read_291 cX5_count_ct rfl (kv_goodV mw_555 mw_557 sel_X5_count mw_6 mw_558) (by decide +kernel) rfl (by decide) (by decide) (k_isub dX5_read_294 (k_istore dX5_read_295 (by decide) (k_aload_n dX5_read_297 rfl (k_getf (C := RX5) (T := TX5) (N := 32) (ci := 5) (index := 131) (kf := 11) dX5_read_298 rfl (fun w h => List.mem_cons_of_mem _ (inX5 w h)) (by decide) (List.mem_cons_of_mem _ mw_430) (k_bipush dX5_read_301 (by decide +kernel) (k_iceq dX5_read_303 rfl (sX5_read_330 hK) (sX5_read_306 hK))))))))))))))))))))
theorem nX5_read_273 : kv_cn (fun K => fX5_read_273 K) := cn_aload 0 (cn_getf 5 0 (cn_iload 1 (cn_isub (cn_const 1 (cn_isub (cn_aload 0 (cn_const 124 (cn_iload 1 (cn_const 1 (cn_iadd (cn_aload 0 (cn_getf 5 0 (cn_callV 5 3 mX5_count (cn_isub (cn_istore 7 (cn_aload 0 (cn_getf 5 11 (cn_const 8 (cn_iceq nX5_read_330 nX5_read_306)))))))))))))))))))
def fX5_read_267 (K : Nat → kv_D) : kv_D := o_iinc 7 1 ((K 239))
theorem sX5_read_267 {K : Nat → kv_D} (hK : ∀ pc, SX5_read pc (K pc)) : SX5_read 267 (fX5_read_267 K) := k_iinc dX5_read_267 (by decide +kernel) (by decide) (k_goto dX5_read_270 rfl (hK 239))
theorem nX5_read_267 : kv_cn (fun K => fX5_read_267 K) := cn_iinc 7 1 ((cn_K 239))
def fX5_read_264 (K : Nat → kv_D) : kv_D := o_const (-3) (o_iret .int)
theorem sX5_read_264 {K : Nat → kv_D} (hK : ∀ pc, SX5_read pc (K pc)) : SX5_read 264 (fX5_read_264 K) := k_bipush dX5_read_264 (by decide +kernel) (k_iret dX5_read_266 rfl)
theorem nX5_read_264 : kv_cn (fun K => fX5_read_264 K) := cn_const (-3) (cn_c _)
def fX5_read_245 (K : Nat → kv_D) : kv_D := o_aload 0 (o_const 48 (o_iload 7 (o_iadd (o_iload 1 (o_const 1 (o_iadd (o_aload 0 (o_getf 5 0 (o_callV 5 3 mX5_count (o_ifle (fX5_read_267 K) (fX5_read_264 K)))))))))))
theorem sX5_read_245 {K : Nat → kv_D} (hK : ∀ pc, SX5_read pc (K pc)) : SX5_read 245 (fX5_read_245 K) := k_aload_n dX5_read_245 rfl (k_bipush dX5_read_246 (by decide +kernel) (k_iload dX5_read_248 (k_iadd dX5_read_250 (k_iload_n dX5_read_251 rfl (k_iconst dX5_read_252 (by decide +kernel) (k_iadd dX5_read_253 (k_aload_n dX5_read_254 rfl (k_getf (C := RX5) (T := TX5) (N := 32) (ci := 5) (index := 74) (kf := 0) dX5_read_255 rfl (fun w h => List.mem_cons_of_mem _ (inX5 w h)) (by decide) (List.mem_cons_of_mem _ mw_419) (k_callV (q := (RX5, TX5, 32)) dX5_read_258 cX5_count_ct rfl (kv_goodV mw_555 mw_557 sel_X5_count mw_6 mw_558) (by decide +kernel) rfl (by decide) (by decide) (k_ifle dX5_read_261 rfl (sX5_read_267 hK) (sX5_read_264 hK)))))))))))
theorem nX5_read_245 : kv_cn (fun K => fX5_read_245 K) := cn_aload 0 (cn_const 48 (cn_iload 7 (cn_iadd (cn_iload 1 (cn_const 1 (cn_iadd (cn_aload 0 (cn_getf 5 0 (cn_callV 5 3 mX5_count (cn_ifle nX5_read_267 nX5_read_264))))))))))
def fX5_read_239 (K : Nat → kv_D) : kv_D := o_iload 7 (o_const 3 (o_icgt (fX5_read_273 K) (fX5_read_245 K)))
theorem sX5_read_239 {K : Nat → kv_D} (hK : ∀ pc, SX5_read pc (K pc)) : SX5_read 239 (fX5_read_239 K) := k_iload dX5_read_239 (k_iconst dX5_read_241 (by decide +kernel) (k_icgt dX5_read_242 rfl (sX5_read_273 hK) (sX5_read_245 hK)))
theorem nX5_read_239 : kv_cn (fun K => fX5_read_239 K) := cn_iload 7 (cn_const 3 (cn_icgt nX5_read_273 nX5_read_245))
def fX5_read_231 (K : Nat → kv_D) : kv_D := o_aload 0 (o_getf 5 8 (o_const 1 (o_iadd (o_istore 7 ((K 239))))))
theorem sX5_read_231 {K : Nat → kv_D} (hK : ∀ pc, SX5_read pc (K pc)) : SX5_read 231 (fX5_read_231 K) := k_aload_n dX5_read_231 rfl (k_getf (C := RX5) (T := TX5) (N := 32) (ci := 5) (index := 102) (kf := 8) dX5_read_232 rfl (fun w h => List.mem_cons_of_mem _ (inX5 w h)) (by decide) (List.mem_cons_of_mem _ mw_427) (k_iconst dX5_read_235 (by decide +kernel) (k_iadd dX5_read_236 (k_istore dX5_read_237 (by decide) ((hK 239))))))
theorem nX5_read_231 : kv_cn (fun K => fX5_read_231 K) := cn_aload 0 (cn_getf 5 8 (cn_const 1 (cn_iadd (cn_istore 7 ((cn_K 239))))))
def fX5_read_228 (K : Nat → kv_D) : kv_D := o_const (-2) (o_iret .int)
theorem sX5_read_228 {K : Nat → kv_D} (hK : ∀ pc, SX5_read pc (K pc)) : SX5_read 228 (fX5_read_228 K) := k_bipush dX5_read_228 (by decide +kernel) (k_iret dX5_read_230 rfl)
theorem nX5_read_228 : kv_cn (fun K => fX5_read_228 K) := cn_const (-2) (cn_c _)
def fX5_read_221 (K : Nat → kv_D) : kv_D := o_aload 0 (o_getf 5 9 (o_ifeq (fX5_read_231 K) (fX5_read_228 K)))
theorem sX5_read_221 {K : Nat → kv_D} (hK : ∀ pc, SX5_read pc (K pc)) : SX5_read 221 (fX5_read_221 K) := k_aload_n dX5_read_221 rfl (k_getf (C := RX5) (T := TX5) (N := 32) (ci := 5) (index := 92) (kf := 9) dX5_read_222 rfl (fun w h => List.mem_cons_of_mem _ (inX5 w h)) (by decide) (List.mem_cons_of_mem _ mw_428) (k_ifeq dX5_read_225 rfl (sX5_read_231 hK) (sX5_read_228 hK)))
theorem nX5_read_221 : kv_cn (fun K => fX5_read_221 K) := cn_aload 0 (cn_getf 5 9 (cn_ifeq nX5_read_231 nX5_read_228))
def fX5_read_219 (K : Nat → kv_D) : kv_D := o_const (-1) (o_iret .int)
theorem sX5_read_219 {K : Nat → kv_D} (hK : ∀ pc, SX5_read pc (K pc)) : SX5_read 219 (fX5_read_219 K) := k_iconst dX5_read_219 (by decide +kernel) (k_iret dX5_read_220 rfl)
theorem nX5_read_219 : kv_cn (fun K => fX5_read_219 K) := cn_const (-1) (cn_c _)
def fX5_read_212 (K : Nat → kv_D) : kv_D := o_istore 4 (o_iload 4 (o_ifne (fX5_read_221 K) (fX5_read_219 K)))
theorem sX5_read_212 {K : Nat → kv_D} (hK : ∀ pc, SX5_read pc (K pc)) : SX5_read 212 (fX5_read_212 K) := k_istore dX5_read_212 (by decide) (k_iload dX5_read_214 (k_ifne dX5_read_216 rfl (sX5_read_221 hK) (sX5_read_219 hK)))
theorem nX5_read_212 : kv_cn (fun K => fX5_read_212 K) := cn_istore 4 (cn_iload 4 (cn_ifne nX5_read_221 nX5_read_219))
def fX5_read_211 (K : Nat → kv_D) : kv_D := o_const 0 ((fX5_read_212 K))
theorem sX5_read_211 {K : Nat → kv_D} (hK : ∀ pc, SX5_read pc (K pc)) : SX5_read 211 (fX5_read_211 K) := k_iconst dX5_read_211 (by decide +kernel) ((sX5_read_212 hK))
theorem nX5_read_211 : kv_cn (fun K => fX5_read_211 K) := cn_const 0 (nX5_read_212)
def fX5_read_207 (K : Nat → kv_D) : kv_D := o_const 1 ((fX5_read_212 K))
theorem sX5_read_207 {K : Nat → kv_D} (hK : ∀ pc, SX5_read pc (K pc)) : SX5_read 207 (fX5_read_207 K) := k_iconst dX5_read_207 (by decide +kernel) (k_goto dX5_read_208 rfl (sX5_read_212 hK))
theorem nX5_read_207 : kv_cn (fun K => fX5_read_207 K) := cn_const 1 (nX5_read_212)
def fX5_read_195 (K : Nat → kv_D) : kv_D := o_aload 0 (o_iload 3 (o_const 1 (o_iadd (o_iload 1 (o_const 0 (o_callV 5 3 mX5_row (o_ifeq (fX5_read_211 K) (fX5_read_207 K))))))))
theorem sX5_read_195 {K : Nat → kv_D} (hK : ∀ pc, SX5_read pc (K pc)) : SX5_read 195 (fX5_read_195 K) := k_aload_n dX5_read_195 rfl (k_iload_n dX5_read_196 rfl (k_iconst dX5_read_197 (by decide +kernel) (k_iadd dX5_read_198 (k_iload_n dX5_read_199 rfl (k_iconst dX5_read_200 (by decide +kernel) (k_callV (q := (RX5, TX5, 32)) dX5_read_201 cX5_row_ct rfl (kv_goodV mw_559 mw_561 sel_X5_row mw_6 mw_562) (by decide +kernel) rfl (by decide) (by decide) (k_ifeq dX5_read_204 rfl (sX5_read_211 hK) (sX5_read_207 hK))))))))
theorem nX5_read_195 : kv_cn (fun K => fX5_read_195 K) := cn_aload 0 (cn_iload 3 (cn_const 1 (cn_iadd (cn_iload 1 (cn_const 0 (cn_callV 5 3 mX5_row (cn_ifeq nX5_read_211 nX5_read_207)))))))
def fX5_read_190 (K : Nat → kv_D) : kv_D := o_iload 3 (o_iload 1 (o_iceq (fX5_read_207 K) (fX5_read_195 K)))
theorem sX5_read_190 {K : Nat → kv_D} (hK : ∀ pc, SX5_read pc (K pc)) : SX5_read 190 (fX5_read_190 K) := k_iload_n dX5_read_190 rfl (k_iload_n dX5_read_191 rfl (k_iceq dX5_read_192 rfl (sX5_read_207 hK) (sX5_read_195 hK)))
theorem nX5_read_190 : kv_cn (fun K => fX5_read_190 K) := cn_iload 3 (cn_iload 1 (cn_iceq nX5_read_207 nX5_read_195))
def fX5_read_183 (K : Nat → kv_D) : kv_D := o_iload 6 (o_iload 5 (o_icle (fX5_read_211 K) (fX5_read_190 K)))
theorem sX5_read_183 {K : Nat → kv_D} (hK : ∀ pc, SX5_read pc (K pc)) : SX5_read 183 (fX5_read_183 K) := k_iload dX5_read_183 (k_iload dX5_read_185 (k_icle dX5_read_187 rfl (sX5_read_211 hK) (sX5_read_190 hK)))
theorem nX5_read_183 : kv_cn (fun K => fX5_read_183 K) := cn_iload 6 (cn_iload 5 (cn_icle nX5_read_211 nX5_read_190))
def fX5_read_170 (K : Nat → kv_D) : kv_D := o_istore 4 (o_aload 0 (o_getf 5 3 (o_istore 6 (o_iload 4 (o_ifeq (fX5_read_211 K) (fX5_read_183 K))))))
theorem sX5_read_170 {K : Nat → kv_D} (hK : ∀ pc, SX5_read pc (K pc)) : SX5_read 170 (fX5_read_170 K) := k_istore dX5_read_170 (by decide) (k_aload_n dX5_read_172 rfl (k_getf (C := RX5) (T := TX5) (N := 32) (ci := 5) (index := 99) (kf := 3) dX5_read_173 rfl (fun w h => List.mem_cons_of_mem _ (inX5 w h)) (by decide) (List.mem_cons_of_mem _ mw_422) (k_istore dX5_read_176 (by decide) (k_iload dX5_read_178 (k_ifeq dX5_read_180 rfl (sX5_read_211 hK) (sX5_read_183 hK))))))
theorem nX5_read_170 : kv_cn (fun K => fX5_read_170 K) := cn_istore 4 (cn_aload 0 (cn_getf 5 3 (cn_istore 6 (cn_iload 4 (cn_ifeq nX5_read_211 nX5_read_183)))))
def fX5_read_169 (K : Nat → kv_D) : kv_D := o_const 0 ((fX5_read_170 K))
theorem sX5_read_169 {K : Nat → kv_D} (hK : ∀ pc, SX5_read pc (K pc)) : SX5_read 169 (fX5_read_169 K) := k_iconst dX5_read_169 (by decide +kernel) ((sX5_read_170 hK))
theorem nX5_read_169 : kv_cn (fun K => fX5_read_169 K) := cn_const 0 (nX5_read_170)
def fX5_read_165 (K : Nat → kv_D) : kv_D := o_const 1 ((fX5_read_170 K))
theorem sX5_read_165 {K : Nat → kv_D} (hK : ∀ pc, SX5_read pc (K pc)) : SX5_read 165 (fX5_read_165 K) := k_iconst dX5_read_165 (by decide +kernel) (k_goto dX5_read_166 rfl (sX5_read_170 hK))
theorem nX5_read_165 : kv_cn (fun K => fX5_read_165 K) := cn_const 1 (nX5_read_170)
def fX5_read_153 (K : Nat → kv_D) : kv_D := o_aload 0 (o_iload 2 (o_const 1 (o_iadd (o_iload 3 (o_const 1 (o_callV 5 3 mX5_row (o_ifeq (fX5_read_169 K) (fX5_read_165 K))))))))
theorem sX5_read_153 {K : Nat → kv_D} (hK : ∀ pc, SX5_read pc (K pc)) : SX5_read 153 (fX5_read_153 K) := k_aload_n dX5_read_153 rfl (k_iload_n dX5_read_154 rfl (k_iconst dX5_read_155 (by decide +kernel) (k_iadd dX5_read_156 (k_iload_n dX5_read_157 rfl (k_iconst dX5_read_158 (by decide +kernel) (k_callV (q := (RX5, TX5, 32)) dX5_read_159 cX5_row_ct rfl (kv_goodV mw_559 mw_561 sel_X5_row mw_6 mw_562) (by decide +kernel) rfl (by decide) (by decide) (k_ifeq dX5_read_162 rfl (sX5_read_169 hK) (sX5_read_165 hK))))))))
theorem nX5_read_153 : kv_cn (fun K => fX5_read_153 K) := cn_aload 0 (cn_iload 2 (cn_const 1 (cn_iadd (cn_iload 3 (cn_const 1 (cn_callV 5 3 mX5_row (cn_ifeq nX5_read_169 nX5_read_165)))))))
def fX5_read_136 (K : Nat → kv_D) : kv_D := o_const 0 (o_callV 5 3 mX5_row (o_istore 4 (o_aload 0 (o_getf 5 3 (o_istore 5 (o_iload 4 (o_ifeq (fX5_read_169 K) (fX5_read_153 K))))))))
theorem sX5_read_136 {K : Nat → kv_D} (hK : ∀ pc, SX5_read pc (K pc)) : SX5_read 136 (fX5_read_136 K) := k_iconst dX5_read_136 (by decide +kernel) (k_callV (q := (RX5, TX5, 32)) dX5_read_137 cX5_row_ct rfl (kv_goodV mw_559 mw_561 sel_X5_row mw_6 mw_562) (by decide +kernel) rfl (by decide) (by decide) (k_istore dX5_read_140 (by decide) (k_aload_n dX5_read_142 rfl (k_getf (C := RX5) (T := TX5) (N := 32) (ci := 5) (index := 99) (kf := 3) dX5_read_143 rfl (fun w h => List.mem_cons_of_mem _ (inX5 w h)) (by decide) (List.mem_cons_of_mem _ mw_422) (k_istore dX5_read_146 (by decide) (k_iload dX5_read_148 (k_ifeq dX5_read_150 rfl (sX5_read_169 hK) (sX5_read_153 hK))))))))
theorem nX5_read_136 : kv_cn (fun K => fX5_read_136 K) := cn_const 0 (cn_callV 5 3 mX5_row (cn_istore 4 (cn_aload 0 (cn_getf 5 3 (cn_istore 5 (cn_iload 4 (cn_ifeq nX5_read_169 nX5_read_153)))))))
def fX5_read_135 (K : Nat → kv_D) : kv_D := o_iload 2 ((fX5_read_136 K))
theorem sX5_read_135 {K : Nat → kv_D} (hK : ∀ pc, SX5_read pc (K pc)) : SX5_read 135 (fX5_read_135 K) := k_iload_n dX5_read_135 rfl ((sX5_read_136 hK))
theorem nX5_read_135 : kv_cn (fun K => fX5_read_135 K) := cn_iload 2 (nX5_read_136)
def fX5_read_131 (K : Nat → kv_D) : kv_D := o_const 0 ((fX5_read_136 K))
theorem sX5_read_131 {K : Nat → kv_D} (hK : ∀ pc, SX5_read pc (K pc)) : SX5_read 131 (fX5_read_131 K) := k_iconst dX5_read_131 (by decide +kernel) (k_goto dX5_read_132 rfl (sX5_read_136 hK))
theorem nX5_read_131 : kv_cn (fun K => fX5_read_131 K) := cn_const 0 (nX5_read_136)
def fX5_read_125 (K : Nat → kv_D) : kv_D := o_aload 0 (o_const 0 (o_iload 2 (o_ifge (fX5_read_135 K) (fX5_read_131 K))))
theorem sX5_read_125 {K : Nat → kv_D} (hK : ∀ pc, SX5_read pc (K pc)) : SX5_read 125 (fX5_read_125 K) := k_aload_n dX5_read_125 rfl (k_iconst dX5_read_126 (by decide +kernel) (k_iload_n dX5_read_127 rfl (k_ifge dX5_read_128 rfl (sX5_read_135 hK) (sX5_read_131 hK))))
theorem nX5_read_125 : kv_cn (fun K => fX5_read_125 K) := cn_aload 0 (cn_const 0 (cn_iload 2 (cn_ifge nX5_read_135 nX5_read_131)))
def fX5_read_123 (K : Nat → kv_D) : kv_D := o_const (-1) (o_iret .int)
theorem sX5_read_123 {K : Nat → kv_D} (hK : ∀ pc, SX5_read pc (K pc)) : SX5_read 123 (fX5_read_123 K) := k_iconst dX5_read_123 (by decide +kernel) (k_iret dX5_read_124 rfl)
theorem nX5_read_123 : kv_cn (fun K => fX5_read_123 K) := cn_const (-1) (cn_c _)
def fX5_read_113 (K : Nat → kv_D) : kv_D := o_aload 0 (o_iload 1 (o_const 1 (o_iadd (o_callV 5 1 mX5_replacement (o_ifne (fX5_read_125 K) (fX5_read_123 K))))))
theorem sX5_read_113 {K : Nat → kv_D} (hK : ∀ pc, SX5_read pc (K pc)) : SX5_read 113 (fX5_read_113 K) := k_aload_n dX5_read_113 rfl (k_iload_n dX5_read_114 rfl (k_iconst dX5_read_115 (by decide +kernel) (k_iadd dX5_read_116 (k_callV (q := (RX5, TX5, 32)) dX5_read_117 cX5_replacement_ct rfl (kv_goodV mw_551 mw_553 sel_X5_replacement mw_6 mw_554) (by decide +kernel) rfl (by decide) (by decide) (k_ifne dX5_read_120 rfl (sX5_read_125 hK) (sX5_read_123 hK))))))
theorem nX5_read_113 : kv_cn (fun K => fX5_read_113 K) := cn_aload 0 (cn_iload 1 (cn_const 1 (cn_iadd (cn_callV 5 1 mX5_replacement (cn_ifne nX5_read_125 nX5_read_123)))))
def fX5_read_108 (K : Nat → kv_D) : kv_D := o_iload 2 (o_iload 3 (o_icgt (fX5_read_123 K) (fX5_read_113 K)))
theorem sX5_read_108 {K : Nat → kv_D} (hK : ∀ pc, SX5_read pc (K pc)) : SX5_read 108 (fX5_read_108 K) := k_iload_n dX5_read_108 rfl (k_iload_n dX5_read_109 rfl (k_icgt dX5_read_110 rfl (sX5_read_123 hK) (sX5_read_113 hK)))
theorem nX5_read_108 : kv_cn (fun K => fX5_read_108 K) := cn_iload 2 (cn_iload 3 (cn_icgt nX5_read_123 nX5_read_113))
def fX5_read_99 (K : Nat → kv_D) : kv_D := o_istore 3 (o_iload 1 (o_aload 0 (o_getf 5 0 (o_iceq (fX5_read_123 K) (fX5_read_108 K)))))
theorem sX5_read_99 {K : Nat → kv_D} (hK : ∀ pc, SX5_read pc (K pc)) : SX5_read 99 (fX5_read_99 K) := k_istore_n dX5_read_99 rfl (by decide) (k_iload_n dX5_read_100 rfl (k_aload_n dX5_read_101 rfl (k_getf (C := RX5) (T := TX5) (N := 32) (ci := 5) (index := 74) (kf := 0) dX5_read_102 rfl (fun w h => List.mem_cons_of_mem _ (inX5 w h)) (by decide) (List.mem_cons_of_mem _ mw_419) (k_iceq dX5_read_105 rfl (sX5_read_123 hK) (sX5_read_108 hK)))))
theorem nX5_read_99 : kv_cn (fun K => fX5_read_99 K) := cn_istore 3 (cn_iload 1 (cn_aload 0 (cn_getf 5 0 (cn_iceq nX5_read_123 nX5_read_108))))
def fX5_read_98 (K : Nat → kv_D) : kv_D := o_iload 1 ((fX5_read_99 K))
theorem sX5_read_98 {K : Nat → kv_D} (hK : ∀ pc, SX5_read pc (K pc)) : SX5_read 98 (fX5_read_98 K) := k_iload_n dX5_read_98 rfl ((sX5_read_99 hK))
theorem nX5_read_98 : kv_cn (fun K => fX5_read_98 K) := cn_iload 1 (nX5_read_99)
def fX5_read_89 (K : Nat → kv_D) : kv_D := o_aload 0 (o_const 125 (o_callV 5 1 mX5_place ((fX5_read_99 K))))
theorem sX5_read_89 {K : Nat → kv_D} (hK : ∀ pc, SX5_read pc (K pc)) : SX5_read 89 (fX5_read_89 K) := k_aload_n dX5_read_89 rfl (k_bipush dX5_read_90 (by decide +kernel) (k_callV (q := (RX5, TX5, 32)) dX5_read_92 cX5_place_ct rfl (kv_goodV mw_547 mw_549 sel_X5_place mw_6 mw_550) (by decide +kernel) rfl (by decide) (by decide) (k_goto dX5_read_95 rfl (sX5_read_99 hK))))
theorem nX5_read_89 : kv_cn (fun K => fX5_read_89 K) := cn_aload 0 (cn_const 125 (cn_callV 5 1 mX5_place (nX5_read_99)))
def fX5_read_78 (K : Nat → kv_D) : kv_D := o_istore 2 (o_aload 0 (o_const 125 (o_callV 5 1 mX5_place (o_iload 1 (o_icge (fX5_read_98 K) (fX5_read_89 K))))))
theorem sX5_read_78 {K : Nat → kv_D} (hK : ∀ pc, SX5_read pc (K pc)) : SX5_read 78 (fX5_read_78 K) := k_istore_n dX5_read_78 rfl (by decide) (k_aload_n dX5_read_79 rfl (k_bipush dX5_read_80 (by decide +kernel) (k_callV (q := (RX5, TX5, 32)) dX5_read_82 cX5_place_ct rfl (kv_goodV mw_547 mw_549 sel_X5_place mw_6 mw_550) (by decide +kernel) rfl (by decide) (by decide) (k_iload_n dX5_read_85 rfl (k_icge dX5_read_86 rfl (sX5_read_98 hK) (sX5_read_89 hK))))))
theorem nX5_read_78 : kv_cn (fun K => fX5_read_78 K) := cn_istore 2 (cn_aload 0 (cn_const 125 (cn_callV 5 1 mX5_place (cn_iload 1 (cn_icge nX5_read_98 nX5_read_89)))))
def fX5_read_77 (K : Nat → kv_D) : kv_D := o_const (-1) ((fX5_read_78 K))
theorem sX5_read_77 {K : Nat → kv_D} (hK : ∀ pc, SX5_read pc (K pc)) : SX5_read 77 (fX5_read_77 K) := k_iconst dX5_read_77 (by decide +kernel) ((sX5_read_78 hK))
theorem nX5_read_77 : kv_cn (fun K => fX5_read_77 K) := cn_const (-1) (nX5_read_78)
def fX5_read_68 (K : Nat → kv_D) : kv_D := o_aload 0 (o_const 123 (o_callV 5 1 mX5_place ((fX5_read_78 K))))
theorem sX5_read_68 {K : Nat → kv_D} (hK : ∀ pc, SX5_read pc (K pc)) : SX5_read 68 (fX5_read_68 K) := k_aload_n dX5_read_68 rfl (k_bipush dX5_read_69 (by decide +kernel) (k_callV (q := (RX5, TX5, 32)) dX5_read_71 cX5_place_ct rfl (kv_goodV mw_547 mw_549 sel_X5_place mw_6 mw_550) (by decide +kernel) rfl (by decide) (by decide) (k_goto dX5_read_74 rfl (sX5_read_78 hK))))
theorem nX5_read_68 : kv_cn (fun K => fX5_read_68 K) := cn_aload 0 (cn_const 123 (cn_callV 5 1 mX5_place (nX5_read_78)))
def fX5_read_51 (K : Nat → kv_D) : kv_D := o_aload 0 (o_const 62 (o_callV 5 1 mX5_place (o_istore 1 (o_aload 0 (o_const 123 (o_callV 5 1 mX5_place (o_iload 1 (o_icge (fX5_read_77 K) (fX5_read_68 K)))))))))
theorem sX5_read_51 {K : Nat → kv_D} (hK : ∀ pc, SX5_read pc (K pc)) : SX5_read 51 (fX5_read_51 K) := k_aload_n dX5_read_51 rfl (k_bipush dX5_read_52 (by decide +kernel) (k_callV (q := (RX5, TX5, 32)) dX5_read_54 cX5_place_ct rfl (kv_goodV mw_547 mw_549 sel_X5_place mw_6 mw_550) (by decide +kernel) rfl (by decide) (by decide) (k_istore_n dX5_read_57 rfl (by decide) (k_aload_n dX5_read_58 rfl (k_bipush dX5_read_59 (by decide +kernel) (k_callV (q := (RX5, TX5, 32)) dX5_read_61 cX5_place_ct rfl (kv_goodV mw_547 mw_549 sel_X5_place mw_6 mw_550) (by decide +kernel) rfl (by decide) (by decide) (k_iload_n dX5_read_64 rfl (k_icge dX5_read_65 rfl (sX5_read_77 hK) (sX5_read_68 hK)))))))))
theorem nX5_read_51 : kv_cn (fun K => fX5_read_51 K) := cn_aload 0 (cn_const 62 (cn_callV 5 1 mX5_place (cn_istore 1 (cn_aload 0 (cn_const 123 (cn_callV 5 1 mX5_place (cn_iload 1 (cn_icge nX5_read_77 nX5_read_68))))))))
def fX5_read_46 (K : Nat → kv_D) : kv_D := o_aload 0 (o_callV 5 0 mX5_define (o_iret .int))
theorem sX5_read_46 {K : Nat → kv_D} (hK : ∀ pc, SX5_read pc (K pc)) : SX5_read 46 (fX5_read_46 K) := k_aload_n dX5_read_46 rfl (k_callV (q := (RX5, TX5, 32)) dX5_read_47 cX5_define_ct rfl (kv_goodV mw_527 mw_529 sel_X5_define mw_6 mw_530) (by decide +kernel) rfl (by decide) (by decide) (k_iret dX5_read_50 rfl))
theorem nX5_read_46 : kv_cn (fun K => fX5_read_46 K) := cn_aload 0 (cn_callV 5 0 mX5_define (cn_c _))
def fX5_read_35 (K : Nat → kv_D) : kv_D := o_aload 0 (o_getf 5 1 (o_const 1 (o_iald 0 (o_const 61 (o_icne (fX5_read_51 K) (fX5_read_46 K))))))
theorem sX5_read_35 {K : Nat → kv_D} (hK : ∀ pc, SX5_read pc (K pc)) : SX5_read 35 (fX5_read_35 K) := k_aload_n dX5_read_35 rfl (k_getf (C := RX5) (T := TX5) (N := 32) (ci := 5) (index := 7) (kf := 1) dX5_read_36 rfl (fun w h => List.mem_cons_of_mem _ (inX5 w h)) (by decide) (List.mem_cons_of_mem _ mw_420) (k_iconst dX5_read_39 (by decide +kernel) (k_iald dX5_read_40 rfl (k_bipush dX5_read_41 (by decide +kernel) (k_icne dX5_read_43 rfl (sX5_read_51 hK) (sX5_read_46 hK))))))
theorem nX5_read_35 : kv_cn (fun K => fX5_read_35 K) := cn_aload 0 (cn_getf 5 1 (cn_const 1 (cn_iald 0 (cn_const 61 (cn_icne nX5_read_51 nX5_read_46)))))
def fX5_read_23 (K : Nat → kv_D) : kv_D := o_aload 0 (o_getf 5 1 (o_const 0 (o_iald 0 (o_callS 1 mX5_capital (o_ifeq (fX5_read_51 K) (fX5_read_35 K))))))
theorem sX5_read_23 {K : Nat → kv_D} (hK : ∀ pc, SX5_read pc (K pc)) : SX5_read 23 (fX5_read_23 K) := k_aload_n dX5_read_23 rfl (k_getf (C := RX5) (T := TX5) (N := 32) (ci := 5) (index := 7) (kf := 1) dX5_read_24 rfl (fun w h => List.mem_cons_of_mem _ (inX5 w h)) (by decide) (List.mem_cons_of_mem _ mw_420) (k_iconst dX5_read_27 (by decide +kernel) (k_iald dX5_read_28 rfl (k_callS dX5_read_29 cX5_capital_ct rfl (kv_goodS mw_524 mw_525 mw_6 mw_526) (by decide +kernel) (by decide) (by decide) (k_ifeq dX5_read_32 rfl (sX5_read_51 hK) (sX5_read_35 hK))))))
theorem nX5_read_23 : kv_cn (fun K => fX5_read_23 K) := cn_aload 0 (cn_getf 5 1 (cn_const 0 (cn_iald 0 (cn_callS 1 mX5_capital (cn_ifeq nX5_read_51 nX5_read_35)))))
def fX5_read_0 (K : Nat → kv_D) : kv_D := o_aload 0 (o_const 0 (o_putf 5 3 .int (o_aload 0 (o_const 0 (o_putf 5 8 .int (o_aload 0 (o_const 0 (o_putf 5 9 .boolean (o_aload 0 (o_getf 5 0 (o_const 2 (o_icle (fX5_read_51 K) (fX5_read_23 K)))))))))))))
theorem sX5_read_0 {K : Nat → kv_D} (hK : ∀ pc, SX5_read pc (K pc)) : SX5_read 0 (fX5_read_0 K) := k_aload_n dX5_read_0 rfl (k_iconst dX5_read_1 (by decide +kernel) (k_putf (C := RX5) (T := TX5) (N := 32) (ci := 5) (index := 99) (kf := 3) (ty := .int) dX5_read_2 rfl (fun w h => List.mem_cons_of_mem _ (inX5 w h)) tyX5 tyX5_ok nmX5 (by decide) (List.mem_cons_of_mem _ mw_422) rfl rfl (k_aload_n dX5_read_5 rfl (k_iconst dX5_read_6 (by decide +kernel) (k_putf (C := RX5) (T := TX5) (N := 32) (ci := 5) (index := 102) (kf := 8) (ty := .int) dX5_read_7 rfl (fun w h => List.mem_cons_of_mem _ (inX5 w h)) tyX5 tyX5_ok nmX5 (by decide) (List.mem_cons_of_mem _ mw_427) rfl rfl (k_aload_n dX5_read_10 rfl (k_iconst dX5_read_11 (by decide +kernel) (k_putf (C := RX5) (T := TX5) (N := 32) (ci := 5) (index := 92) (kf := 9) (ty := .boolean) dX5_read_12 rfl (fun w h => List.mem_cons_of_mem _ (inX5 w h)) tyX5 tyX5_ok nmX5 (by decide) (List.mem_cons_of_mem _ mw_428) rfl rfl (k_aload_n dX5_read_15 rfl (k_getf (C := RX5) (T := TX5) (N := 32) (ci := 5) (index := 74) (kf := 0) dX5_read_16 rfl (fun w h => List.mem_cons_of_mem _ (inX5 w h)) (by decide) (List.mem_cons_of_mem _ mw_419) (k_iconst dX5_read_19 (by decide +kernel) (k_icle dX5_read_20 rfl (sX5_read_51 hK) (sX5_read_23 hK)))))))))))))
theorem nX5_read_0 : kv_cn (fun K => fX5_read_0 K) := cn_aload 0 (cn_const 0 (cn_putf 5 3 .int (cn_aload 0 (cn_const 0 (cn_putf 5 8 .int (cn_aload 0 (cn_const 0 (cn_putf 5 9 .boolean (cn_aload 0 (cn_getf 5 0 (cn_const 2 (cn_icle nX5_read_51 nX5_read_23))))))))))))
def bX5_read (K : Nat → kv_D) (pc : Nat) : kv_D := if pc = 239 then fX5_read_239 K else fun _ _ _ _ _ => False
theorem hX5_read : ∀ pc, SX5_read pc (kv_lim (bX5_read) pc) := kv_lim_S (fun K hK pc => by
  unfold bX5_read
  by_cases q239 : pc = 239
  · rw [if_pos q239, q239]
    exact sX5_read_239 hK
  rw [if_neg q239]
  exact kv_none)
theorem uX5_read_239 {L : List (Option Value)} {st : List Value} {h : kv_H} {v : Option Value} {h' : kv_H} (hx : fX5_read_239 (kv_lim (bX5_read)) L st h v h') : kv_lim (bX5_read) 239 L st h v h' := kv_un (q := 239) (by have e : (fun K => bX5_read K 239) = fun K => fX5_read_239 K := (by funext K; rfl); rw [e]; exact nX5_read_239) (by have e : bX5_read (kv_lim (bX5_read)) 239 = fX5_read_239 (kv_lim (bX5_read)) := rfl; rw [e]; exact hx)
def mX5_read : kv_M := kv_in 1 8 (fX5_read_0 (kv_lim (bX5_read)))
theorem cX5_read_ct : kv_CT yX5_read wX5_read 4 104 mX5_read := kv_met (by decide) rfl rfl (by decide) (fun h => by cases h) (sX5_read_0 (hX5_read))
-- X5_code
def wX5_code : List Cond := Cond.code yX5_code cX5_code 3 (some .int) :: kv_tb
abbrev SX5_code (pc : Nat) (F : kv_D) : Prop := kv_S cX5_code 3 RX5 wX5_code (some .int) false 5 131 none pc F
def fX5_code_53 : kv_D := o_aload 0 (o_getf 5 1 (o_aload 0 (o_getf 5 0 (o_iload 1 (o_iast 0 (fun x => x) (o_aload 0 (o_dup (o_getf 5 0 (o_const 1 (o_iadd (o_putf 5 0 .int (o_const 0 (o_iret .int)))))))))))))
theorem sX5_code_53 : SX5_code 53 (fX5_code_53) := k_aload_n dX5_code_53 rfl (k_getf (C := RX5) (T := TX5) (N := 32) (ci := 5) (index := 7) (kf := 1) dX5_code_54 rfl (fun w h => List.mem_cons_of_mem _ (inX5 w h)) (by decide) (List.mem_cons_of_mem _ mw_420) (k_aload_n dX5_code_57 rfl (k_getf (C := RX5) (T := TX5) (N := 32) (ci := 5) (index := 74) (kf := 0) dX5_code_58 rfl (fun w h => List.mem_cons_of_mem _ (inX5 w h)) (by decide) (List.mem_cons_of_mem _ mw_419) (k_iload_n dX5_code_61 rfl (k_iast dX5_code_62 rfl (k_aload_n dX5_code_63 rfl (k_dup dX5_code_64 (k_getf (C := RX5) (T := TX5) (N := 32) (ci := 5) (index := 74) (kf := 0) dX5_code_65 rfl (fun w h => List.mem_cons_of_mem _ (inX5 w h)) (by decide) (List.mem_cons_of_mem _ mw_419) (k_iconst dX5_code_68 (by decide +kernel) (k_iadd dX5_code_69 (k_putf (C := RX5) (T := TX5) (N := 32) (ci := 5) (index := 74) (kf := 0) (ty := .int) dX5_code_70 rfl (fun w h => List.mem_cons_of_mem _ (inX5 w h)) tyX5 tyX5_ok nmX5 (by decide) (List.mem_cons_of_mem _ mw_419) rfl rfl (k_iconst dX5_code_73 (by decide +kernel) (k_iret dX5_code_74 rfl)))))))))))))
def fX5_code_50 : kv_D := o_const (-6) (o_iret .int)
theorem sX5_code_50 : SX5_code 50 (fX5_code_50) := k_bipush dX5_code_50 (by decide +kernel) (k_iret dX5_code_52 rfl)
def fX5_code_41 : kv_D := o_aload 0 (o_getf 5 0 (o_const 48 (o_icne (fX5_code_53) (fX5_code_50))))
theorem sX5_code_41 : SX5_code 41 (fX5_code_41) := k_aload_n dX5_code_41 rfl (k_getf (C := RX5) (T := TX5) (N := 32) (ci := 5) (index := 74) (kf := 0) dX5_code_42 rfl (fun w h => List.mem_cons_of_mem _ (inX5 w h)) (by decide) (List.mem_cons_of_mem _ mw_419) (k_bipush dX5_code_45 (by decide +kernel) (k_icne dX5_code_47 rfl (sX5_code_53) (sX5_code_50))))
def fX5_code_39 : kv_D := o_const 0 (o_iret .int)
theorem sX5_code_39 : SX5_code 39 (fX5_code_39) := k_iconst dX5_code_39 (by decide +kernel) (k_iret dX5_code_40 rfl)
def fX5_code_33 : kv_D := o_iload 1 (o_const 32 (o_icne (fX5_code_41) (fX5_code_39)))
theorem sX5_code_33 : SX5_code 33 (fX5_code_33) := k_iload_n dX5_code_33 rfl (k_bipush dX5_code_34 (by decide +kernel) (k_icne dX5_code_36 rfl (sX5_code_41) (sX5_code_39)))
def fX5_code_21 : kv_D := o_aload 0 (o_callV 5 0 mX5_read (o_istore 2 (o_aload 0 (o_const 0 (o_putf 5 0 .int (o_iload 2 (o_iret .int)))))))
theorem sX5_code_21 : SX5_code 21 (fX5_code_21) := k_aload_n dX5_code_21 rfl (k_callV (q := (RX5, TX5, 32)) dX5_code_22 cX5_read_ct rfl (kv_goodV mw_520 mw_522 sel_X5_read mw_6 mw_523) (by decide +kernel) rfl (by decide) (by decide) (k_istore_n dX5_code_25 rfl (by decide) (k_aload_n dX5_code_26 rfl (k_iconst dX5_code_27 (by decide +kernel) (k_putf (C := RX5) (T := TX5) (N := 32) (ci := 5) (index := 74) (kf := 0) (ty := .int) dX5_code_28 rfl (fun w h => List.mem_cons_of_mem _ (inX5 w h)) tyX5 tyX5_ok nmX5 (by decide) (List.mem_cons_of_mem _ mw_419) rfl rfl (k_iload_n dX5_code_31 rfl (k_iret dX5_code_32 rfl)))))))
def fX5_code_15 : kv_D := o_iload 1 (o_const 59 (o_icne (fX5_code_33) (fX5_code_21)))
theorem sX5_code_15 : SX5_code 15 (fX5_code_15) := k_iload_n dX5_code_15 rfl (k_bipush dX5_code_16 (by decide +kernel) (k_icne dX5_code_18 rfl (sX5_code_33) (sX5_code_21)))
def fX5_code_12 : kv_D := o_const (-6) (o_iret .int)
theorem sX5_code_12 : SX5_code 12 (fX5_code_12) := k_bipush dX5_code_12 (by decide +kernel) (k_iret dX5_code_14 rfl)
def fX5_code_6 : kv_D := o_iload 1 (o_const 126 (o_icle (fX5_code_15) (fX5_code_12)))
theorem sX5_code_6 : SX5_code 6 (fX5_code_6) := k_iload_n dX5_code_6 rfl (k_bipush dX5_code_7 (by decide +kernel) (k_icle dX5_code_9 rfl (sX5_code_15) (sX5_code_12)))
def fX5_code_0 : kv_D := o_iload 1 (o_const 32 (o_iclt (fX5_code_12) (fX5_code_6)))
theorem sX5_code_0 : SX5_code 0 (fX5_code_0) := k_iload_n dX5_code_0 rfl (k_bipush dX5_code_1 (by decide +kernel) (k_iclt dX5_code_3 rfl (sX5_code_12) (sX5_code_6)))
def mX5_code : kv_M := kv_in 2 3 (fX5_code_0)
theorem cX5_code_ct : kv_CT yX5_code wX5_code 5 131 mX5_code := kv_met (by decide) rfl rfl (by decide) (fun h => by cases h) (sX5_code_0)
-- X5_rules
def wX5_rules : List Cond := Cond.code yX5_rules cX5_rules 1 (some .int) :: kv_tb
abbrev SX5_rules (pc : Nat) (F : kv_D) : Prop := kv_S cX5_rules 1 RX5 wX5_rules (some .int) false 0 0 none pc F
def fX5_rules_0 : kv_D := o_aload 0 (o_getf 5 11 (o_iret .int))
theorem sX5_rules_0 : SX5_rules 0 (fX5_rules_0) := k_aload_n dX5_rules_0 rfl (k_getf (C := RX5) (T := TX5) (N := 32) (ci := 5) (index := 131) (kf := 11) dX5_rules_1 rfl (fun w h => List.mem_cons_of_mem _ (inX5 w h)) (by decide) (List.mem_cons_of_mem _ mw_430) (k_iret dX5_rules_4 rfl))
def mX5_rules : kv_M := kv_in 1 1 (fX5_rules_0)
theorem cX5_rules_ct : kv_CT yX5_rules wX5_rules 0 0 mX5_rules := kv_met (by decide) rfl rfl (by decide) (fun h => by cases h) (sX5_rules_0)
-- X5_restart
def wX5_restart : List Cond := Cond.code yX5_restart cX5_restart 1 none :: kv_tb
abbrev SX5_restart (pc : Nat) (F : kv_D) : Prop := kv_S cX5_restart 1 RX5 wX5_restart none false 0 0 none pc F
def fX5_restart_0 : kv_D := o_aload 0 (o_const 0 (o_putf 5 22 .int (o_aload 0 (o_const 0 (o_putf 5 25 .int (o_aload 0 (o_const 0 (o_putf 5 26 .int (o_aload 0 (o_const (-1) (o_putf 5 27 .int (o_aload 0 (o_const 0 (o_putf 5 28 .boolean (o_ret)))))))))))))))
theorem sX5_restart_0 : SX5_restart 0 (fX5_restart_0) := k_aload_n dX5_restart_0 rfl (k_iconst dX5_restart_1 (by decide +kernel) (k_putf (C := RX5) (T := TX5) (N := 32) (ci := 5) (index := 150) (kf := 22) (ty := .int) dX5_restart_2 rfl (fun w h => List.mem_cons_of_mem _ (inX5 w h)) tyX5 tyX5_ok nmX5 (by decide) (List.mem_cons_of_mem _ mw_441) rfl rfl (k_aload_n dX5_restart_5 rfl (k_iconst dX5_restart_6 (by decide +kernel) (k_putf (C := RX5) (T := TX5) (N := 32) (ci := 5) (index := 153) (kf := 25) (ty := .int) dX5_restart_7 rfl (fun w h => List.mem_cons_of_mem _ (inX5 w h)) tyX5 tyX5_ok nmX5 (by decide) (List.mem_cons_of_mem _ mw_444) rfl rfl (k_aload_n dX5_restart_10 rfl (k_iconst dX5_restart_11 (by decide +kernel) (k_putf (C := RX5) (T := TX5) (N := 32) (ci := 5) (index := 156) (kf := 26) (ty := .int) dX5_restart_12 rfl (fun w h => List.mem_cons_of_mem _ (inX5 w h)) tyX5 tyX5_ok nmX5 (by decide) (List.mem_cons_of_mem _ mw_445) rfl rfl (k_aload_n dX5_restart_15 rfl (k_iconst dX5_restart_16 (by decide +kernel) (k_putf (C := RX5) (T := TX5) (N := 32) (ci := 5) (index := 64) (kf := 27) (ty := .int) dX5_restart_17 rfl (fun w h => List.mem_cons_of_mem _ (inX5 w h)) tyX5 tyX5_ok nmX5 (by decide) (List.mem_cons_of_mem _ mw_446) rfl rfl (k_aload_n dX5_restart_20 rfl (k_iconst dX5_restart_21 (by decide +kernel) (k_putf (C := RX5) (T := TX5) (N := 32) (ci := 5) (index := 159) (kf := 28) (ty := .boolean) dX5_restart_22 rfl (fun w h => List.mem_cons_of_mem _ (inX5 w h)) tyX5 tyX5_ok nmX5 (by decide) (List.mem_cons_of_mem _ mw_447) rfl rfl (k_ret dX5_restart_25 rfl)))))))))))))))
def mX5_restart : kv_M := kv_in 1 1 (fX5_restart_0)
theorem cX5_restart_ct : kv_CT yX5_restart wX5_restart 0 0 mX5_restart := kv_met (by decide) rfl rfl (by decide) (fun h => by cases h) (sX5_restart_0)
-- X5_forget
def wX5_forget : List Cond := Cond.code yX5_forget cX5_forget 2 none :: kv_tb
abbrev SX5_forget (pc : Nat) (F : kv_D) : Prop := kv_S cX5_forget 2 RX5 wX5_forget none false 1 20 none pc F
def fX5_forget_31 (K : Nat → kv_D) : kv_D := o_aload 0 (o_callV 5 0 mX5_restart (o_ret))
theorem sX5_forget_31 {K : Nat → kv_D} (hK : ∀ pc, SX5_forget pc (K pc)) : SX5_forget 31 (fX5_forget_31 K) := k_aload_n dX5_forget_31 rfl (k_callV (q := (RX5, TX5, 32)) dX5_forget_32 cX5_restart_ct rfl (kv_goodV mw_587 mw_588 mw_589 mw_6 mw_590) (by decide +kernel) rfl (by decide) (by decide) (k_ret dX5_forget_35 rfl))
theorem nX5_forget_31 : kv_cn (fun K => fX5_forget_31 K) := cn_aload 0 (cn_callV 5 0 mX5_restart (cn_c _))
def fX5_forget_18 (K : Nat → kv_D) : kv_D := o_aload 0 (o_getf 5 2 (o_iload 1 (o_const (-1) (o_iast 0 (fun x => x) (o_iinc 1 1 ((K 12)))))))
theorem sX5_forget_18 {K : Nat → kv_D} (hK : ∀ pc, SX5_forget pc (K pc)) : SX5_forget 18 (fX5_forget_18 K) := k_aload_n dX5_forget_18 rfl (k_getf (C := RX5) (T := TX5) (N := 32) (ci := 5) (index := 13) (kf := 2) dX5_forget_19 rfl (fun w h => List.mem_cons_of_mem _ (inX5 w h)) (by decide) (List.mem_cons_of_mem _ mw_421) (k_iload_n dX5_forget_22 rfl (k_iconst dX5_forget_23 (by decide +kernel) (k_iast dX5_forget_24 rfl (k_iinc dX5_forget_25 (by decide +kernel) (by decide) (k_goto dX5_forget_28 rfl (hK 12)))))))
theorem nX5_forget_18 : kv_cn (fun K => fX5_forget_18 K) := cn_aload 0 (cn_getf 5 2 (cn_iload 1 (cn_const (-1) (cn_iast 0 (fun x => x) (cn_iinc 1 1 ((cn_K 12)))))))
def fX5_forget_12 (K : Nat → kv_D) : kv_D := o_iload 1 (o_const 26 (o_icge (fX5_forget_31 K) (fX5_forget_18 K)))
theorem sX5_forget_12 {K : Nat → kv_D} (hK : ∀ pc, SX5_forget pc (K pc)) : SX5_forget 12 (fX5_forget_12 K) := k_iload_n dX5_forget_12 rfl (k_bipush dX5_forget_13 (by decide +kernel) (k_icge dX5_forget_15 rfl (sX5_forget_31 hK) (sX5_forget_18 hK)))
theorem nX5_forget_12 : kv_cn (fun K => fX5_forget_12 K) := cn_iload 1 (cn_const 26 (cn_icge nX5_forget_31 nX5_forget_18))
def fX5_forget_0 (K : Nat → kv_D) : kv_D := o_aload 0 (o_const 0 (o_putf 5 11 .int (o_aload 0 (o_const 0 (o_putf 5 0 .int (o_const 0 (o_istore 1 ((K 12)))))))))
theorem sX5_forget_0 {K : Nat → kv_D} (hK : ∀ pc, SX5_forget pc (K pc)) : SX5_forget 0 (fX5_forget_0 K) := k_aload_n dX5_forget_0 rfl (k_iconst dX5_forget_1 (by decide +kernel) (k_putf (C := RX5) (T := TX5) (N := 32) (ci := 5) (index := 131) (kf := 11) (ty := .int) dX5_forget_2 rfl (fun w h => List.mem_cons_of_mem _ (inX5 w h)) tyX5 tyX5_ok nmX5 (by decide) (List.mem_cons_of_mem _ mw_430) rfl rfl (k_aload_n dX5_forget_5 rfl (k_iconst dX5_forget_6 (by decide +kernel) (k_putf (C := RX5) (T := TX5) (N := 32) (ci := 5) (index := 74) (kf := 0) (ty := .int) dX5_forget_7 rfl (fun w h => List.mem_cons_of_mem _ (inX5 w h)) tyX5 tyX5_ok nmX5 (by decide) (List.mem_cons_of_mem _ mw_419) rfl rfl (k_iconst dX5_forget_10 (by decide +kernel) (k_istore_n dX5_forget_11 rfl (by decide) ((hK 12)))))))))
theorem nX5_forget_0 : kv_cn (fun K => fX5_forget_0 K) := cn_aload 0 (cn_const 0 (cn_putf 5 11 .int (cn_aload 0 (cn_const 0 (cn_putf 5 0 .int (cn_const 0 (cn_istore 1 ((cn_K 12)))))))))
def bX5_forget (K : Nat → kv_D) (pc : Nat) : kv_D := if pc = 12 then fX5_forget_12 K else fun _ _ _ _ _ => False
theorem hX5_forget : ∀ pc, SX5_forget pc (kv_lim (bX5_forget) pc) := kv_lim_S (fun K hK pc => by
  unfold bX5_forget
  by_cases q12 : pc = 12
  · rw [if_pos q12, q12]
    exact sX5_forget_12 hK
  rw [if_neg q12]
  exact kv_none)
theorem uX5_forget_12 {L : List (Option Value)} {st : List Value} {h : kv_H} {v : Option Value} {h' : kv_H} (hx : fX5_forget_12 (kv_lim (bX5_forget)) L st h v h') : kv_lim (bX5_forget) 12 L st h v h' := kv_un (q := 12) (by have e : (fun K => bX5_forget K 12) = fun K => fX5_forget_12 K := (by funext K; rfl); rw [e]; exact nX5_forget_12) (by have e : bX5_forget (kv_lim (bX5_forget)) 12 = fX5_forget_12 (kv_lim (bX5_forget)) := rfl; rw [e]; exact hx)
def mX5_forget : kv_M := kv_in 1 2 (fX5_forget_0 (kv_lim (bX5_forget)))
theorem cX5_forget_ct : kv_CT yX5_forget wX5_forget 1 20 mX5_forget := kv_met (by decide) rfl rfl (by decide) (fun h => by cases h) (sX5_forget_0 (hX5_forget))
-- X5_write
def wX5_write : List Cond := Cond.code yX5_write cX5_write 2 (some .boolean) :: kv_tb
abbrev SX5_write (pc : Nat) (F : kv_D) : Prop := kv_S cX5_write 2 RX5 wX5_write (some .boolean) false 1 20 none pc F
def fX5_write_25 : kv_D := o_aload 0 (o_getf 5 23 (o_aload 0 (o_getf 5 22 (o_iload 1 (o_iast 0 (fun x => x) (o_aload 0 (o_dup (o_getf 5 22 (o_const 1 (o_iadd (o_putf 5 22 .int (o_const 1 (o_iret .boolean)))))))))))))
theorem sX5_write_25 : SX5_write 25 (fX5_write_25) := k_aload_n dX5_write_25 rfl (k_getf (C := RX5) (T := TX5) (N := 32) (ci := 5) (index := 58) (kf := 23) dX5_write_26 rfl (fun w h => List.mem_cons_of_mem _ (inX5 w h)) (by decide) (List.mem_cons_of_mem _ mw_442) (k_aload_n dX5_write_29 rfl (k_getf (C := RX5) (T := TX5) (N := 32) (ci := 5) (index := 150) (kf := 22) dX5_write_30 rfl (fun w h => List.mem_cons_of_mem _ (inX5 w h)) (by decide) (List.mem_cons_of_mem _ mw_441) (k_iload_n dX5_write_33 rfl (k_iast dX5_write_34 rfl (k_aload_n dX5_write_35 rfl (k_dup dX5_write_36 (k_getf (C := RX5) (T := TX5) (N := 32) (ci := 5) (index := 150) (kf := 22) dX5_write_37 rfl (fun w h => List.mem_cons_of_mem _ (inX5 w h)) (by decide) (List.mem_cons_of_mem _ mw_441) (k_iconst dX5_write_40 (by decide +kernel) (k_iadd dX5_write_41 (k_putf (C := RX5) (T := TX5) (N := 32) (ci := 5) (index := 150) (kf := 22) (ty := .int) dX5_write_42 rfl (fun w h => List.mem_cons_of_mem _ (inX5 w h)) tyX5 tyX5_ok nmX5 (by decide) (List.mem_cons_of_mem _ mw_441) rfl rfl (k_iconst dX5_write_45 (by decide +kernel) (k_iret dX5_write_46 rfl)))))))))))))
def fX5_write_23 : kv_D := o_const 0 (o_iret .boolean)
theorem sX5_write_23 : SX5_write 23 (fX5_write_23) := k_iconst dX5_write_23 (by decide +kernel) (k_iret dX5_write_24 rfl)
def fX5_write_16 : kv_D := o_aload 0 (o_getf 5 28 (o_ifeq (fX5_write_25) (fX5_write_23)))
theorem sX5_write_16 : SX5_write 16 (fX5_write_16) := k_aload_n dX5_write_16 rfl (k_getf (C := RX5) (T := TX5) (N := 32) (ci := 5) (index := 159) (kf := 28) dX5_write_17 rfl (fun w h => List.mem_cons_of_mem _ (inX5 w h)) (by decide) (List.mem_cons_of_mem _ mw_447) (k_ifeq dX5_write_20 rfl (sX5_write_25) (sX5_write_23)))
def fX5_write_7 : kv_D := o_aload 0 (o_getf 5 22 (o_const 60 (o_iceq (fX5_write_23) (fX5_write_16))))
theorem sX5_write_7 : SX5_write 7 (fX5_write_7) := k_aload_n dX5_write_7 rfl (k_getf (C := RX5) (T := TX5) (N := 32) (ci := 5) (index := 150) (kf := 22) dX5_write_8 rfl (fun w h => List.mem_cons_of_mem _ (inX5 w h)) (by decide) (List.mem_cons_of_mem _ mw_441) (k_bipush dX5_write_11 (by decide +kernel) (k_iceq dX5_write_13 rfl (sX5_write_23) (sX5_write_16))))
def fX5_write_0 : kv_D := o_iload 1 (o_callS 1 mX5_small (o_ifeq (fX5_write_23) (fX5_write_7)))
theorem sX5_write_0 : SX5_write 0 (fX5_write_0) := k_iload_n dX5_write_0 rfl (k_callS dX5_write_1 cX5_small_ct rfl (kv_goodS mw_540 mw_541 mw_6 mw_542) (by decide +kernel) (by decide) (by decide) (k_ifeq dX5_write_4 rfl (sX5_write_23) (sX5_write_7)))
def mX5_write : kv_M := kv_in 2 2 (fX5_write_0)
theorem cX5_write_ct : kv_CT yX5_write wX5_write 1 20 mX5_write := kv_met (by decide) rfl rfl (by decide) (fun h => by cases h) (sX5_write_0)
