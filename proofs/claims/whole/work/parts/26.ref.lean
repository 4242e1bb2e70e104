theorem dX5_apply_289 : decode cX5_apply 289 = .ok (.aload_n 0, 1) := by decide +kernel
theorem dX5_apply_290 : decode cX5_apply 290 = .ok (.iload_n 3, 1) := by decide +kernel
theorem dX5_apply_291 : decode cX5_apply 291 = .ok (.putfield 150, 3) := by decide +kernel
theorem dX5_apply_294 : decode cX5_apply 294 = .ok (.aload_n 0, 1) := by decide +kernel
theorem dX5_apply_295 : decode cX5_apply 295 = .ok (.iload 4, 2) := by decide +kernel
theorem dX5_apply_297 : decode cX5_apply 297 = .ok (.putfield 153, 3) := by decide +kernel
theorem dX5_apply_300 : decode cX5_apply 300 = .ok (.aload_n 0, 1) := by decide +kernel
theorem dX5_apply_301 : decode cX5_apply 301 = .ok (.dup, 1) := by decide +kernel
theorem dX5_apply_302 : decode cX5_apply 302 = .ok (.getfield 156, 3) := by decide +kernel
theorem dX5_apply_305 : decode cX5_apply 305 = .ok (.iconst 1, 1) := by decide +kernel
theorem dX5_apply_306 : decode cX5_apply 306 = .ok (.iadd, 1) := by decide +kernel
theorem dX5_apply_307 : decode cX5_apply 307 = .ok (.putfield 156, 3) := by decide +kernel
theorem dX5_apply_310 : decode cX5_apply 310 = .ok (.aload_n 0, 1) := by decide +kernel
theorem dX5_apply_311 : decode cX5_apply 311 = .ok (.iload_n 1, 1) := by decide +kernel
theorem dX5_apply_312 : decode cX5_apply 312 = .ok (.putfield 64, 3) := by decide +kernel
theorem dX5_apply_315 : decode cX5_apply 315 = .ok (.iconst 1, 1) := by decide +kernel
theorem dX5_apply_316 : decode cX5_apply 316 = .ok (.ireturn, 1) := by decide +kernel
theorem dX5_apply_269 : decode cX5_apply 269 = .ok (.aload_n 0, 1) := by decide +kernel
theorem dX5_apply_270 : decode cX5_apply 270 = .ok (.getfield 58, 3) := by decide +kernel
theorem dX5_apply_273 : decode cX5_apply 273 = .ok (.iload 5, 2) := by decide +kernel
theorem dX5_apply_275 : decode cX5_apply 275 = .ok (.aload_n 0, 1) := by decide +kernel
theorem dX5_apply_276 : decode cX5_apply 276 = .ok (.getfield 61, 3) := by decide +kernel
theorem dX5_apply_279 : decode cX5_apply 279 = .ok (.iload 5, 2) := by decide +kernel
theorem dX5_apply_281 : decode cX5_apply 281 = .ok (.iaload, 1) := by decide +kernel
theorem dX5_apply_282 : decode cX5_apply 282 = .ok (.iastore, 1) := by decide +kernel
theorem dX5_apply_283 : decode cX5_apply 283 = .ok (.iinc 5 1, 3) := by decide +kernel
theorem dX5_apply_286 : decode cX5_apply 286 = .ok (.goto (-23), 3) := by decide +kernel
theorem dX5_apply_263 : decode cX5_apply 263 = .ok (.iload 5, 2) := by decide +kernel
theorem dX5_apply_265 : decode cX5_apply 265 = .ok (.iload_n 3, 1) := by decide +kernel
theorem dX5_apply_266 : decode cX5_apply 266 = .ok (.if_icmp .ge 23, 3) := by decide +kernel
theorem dX5_apply_260 : decode cX5_apply 260 = .ok (.iconst 0, 1) := by decide +kernel
theorem dX5_apply_261 : decode cX5_apply 261 = .ok (.istore 5, 2) := by decide +kernel
theorem dX5_apply_238 : decode cX5_apply 238 = .ok (.aload_n 0, 1) := by decide +kernel
theorem dX5_apply_239 : decode cX5_apply 239 = .ok (.getfield 61, 3) := by decide +kernel
theorem dX5_apply_242 : decode cX5_apply 242 = .ok (.iload_n 3, 1) := by decide +kernel
theorem dX5_apply_243 : decode cX5_apply 243 = .ok (.aload_n 0, 1) := by decide +kernel
theorem dX5_apply_244 : decode cX5_apply 244 = .ok (.getfield 58, 3) := by decide +kernel
theorem dX5_apply_247 : decode cX5_apply 247 = .ok (.iload 5, 2) := by decide +kernel
theorem dX5_apply_249 : decode cX5_apply 249 = .ok (.iaload, 1) := by decide +kernel
theorem dX5_apply_250 : decode cX5_apply 250 = .ok (.iastore, 1) := by decide +kernel
theorem dX5_apply_251 : decode cX5_apply 251 = .ok (.iinc 3 1, 3) := by decide +kernel
theorem dX5_apply_254 : decode cX5_apply 254 = .ok (.iinc 5 1, 3) := by decide +kernel
theorem dX5_apply_257 : decode cX5_apply 257 = .ok (.goto (-28), 3) := by decide +kernel
theorem dX5_apply_229 : decode cX5_apply 229 = .ok (.iload 5, 2) := by decide +kernel
theorem dX5_apply_231 : decode cX5_apply 231 = .ok (.aload_n 0, 1) := by decide +kernel
theorem dX5_apply_232 : decode cX5_apply 232 = .ok (.getfield 150, 3) := by decide +kernel
theorem dX5_apply_235 : decode cX5_apply 235 = .ok (.if_icmp .ge 25, 3) := by decide +kernel
theorem dX5_apply_223 : decode cX5_apply 223 = .ok (.aload_n 0, 1) := by decide +kernel
theorem dX5_apply_224 : decode cX5_apply 224 = .ok (.getfield 172, 3) := by decide +kernel
theorem dX5_apply_227 : decode cX5_apply 227 = .ok (.istore 5, 2) := by decide +kernel
theorem dX5_apply_215 : decode cX5_apply 215 = .ok (.istore 4, 2) := by decide +kernel
theorem dX5_apply_217 : decode cX5_apply 217 = .ok (.iinc 5 1, 3) := by decide +kernel
theorem dX5_apply_220 : decode cX5_apply 220 = .ok (.goto (-108), 3) := by decide +kernel
theorem dX5_apply_213 : decode cX5_apply 213 = .ok (.iload 4, 2) := by decide +kernel
theorem dX5_apply_209 : decode cX5_apply 209 = .ok (.iload_n 3, 1) := by decide +kernel
theorem dX5_apply_210 : decode cX5_apply 210 = .ok (.goto 5, 3) := by decide +kernel
theorem dX5_apply_198 : decode cX5_apply 198 = .ok (.iload 5, 2) := by decide +kernel
theorem dX5_apply_200 : decode cX5_apply 200 = .ok (.aload_n 0, 1) := by decide +kernel
theorem dX5_apply_201 : decode cX5_apply 201 = .ok (.getfield 52, 3) := by decide +kernel
theorem dX5_apply_204 : decode cX5_apply 204 = .ok (.iload_n 1, 1) := by decide +kernel
theorem dX5_apply_205 : decode cX5_apply 205 = .ok (.iaload, 1) := by decide +kernel
theorem dX5_apply_206 : decode cX5_apply 206 = .ok (.if_icmp .ge 7, 3) := by decide +kernel
theorem dX5_apply_188 : decode cX5_apply 188 = .ok (.iastore, 1) := by decide +kernel
theorem dX5_apply_189 : decode cX5_apply 189 = .ok (.iinc 3 1, 3) := by decide +kernel
theorem dX5_apply_192 : decode cX5_apply 192 = .ok (.iinc 7 1, 3) := by decide +kernel
theorem dX5_apply_195 : decode cX5_apply 195 = .ok (.goto (-55), 3) := by decide +kernel
theorem dX5_apply_170 : decode cX5_apply 170 = .ok (.aload_n 0, 1) := by decide +kernel
theorem dX5_apply_171 : decode cX5_apply 171 = .ok (.getfield 58, 3) := by decide +kernel
theorem dX5_apply_174 : decode cX5_apply 174 = .ok (.aload_n 0, 1) := by decide +kernel
theorem dX5_apply_175 : decode cX5_apply 175 = .ok (.getfield 68, 3) := by decide +kernel
theorem dX5_apply_178 : decode cX5_apply 178 = .ok (.iload 6, 2) := by decide +kernel
theorem dX5_apply_180 : decode cX5_apply 180 = .ok (.bipush 48, 2) := by decide +kernel
theorem dX5_apply_182 : decode cX5_apply 182 = .ok (.isub, 1) := by decide +kernel
theorem dX5_apply_183 : decode cX5_apply 183 = .ok (.iaload, 1) := by decide +kernel
theorem dX5_apply_184 : decode cX5_apply 184 = .ok (.iload 7, 2) := by decide +kernel
theorem dX5_apply_186 : decode cX5_apply 186 = .ok (.iadd, 1) := by decide +kernel
theorem dX5_apply_187 : decode cX5_apply 187 = .ok (.iaload, 1) := by decide +kernel
theorem dX5_apply_165 : decode cX5_apply 165 = .ok (.iload 6, 2) := by decide +kernel
theorem dX5_apply_167 : decode cX5_apply 167 = .ok (.goto 21, 3) := by decide +kernel
theorem dX5_apply_152 : decode cX5_apply 152 = .ok (.aload_n 0, 1) := by decide +kernel
theorem dX5_apply_153 : decode cX5_apply 153 = .ok (.getfield 61, 3) := by decide +kernel
theorem dX5_apply_156 : decode cX5_apply 156 = .ok (.iload_n 3, 1) := by decide +kernel
theorem dX5_apply_157 : decode cX5_apply 157 = .ok (.iload 6, 2) := by decide +kernel
theorem dX5_apply_159 : decode cX5_apply 159 = .ok (.invokestatic 81, 3) := by decide +kernel
theorem dX5_apply_162 : decode cX5_apply 162 = .ok (.ifCond .eq 8, 3) := by decide +kernel
theorem dX5_apply_140 : decode cX5_apply 140 = .ok (.iload 7, 2) := by decide +kernel
theorem dX5_apply_142 : decode cX5_apply 142 = .ok (.aload_n 0, 1) := by decide +kernel
theorem dX5_apply_143 : decode cX5_apply 143 = .ok (.iload_n 1, 1) := by decide +kernel
theorem dX5_apply_144 : decode cX5_apply 144 = .ok (.iload 5, 2) := by decide +kernel
theorem dX5_apply_146 : decode cX5_apply 146 = .ok (.invokevirtual 179, 3) := by decide +kernel
theorem dX5_apply_149 : decode cX5_apply 149 = .ok (.if_icmp .ge 49, 3) := by decide +kernel
theorem dX5_apply_123 : decode cX5_apply 123 = .ok (.aload_n 0, 1) := by decide +kernel
theorem dX5_apply_124 : decode cX5_apply 124 = .ok (.getfield 55, 3) := by decide +kernel
theorem dX5_apply_127 : decode cX5_apply 127 = .ok (.bipush 12, 2) := by decide +kernel
theorem dX5_apply_129 : decode cX5_apply 129 = .ok (.iload_n 1, 1) := by decide +kernel
theorem dX5_apply_130 : decode cX5_apply 130 = .ok (.imul, 1) := by decide +kernel
theorem dX5_apply_131 : decode cX5_apply 131 = .ok (.iload 5, 2) := by decide +kernel
theorem dX5_apply_133 : decode cX5_apply 133 = .ok (.iadd, 1) := by decide +kernel
theorem dX5_apply_134 : decode cX5_apply 134 = .ok (.iaload, 1) := by decide +kernel
theorem dX5_apply_135 : decode cX5_apply 135 = .ok (.istore 6, 2) := by decide +kernel
theorem dX5_apply_137 : decode cX5_apply 137 = .ok (.iconst 0, 1) := by decide +kernel
theorem dX5_apply_138 : decode cX5_apply 138 = .ok (.istore 7, 2) := by decide +kernel
theorem dX5_apply_112 : decode cX5_apply 112 = .ok (.iload 5, 2) := by decide +kernel
theorem dX5_apply_114 : decode cX5_apply 114 = .ok (.aload_n 0, 1) := by decide +kernel
theorem dX5_apply_115 : decode cX5_apply 115 = .ok (.getfield 49, 3) := by decide +kernel
theorem dX5_apply_118 : decode cX5_apply 118 = .ok (.iload_n 1, 1) := by decide +kernel
theorem dX5_apply_119 : decode cX5_apply 119 = .ok (.iaload, 1) := by decide +kernel
theorem dX5_apply_120 : decode cX5_apply 120 = .ok (.if_icmp .ge 103, 3) := by decide +kernel
theorem dX5_apply_98 : decode cX5_apply 98 = .ok (.aload_n 0, 1) := by decide +kernel
theorem dX5_apply_99 : decode cX5_apply 99 = .ok (.getfield 153, 3) := by decide +kernel
theorem dX5_apply_102 : decode cX5_apply 102 = .ok (.istore_n 3, 1) := by decide +kernel
theorem dX5_apply_103 : decode cX5_apply 103 = .ok (.aload_n 0, 1) := by decide +kernel
theorem dX5_apply_104 : decode cX5_apply 104 = .ok (.getfield 153, 3) := by decide +kernel
theorem dX5_apply_107 : decode cX5_apply 107 = .ok (.istore 4, 2) := by decide +kernel
theorem dX5_apply_109 : decode cX5_apply 109 = .ok (.iconst 0, 1) := by decide +kernel
theorem dX5_apply_110 : decode cX5_apply 110 = .ok (.istore 5, 2) := by decide +kernel
theorem dX5_apply_78 : decode cX5_apply 78 = .ok (.aload_n 0, 1) := by decide +kernel
theorem dX5_apply_79 : decode cX5_apply 79 = .ok (.getfield 61, 3) := by decide +kernel
theorem dX5_apply_82 : decode cX5_apply 82 = .ok (.iload 4, 2) := by decide +kernel
theorem dX5_apply_84 : decode cX5_apply 84 = .ok (.aload_n 0, 1) := by decide +kernel
theorem dX5_apply_85 : decode cX5_apply 85 = .ok (.getfield 58, 3) := by decide +kernel
theorem dX5_apply_88 : decode cX5_apply 88 = .ok (.iload 4, 2) := by decide +kernel
theorem dX5_apply_90 : decode cX5_apply 90 = .ok (.iaload, 1) := by decide +kernel
theorem dX5_apply_91 : decode cX5_apply 91 = .ok (.iastore, 1) := by decide +kernel
theorem dX5_apply_92 : decode cX5_apply 92 = .ok (.iinc 4 1, 3) := by decide +kernel
theorem dX5_apply_95 : decode cX5_apply 95 = .ok (.goto (-26), 3) := by decide +kernel
theorem dX5_apply_69 : decode cX5_apply 69 = .ok (.iload 4, 2) := by decide +kernel
theorem dX5_apply_71 : decode cX5_apply 71 = .ok (.aload_n 0, 1) := by decide +kernel
theorem dX5_apply_72 : decode cX5_apply 72 = .ok (.getfield 153, 3) := by decide +kernel
theorem dX5_apply_75 : decode cX5_apply 75 = .ok (.if_icmp .ge 23, 3) := by decide +kernel
theorem dX5_apply_64 : decode cX5_apply 64 = .ok (.iconst 0, 1) := by decide +kernel
theorem dX5_apply_65 : decode cX5_apply 65 = .ok (.istore_n 3, 1) := by decide +kernel
theorem dX5_apply_66 : decode cX5_apply 66 = .ok (.iconst 0, 1) := by decide +kernel
theorem dX5_apply_67 : decode cX5_apply 67 = .ok (.istore 4, 2) := by decide +kernel
theorem dX5_apply_57 : decode cX5_apply 57 = .ok (.aload_n 0, 1) := by decide +kernel
theorem dX5_apply_58 : decode cX5_apply 58 = .ok (.iconst 1, 1) := by decide +kernel
theorem dX5_apply_59 : decode cX5_apply 59 = .ok (.putfield 159, 3) := by decide +kernel
theorem dX5_apply_62 : decode cX5_apply 62 = .ok (.iconst 0, 1) := by decide +kernel
theorem dX5_apply_63 : decode cX5_apply 63 = .ok (.ireturn, 1) := by decide +kernel
theorem dX5_apply_48 : decode cX5_apply 48 = .ok (.aload_n 0, 1) := by decide +kernel
theorem dX5_apply_49 : decode cX5_apply 49 = .ok (.getfield 156, 3) := by decide +kernel
theorem dX5_apply_52 : decode cX5_apply 52 = .ok (.bipush 100, 2) := by decide +kernel
theorem dX5_apply_54 : decode cX5_apply 54 = .ok (.if_icmp .ne 10, 3) := by decide +kernel
theorem dX5_apply_42 : decode cX5_apply 42 = .ok (.iload_n 2, 1) := by decide +kernel
theorem dX5_apply_43 : decode cX5_apply 43 = .ok (.bipush 60, 2) := by decide +kernel
theorem dX5_apply_45 : decode cX5_apply 45 = .ok (.if_icmp .gt 12, 3) := by decide +kernel
theorem dX5_apply_27 : decode cX5_apply 27 = .ok (.iload_n 2, 1) := by decide +kernel
theorem dX5_apply_28 : decode cX5_apply 28 = .ok (.aload_n 0, 1) := by decide +kernel
theorem dX5_apply_29 : decode cX5_apply 29 = .ok (.iload_n 1, 1) := by decide +kernel
theorem dX5_apply_30 : decode cX5_apply 30 = .ok (.iload_n 3, 1) := by decide +kernel
theorem dX5_apply_31 : decode cX5_apply 31 = .ok (.invokevirtual 179, 3) := by decide +kernel
theorem dX5_apply_34 : decode cX5_apply 34 = .ok (.iadd, 1) := by decide +kernel
theorem dX5_apply_35 : decode cX5_apply 35 = .ok (.istore_n 2, 1) := by decide +kernel
theorem dX5_apply_36 : decode cX5_apply 36 = .ok (.iinc 3 1, 3) := by decide +kernel
theorem dX5_apply_39 : decode cX5_apply 39 = .ok (.goto (-22), 3) := by decide +kernel
theorem dX5_apply_17 : decode cX5_apply 17 = .ok (.iload_n 3, 1) := by decide +kernel
theorem dX5_apply_18 : decode cX5_apply 18 = .ok (.aload_n 0, 1) := by decide +kernel
theorem dX5_apply_19 : decode cX5_apply 19 = .ok (.getfield 49, 3) := by decide +kernel
theorem dX5_apply_22 : decode cX5_apply 22 = .ok (.iload_n 1, 1) := by decide +kernel
theorem dX5_apply_23 : decode cX5_apply 23 = .ok (.iaload, 1) := by decide +kernel
theorem dX5_apply_24 : decode cX5_apply 24 = .ok (.if_icmp .ge 18, 3) := by decide +kernel
theorem dX5_apply_0 : decode cX5_apply 0 = .ok (.aload_n 0, 1) := by decide +kernel
theorem dX5_apply_1 : decode cX5_apply 1 = .ok (.getfield 150, 3) := by decide +kernel
theorem dX5_apply_4 : decode cX5_apply 4 = .ok (.aload_n 0, 1) := by decide +kernel
theorem dX5_apply_5 : decode cX5_apply 5 = .ok (.getfield 172, 3) := by decide +kernel
theorem dX5_apply_8 : decode cX5_apply 8 = .ok (.aload_n 0, 1) := by decide +kernel
theorem dX5_apply_9 : decode cX5_apply 9 = .ok (.getfield 153, 3) := by decide +kernel
theorem dX5_apply_12 : decode cX5_apply 12 = .ok (.isub, 1) := by decide +kernel
theorem dX5_apply_13 : decode cX5_apply 13 = .ok (.isub, 1) := by decide +kernel
theorem dX5_apply_14 : decode cX5_apply 14 = .ok (.istore_n 2, 1) := by decide +kernel
theorem dX5_apply_15 : decode cX5_apply 15 = .ok (.iconst 0, 1) := by decide +kernel
theorem dX5_apply_16 : decode cX5_apply 16 = .ok (.istore_n 3, 1) := by decide +kernel
theorem dX5_work_102 : decode cX5_work 102 = .ok (.iload_n 2, 1) := by decide +kernel
theorem dX5_work_103 : decode cX5_work 103 = .ok (.ireturn, 1) := by decide +kernel
theorem dX5_work_99 : decode cX5_work 99 = .ok (.goto (-97), 3) := by decide +kernel
theorem dX5_work_96 : decode cX5_work 96 = .ok (.iinc 2 1, 3) := by decide +kernel
theorem dX5_work_88 : decode cX5_work 88 = .ok (.aload_n 0, 1) := by decide +kernel
theorem dX5_work_89 : decode cX5_work 89 = .ok (.iload_n 3, 1) := by decide +kernel
theorem dX5_work_90 : decode cX5_work 90 = .ok (.invokevirtual 182, 3) := by decide +kernel
theorem dX5_work_93 : decode cX5_work 93 = .ok (.ifCond .eq 6, 3) := by decide +kernel
theorem dX5_work_75 : decode cX5_work 75 = .ok (.aload_n 0, 1) := by decide +kernel
theorem dX5_work_76 : decode cX5_work 76 = .ok (.dup, 1) := by decide +kernel
theorem dX5_work_77 : decode cX5_work 77 = .ok (.getfield 153, 3) := by decide +kernel
theorem dX5_work_80 : decode cX5_work 80 = .ok (.iconst 1, 1) := by decide +kernel
theorem dX5_work_81 : decode cX5_work 81 = .ok (.iadd, 1) := by decide +kernel
theorem dX5_work_82 : decode cX5_work 82 = .ok (.putfield 153, 3) := by decide +kernel
theorem dX5_work_85 : decode cX5_work 85 = .ok (.goto 14, 3) := by decide +kernel
theorem dX5_work_70 : decode cX5_work 70 = .ok (.iload 4, 2) := by decide +kernel
theorem dX5_work_72 : decode cX5_work 72 = .ok (.ifCond .ne 16, 3) := by decide +kernel
theorem dX5_work_68 : decode cX5_work 68 = .ok (.iload_n 2, 1) := by decide +kernel
theorem dX5_work_69 : decode cX5_work 69 = .ok (.ireturn, 1) := by decide +kernel
theorem dX5_work_62 : decode cX5_work 62 = .ok (.iload 4, 2) := by decide +kernel
theorem dX5_work_64 : decode cX5_work 64 = .ok (.iconst 2, 1) := by decide +kernel
theorem dX5_work_65 : decode cX5_work 65 = .ok (.if_icmp .ne 5, 3) := by decide +kernel
theorem dX5_work_58 : decode cX5_work 58 = .ok (.istore_n 3, 1) := by decide +kernel
theorem dX5_work_59 : decode cX5_work 59 = .ok (.goto (-34), 3) := by decide +kernel
theorem dX5_work_57 : decode cX5_work 57 = .ok (.iload_n 3, 1) := by decide +kernel
theorem dX5_work_51 : decode cX5_work 51 = .ok (.iload_n 3, 1) := by decide +kernel
theorem dX5_work_52 : decode cX5_work 52 = .ok (.iconst 1, 1) := by decide +kernel
theorem dX5_work_53 : decode cX5_work 53 = .ok (.iadd, 1) := by decide +kernel
theorem dX5_work_54 : decode cX5_work 54 = .ok (.goto 4, 3) := by decide +kernel
theorem dX5_work_38 : decode cX5_work 38 = .ok (.aload_n 0, 1) := by decide +kernel
theorem dX5_work_39 : decode cX5_work 39 = .ok (.iload_n 3, 1) := by decide +kernel
theorem dX5_work_40 : decode cX5_work 40 = .ok (.iload_n 1, 1) := by decide +kernel
theorem dX5_work_41 : decode cX5_work 41 = .ok (.invokevirtual 175, 3) := by decide +kernel
theorem dX5_work_44 : decode cX5_work 44 = .ok (.istore 4, 2) := by decide +kernel
theorem dX5_work_46 : decode cX5_work 46 = .ok (.iload 4, 2) := by decide +kernel
theorem dX5_work_48 : decode cX5_work 48 = .ok (.ifCond .ne 9, 3) := by decide +kernel
theorem dX5_work_33 : decode cX5_work 33 = .ok (.iload 4, 2) := by decide +kernel
theorem dX5_work_35 : decode cX5_work 35 = .ok (.ifCond .ne 27, 3) := by decide +kernel
theorem dX5_work_25 : decode cX5_work 25 = .ok (.iload_n 3, 1) := by decide +kernel
theorem dX5_work_26 : decode cX5_work 26 = .ok (.aload_n 0, 1) := by decide +kernel
theorem dX5_work_27 : decode cX5_work 27 = .ok (.getfield 131, 3) := by decide +kernel
theorem dX5_work_30 : decode cX5_work 30 = .ok (.if_icmp .ge 32, 3) := by decide +kernel
theorem dX5_work_20 : decode cX5_work 20 = .ok (.iconst 0, 1) := by decide +kernel
theorem dX5_work_21 : decode cX5_work 21 = .ok (.istore_n 3, 1) := by decide +kernel
theorem dX5_work_22 : decode cX5_work 22 = .ok (.iconst 0, 1) := by decide +kernel
theorem dX5_work_23 : decode cX5_work 23 = .ok (.istore 4, 2) := by decide +kernel
theorem dX5_work_13 : decode cX5_work 13 = .ok (.aload_n 0, 1) := by decide +kernel
theorem dX5_work_14 : decode cX5_work 14 = .ok (.getfield 159, 3) := by decide +kernel
theorem dX5_work_17 : decode cX5_work 17 = .ok (.ifCond .ne 85, 3) := by decide +kernel
theorem dX5_work_2 : decode cX5_work 2 = .ok (.aload_n 0, 1) := by decide +kernel
theorem dX5_work_3 : decode cX5_work 3 = .ok (.getfield 153, 3) := by decide +kernel
theorem dX5_work_6 : decode cX5_work 6 = .ok (.aload_n 0, 1) := by decide +kernel
theorem dX5_work_7 : decode cX5_work 7 = .ok (.getfield 150, 3) := by decide +kernel
theorem dX5_work_10 : decode cX5_work 10 = .ok (.if_icmp .ge 92, 3) := by decide +kernel
theorem dX5_work_0 : decode cX5_work 0 = .ok (.iconst 0, 1) := by decide +kernel
theorem dX5_work_1 : decode cX5_work 1 = .ok (.istore_n 2, 1) := by decide +kernel
theorem dX5_settle_0 : decode cX5_settle 0 = .ok (.aload_n 0, 1) := by decide +kernel
theorem dX5_settle_1 : decode cX5_settle 1 = .ok (.iconst 0, 1) := by decide +kernel
theorem dX5_settle_2 : decode cX5_settle 2 = .ok (.invokevirtual 185, 3) := by decide +kernel
theorem dX5_settle_5 : decode cX5_settle 5 = .ok (.ireturn, 1) := by decide +kernel
theorem dX5_finish_0 : decode cX5_finish 0 = .ok (.aload_n 0, 1) := by decide +kernel
theorem dX5_finish_1 : decode cX5_finish 1 = .ok (.iconst 1, 1) := by decide +kernel
theorem dX5_finish_2 : decode cX5_finish 2 = .ok (.invokevirtual 185, 3) := by decide +kernel
theorem dX5_finish_5 : decode cX5_finish 5 = .ok (.ireturn, 1) := by decide +kernel
theorem dX5_length_0 : decode cX5_length 0 = .ok (.aload_n 0, 1) := by decide +kernel
theorem dX5_length_1 : decode cX5_length 1 = .ok (.getfield 150, 3) := by decide +kernel
theorem dX5_length_4 : decode cX5_length 4 = .ok (.ireturn, 1) := by decide +kernel
theorem dX5_letter_22 : decode cX5_letter 22 = .ok (.ireturn, 1) := by decide +kernel
theorem dX5_letter_16 : decode cX5_letter 16 = .ok (.aload_n 0, 1) := by decide +kernel
theorem dX5_letter_17 : decode cX5_letter 17 = .ok (.getfield 58, 3) := by decide +kernel
theorem dX5_letter_20 : decode cX5_letter 20 = .ok (.iload_n 1, 1) := by decide +kernel
theorem dX5_letter_21 : decode cX5_letter 21 = .ok (.iaload, 1) := by decide +kernel
theorem dX5_letter_12 : decode cX5_letter 12 = .ok (.iconst 0, 1) := by decide +kernel
theorem dX5_letter_13 : decode cX5_letter 13 = .ok (.goto 9, 3) := by decide +kernel
theorem dX5_letter_4 : decode cX5_letter 4 = .ok (.iload_n 1, 1) := by decide +kernel
theorem dX5_letter_5 : decode cX5_letter 5 = .ok (.aload_n 0, 1) := by decide +kernel
theorem dX5_letter_6 : decode cX5_letter 6 = .ok (.getfield 150, 3) := by decide +kernel
theorem dX5_letter_9 : decode cX5_letter 9 = .ok (.if_icmp .lt 7, 3) := by decide +kernel
theorem dX5_letter_0 : decode cX5_letter 0 = .ok (.iload_n 1, 1) := by decide +kernel
theorem dX5_letter_1 : decode cX5_letter 1 = .ok (.ifCond .lt 11, 3) := by decide +kernel
theorem dX5_cursor_0 : decode cX5_cursor 0 = .ok (.aload_n 0, 1) := by decide +kernel
theorem dX5_cursor_1 : decode cX5_cursor 1 = .ok (.getfield 153, 3) := by decide +kernel
theorem dX5_cursor_4 : decode cX5_cursor 4 = .ok (.ireturn, 1) := by decide +kernel
theorem dX5_applied_0 : decode cX5_applied 0 = .ok (.aload_n 0, 1) := by decide +kernel
theorem dX5_applied_1 : decode cX5_applied 1 = .ok (.getfield 156, 3) := by decide +kernel
theorem dX5_applied_4 : decode cX5_applied 4 = .ok (.ireturn, 1) := by decide +kernel
theorem dX5_latest_0 : decode cX5_latest 0 = .ok (.aload_n 0, 1) := by decide +kernel
theorem dX5_latest_1 : decode cX5_latest 1 = .ok (.getfield 64, 3) := by decide +kernel
theorem dX5_latest_4 : decode cX5_latest 4 = .ok (.ireturn, 1) := by decide +kernel
theorem dX5_stuck_0 : decode cX5_stuck 0 = .ok (.aload_n 0, 1) := by decide +kernel
theorem dX5_stuck_1 : decode cX5_stuck 1 = .ok (.getfield 159, 3) := by decide +kernel
theorem dX5_stuck_4 : decode cX5_stuck 4 = .ok (.ireturn, 1) := by decide +kernel
theorem dX5_probe_22 : decode cX5_probe 22 = .ok (.ireturn, 1) := by decide +kernel
theorem dX5_probe_16 : decode cX5_probe 16 = .ok (.aload_n 0, 1) := by decide +kernel
theorem dX5_probe_17 : decode cX5_probe 17 = .ok (.iload_n 1, 1) := by decide +kernel
theorem dX5_probe_18 : decode cX5_probe 18 = .ok (.iload_n 2, 1) := by decide +kernel
theorem dX5_probe_19 : decode cX5_probe 19 = .ok (.invokevirtual 175, 3) := by decide +kernel
theorem dX5_probe_12 : decode cX5_probe 12 = .ok (.iconst (-1), 1) := by decide +kernel
theorem dX5_probe_13 : decode cX5_probe 13 = .ok (.goto 9, 3) := by decide +kernel
theorem dX5_probe_4 : decode cX5_probe 4 = .ok (.iload_n 1, 1) := by decide +kernel
theorem dX5_probe_5 : decode cX5_probe 5 = .ok (.aload_n 0, 1) := by decide +kernel
theorem dX5_probe_6 : decode cX5_probe 6 = .ok (.getfield 131, 3) := by decide +kernel
theorem dX5_probe_9 : decode cX5_probe 9 = .ok (.if_icmp .lt 7, 3) := by decide +kernel
theorem dX5_probe_0 : decode cX5_probe 0 = .ok (.iload_n 1, 1) := by decide +kernel
theorem dX5_probe_1 : decode cX5_probe 1 = .ok (.ifCond .lt 11, 3) := by decide +kernel
-- X5_apply
def wX5_apply : List Cond := Cond.code yX5_apply cX5_apply 8 (some .boolean) :: kv_tb
abbrev SX5_apply (pc : Nat) (F : kv_D) : Prop := kv_S cX5_apply 8 RX5 wX5_apply (some .boolean) false 2 43 none pc F
def fX5_apply_289 (K : Nat → kv_D) : kv_D := o_aload 0 (o_iload 3 (o_putf 5 22 .int (o_aload 0 (o_iload 4 (o_putf 5 25 .int (o_aload 0 (o_dup (o_getf 5 26 (o_const 1 (o_iadd (o_putf 5 26 .int (o_aload 0 (o_iload 1 (o_putf 5 27 .int (o_const 1 (o_iret .boolean))))))))))))))))
theorem sX5_apply_289 {K : Nat → kv_D} (hK : ∀ pc, SX5_apply pc (K pc)) : SX5_apply 289 (fX5_apply_289 K) := k_aload_n dX5_apply_289 rfl (k_iload_n dX5_apply_290 rfl (k_putf (C := RX5) (T := TX5) (N := 32) (ci := 5) (index := 150) (kf := 22) (ty := .int) dX5_apply_291 rfl (fun w h => List.mem_cons_of_mem _ (inX5 w h)) tyX5 tyX5_ok nmX5 (by decide) (List.mem_cons_of_mem _ mw_441) rfl rfl (k_aload_n dX5_apply_294 rfl (k_iload dX5_apply_295 (k_putf (C := RX5) (T := TX5) (N := 32) (ci := 5) (index := 153) (kf := 25) (ty := .int) dX5_apply_297 rfl (fun w h => List.mem_cons_of_mem _ (inX5 w h)) tyX5 tyX5_ok nmX5 (by decide) (List.mem_cons_of_mem _ mw_444) rfl rfl (k_aload_n dX5_apply_300 rfl (k_dup dX5_apply_301 (k_getf (C := RX5) (T := TX5) (N := 32) (ci := 5) (index := 156) (kf := 26) dX5_apply_302 rfl (fun w h => List.mem_cons_of_mem _ (inX5 w h)) (by decide) (List.mem_cons_of_mem _ mw_445) (k_iconst dX5_apply_305 (by decide +kernel) (k_iadd dX5_apply_306 (k_putf (C := RX5) (T := TX5) (N := 32) (ci := 5) (index := 156) (kf := 26) (ty := .int) dX5_apply_307 rfl (fun w h => List.mem_cons_of_mem _ (inX5 w h)) tyX5 tyX5_ok nmX5 (by decide) (List.mem_cons_of_mem _ mw_445) rfl rfl (k_aload_n dX5_apply_310 rfl (k_iload_n dX5_apply_311 rfl (k_putf (C := RX5) (T := TX5) (N := 32) (ci := 5) (index := 64) (kf := 27) (ty := .int) dX5_apply_312 rfl (fun w h => List.mem_cons_of_mem _ (inX5 w h)) tyX5 tyX5_ok nmX5 (by decide) (List.mem_cons_of_mem _ mw_446) rfl rfl (k_iconst dX5_apply_315 (by decide +kernel) (k_iret dX5_apply_316 rfl))))))))))))))))
theorem nX5_apply_289 : kv_cn (fun K => fX5_apply_289 K) := cn_aload 0 (cn_iload 3 (cn_putf 5 22 .int (cn_aload 0 (cn_iload 4 (cn_putf 5 25 .int (cn_aload 0 (cn_dup (cn_getf 5 26 (cn_const 1 (cn_iadd (cn_putf 5 26 .int (cn_aload 0 (cn_iload 1 (cn_putf 5 27 .int (cn_const 1 (cn_c _))))))))))))))))
def fX5_apply_269 (K : Nat → kv_D) : kv_D := o_aload 0 (o_getf 5 23 (o_iload 5 (o_aload 0 (o_getf 5 24 (o_iload 5 (o_iald 0 (o_iast 0 (fun x => x) (o_iinc 5 1 ((K 263))))))))))
theorem sX5_apply_269 {K : Nat → kv_D} (hK : ∀ pc, SX5_apply pc (K pc)) : SX5_apply 269 (fX5_apply_269 K) := k_aload_n dX5_apply_269 rfl (k_getf (C := RX5) (T := TX5) (N := 32) (ci := 5) (index := 58) (kf := 23) dX5_apply_270 rfl (fun w h => List.mem_cons_of_mem _ (inX5 w h)) (by decide) (List.mem_cons_of_mem _ mw_442) (k_iload dX5_apply_273 (k_aload_n dX5_apply_275 rfl (k_getf (C := RX5) (T := TX5) (N := 32) (ci := 5) (index := 61) (kf := 24) dX5_apply_276 rfl (fun w h => List.mem_cons_of_mem _ (inX5 w h)) (by decide) (List.mem_cons_of_mem _ mw_443) (k_iload dX5_apply_279 (k_iald dX5_apply_281 rfl (k_iast dX5_apply_282 rfl (k_iinc dX5_apply_283 (by decide +kernel) (by decide) (k_goto dX5_apply_286 rfl (hK 263))))))))))
theorem nX5_apply_269 : kv_cn (fun K => fX5_apply_269 K) := cn_aload 0 (cn_getf 5 23 (cn_iload 5 (cn_aload 0 (cn_getf 5 24 (cn_iload 5 (cn_iald 0 (cn_iast 0 (fun x => x) (cn_iinc 5 1 ((cn_K 263))))))))))
def fX5_apply_263 (K : Nat → kv_D) : kv_D := o_iload 5 (o_iload 3 (o_icge (fX5_apply_289 K) (fX5_apply_269 K)))
theorem sX5_apply_263 {K : Nat → kv_D} (hK : ∀ pc, SX5_apply pc (K pc)) : SX5_apply 263 (fX5_apply_263 K) := k_iload dX5_apply_263 (k_iload_n dX5_apply_265 rfl (k_icge dX5_apply_266 rfl (sX5_apply_289 hK) (sX5_apply_269 hK)))
theorem nX5_apply_263 : kv_cn (fun K => fX5_apply_263 K) := cn_iload 5 (cn_iload 3 (cn_icge nX5_apply_289 nX5_apply_269))
def fX5_apply_260 (K : Nat → kv_D) : kv_D := o_const 0 (o_istore 5 ((K 263)))
theorem sX5_apply_260 {K : Nat → kv_D} (hK : ∀ pc, SX5_apply pc (K pc)) : SX5_apply 260 (fX5_apply_260 K) := k_iconst dX5_apply_260 (by decide +kernel) (k_istore dX5_apply_261 (by decide) ((hK 263)))
theorem nX5_apply_260 : kv_cn (fun K => fX5_apply_260 K) := cn_const 0 (cn_istore 5 ((cn_K 263)))
def fX5_apply_238 (K : Nat → kv_D) : kv_D := o_aload 0 (o_getf 5 24 (o_iload 3 (o_aload 0 (o_getf 5 23 (o_iload 5 (o_iald 0 (o_iast 0 (fun x => x) (o_iinc 3 1 (o_iinc 5 1 ((K 229)))))))))))
theorem sX5_apply_238 {K : Nat → kv_D} (hK : ∀ pc, SX5_apply pc (K pc)) : SX5_apply 238 (fX5_apply_238 K) := k_aload_n dX5_apply_238 rfl (k_getf (C := RX5) (T := TX5) (N := 32) (ci := 5) (index := 61) (kf := 24) dX5_apply_239 rfl (fun w h => List.mem_cons_of_mem _ (inX5 w h)) (by decide) (List.mem_cons_of_mem _ mw_443) (k_iload_n dX5_apply_242 rfl (k_aload_n dX5_apply_243 rfl (k_getf (C := RX5) (T := TX5) (N := 32) (ci := 5) (index := 58) (kf := 23) dX5_apply_244 rfl (fun w h => List.mem_cons_of_mem _ (inX5 w h)) (by decide) (List.mem_cons_of_mem _ mw_442) (k_iload dX5_apply_247 (k_iald dX5_apply_249 rfl (k_iast dX5_apply_250 rfl (k_iinc dX5_apply_251 (by decide +kernel) (by decide) (k_iinc dX5_apply_254 (by decide +kernel) (by decide) (k_goto dX5_apply_257 rfl (hK 229)))))))))))
theorem nX5_apply_238 : kv_cn (fun K => fX5_apply_238 K) := cn_aload 0 (cn_getf 5 24 (cn_iload 3 (cn_aload 0 (cn_getf 5 23 (cn_iload 5 (cn_iald 0 (cn_iast 0 (fun x => x) (cn_iinc 3 1 (cn_iinc 5 1 ((cn_K 229)))))))))))
def fX5_apply_229 (K : Nat → kv_D) : kv_D := o_iload 5 (o_aload 0 (o_getf 5 22 (o_icge (fX5_apply_260 K) (fX5_apply_238 K))))
theorem sX5_apply_229 {K : Nat → kv_D} (hK : ∀ pc, SX5_apply pc (K pc)) : SX5_apply 229 (fX5_apply_229 K) := k_iload dX5_apply_229 (k_aload_n dX5_apply_231 rfl (k_getf (C := RX5) (T := TX5) (N := 32) (ci := 5) (index := 150) (kf := 22) dX5_apply_232 rfl (fun w h => List.mem_cons_of_mem _ (inX5 w h)) (by decide) (List.mem_cons_of_mem _ mw_441) (k_icge dX5_apply_235 rfl (sX5_apply_260 hK) (sX5_apply_238 hK))))
theorem nX5_apply_229 : kv_cn (fun K => fX5_apply_229 K) := cn_iload 5 (cn_aload 0 (cn_getf 5 22 (cn_icge nX5_apply_260 nX5_apply_238)))
def fX5_apply_223 (K : Nat → kv_D) : kv_D := o_aload 0 (o_getf 5 29 (o_istore 5 ((K 229))))
theorem sX5_apply_223 {K : Nat → kv_D} (hK : ∀ pc, SX5_apply pc (K pc)) : SX5_apply 223 (fX5_apply_223 K) := k_aload_n dX5_apply_223 rfl (k_getf (C := RX5) (T := TX5) (N := 32) (ci := 5) (index := 172) (kf := 29) dX5_apply_224 rfl (fun w h => List.mem_cons_of_mem _ (inX5 w h)) (by decide) (List.mem_cons_of_mem _ mw_448) (k_istore dX5_apply_227 (by decide) ((hK 229))))
theorem nX5_apply_223 : kv_cn (fun K => fX5_apply_223 K) := cn_aload 0 (cn_getf 5 29 (cn_istore 5 ((cn_K 229))))
def fX5_apply_215 (K : Nat → kv_D) : kv_D := o_istore 4 (o_iinc 5 1 ((K 112)))
theorem sX5_apply_215 {K : Nat → kv_D} (hK : ∀ pc, SX5_apply pc (K pc)) : SX5_apply 215 (fX5_apply_215 K) := k_istore dX5_apply_215 (by decide) (k_iinc dX5_apply_217 (by decide +kernel) (by decide) (k_goto dX5_apply_220 rfl (hK 112)))
theorem nX5_apply_215 : kv_cn (fun K => fX5_apply_215 K) := cn_istore 4 (cn_iinc 5 1 ((cn_K 112)))
def fX5_apply_213 (K : Nat → kv_D) : kv_D := o_iload 4 ((fX5_apply_215 K))
theorem sX5_apply_213 {K : Nat → kv_D} (hK : ∀ pc, SX5_apply pc (K pc)) : SX5_apply 213 (fX5_apply_213 K) := k_iload dX5_apply_213 ((sX5_apply_215 hK))
theorem nX5_apply_213 : kv_cn (fun K => fX5_apply_213 K) := cn_iload 4 (nX5_apply_215)
def fX5_apply_209 (K : Nat → kv_D) : kv_D := o_iload 3 ((fX5_apply_215 K))
theorem sX5_apply_209 {K : Nat → kv_D} (hK : ∀ pc, SX5_apply pc (K pc)) : SX5_apply 209 (fX5_apply_209 K) := k_iload_n dX5_apply_209 rfl (k_goto dX5_apply_210 rfl (sX5_apply_215 hK))
theorem nX5_apply_209 : kv_cn (fun K => fX5_apply_209 K) := cn_iload 3 (nX5_apply_215)
def fX5_apply_198 (K : Nat → kv_D) : kv_D := o_iload 5 (o_aload 0 (o_getf 5 20 (o_iload 1 (o_iald 0 (o_icge (fX5_apply_213 K) (fX5_apply_209 K))))))
theorem sX5_apply_198 {K : Nat → kv_D} (hK : ∀ pc, SX5_apply pc (K pc)) : SX5_apply 198 (fX5_apply_198 K) := k_iload dX5_apply_198 (k_aload_n dX5_apply_200 rfl (k_getf (C := RX5) (T := TX5) (N := 32) (ci := 5) (index := 52) (kf := 20) dX5_apply_201 rfl (fun w h => List.mem_cons_of_mem _ (inX5 w h)) (by decide) (List.mem_cons_of_mem _ mw_439) (k_iload_n dX5_apply_204 rfl (k_iald dX5_apply_205 rfl (k_icge dX5_apply_206 rfl (sX5_apply_213 hK) (sX5_apply_209 hK))))))
theorem nX5_apply_198 : kv_cn (fun K => fX5_apply_198 K) := cn_iload 5 (cn_aload 0 (cn_getf 5 20 (cn_iload 1 (cn_iald 0 (cn_icge nX5_apply_213 nX5_apply_209)))))
def fX5_apply_188 (K : Nat → kv_D) : kv_D := o_iast 0 (fun x => x) (o_iinc 3 1 (o_iinc 7 1 ((K 140))))
theorem sX5_apply_188 {K : Nat → kv_D} (hK : ∀ pc, SX5_apply pc (K pc)) : SX5_apply 188 (fX5_apply_188 K) := k_iast dX5_apply_188 rfl (k_iinc dX5_apply_189 (by decide +kernel) (by decide) (k_iinc dX5_apply_192 (by decide +kernel) (by decide) (k_goto dX5_apply_195 rfl (hK 140))))
theorem nX5_apply_188 : kv_cn (fun K => fX5_apply_188 K) := cn_iast 0 (fun x => x) (cn_iinc 3 1 (cn_iinc 7 1 ((cn_K 140))))
def fX5_apply_170 (K : Nat → kv_D) : kv_D := o_aload 0 (o_getf 5 23 (o_aload 0 (o_getf 5 30 (o_iload 6 (o_const 48 (o_isub (o_iald 0 (o_iload 7 (o_iadd (o_iald 0 ((fX5_apply_188 K))))))))))))
theorem sX5_apply_170 {K : Nat → kv_D} (hK : ∀ pc, SX5_apply pc (K pc)) : SX5_apply 170 (fX5_apply_170 K) := k_aload_n dX5_apply_170 rfl (k_getf (C := RX5) (T := TX5) (N := 32) (ci := 5) (index := 58) (kf := 23) dX5_apply_171 rfl (fun w h => List.mem_cons_of_mem _ (inX5 w h)) (by decide) (List.mem_cons_of_mem _ mw_442) (k_aload_n dX5_apply_174 rfl (k_getf (C := RX5) (T := TX5) (N := 32) (ci := 5) (index := 68) (kf := 30) dX5_apply_175 rfl (fun w h => List.mem_cons_of_mem _ (inX5 w h)) (by decide) (List.mem_cons_of_mem _ mw_449) (k_iload dX5_apply_178 (k_bipush dX5_apply_180 (by decide +kernel) (k_isub dX5_apply_182 (k_iald dX5_apply_183 rfl (k_iload dX5_apply_184 (k_iadd dX5_apply_186 (k_iald dX5_apply_187 rfl ((sX5_apply_188 hK))))))))))))
theorem nX5_apply_170 : kv_cn (fun K => fX5_apply_170 K) := cn_aload 0 (cn_getf 5 23 (cn_aload 0 (cn_getf 5 30 (cn_iload 6 (cn_const 48 (cn_isub (cn_iald 0 (cn_iload 7 (cn_iadd (cn_iald 0 (nX5_apply_188)))))))))))
def fX5_apply_165 (K : Nat → kv_D) : kv_D := o_iload 6 ((fX5_apply_188 K))
theorem sX5_apply_165 {K : Nat → kv_D} (hK : ∀ pc, SX5_apply pc (K pc)) : SX5_apply 165 (fX5_apply_165 K) := k_iload dX5_apply_165 (k_goto dX5_apply_167 rfl (sX5_apply_188 hK))
theorem nX5_apply_165 : kv_cn (fun K => fX5_apply_165 K) := cn_iload 6 (nX5_apply_188)
def fX5_apply_152 (K : Nat → kv_D) : kv_D := o_aload 0 (o_getf 5 24 (o_iload 3 (o_iload 6 (o_callS 1 mX5_small (o_ifeq (fX5_apply_170 K) (fX5_apply_165 K))))))
theorem sX5_apply_152 {K : Nat → kv_D} (hK : ∀ pc, SX5_apply pc (K pc)) : SX5_apply 152 (fX5_apply_152 K) := k_aload_n dX5_apply_152 rfl (k_getf (C := RX5) (T := TX5) (N := 32) (ci := 5) (index := 61) (kf := 24) dX5_apply_153 rfl (fun w h => List.mem_cons_of_mem _ (inX5 w h)) (by decide) (List.mem_cons_of_mem _ mw_443) (k_iload_n dX5_apply_156 rfl (k_iload dX5_apply_157 (k_callS dX5_apply_159 cX5_small_ct rfl (kv_goodS mw_540 mw_541 mw_6 mw_542) (by decide +kernel) (by decide) (by decide) (k_ifeq dX5_apply_162 rfl (sX5_apply_170 hK) (sX5_apply_165 hK))))))
theorem nX5_apply_152 : kv_cn (fun K => fX5_apply_152 K) := cn_aload 0 (cn_getf 5 24 (cn_iload 3 (cn_iload 6 (cn_callS 1 mX5_small (cn_ifeq nX5_apply_170 nX5_apply_165)))))
def fX5_apply_140 (K : Nat → kv_D) : kv_D := o_iload 7 (o_aload 0 (o_iload 1 (o_iload 5 (o_callV 5 2 mX5_given (o_icge (fX5_apply_198 K) (fX5_apply_152 K))))))
theorem sX5_apply_140 {K : Nat → kv_D} (hK : ∀ pc, SX5_apply pc (K pc)) : SX5_apply 140 (fX5_apply_140 K) := k_iload dX5_apply_140 (k_aload_n dX5_apply_142 rfl (k_iload_n dX5_apply_143 rfl (k_iload dX5_apply_144 (k_callV (q := (RX5, TX5, 32)) dX5_apply_146 cX5_given_ct rfl (kv_goodV mw_628 mw_630 sel_X5_given mw_6 mw_631) (by decide +kernel) rfl (by decide) (by decide) (k_icge dX5_apply_149 rfl (sX5_apply_198 hK) (sX5_apply_152 hK))))))
theorem nX5_apply_140 : kv_cn (fun K => fX5_apply_140 K) := cn_iload 7 (cn_aload 0 (cn_iload 1 (cn_iload 5 (cn_callV 5 2 mX5_given (cn_icge nX5_apply_198 nX5_apply_152)))))
def fX5_apply_123 (K : Nat → kv_D) : kv_D := o_aload 0 (o_getf 5 21 (o_const 12 (o_iload 1 (o_imul (o_iload 5 (o_iadd (o_iald 0 (o_istore 6 (o_const 0 (o_istore 7 ((K 140))))))))))))
theorem sX5_apply_123 {K : Nat → kv_D} (hK : ∀ pc, SX5_apply pc (K pc)) : SX5_apply 123 (fX5_apply_123 K) := k_aload_n dX5_apply_123 rfl (k_getf (C := RX5) (T := TX5) (N := 32) (ci := 5) (index := 55) (kf := 21) dX5_apply_124 rfl (fun w h => List.mem_cons_of_mem _ (inX5 w h)) (by decide) (List.mem_cons_of_mem _ mw_440) (k_bipush dX5_apply_127 (by decide +kernel) (k_iload_n dX5_apply_129 rfl (k_imul dX5_apply_130 (k_iload dX5_apply_131 (k_iadd dX5_apply_133 (k_iald dX5_apply_134 rfl (k_istore dX5_apply_135 (by decide) (k_iconst dX5_apply_137 (by decide +kernel) (k_istore dX5_apply_138 (by decide) ((hK 140))))))))))))
theorem nX5_apply_123 : kv_cn (fun K => fX5_apply_123 K) := cn_aload 0 (cn_getf 5 21 (cn_const 12 (cn_iload 1 (cn_imul (cn_iload 5 (cn_iadd (cn_iald 0 (cn_istore 6 (cn_const 0 (cn_istore 7 ((cn_K 140))))))))))))
def fX5_apply_112 (K : Nat → kv_D) : kv_D := o_iload 5 (o_aload 0 (o_getf 5 19 (o_iload 1 (o_iald 0 (o_icge (fX5_apply_223 K) (fX5_apply_123 K))))))
theorem sX5_apply_112 {K : Nat → kv_D} (hK : ∀ pc, SX5_apply pc (K pc)) : SX5_apply 112 (fX5_apply_112 K) := k_iload dX5_apply_112 (k_aload_n dX5_apply_114 rfl (k_getf (C := RX5) (T := TX5) (N := 32) (ci := 5) (index := 49) (kf := 19) dX5_apply_115 rfl (fun w h => List.mem_cons_of_mem _ (inX5 w h)) (by decide) (List.mem_cons_of_mem _ mw_438) (k_iload_n dX5_apply_118 rfl (k_iald dX5_apply_119 rfl (k_icge dX5_apply_120 rfl (sX5_apply_223 hK) (sX5_apply_123 hK))))))
theorem nX5_apply_112 : kv_cn (fun K => fX5_apply_112 K) := cn_iload 5 (cn_aload 0 (cn_getf 5 19 (cn_iload 1 (cn_iald 0 (cn_icge nX5_apply_223 nX5_apply_123)))))
def fX5_apply_98 (K : Nat → kv_D) : kv_D := o_aload 0 (o_getf 5 25 (o_istore 3 (o_aload 0 (o_getf 5 25 (o_istore 4 (o_const 0 (o_istore 5 ((K 112)))))))))
theorem sX5_apply_98 {K : Nat → kv_D} (hK : ∀ pc, SX5_apply pc (K pc)) : SX5_apply 98 (fX5_apply_98 K) := k_aload_n dX5_apply_98 rfl (k_getf (C := RX5) (T := TX5) (N := 32) (ci := 5) (index := 153) (kf := 25) dX5_apply_99 rfl (fun w h => List.mem_cons_of_mem _ (inX5 w h)) (by decide) (List.mem_cons_of_mem _ mw_444) (k_istore_n dX5_apply_102 rfl (by decide) (k_aload_n dX5_apply_103 rfl (k_getf (C := RX5) (T := TX5) (N := 32) (ci := 5) (index := 153) (kf := 25) dX5_apply_104 rfl (fun w h => List.mem_cons_of_mem _ (inX5 w h)) (by decide) (List.mem_cons_of_mem _ mw_444) (k_istore dX5_apply_107 (by decide) (k_iconst dX5_apply_109 (by decide +kernel) (k_istore dX5_apply_110 (by decide) ((hK 112)))))))))
theorem nX5_apply_98 : kv_cn (fun K => fX5_apply_98 K) := cn_aload 0 (cn_getf 5 25 (cn_istore 3 (cn_aload 0 (cn_getf 5 25 (cn_istore 4 (cn_const 0 (cn_istore 5 ((cn_K 112)))))))))
def fX5_apply_78 (K : Nat → kv_D) : kv_D := o_aload 0 (o_getf 5 24 (o_iload 4 (o_aload 0 (o_getf 5 23 (o_iload 4 (o_iald 0 (o_iast 0 (fun x => x) (o_iinc 4 1 ((K 69))))))))))
theorem sX5_apply_78 {K : Nat → kv_D} (hK : ∀ pc, SX5_apply pc (K pc)) : SX5_apply 78 (fX5_apply_78 K) := k_aload_n dX5_apply_78 rfl (k_getf (C := RX5) (T := TX5) (N := 32) (ci := 5) (index := 61) (kf := 24) dX5_apply_79 rfl (fun w h => List.mem_cons_of_mem _ (inX5 w h)) (by decide) (List.mem_cons_of_mem _ mw_443) (k_iload dX5_apply_82 (k_aload_n dX5_apply_84 rfl (k_getf (C := RX5) (T := TX5) (N := 32) (ci := 5) (index := 58) (kf := 23) dX5_apply_85 rfl (fun w h => List.mem_cons_of_mem _ (inX5 w h)) (by decide) (List.mem_cons_of_mem _ mw_442) (k_iload dX5_apply_88 (k_iald dX5_apply_90 rfl (k_iast dX5_apply_91 rfl (k_iinc dX5_apply_92 (by decide +kernel) (by decide) (k_goto dX5_apply_95 rfl (hK 69))))))))))
theorem nX5_apply_78 : kv_cn (fun K => fX5_apply_78 K) := cn_aload 0 (cn_getf 5 24 (cn_iload 4 (cn_aload 0 (cn_getf 5 23 (cn_iload 4 (cn_iald 0 (cn_iast 0 (fun x => x) (cn_iinc 4 1 ((cn_K 69))))))))))
def fX5_apply_69 (K : Nat → kv_D) : kv_D := o_iload 4 (o_aload 0 (o_getf 5 25 (o_icge (fX5_apply_98 K) (fX5_apply_78 K))))
theorem sX5_apply_69 {K : Nat → kv_D} (hK : ∀ pc, SX5_apply pc (K pc)) : SX5_apply 69 (fX5_apply_69 K) := k_iload dX5_apply_69 (k_aload_n dX5_apply_71 rfl (k_getf (C := RX5) (T := TX5) (N := 32) (ci := 5) (index := 153) (kf := 25) dX5_apply_72 rfl (fun w h => List.mem_cons_of_mem _ (inX5 w h)) (by decide) (List.mem_cons_of_mem _ mw_444) (k_icge dX5_apply_75 rfl (sX5_apply_98 hK) (sX5_apply_78 hK))))
theorem nX5_apply_69 : kv_cn (fun K => fX5_apply_69 K) := cn_iload 4 (cn_aload 0 (cn_getf 5 25 (cn_icge nX5_apply_98 nX5_apply_78)))
def fX5_apply_64 (K : Nat → kv_D) : kv_D := o_const 0 (o_istore 3 (o_const 0 (o_istore 4 ((K 69)))))
theorem sX5_apply_64 {K : Nat → kv_D} (hK : ∀ pc, SX5_apply pc (K pc)) : SX5_apply 64 (fX5_apply_64 K) := k_iconst dX5_apply_64 (by decide +kernel) (k_istore_n dX5_apply_65 rfl (by decide) (k_iconst dX5_apply_66 (by decide +kernel) (k_istore dX5_apply_67 (by decide) ((hK 69)))))
theorem nX5_apply_64 : kv_cn (fun K => fX5_apply_64 K) := cn_const 0 (cn_istore 3 (cn_const 0 (cn_istore 4 ((cn_K 69)))))
def fX5_apply_57 (K : Nat → kv_D) : kv_D := o_aload 0 (o_const 1 (o_putf 5 28 .boolean (o_const 0 (o_iret .boolean))))
theorem sX5_apply_57 {K : Nat → kv_D} (hK : ∀ pc, SX5_apply pc (K pc)) : SX5_apply 57 (fX5_apply_57 K) := k_aload_n dX5_apply_57 rfl (k_iconst dX5_apply_58 (by decide +kernel) (k_putf (C := RX5) (T := TX5) (N := 32) (ci := 5) (index := 159) (kf := 28) (ty := .boolean) dX5_apply_59 rfl (fun w h => List.mem_cons_of_mem _ (inX5 w h)) tyX5 tyX5_ok nmX5 (by decide) (List.mem_cons_of_mem _ mw_447) rfl rfl (k_iconst dX5_apply_62 (by decide +kernel) (k_iret dX5_apply_63 rfl))))
theorem nX5_apply_57 : kv_cn (fun K => fX5_apply_57 K) := cn_aload 0 (cn_const 1 (cn_putf 5 28 .boolean (cn_const 0 (cn_c _))))
def fX5_apply_48 (K : Nat → kv_D) : kv_D := o_aload 0 (o_getf 5 26 (o_const 100 (o_icne (fX5_apply_64 K) (fX5_apply_57 K))))
theorem sX5_apply_48 {K : Nat → kv_D} (hK : ∀ pc, SX5_apply pc (K pc)) : SX5_apply 48 (fX5_apply_48 K) := k_aload_n dX5_apply_48 rfl (k_getf (C := RX5) (T := TX5) (N := 32) (ci := 5) (index := 156) (kf := 26) dX5_apply_49 rfl (fun w h => List.mem_cons_of_mem _ (inX5 w h)) (by decide) (List.mem_cons_of_mem _ mw_445) (k_bipush dX5_apply_52 (by decide +kernel) (k_icne dX5_apply_54 rfl (sX5_apply_64 hK) (sX5_apply_57 hK))))
theorem nX5_apply_48 : kv_cn (fun K => fX5_apply_48 K) := cn_aload 0 (cn_getf 5 26 (cn_const 100 (cn_icne nX5_apply_64 nX5_apply_57)))
def fX5_apply_42 (K : Nat → kv_D) : kv_D := o_iload 2 (o_const 60 (o_icgt (fX5_apply_57 K) (fX5_apply_48 K)))
theorem sX5_apply_42 {K : Nat → kv_D} (hK : ∀ pc, SX5_apply pc (K pc)) : SX5_apply 42 (fX5_apply_42 K) := k_iload_n dX5_apply_42 rfl (k_bipush dX5_apply_43 (by decide +kernel) (k_icgt dX5_apply_45 rfl (sX5_apply_57 hK) (sX5_apply_48 hK)))
theorem nX5_apply_42 : kv_cn (fun K => fX5_apply_42 K) := cn_iload 2 (cn_const 60 (cn_icgt nX5_apply_57 nX5_apply_48))
def fX5_apply_27 (K : Nat → kv_D) : kv_D := o_iload 2 (o_aload 0 (o_iload 1 (o_iload 3 (o_callV 5 2 mX5_given (o_iadd (o_istore 2 (o_iinc 3 1 ((K 17)))))))))
theorem sX5_apply_27 {K : Nat → kv_D} (hK : ∀ pc, SX5_apply pc (K pc)) : SX5_apply 27 (fX5_apply_27 K) := k_iload_n dX5_apply_27 rfl (k_aload_n dX5_apply_28 rfl (k_iload_n dX5_apply_29 rfl (k_iload_n dX5_apply_30 rfl (k_callV (q := (RX5, TX5, 32)) dX5_apply_31 cX5_given_ct rfl (kv_goodV mw_628 mw_630 sel_X5_given mw_6 mw_631) (by decide +kernel) rfl (by decide) (by decide) (k_iadd dX5_apply_34 (k_istore_n dX5_apply_35 rfl (by decide) (k_iinc dX5_apply_36 (by decide +kernel) (by decide) (k_goto dX5_apply_39 rfl (hK 17)))))))))
theorem nX5_apply_27 : kv_cn (fun K => fX5_apply_27 K) := cn_iload 2 (cn_aload 0 (cn_iload 1 (cn_iload 3 (cn_callV 5 2 mX5_given (cn_iadd (cn_istore 2 (cn_iinc 3 1 ((cn_K 17)))))))))
def fX5_apply_17 (K : Nat → kv_D) : kv_D := o_iload 3 (o_aload 0 (o_getf 5 19 (o_iload 1 (o_iald 0 (o_icge (fX5_apply_42 K) (fX5_apply_27 K))))))
theorem sX5_apply_17 {K : Nat → kv_D} (hK : ∀ pc, SX5_apply pc (K pc)) : SX5_apply 17 (fX5_apply_17 K) := k_iload_n dX5_apply_17 rfl (k_aload_n dX5_apply_18 rfl (k_getf (C := RX5) (T := TX5) (N := 32) (ci := 5) (index := 49) (kf := 19) dX5_apply_19 rfl (fun w h => List.mem_cons_of_mem _ (inX5 w h)) (by decide) (List.mem_cons_of_mem _ mw_438) (k_iload_n dX5_apply_22 rfl (k_iald dX5_apply_23 rfl (k_icge dX5_apply_24 rfl (sX5_apply_42 hK) (sX5_apply_27 hK))))))
theorem nX5_apply_17 : kv_cn (fun K => fX5_apply_17 K) := cn_iload 3 (cn_aload 0 (cn_getf 5 19 (cn_iload 1 (cn_iald 0 (cn_icge nX5_apply_42 nX5_apply_27)))))
def fX5_apply_0 (K : Nat → kv_D) : kv_D := o_aload 0 (o_getf 5 22 (o_aload 0 (o_getf 5 29 (o_aload 0 (o_getf 5 25 (o_isub (o_isub (o_istore 2 (o_const 0 (o_istore 3 ((K 17))))))))))))
theorem sX5_apply_0 {K : Nat → kv_D} (hK : ∀ pc, SX5_apply pc (K pc)) : SX5_apply 0 (fX5_apply_0 K) := k_aload_n dX5_apply_0 rfl (k_getf (C := RX5) (T := TX5) (N := 32) (ci := 5) (index := 150) (kf := 22) dX5_apply_1 rfl (fun w h => List.mem_cons_of_mem _ (inX5 w h)) (by decide) (List.mem_cons_of_mem _ mw_441) (k_aload_n dX5_apply_4 rfl (k_getf (C := RX5) (T := TX5) (N := 32) (ci := 5) (index := 172) (kf := 29) dX5_apply_5 rfl (fun w h => List.mem_cons_of_mem _ (inX5 w h)) (by decide) (List.mem_cons_of_mem _ mw_448) (k_aload_n dX5_apply_8 rfl (k_getf (C := RX5) (T := TX5) (N := 32) (ci := 5) (index := 153) (kf := 25) dX5_apply_9 rfl (fun w h => List.mem_cons_of_mem _ (inX5 w h)) (by decide) (List.mem_cons_of_mem _ mw_444) (k_isub dX5_apply_12 (k_isub dX5_apply_13 (k_istore_n dX5_apply_14 rfl (by decide) (k_iconst dX5_apply_15 (by decide +kernel) (k_istore_n dX5_apply_16 rfl (by decide) ((hK 17))))))))))))
theorem nX5_apply_0 : kv_cn (fun K => fX5_apply_0 K) := cn_aload 0 (cn_getf 5 22 (cn_aload 0 (cn_getf 5 29 (cn_aload 0 (cn_getf 5 25 (cn_isub (cn_isub (cn_istore 2 (cn_const 0 (cn_istore 3 ((cn_K 17))))))))))))
def bX5_apply (K : Nat → kv_D) (pc : Nat) : kv_D := if pc = 17 then fX5_apply_17 K else if pc = 69 then fX5_apply_69 K else if pc = 112 then fX5_apply_112 K else if pc = 140 then fX5_apply_140 K else if pc = 229 then fX5_apply_229 K else if pc = 263 then fX5_apply_263 K else fun _ _ _ _ _ => False
theorem hX5_apply : ∀ pc, SX5_apply pc (kv_lim (bX5_apply) pc) := kv_lim_S (fun K hK pc => by
  unfold bX5_apply
  by_cases q17 : pc = 17
  · rw [if_pos q17, q17]
    exact sX5_apply_17 hK
  rw [if_neg q17]
  by_cases q69 : pc = 69
  · rw [if_pos q69, q69]
    exact sX5_apply_69 hK
  rw [if_neg q69]
  by_cases q112 : pc = 112
  · rw [if_pos q112, q112]
    exact sX5_apply_112 hK
  rw [if_neg q112]
  by_cases q140 : pc = 140
  · rw [if_pos q140, q140]
    exact sX5_apply_140 hK
  rw [if_neg q140]
  by_cases q229 : pc = 229
  · rw [if_pos q229, q229]
    exact sX5_apply_229 hK
  rw [if_neg q229]
  by_cases q263 : pc = 263
  · rw [if_pos q263, q263]
    exact sX5_apply_263 hK
  rw [if_neg q263]
  exact kv_none)
theorem uX5_apply_17 {L : List (Option Value)} {st : List Value} {h : kv_H} {v : Option Value} {h' : kv_H} (hx : fX5_apply_17 (kv_lim (bX5_apply)) L st h v h') : kv_lim (bX5_apply) 17 L st h v h' := kv_un (q := 17) (by have e : (fun K => bX5_apply K 17) = fun K => fX5_apply_17 K := (by funext K; rfl); rw [e]; exact nX5_apply_17) (by have e : bX5_apply (kv_lim (bX5_apply)) 17 = fX5_apply_17 (kv_lim (bX5_apply)) := rfl; rw [e]; exact hx)
theorem uX5_apply_69 {L : List (Option Value)} {st : List Value} {h : kv_H} {v : Option Value} {h' : kv_H} (hx : fX5_apply_69 (kv_lim (bX5_apply)) L st h v h') : kv_lim (bX5_apply) 69 L st h v h' := kv_un (q := 69) (by have e : (fun K => bX5_apply K 69) = fun K => fX5_apply_69 K := (by funext K; rfl); rw [e]; exact nX5_apply_69) (by have e : bX5_apply (kv_lim (bX5_apply)) 69 = fX5_apply_69 (kv_lim (bX5_apply)) := rfl; rw [e]; exact hx)
theorem uX5_apply_112 {L : List (Option Value)} {st : List Value} {h : kv_H} {v : Option Value} {h' : kv_H} (hx : fX5_apply_112 (kv_lim (bX5_apply)) L st h v h') : kv_lim (bX5_apply) 112 L st h v h' := kv_un (q := 112) (by have e : (fun K => bX5_apply K 112) = fun K => fX5_apply_112 K := (by funext K; rfl); rw [e]; exact nX5_apply_112) (by have e : bX5_apply (kv_lim (bX5_apply)) 112 = fX5_apply_112 (kv_lim (bX5_apply)) := rfl; rw [e]; exact hx)
theorem uX5_apply_140 {L : List (Option Value)} {st : List Value} {h : kv_H} {v : Option Value} {h' : kv_H} (hx : fX5_apply_140 (kv_lim (bX5_apply)) L st h v h') : kv_lim (bX5_apply) 140 L st h v h' := kv_un (q := 140) (by have e : (fun K => bX5_apply K 140) = fun K => fX5_apply_140 K := (by funext K; rfl); rw [e]; exact nX5_apply_140) (by have e : bX5_apply (kv_lim (bX5_apply)) 140 = fX5_apply_140 (kv_lim (bX5_apply)) := rfl; rw [e]; exact hx)
theorem uX5_apply_229 {L : List (Option Value)} {st : List Value} {h : kv_H} {v : Option Value} {h' : kv_H} (hx : fX5_apply_229 (kv_lim (bX5_apply)) L st h v h') : kv_lim (bX5_apply) 229 L st h v h' := kv_un (q := 229) (by have e : (fun K => bX5_apply K 229) = fun K => fX5_apply_229 K := (by funext K; rfl); rw [e]; exact nX5_apply_229) (by have e : bX5_apply (kv_lim (bX5_apply)) 229 = fX5_apply_229 (kv_lim (bX5_apply)) := rfl; rw [e]; exact hx)
theorem uX5_apply_263 {L : List (Option Value)} {st : List Value} {h : kv_H} {v : Option Value} {h' : kv_H} (hx : fX5_apply_263 (kv_lim (bX5_apply)) L st h v h') : kv_lim (bX5_apply) 263 L st h v h' := kv_un (q := 263) (by have e : (fun K => bX5_apply K 263) = fun K => fX5_apply_263 K := (by funext K; rfl); rw [e]; exact nX5_apply_263) (by have e : bX5_apply (kv_lim (bX5_apply)) 263 = fX5_apply_263 (kv_lim (bX5_apply)) := rfl; rw [e]; exact hx)
def mX5_apply : kv_M := kv_in 2 8 (fX5_apply_0 (kv_lim (bX5_apply)))
theorem cX5_apply_ct : kv_CT yX5_apply wX5_apply 2 43 mX5_apply := kv_met (by decide) rfl rfl (by decide) (fun h => by cases h) (sX5_apply_0 (hX5_apply))
-- X5_work
def wX5_work : List Cond := Cond.code yX5_work cX5_work 5 (some .int) :: kv_tb
abbrev SX5_work (pc : Nat) (F : kv_D) : Prop := kv_S cX5_work 5 RX5 wX5_work (some .int) false 4 97 none pc F
def fX5_work_102 (K : Nat → kv_D) : kv_D := o_iload 2 (o_iret .int)
theorem sX5_work_102 {K : Nat → kv_D} (hK : ∀ pc, SX5_work pc (K pc)) : SX5_work 102 (fX5_work_102 K) := k_iload_n dX5_work_102 rfl (k_iret dX5_work_103 rfl)
theorem nX5_work_102 : kv_cn (fun K => fX5_work_102 K) := cn_iload 2 (cn_c _)
def fX5_work_99 (K : Nat → kv_D) : kv_D := (K 2)
theorem sX5_work_99 {K : Nat → kv_D} (hK : ∀ pc, SX5_work pc (K pc)) : SX5_work 99 (fX5_work_99 K) := k_goto dX5_work_99 rfl (hK 2)
theorem nX5_work_99 : kv_cn (fun K => fX5_work_99 K) := (cn_K 2)
def fX5_work_96 (K : Nat → kv_D) : kv_D := o_iinc 2 1 ((fX5_work_99 K))
theorem sX5_work_96 {K : Nat → kv_D} (hK : ∀ pc, SX5_work pc (K pc)) : SX5_work 96 (fX5_work_96 K) := k_iinc dX5_work_96 (by decide +kernel) (by decide) ((sX5_work_99 hK))
theorem nX5_work_96 : kv_cn (fun K => fX5_work_96 K) := cn_iinc 2 1 (nX5_work_99)
def fX5_work_88 (K : Nat → kv_D) : kv_D := o_aload 0 (o_iload 3 (o_callV 5 1 mX5_apply (o_ifeq (fX5_work_99 K) (fX5_work_96 K))))
theorem sX5_work_88 {K : Nat → kv_D} (hK : ∀ pc, SX5_work pc (K pc)) : SX5_work 88 (fX5_work_88 K) := k_aload_n dX5_work_88 rfl (k_iload_n dX5_work_89 rfl (k_callV (q := (RX5, TX5, 32)) dX5_work_90 cX5_apply_ct rfl (kv_goodV mw_624 mw_626 sel_X5_apply mw_6 mw_627) (by decide +kernel) rfl (by decide) (by decide) (k_ifeq dX5_work_93 rfl (sX5_work_99 hK) (sX5_work_96 hK))))
theorem nX5_work_88 : kv_cn (fun K => fX5_work_88 K) := cn_aload 0 (cn_iload 3 (cn_callV 5 1 mX5_apply (cn_ifeq nX5_work_99 nX5_work_96)))
def fX5_work_75 (K : Nat → kv_D) : kv_D := o_aload 0 (o_dup (o_getf 5 25 (o_const 1 (o_iadd (o_putf 5 25 .int ((fX5_work_99 K)))))))
theorem sX5_work_75 {K : Nat → kv_D} (hK : ∀ pc, SX5_work pc (K pc)) : SX5_work 75 (fX5_work_75 K) := k_aload_n dX5_work_75 rfl (k_dup dX5_work_76 (k_getf (C := RX5) (T := TX5) (N := 32) (ci := 5) (index := 153) (kf := 25) dX5_work_77 rfl (fun w h => List.mem_cons_of_mem _ (inX5 w h)) (by decide) (List.mem_cons_of_mem _ mw_444) (k_iconst dX5_work_80 (by decide +kernel) (k_iadd dX5_work_81 (k_putf (C := RX5) (T := TX5) (N := 32) (ci := 5) (index := 153) (kf := 25) (ty := .int) dX5_work_82 rfl (fun w h => List.mem_cons_of_mem _ (inX5 w h)) tyX5 tyX5_ok nmX5 (by decide) (List.mem_cons_of_mem _ mw_444) rfl rfl (k_goto dX5_work_85 rfl (sX5_work_99 hK)))))))
theorem nX5_work_75 : kv_cn (fun K => fX5_work_75 K) := cn_aload 0 (cn_dup (cn_getf 5 25 (cn_const 1 (cn_iadd (cn_putf 5 25 .int (nX5_work_99))))))
def fX5_work_70 (K : Nat → kv_D) : kv_D := o_iload 4 (o_ifne (fX5_work_88 K) (fX5_work_75 K))
theorem sX5_work_70 {K : Nat → kv_D} (hK : ∀ pc, SX5_work pc (K pc)) : SX5_work 70 (fX5_work_70 K) := k_iload dX5_work_70 (k_ifne dX5_work_72 rfl (sX5_work_88 hK) (sX5_work_75 hK))
theorem nX5_work_70 : kv_cn (fun K => fX5_work_70 K) := cn_iload 4 (cn_ifne nX5_work_88 nX5_work_75)
def fX5_work_68 (K : Nat → kv_D) : kv_D := o_iload 2 (o_iret .int)
theorem sX5_work_68 {K : Nat → kv_D} (hK : ∀ pc, SX5_work pc (K pc)) : SX5_work 68 (fX5_work_68 K) := k_iload_n dX5_work_68 rfl (k_iret dX5_work_69 rfl)
theorem nX5_work_68 : kv_cn (fun K => fX5_work_68 K) := cn_iload 2 (cn_c _)
def fX5_work_62 (K : Nat → kv_D) : kv_D := o_iload 4 (o_const 2 (o_icne (fX5_work_70 K) (fX5_work_68 K)))
theorem sX5_work_62 {K : Nat → kv_D} (hK : ∀ pc, SX5_work pc (K pc)) : SX5_work 62 (fX5_work_62 K) := k_iload dX5_work_62 (k_iconst dX5_work_64 (by decide +kernel) (k_icne dX5_work_65 rfl (sX5_work_70 hK) (sX5_work_68 hK)))
theorem nX5_work_62 : kv_cn (fun K => fX5_work_62 K) := cn_iload 4 (cn_const 2 (cn_icne nX5_work_70 nX5_work_68))
def fX5_work_58 (K : Nat → kv_D) : kv_D := o_istore 3 ((K 25))
theorem sX5_work_58 {K : Nat → kv_D} (hK : ∀ pc, SX5_work pc (K pc)) : SX5_work 58 (fX5_work_58 K) := k_istore_n dX5_work_58 rfl (by decide) (k_goto dX5_work_59 rfl (hK 25))
theorem nX5_work_58 : kv_cn (fun K => fX5_work_58 K) := cn_istore 3 ((cn_K 25))
def fX5_work_57 (K : Nat → kv_D) : kv_D := o_iload 3 ((fX5_work_58 K))
theorem sX5_work_57 {K : Nat → kv_D} (hK : ∀ pc, SX5_work pc (K pc)) : SX5_work 57 (fX5_work_57 K) := k_iload_n dX5_work_57 rfl ((sX5_work_58 hK))
theorem nX5_work_57 : kv_cn (fun K => fX5_work_57 K) := cn_iload 3 (nX5_work_58)
def fX5_work_51 (K : Nat → kv_D) : kv_D := o_iload 3 (o_const 1 (o_iadd ((fX5_work_58 K))))
theorem sX5_work_51 {K : Nat → kv_D} (hK : ∀ pc, SX5_work pc (K pc)) : SX5_work 51 (fX5_work_51 K) := k_iload_n dX5_work_51 rfl (k_iconst dX5_work_52 (by decide +kernel) (k_iadd dX5_work_53 (k_goto dX5_work_54 rfl (sX5_work_58 hK))))
theorem nX5_work_51 : kv_cn (fun K => fX5_work_51 K) := cn_iload 3 (cn_const 1 (cn_iadd (nX5_work_58)))
def fX5_work_38 (K : Nat → kv_D) : kv_D := o_aload 0 (o_iload 3 (o_iload 1 (o_callV 5 2 mX5_match (o_istore 4 (o_iload 4 (o_ifne (fX5_work_57 K) (fX5_work_51 K)))))))
theorem sX5_work_38 {K : Nat → kv_D} (hK : ∀ pc, SX5_work pc (K pc)) : SX5_work 38 (fX5_work_38 K) := k_aload_n dX5_work_38 rfl (k_iload_n dX5_work_39 rfl (k_iload_n dX5_work_40 rfl (k_callV (q := (RX5, TX5, 32)) dX5_work_41 cX5_match_ct rfl (kv_goodV mw_600 mw_602 sel_X5_match mw_6 mw_603) (by decide +kernel) rfl (by decide) (by decide) (k_istore dX5_work_44 (by decide) (k_iload dX5_work_46 (k_ifne dX5_work_48 rfl (sX5_work_57 hK) (sX5_work_51 hK)))))))
theorem nX5_work_38 : kv_cn (fun K => fX5_work_38 K) := cn_aload 0 (cn_iload 3 (cn_iload 1 (cn_callV 5 2 mX5_match (cn_istore 4 (cn_iload 4 (cn_ifne nX5_work_57 nX5_work_51))))))
def fX5_work_33 (K : Nat → kv_D) : kv_D := o_iload 4 (o_ifne (fX5_work_62 K) (fX5_work_38 K))
theorem sX5_work_33 {K : Nat → kv_D} (hK : ∀ pc, SX5_work pc (K pc)) : SX5_work 33 (fX5_work_33 K) := k_iload dX5_work_33 (k_ifne dX5_work_35 rfl (sX5_work_62 hK) (sX5_work_38 hK))
theorem nX5_work_33 : kv_cn (fun K => fX5_work_33 K) := cn_iload 4 (cn_ifne nX5_work_62 nX5_work_38)
def fX5_work_25 (K : Nat → kv_D) : kv_D := o_iload 3 (o_aload 0 (o_getf 5 11 (o_icge (fX5_work_62 K) (fX5_work_33 K))))
theorem sX5_work_25 {K : Nat → kv_D} (hK : ∀ pc, SX5_work pc (K pc)) : SX5_work 25 (fX5_work_25 K) := k_iload_n dX5_work_25 rfl (k_aload_n dX5_work_26 rfl (k_getf (C := RX5) (T := TX5) (N := 32) (ci := 5) (index := 131) (kf := 11) dX5_work_27 rfl (fun w h => List.mem_cons_of_mem _ (inX5 w h)) (by decide) (List.mem_cons_of_mem _ mw_430) (k_icge dX5_work_30 rfl (sX5_work_62 hK) (sX5_work_33 hK))))
theorem nX5_work_25 : kv_cn (fun K => fX5_work_25 K) := cn_iload 3 (cn_aload 0 (cn_getf 5 11 (cn_icge nX5_work_62 nX5_work_33)))
def fX5_work_20 (K : Nat → kv_D) : kv_D := o_const 0 (o_istore 3 (o_const 0 (o_istore 4 ((K 25)))))
theorem sX5_work_20 {K : Nat → kv_D} (hK : ∀ pc, SX5_work pc (K pc)) : SX5_work 20 (fX5_work_20 K) := k_iconst dX5_work_20 (by decide +kernel) (k_istore_n dX5_work_21 rfl (by decide) (k_iconst dX5_work_22 (by decide +kernel) (k_istore dX5_work_23 (by decide) ((hK 25)))))
theorem nX5_work_20 : kv_cn (fun K => fX5_work_20 K) := cn_const 0 (cn_istore 3 (cn_const 0 (cn_istore 4 ((cn_K 25)))))
def fX5_work_13 (K : Nat → kv_D) : kv_D := o_aload 0 (o_getf 5 28 (o_ifne (fX5_work_102 K) (fX5_work_20 K)))
theorem sX5_work_13 {K : Nat → kv_D} (hK : ∀ pc, SX5_work pc (K pc)) : SX5_work 13 (fX5_work_13 K) := k_aload_n dX5_work_13 rfl (k_getf (C := RX5) (T := TX5) (N := 32) (ci := 5) (index := 159) (kf := 28) dX5_work_14 rfl (fun w h => List.mem_cons_of_mem _ (inX5 w h)) (by decide) (List.mem_cons_of_mem _ mw_447) (k_ifne dX5_work_17 rfl (sX5_work_102 hK) (sX5_work_20 hK)))
theorem nX5_work_13 : kv_cn (fun K => fX5_work_13 K) := cn_aload 0 (cn_getf 5 28 (cn_ifne nX5_work_102 nX5_work_20))
def fX5_work_2 (K : Nat → kv_D) : kv_D := o_aload 0 (o_getf 5 25 (o_aload 0 (o_getf 5 22 (o_icge (fX5_work_102 K) (fX5_work_13 K)))))
theorem sX5_work_2 {K : Nat → kv_D} (hK : ∀ pc, SX5_work pc (K pc)) : SX5_work 2 (fX5_work_2 K) := k_aload_n dX5_work_2 rfl (k_getf (C := RX5) (T := TX5) (N := 32) (ci := 5) (index := 153) (kf := 25) dX5_work_3 rfl (fun w h => List.mem_cons_of_mem _ (inX5 w h)) (by decide) (List.mem_cons_of_mem _ mw_444) (k_aload_n dX5_work_6 rfl (k_getf (C := RX5) (T := TX5) (N := 32) (ci := 5) (index := 150) (kf := 22) dX5_work_7 rfl (fun w h => List.mem_cons_of_mem _ (inX5 w h)) (by decide) (List.mem_cons_of_mem _ mw_441) (k_icge dX5_work_10 rfl (sX5_work_102 hK) (sX5_work_13 hK)))))
theorem nX5_work_2 : kv_cn (fun K => fX5_work_2 K) := cn_aload 0 (cn_getf 5 25 (cn_aload 0 (cn_getf 5 22 (cn_icge nX5_work_102 nX5_work_13))))
def fX5_work_0 (K : Nat → kv_D) : kv_D := o_const 0 (o_istore 2 ((K 2)))
theorem sX5_work_0 {K : Nat → kv_D} (hK : ∀ pc, SX5_work pc (K pc)) : SX5_work 0 (fX5_work_0 K) := k_iconst dX5_work_0 (by decide +kernel) (k_istore_n dX5_work_1 rfl (by decide) ((hK 2)))
theorem nX5_work_0 : kv_cn (fun K => fX5_work_0 K) := cn_const 0 (cn_istore 2 ((cn_K 2)))
def bX5_work (K : Nat → kv_D) (pc : Nat) : kv_D := if pc = 2 then fX5_work_2 K else if pc = 25 then fX5_work_25 K else fun _ _ _ _ _ => False
theorem hX5_work : ∀ pc, SX5_work pc (kv_lim (bX5_work) pc) := kv_lim_S (fun K hK pc => by
  unfold bX5_work
  by_cases q2 : pc = 2
  · rw [if_pos q2, q2]
    exact sX5_work_2 hK
  rw [if_neg q2]
  by_cases q25 : pc = 25
  · rw [if_pos q25, q25]
    exact sX5_work_25 hK
  rw [if_neg q25]
  exact kv_none)
theorem uX5_work_2 {L : List (Option Value)} {st : List Value} {h : kv_H} {v : Option Value} {h' : kv_H} (hx : fX5_work_2 (kv_lim (bX5_work)) L st h v h') : kv_lim (bX5_work) 2 L st h v h' := kv_un (q := 2) (by have e : (fun K => bX5_work K 2) = fun K => fX5_work_2 K := (by funext K; rfl); rw [e]; exact nX5_work_2) (by have e : bX5_work (kv_lim (bX5_work)) 2 = fX5_work_2 (kv_lim (bX5_work)) := rfl; rw [e]; exact hx)
theorem uX5_work_25 {L : List (Option Value)} {st : List Value} {h : kv_H} {v : Option Value} {h' : kv_H} (hx : fX5_work_25 (kv_lim (bX5_work)) L st h v h') : kv_lim (bX5_work) 25 L st h v h' := kv_un (q := 25) (by have e : (fun K => bX5_work K 25) = fun K => fX5_work_25 K := (by funext K; rfl); rw [e]; exact nX5_work_25) (by have e : bX5_work (kv_lim (bX5_work)) 25 = fX5_work_25 (kv_lim (bX5_work)) := rfl; rw [e]; exact hx)
def mX5_work : kv_M := kv_in 2 5 (fX5_work_0 (kv_lim (bX5_work)))
theorem cX5_work_ct : kv_CT yX5_work wX5_work 4 97 mX5_work := kv_met (by decide) rfl rfl (by decide) (fun h => by cases h) (sX5_work_0 (hX5_work))
-- X5_settle
def wX5_settle : List Cond := Cond.code yX5_settle cX5_settle 1 (some .int) :: kv_tb
abbrev SX5_settle (pc : Nat) (F : kv_D) : Prop := kv_S cX5_settle 1 RX5 wX5_settle (some .int) false 5 121 none pc F
def fX5_settle_0 : kv_D := o_aload 0 (o_const 0 (o_callV 5 1 mX5_work (o_iret .int)))
theorem sX5_settle_0 : SX5_settle 0 (fX5_settle_0) := k_aload_n dX5_settle_0 rfl (k_iconst dX5_settle_1 (by decide +kernel) (k_callV (q := (RX5, TX5, 32)) dX5_settle_2 cX5_work_ct rfl (kv_goodV mw_620 mw_622 sel_X5_work mw_6 mw_623) (by decide +kernel) rfl (by decide) (by decide) (k_iret dX5_settle_5 rfl)))
def mX5_settle : kv_M := kv_in 1 1 (fX5_settle_0)
theorem cX5_settle_ct : kv_CT yX5_settle wX5_settle 5 121 mX5_settle := kv_met (by decide) rfl rfl (by decide) (fun h => by cases h) (sX5_settle_0)
-- X5_finish
def wX5_finish : List Cond := Cond.code yX5_finish cX5_finish 1 (some .int) :: kv_tb
abbrev SX5_finish (pc : Nat) (F : kv_D) : Prop := kv_S cX5_finish 1 RX5 wX5_finish (some .int) false 5 121 none pc F
def fX5_finish_0 : kv_D := o_aload 0 (o_const 1 (o_callV 5 1 mX5_work (o_iret .int)))
theorem sX5_finish_0 : SX5_finish 0 (fX5_finish_0) := k_aload_n dX5_finish_0 rfl (k_iconst dX5_finish_1 (by decide +kernel) (k_callV (q := (RX5, TX5, 32)) dX5_finish_2 cX5_work_ct rfl (kv_goodV mw_620 mw_622 sel_X5_work mw_6 mw_623) (by decide +kernel) rfl (by decide) (by decide) (k_iret dX5_finish_5 rfl)))
def mX5_finish : kv_M := kv_in 1 1 (fX5_finish_0)
theorem cX5_finish_ct : kv_CT yX5_finish wX5_finish 5 121 mX5_finish := kv_met (by decide) rfl rfl (by decide) (fun h => by cases h) (sX5_finish_0)
-- X5_length
def wX5_length : List Cond := Cond.code yX5_length cX5_length 1 (some .int) :: kv_tb
abbrev SX5_length (pc : Nat) (F : kv_D) : Prop := kv_S cX5_length 1 RX5 wX5_length (some .int) false 0 0 none pc F
def fX5_length_0 : kv_D := o_aload 0 (o_getf 5 22 (o_iret .int))
theorem sX5_length_0 : SX5_length 0 (fX5_length_0) := k_aload_n dX5_length_0 rfl (k_getf (C := RX5) (T := TX5) (N := 32) (ci := 5) (index := 150) (kf := 22) dX5_length_1 rfl (fun w h => List.mem_cons_of_mem _ (inX5 w h)) (by decide) (List.mem_cons_of_mem _ mw_441) (k_iret dX5_length_4 rfl))
def mX5_length : kv_M := kv_in 1 1 (fX5_length_0)
theorem cX5_length_ct : kv_CT yX5_length wX5_length 0 0 mX5_length := kv_met (by decide) rfl rfl (by decide) (fun h => by cases h) (sX5_length_0)
-- X5_letter
def wX5_letter : List Cond := Cond.code yX5_letter cX5_letter 2 (some .int) :: kv_tb
abbrev SX5_letter (pc : Nat) (F : kv_D) : Prop := kv_S cX5_letter 2 RX5 wX5_letter (some .int) false 0 0 none pc F
def fX5_letter_22 : kv_D := o_iret .int
theorem sX5_letter_22 : SX5_letter 22 (fX5_letter_22) := k_iret dX5_letter_22 rfl
def fX5_letter_16 : kv_D := o_aload 0 (o_getf 5 23 (o_iload 1 (o_iald 0 ((fX5_letter_22)))))
theorem sX5_letter_16 : SX5_letter 16 (fX5_letter_16) := k_aload_n dX5_letter_16 rfl (k_getf (C := RX5) (T := TX5) (N := 32) (ci := 5) (index := 58) (kf := 23) dX5_letter_17 rfl (fun w h => List.mem_cons_of_mem _ (inX5 w h)) (by decide) (List.mem_cons_of_mem _ mw_442) (k_iload_n dX5_letter_20 rfl (k_iald dX5_letter_21 rfl ((sX5_letter_22)))))
def fX5_letter_12 : kv_D := o_const 0 ((fX5_letter_22))
theorem sX5_letter_12 : SX5_letter 12 (fX5_letter_12) := k_iconst dX5_letter_12 (by decide +kernel) (k_goto dX5_letter_13 rfl (sX5_letter_22))
def fX5_letter_4 : kv_D := o_iload 1 (o_aload 0 (o_getf 5 22 (o_iclt (fX5_letter_16) (fX5_letter_12))))
theorem sX5_letter_4 : SX5_letter 4 (fX5_letter_4) := k_iload_n dX5_letter_4 rfl (k_aload_n dX5_letter_5 rfl (k_getf (C := RX5) (T := TX5) (N := 32) (ci := 5) (index := 150) (kf := 22) dX5_letter_6 rfl (fun w h => List.mem_cons_of_mem _ (inX5 w h)) (by decide) (List.mem_cons_of_mem _ mw_441) (k_iclt dX5_letter_9 rfl (sX5_letter_16) (sX5_letter_12))))
def fX5_letter_0 : kv_D := o_iload 1 (o_iflt (fX5_letter_12) (fX5_letter_4))
theorem sX5_letter_0 : SX5_letter 0 (fX5_letter_0) := k_iload_n dX5_letter_0 rfl (k_iflt dX5_letter_1 rfl (sX5_letter_12) (sX5_letter_4))
def mX5_letter : kv_M := kv_in 2 2 (fX5_letter_0)
theorem cX5_letter_ct : kv_CT yX5_letter wX5_letter 0 0 mX5_letter := kv_met (by decide) rfl rfl (by decide) (fun h => by cases h) (sX5_letter_0)
-- X5_cursor
def wX5_cursor : List Cond := Cond.code yX5_cursor cX5_cursor 1 (some .int) :: kv_tb
abbrev SX5_cursor (pc : Nat) (F : kv_D) : Prop := kv_S cX5_cursor 1 RX5 wX5_cursor (some .int) false 0 0 none pc F
def fX5_cursor_0 : kv_D := o_aload 0 (o_getf 5 25 (o_iret .int))
theorem sX5_cursor_0 : SX5_cursor 0 (fX5_cursor_0) := k_aload_n dX5_cursor_0 rfl (k_getf (C := RX5) (T := TX5) (N := 32) (ci := 5) (index := 153) (kf := 25) dX5_cursor_1 rfl (fun w h => List.mem_cons_of_mem _ (inX5 w h)) (by decide) (List.mem_cons_of_mem _ mw_444) (k_iret dX5_cursor_4 rfl))
def mX5_cursor : kv_M := kv_in 1 1 (fX5_cursor_0)
theorem cX5_cursor_ct : kv_CT yX5_cursor wX5_cursor 0 0 mX5_cursor := kv_met (by decide) rfl rfl (by decide) (fun h => by cases h) (sX5_cursor_0)
-- X5_applied
def wX5_applied : List Cond := Cond.code yX5_applied cX5_applied 1 (some .int) :: kv_tb
abbrev SX5_applied (pc : Nat) (F : kv_D) : Prop := kv_S cX5_applied 1 RX5 wX5_applied (some .int) false 0 0 none pc F
def fX5_applied_0 : kv_D := o_aload 0 (o_getf 5 26 (o_iret .int))
theorem sX5_applied_0 : SX5_applied 0 (fX5_applied_0) := k_aload_n dX5_applied_0 rfl (k_getf (C := RX5) (T := TX5) (N := 32) (ci := 5) (index := 156) (kf := 26) dX5_applied_1 rfl (fun w h => List.mem_cons_of_mem _ (inX5 w h)) (by decide) (List.mem_cons_of_mem _ mw_445) (k_iret dX5_applied_4 rfl))
def mX5_applied : kv_M := kv_in 1 1 (fX5_applied_0)
theorem cX5_applied_ct : kv_CT yX5_applied wX5_applied 0 0 mX5_applied := kv_met (by decide) rfl rfl (by decide) (fun h => by cases h) (sX5_applied_0)
-- X5_latest
def wX5_latest : List Cond := Cond.code yX5_latest cX5_latest 1 (some .int) :: kv_tb
abbrev SX5_latest (pc : Nat) (F : kv_D) : Prop := kv_S cX5_latest 1 RX5 wX5_latest (some .int) false 0 0 none pc F
def fX5_latest_0 : kv_D := o_aload 0 (o_getf 5 27 (o_iret .int))
theorem sX5_latest_0 : SX5_latest 0 (fX5_latest_0) := k_aload_n dX5_latest_0 rfl (k_getf (C := RX5) (T := TX5) (N := 32) (ci := 5) (index := 64) (kf := 27) dX5_latest_1 rfl (fun w h => List.mem_cons_of_mem _ (inX5 w h)) (by decide) (List.mem_cons_of_mem _ mw_446) (k_iret dX5_latest_4 rfl))
def mX5_latest : kv_M := kv_in 1 1 (fX5_latest_0)
theorem cX5_latest_ct : kv_CT yX5_latest wX5_latest 0 0 mX5_latest := kv_met (by decide) rfl rfl (by decide) (fun h => by cases h) (sX5_latest_0)
-- X5_stuck
def wX5_stuck : List Cond := Cond.code yX5_stuck cX5_stuck 1 (some .boolean) :: kv_tb
abbrev SX5_stuck (pc : Nat) (F : kv_D) : Prop := kv_S cX5_stuck 1 RX5 wX5_stuck (some .boolean) false 0 0 none pc F
def fX5_stuck_0 : kv_D := o_aload 0 (o_getf 5 28 (o_iret .boolean))
theorem sX5_stuck_0 : SX5_stuck 0 (fX5_stuck_0) := k_aload_n dX5_stuck_0 rfl (k_getf (C := RX5) (T := TX5) (N := 32) (ci := 5) (index := 159) (kf := 28) dX5_stuck_1 rfl (fun w h => List.mem_cons_of_mem _ (inX5 w h)) (by decide) (List.mem_cons_of_mem _ mw_447) (k_iret dX5_stuck_4 rfl))
def mX5_stuck : kv_M := kv_in 1 1 (fX5_stuck_0)
theorem cX5_stuck_ct : kv_CT yX5_stuck wX5_stuck 0 0 mX5_stuck := kv_met (by decide) rfl rfl (by decide) (fun h => by cases h) (sX5_stuck_0)
-- X5_probe
def wX5_probe : List Cond := Cond.code yX5_probe cX5_probe 3 (some .int) :: kv_tb
abbrev SX5_probe (pc : Nat) (F : kv_D) : Prop := kv_S cX5_probe 3 RX5 wX5_probe (some .int) false 4 97 none pc F
def fX5_probe_22 : kv_D := o_iret .int
theorem sX5_probe_22 : SX5_probe 22 (fX5_probe_22) := k_iret dX5_probe_22 rfl
def fX5_probe_16 : kv_D := o_aload 0 (o_iload 1 (o_iload 2 (o_callV 5 2 mX5_match ((fX5_probe_22)))))
theorem sX5_probe_16 : SX5_probe 16 (fX5_probe_16) := k_aload_n dX5_probe_16 rfl (k_iload_n dX5_probe_17 rfl (k_iload_n dX5_probe_18 rfl (k_callV (q := (RX5, TX5, 32)) dX5_probe_19 cX5_match_ct rfl (kv_goodV mw_600 mw_602 sel_X5_match mw_6 mw_603) (by decide +kernel) rfl (by decide) (by decide) ((sX5_probe_22)))))
def fX5_probe_12 : kv_D := o_const (-1) ((fX5_probe_22))
theorem sX5_probe_12 : SX5_probe 12 (fX5_probe_12) := k_iconst dX5_probe_12 (by decide +kernel) (k_goto dX5_probe_13 rfl (sX5_probe_22))
def fX5_probe_4 : kv_D := o_iload 1 (o_aload 0 (o_getf 5 11 (o_iclt (fX5_probe_16) (fX5_probe_12))))
theorem sX5_probe_4 : SX5_probe 4 (fX5_probe_4) := k_iload_n dX5_probe_4 rfl (k_aload_n dX5_probe_5 rfl (k_getf (C := RX5) (T := TX5) (N := 32) (ci := 5) (index := 131) (kf := 11) dX5_probe_6 rfl (fun w h => List.mem_cons_of_mem _ (inX5 w h)) (by decide) (List.mem_cons_of_mem _ mw_430) (k_iclt dX5_probe_9 rfl (sX5_probe_16) (sX5_probe_12))))
def fX5_probe_0 : kv_D := o_iload 1 (o_iflt (fX5_probe_12) (fX5_probe_4))
theorem sX5_probe_0 : SX5_probe 0 (fX5_probe_0) := k_iload_n dX5_probe_0 rfl (k_iflt dX5_probe_1 rfl (sX5_probe_12) (sX5_probe_4))
def mX5_probe : kv_M := kv_in 3 3 (fX5_probe_0)
theorem cX5_probe_ct : kv_CT yX5_probe wX5_probe 4 97 mX5_probe := kv_met (by decide) rfl rfl (by decide) (fun h => by cases h) (sX5_probe_0)
