theorem dX5_standsFor_27 : decode cX5_standsFor 27 = .ok (.ireturn, 1) := by decide +kernel
theorem dX5_standsFor_26 : decode cX5_standsFor 26 = .ok (.iconst 0, 1) := by decide +kernel
theorem dX5_standsFor_22 : decode cX5_standsFor 22 = .ok (.iconst 1, 1) := by decide +kernel
theorem dX5_standsFor_23 : decode cX5_standsFor 23 = .ok (.goto 4, 3) := by decide +kernel
theorem dX5_standsFor_0 : decode cX5_standsFor 0 = .ok (.aload_n 0, 1) := by decide +kernel
theorem dX5_standsFor_1 : decode cX5_standsFor 1 = .ok (.getfield 37, 3) := by decide +kernel
theorem dX5_standsFor_4 : decode cX5_standsFor 4 = .ok (.iload_n 1, 1) := by decide +kernel
theorem dX5_standsFor_5 : decode cX5_standsFor 5 = .ok (.iaload, 1) := by decide +kernel
theorem dX5_standsFor_6 : decode cX5_standsFor 6 = .ok (.aload_n 0, 1) := by decide +kernel
theorem dX5_standsFor_7 : decode cX5_standsFor 7 = .ok (.getfield 58, 3) := by decide +kernel
theorem dX5_standsFor_10 : decode cX5_standsFor 10 = .ok (.iload_n 2, 1) := by decide +kernel
theorem dX5_standsFor_11 : decode cX5_standsFor 11 = .ok (.iaload, 1) := by decide +kernel
theorem dX5_standsFor_12 : decode cX5_standsFor 12 = .ok (.bipush 97, 2) := by decide +kernel
theorem dX5_standsFor_14 : decode cX5_standsFor 14 = .ok (.isub, 1) := by decide +kernel
theorem dX5_standsFor_15 : decode cX5_standsFor 15 = .ok (.ishr, 1) := by decide +kernel
theorem dX5_standsFor_16 : decode cX5_standsFor 16 = .ok (.iconst 1, 1) := by decide +kernel
theorem dX5_standsFor_17 : decode cX5_standsFor 17 = .ok (.iand, 1) := by decide +kernel
theorem dX5_standsFor_18 : decode cX5_standsFor 18 = .ok (.iconst 1, 1) := by decide +kernel
theorem dX5_standsFor_19 : decode cX5_standsFor 19 = .ok (.if_icmp .ne 7, 3) := by decide +kernel
theorem dX5_rowOf_63 : decode cX5_rowOf 63 = .ok (.iload 4, 2) := by decide +kernel
theorem dX5_rowOf_65 : decode cX5_rowOf 65 = .ok (.ireturn, 1) := by decide +kernel
theorem dX5_rowOf_57 : decode cX5_rowOf 57 = .ok (.iinc 4 1, 3) := by decide +kernel
theorem dX5_rowOf_60 : decode cX5_rowOf 60 = .ok (.goto (-24), 3) := by decide +kernel
theorem dX5_rowOf_43 : decode cX5_rowOf 43 = .ok (.aload_n 0, 1) := by decide +kernel
theorem dX5_rowOf_44 : decode cX5_rowOf 44 = .ok (.iload_n 1, 1) := by decide +kernel
theorem dX5_rowOf_45 : decode cX5_rowOf 45 = .ok (.iload_n 2, 1) := by decide +kernel
theorem dX5_rowOf_46 : decode cX5_rowOf 46 = .ok (.iload 4, 2) := by decide +kernel
theorem dX5_rowOf_48 : decode cX5_rowOf 48 = .ok (.isub, 1) := by decide +kernel
theorem dX5_rowOf_49 : decode cX5_rowOf 49 = .ok (.iconst 1, 1) := by decide +kernel
theorem dX5_rowOf_50 : decode cX5_rowOf 50 = .ok (.isub, 1) := by decide +kernel
theorem dX5_rowOf_51 : decode cX5_rowOf 51 = .ok (.invokevirtual 162, 3) := by decide +kernel
theorem dX5_rowOf_54 : decode cX5_rowOf 54 = .ok (.ifCond .eq 9, 3) := by decide +kernel
theorem dX5_rowOf_36 : decode cX5_rowOf 36 = .ok (.iload_n 2, 1) := by decide +kernel
theorem dX5_rowOf_37 : decode cX5_rowOf 37 = .ok (.iload 4, 2) := by decide +kernel
theorem dX5_rowOf_39 : decode cX5_rowOf 39 = .ok (.isub, 1) := by decide +kernel
theorem dX5_rowOf_40 : decode cX5_rowOf 40 = .ok (.ifCond .le 23, 3) := by decide +kernel
theorem dX5_rowOf_30 : decode cX5_rowOf 30 = .ok (.iinc 4 1, 3) := by decide +kernel
theorem dX5_rowOf_33 : decode cX5_rowOf 33 = .ok (.goto (-26), 3) := by decide +kernel
theorem dX5_rowOf_18 : decode cX5_rowOf 18 = .ok (.aload_n 0, 1) := by decide +kernel
theorem dX5_rowOf_19 : decode cX5_rowOf 19 = .ok (.iload_n 1, 1) := by decide +kernel
theorem dX5_rowOf_20 : decode cX5_rowOf 20 = .ok (.iload_n 2, 1) := by decide +kernel
theorem dX5_rowOf_21 : decode cX5_rowOf 21 = .ok (.iload 4, 2) := by decide +kernel
theorem dX5_rowOf_23 : decode cX5_rowOf 23 = .ok (.iadd, 1) := by decide +kernel
theorem dX5_rowOf_24 : decode cX5_rowOf 24 = .ok (.invokevirtual 162, 3) := by decide +kernel
theorem dX5_rowOf_27 : decode cX5_rowOf 27 = .ok (.ifCond .eq 36, 3) := by decide +kernel
theorem dX5_rowOf_7 : decode cX5_rowOf 7 = .ok (.iload_n 2, 1) := by decide +kernel
theorem dX5_rowOf_8 : decode cX5_rowOf 8 = .ok (.iload 4, 2) := by decide +kernel
theorem dX5_rowOf_10 : decode cX5_rowOf 10 = .ok (.iadd, 1) := by decide +kernel
theorem dX5_rowOf_11 : decode cX5_rowOf 11 = .ok (.aload_n 0, 1) := by decide +kernel
theorem dX5_rowOf_12 : decode cX5_rowOf 12 = .ok (.getfield 150, 3) := by decide +kernel
theorem dX5_rowOf_15 : decode cX5_rowOf 15 = .ok (.if_icmp .ge 48, 3) := by decide +kernel
theorem dX5_rowOf_0 : decode cX5_rowOf 0 = .ok (.iconst 0, 1) := by decide +kernel
theorem dX5_rowOf_1 : decode cX5_rowOf 1 = .ok (.istore 4, 2) := by decide +kernel
theorem dX5_rowOf_3 : decode cX5_rowOf 3 = .ok (.iload_n 3, 1) := by decide +kernel
theorem dX5_rowOf_4 : decode cX5_rowOf 4 = .ok (.ifCond .eq 32, 3) := by decide +kernel
theorem dX5_before_95 : decode cX5_before 95 = .ok (.iconst 1, 1) := by decide +kernel
theorem dX5_before_96 : decode cX5_before 96 = .ok (.ireturn, 1) := by decide +kernel
theorem dX5_before_84 : decode cX5_before 84 = .ok (.iload_n 2, 1) := by decide +kernel
theorem dX5_before_85 : decode cX5_before 85 = .ok (.iload 4, 2) := by decide +kernel
theorem dX5_before_87 : decode cX5_before 87 = .ok (.isub, 1) := by decide +kernel
theorem dX5_before_88 : decode cX5_before 88 = .ok (.istore_n 2, 1) := by decide +kernel
theorem dX5_before_89 : decode cX5_before 89 = .ok (.iinc 3 (-1), 3) := by decide +kernel
theorem dX5_before_92 : decode cX5_before 92 = .ok (.goto (-78), 3) := by decide +kernel
theorem dX5_before_82 : decode cX5_before 82 = .ok (.iconst 0, 1) := by decide +kernel
theorem dX5_before_83 : decode cX5_before 83 = .ok (.ireturn, 1) := by decide +kernel
theorem dX5_before_64 : decode cX5_before 64 = .ok (.istore 4, 2) := by decide +kernel
theorem dX5_before_66 : decode cX5_before 66 = .ok (.iload 4, 2) := by decide +kernel
theorem dX5_before_68 : decode cX5_before 68 = .ok (.aload_n 0, 1) := by decide +kernel
theorem dX5_before_69 : decode cX5_before 69 = .ok (.getfield 40, 3) := by decide +kernel
theorem dX5_before_72 : decode cX5_before 72 = .ok (.bipush 12, 2) := by decide +kernel
theorem dX5_before_74 : decode cX5_before 74 = .ok (.iload_n 1, 1) := by decide +kernel
theorem dX5_before_75 : decode cX5_before 75 = .ok (.imul, 1) := by decide +kernel
theorem dX5_before_76 : decode cX5_before 76 = .ok (.iload_n 3, 1) := by decide +kernel
theorem dX5_before_77 : decode cX5_before 77 = .ok (.iadd, 1) := by decide +kernel
theorem dX5_before_78 : decode cX5_before 78 = .ok (.iaload, 1) := by decide +kernel
theorem dX5_before_79 : decode cX5_before 79 = .ok (.if_icmp .ge 5, 3) := by decide +kernel
theorem dX5_before_53 : decode cX5_before 53 = .ok (.aload_n 0, 1) := by decide +kernel
theorem dX5_before_54 : decode cX5_before 54 = .ok (.getfield 43, 3) := by decide +kernel
theorem dX5_before_57 : decode cX5_before 57 = .ok (.bipush 12, 2) := by decide +kernel
theorem dX5_before_59 : decode cX5_before 59 = .ok (.iload_n 1, 1) := by decide +kernel
theorem dX5_before_60 : decode cX5_before 60 = .ok (.imul, 1) := by decide +kernel
theorem dX5_before_61 : decode cX5_before 61 = .ok (.iload_n 3, 1) := by decide +kernel
theorem dX5_before_62 : decode cX5_before 62 = .ok (.iadd, 1) := by decide +kernel
theorem dX5_before_63 : decode cX5_before 63 = .ok (.iaload, 1) := by decide +kernel
theorem dX5_before_48 : decode cX5_before 48 = .ok (.iload 4, 2) := by decide +kernel
theorem dX5_before_50 : decode cX5_before 50 = .ok (.goto 14, 3) := by decide +kernel
theorem dX5_before_18 : decode cX5_before 18 = .ok (.aload_n 0, 1) := by decide +kernel
theorem dX5_before_19 : decode cX5_before 19 = .ok (.bipush 12, 2) := by decide +kernel
theorem dX5_before_21 : decode cX5_before 21 = .ok (.iload_n 1, 1) := by decide +kernel
theorem dX5_before_22 : decode cX5_before 22 = .ok (.imul, 1) := by decide +kernel
theorem dX5_before_23 : decode cX5_before 23 = .ok (.iload_n 3, 1) := by decide +kernel
theorem dX5_before_24 : decode cX5_before 24 = .ok (.iadd, 1) := by decide +kernel
theorem dX5_before_25 : decode cX5_before 25 = .ok (.iload_n 2, 1) := by decide +kernel
theorem dX5_before_26 : decode cX5_before 26 = .ok (.iconst 0, 1) := by decide +kernel
theorem dX5_before_27 : decode cX5_before 27 = .ok (.invokevirtual 165, 3) := by decide +kernel
theorem dX5_before_30 : decode cX5_before 30 = .ok (.istore 4, 2) := by decide +kernel
theorem dX5_before_32 : decode cX5_before 32 = .ok (.iload 4, 2) := by decide +kernel
theorem dX5_before_34 : decode cX5_before 34 = .ok (.aload_n 0, 1) := by decide +kernel
theorem dX5_before_35 : decode cX5_before 35 = .ok (.getfield 43, 3) := by decide +kernel
theorem dX5_before_38 : decode cX5_before 38 = .ok (.bipush 12, 2) := by decide +kernel
theorem dX5_before_40 : decode cX5_before 40 = .ok (.iload_n 1, 1) := by decide +kernel
theorem dX5_before_41 : decode cX5_before 41 = .ok (.imul, 1) := by decide +kernel
theorem dX5_before_42 : decode cX5_before 42 = .ok (.iload_n 3, 1) := by decide +kernel
theorem dX5_before_43 : decode cX5_before 43 = .ok (.iadd, 1) := by decide +kernel
theorem dX5_before_44 : decode cX5_before 44 = .ok (.iaload, 1) := by decide +kernel
theorem dX5_before_45 : decode cX5_before 45 = .ok (.if_icmp .ge 8, 3) := by decide +kernel
theorem dX5_before_14 : decode cX5_before 14 = .ok (.iload_n 3, 1) := by decide +kernel
theorem dX5_before_15 : decode cX5_before 15 = .ok (.ifCond .lt 80, 3) := by decide +kernel
theorem dX5_before_0 : decode cX5_before 0 = .ok (.aload_n 0, 1) := by decide +kernel
theorem dX5_before_1 : decode cX5_before 1 = .ok (.getfield 153, 3) := by decide +kernel
theorem dX5_before_4 : decode cX5_before 4 = .ok (.istore_n 2, 1) := by decide +kernel
theorem dX5_before_5 : decode cX5_before 5 = .ok (.aload_n 0, 1) := by decide +kernel
theorem dX5_before_6 : decode cX5_before 6 = .ok (.getfield 28, 3) := by decide +kernel
theorem dX5_before_9 : decode cX5_before 9 = .ok (.iload_n 1, 1) := by decide +kernel
theorem dX5_before_10 : decode cX5_before 10 = .ok (.iaload, 1) := by decide +kernel
theorem dX5_before_11 : decode cX5_before 11 = .ok (.iconst 1, 1) := by decide +kernel
theorem dX5_before_12 : decode cX5_before 12 = .ok (.isub, 1) := by decide +kernel
theorem dX5_before_13 : decode cX5_before 13 = .ok (.istore_n 3, 1) := by decide +kernel
theorem dX5_match_269 : decode cX5_match 269 = .ok (.ireturn, 1) := by decide +kernel
theorem dX5_match_268 : decode cX5_match 268 = .ok (.iconst 1, 1) := by decide +kernel
theorem dX5_match_264 : decode cX5_match 264 = .ok (.iconst 0, 1) := by decide +kernel
theorem dX5_match_265 : decode cX5_match 265 = .ok (.goto 4, 3) := by decide +kernel
theorem dX5_match_253 : decode cX5_match 253 = .ok (.aload_n 0, 1) := by decide +kernel
theorem dX5_match_254 : decode cX5_match 254 = .ok (.getfield 172, 3) := by decide +kernel
theorem dX5_match_257 : decode cX5_match 257 = .ok (.aload_n 0, 1) := by decide +kernel
theorem dX5_match_258 : decode cX5_match 258 = .ok (.getfield 153, 3) := by decide +kernel
theorem dX5_match_261 : decode cX5_match 261 = .ok (.if_icmp .ne 7, 3) := by decide +kernel
theorem dX5_match_244 : decode cX5_match 244 = .ok (.putfield 172, 3) := by decide +kernel
theorem dX5_match_247 : decode cX5_match 247 = .ok (.iinc 4 1, 3) := by decide +kernel
theorem dX5_match_250 : decode cX5_match 250 = .ok (.goto (-207), 3) := by decide +kernel
theorem dX5_match_240 : decode cX5_match 240 = .ok (.aload_n 0, 1) := by decide +kernel
theorem dX5_match_241 : decode cX5_match 241 = .ok (.getfield 172, 3) := by decide +kernel
theorem dX5_match_236 : decode cX5_match 236 = .ok (.iload_n 3, 1) := by decide +kernel
theorem dX5_match_237 : decode cX5_match 237 = .ok (.goto 7, 3) := by decide +kernel
theorem dX5_match_205 : decode cX5_match 205 = .ok (.iastore, 1) := by decide +kernel
theorem dX5_match_206 : decode cX5_match 206 = .ok (.iload_n 3, 1) := by decide +kernel
theorem dX5_match_207 : decode cX5_match 207 = .ok (.iload 7, 2) := by decide +kernel
theorem dX5_match_209 : decode cX5_match 209 = .ok (.iadd, 1) := by decide +kernel
theorem dX5_match_210 : decode cX5_match 210 = .ok (.istore_n 3, 1) := by decide +kernel
theorem dX5_match_211 : decode cX5_match 211 = .ok (.aload_n 0, 1) := by decide +kernel
theorem dX5_match_212 : decode cX5_match 212 = .ok (.getfield 71, 3) := by decide +kernel
theorem dX5_match_215 : decode cX5_match 215 = .ok (.aload_n 0, 1) := by decide +kernel
theorem dX5_match_216 : decode cX5_match 216 = .ok (.getfield 46, 3) := by decide +kernel
theorem dX5_match_219 : decode cX5_match 219 = .ok (.iload 5, 2) := by decide +kernel
theorem dX5_match_221 : decode cX5_match 221 = .ok (.iaload, 1) := by decide +kernel
theorem dX5_match_222 : decode cX5_match 222 = .ok (.iload_n 3, 1) := by decide +kernel
theorem dX5_match_223 : decode cX5_match 223 = .ok (.iastore, 1) := by decide +kernel
theorem dX5_match_224 : decode cX5_match 224 = .ok (.aload_n 0, 1) := by decide +kernel
theorem dX5_match_225 : decode cX5_match 225 = .ok (.iload 4, 2) := by decide +kernel
theorem dX5_match_227 : decode cX5_match 227 = .ok (.aload_n 0, 1) := by decide +kernel
theorem dX5_match_228 : decode cX5_match 228 = .ok (.getfield 31, 3) := by decide +kernel
theorem dX5_match_231 : decode cX5_match 231 = .ok (.iload_n 1, 1) := by decide +kernel
theorem dX5_match_232 : decode cX5_match 232 = .ok (.iaload, 1) := by decide +kernel
theorem dX5_match_233 : decode cX5_match 233 = .ok (.if_icmp .ge 7, 3) := by decide +kernel
theorem dX5_match_193 : decode cX5_match 193 = .ok (.aload_n 0, 1) := by decide +kernel
theorem dX5_match_194 : decode cX5_match 194 = .ok (.getfield 68, 3) := by decide +kernel
theorem dX5_match_197 : decode cX5_match 197 = .ok (.aload_n 0, 1) := by decide +kernel
theorem dX5_match_198 : decode cX5_match 198 = .ok (.getfield 46, 3) := by decide +kernel
theorem dX5_match_201 : decode cX5_match 201 = .ok (.iload 5, 2) := by decide +kernel
theorem dX5_match_203 : decode cX5_match 203 = .ok (.iaload, 1) := by decide +kernel
theorem dX5_match_204 : decode cX5_match 204 = .ok (.iaload, 1) := by decide +kernel
theorem dX5_match_189 : decode cX5_match 189 = .ok (.iload_n 3, 1) := by decide +kernel
theorem dX5_match_190 : decode cX5_match 190 = .ok (.goto 15, 3) := by decide +kernel
theorem dX5_match_163 : decode cX5_match 163 = .ok (.aload_n 0, 1) := by decide +kernel
theorem dX5_match_164 : decode cX5_match 164 = .ok (.getfield 68, 3) := by decide +kernel
theorem dX5_match_167 : decode cX5_match 167 = .ok (.aload_n 0, 1) := by decide +kernel
theorem dX5_match_168 : decode cX5_match 168 = .ok (.getfield 46, 3) := by decide +kernel
theorem dX5_match_171 : decode cX5_match 171 = .ok (.iload 5, 2) := by decide +kernel
theorem dX5_match_173 : decode cX5_match 173 = .ok (.iaload, 1) := by decide +kernel
theorem dX5_match_174 : decode cX5_match 174 = .ok (.aload_n 0, 1) := by decide +kernel
theorem dX5_match_175 : decode cX5_match 175 = .ok (.getfield 68, 3) := by decide +kernel
theorem dX5_match_178 : decode cX5_match 178 = .ok (.aload_n 0, 1) := by decide +kernel
theorem dX5_match_179 : decode cX5_match 179 = .ok (.getfield 46, 3) := by decide +kernel
theorem dX5_match_182 : decode cX5_match 182 = .ok (.iload 5, 2) := by decide +kernel
theorem dX5_match_184 : decode cX5_match 184 = .ok (.iaload, 1) := by decide +kernel
theorem dX5_match_185 : decode cX5_match 185 = .ok (.iaload, 1) := by decide +kernel
theorem dX5_match_186 : decode cX5_match 186 = .ok (.ifCond .ge 7, 3) := by decide +kernel
theorem dX5_match_161 : decode cX5_match 161 = .ok (.iconst 0, 1) := by decide +kernel
theorem dX5_match_162 : decode cX5_match 162 = .ok (.ireturn, 1) := by decide +kernel
theorem dX5_match_149 : decode cX5_match 149 = .ok (.iload 7, 2) := by decide +kernel
theorem dX5_match_151 : decode cX5_match 151 = .ok (.aload_n 0, 1) := by decide +kernel
theorem dX5_match_152 : decode cX5_match 152 = .ok (.getfield 40, 3) := by decide +kernel
theorem dX5_match_155 : decode cX5_match 155 = .ok (.iload 5, 2) := by decide +kernel
theorem dX5_match_157 : decode cX5_match 157 = .ok (.iaload, 1) := by decide +kernel
theorem dX5_match_158 : decode cX5_match 158 = .ok (.if_icmp .ge 5, 3) := by decide +kernel
theorem dX5_match_147 : decode cX5_match 147 = .ok (.iconst 2, 1) := by decide +kernel
theorem dX5_match_148 : decode cX5_match 148 = .ok (.ireturn, 1) := by decide +kernel
theorem dX5_match_135 : decode cX5_match 135 = .ok (.iload 7, 2) := by decide +kernel
theorem dX5_match_137 : decode cX5_match 137 = .ok (.aload_n 0, 1) := by decide +kernel
theorem dX5_match_138 : decode cX5_match 138 = .ok (.getfield 43, 3) := by decide +kernel
theorem dX5_match_141 : decode cX5_match 141 = .ok (.iload 5, 2) := by decide +kernel
theorem dX5_match_143 : decode cX5_match 143 = .ok (.iaload, 1) := by decide +kernel
theorem dX5_match_144 : decode cX5_match 144 = .ok (.if_icmp .ge 5, 3) := by decide +kernel
theorem dX5_match_124 : decode cX5_match 124 = .ok (.iload_n 3, 1) := by decide +kernel
theorem dX5_match_125 : decode cX5_match 125 = .ok (.iload 7, 2) := by decide +kernel
theorem dX5_match_127 : decode cX5_match 127 = .ok (.iadd, 1) := by decide +kernel
theorem dX5_match_128 : decode cX5_match 128 = .ok (.aload_n 0, 1) := by decide +kernel
theorem dX5_match_129 : decode cX5_match 129 = .ok (.getfield 150, 3) := by decide +kernel
theorem dX5_match_132 : decode cX5_match 132 = .ok (.if_icmp .ne 17, 3) := by decide +kernel
theorem dX5_match_118 : decode cX5_match 118 = .ok (.istore 7, 2) := by decide +kernel
theorem dX5_match_120 : decode cX5_match 120 = .ok (.iload_n 2, 1) := by decide +kernel
theorem dX5_match_121 : decode cX5_match 121 = .ok (.ifCond .ne 28, 3) := by decide +kernel
theorem dX5_match_111 : decode cX5_match 111 = .ok (.aload_n 0, 1) := by decide +kernel
theorem dX5_match_112 : decode cX5_match 112 = .ok (.getfield 43, 3) := by decide +kernel
theorem dX5_match_115 : decode cX5_match 115 = .ok (.iload 5, 2) := by decide +kernel
theorem dX5_match_117 : decode cX5_match 117 = .ok (.iaload, 1) := by decide +kernel
theorem dX5_match_106 : decode cX5_match 106 = .ok (.iload 6, 2) := by decide +kernel
theorem dX5_match_108 : decode cX5_match 108 = .ok (.goto 10, 3) := by decide +kernel
theorem dX5_match_84 : decode cX5_match 84 = .ok (.aload_n 0, 1) := by decide +kernel
theorem dX5_match_85 : decode cX5_match 85 = .ok (.iload 5, 2) := by decide +kernel
theorem dX5_match_87 : decode cX5_match 87 = .ok (.iload_n 3, 1) := by decide +kernel
theorem dX5_match_88 : decode cX5_match 88 = .ok (.iconst 1, 1) := by decide +kernel
theorem dX5_match_89 : decode cX5_match 89 = .ok (.invokevirtual 165, 3) := by decide +kernel
theorem dX5_match_92 : decode cX5_match 92 = .ok (.istore 6, 2) := by decide +kernel
theorem dX5_match_94 : decode cX5_match 94 = .ok (.iload 6, 2) := by decide +kernel
theorem dX5_match_96 : decode cX5_match 96 = .ok (.aload_n 0, 1) := by decide +kernel
theorem dX5_match_97 : decode cX5_match 97 = .ok (.getfield 43, 3) := by decide +kernel
theorem dX5_match_100 : decode cX5_match 100 = .ok (.iload 5, 2) := by decide +kernel
theorem dX5_match_102 : decode cX5_match 102 = .ok (.iaload, 1) := by decide +kernel
theorem dX5_match_103 : decode cX5_match 103 = .ok (.if_icmp .ge 8, 3) := by decide +kernel
theorem dX5_match_82 : decode cX5_match 82 = .ok (.iconst 0, 1) := by decide +kernel
theorem dX5_match_83 : decode cX5_match 83 = .ok (.ireturn, 1) := by decide +kernel
theorem dX5_match_74 : decode cX5_match 74 = .ok (.iload_n 3, 1) := by decide +kernel
theorem dX5_match_75 : decode cX5_match 75 = .ok (.aload_n 0, 1) := by decide +kernel
theorem dX5_match_76 : decode cX5_match 76 = .ok (.getfield 153, 3) := by decide +kernel
theorem dX5_match_79 : decode cX5_match 79 = .ok (.if_icmp .ne 5, 3) := by decide +kernel
theorem dX5_match_54 : decode cX5_match 54 = .ok (.bipush 12, 2) := by decide +kernel
theorem dX5_match_56 : decode cX5_match 56 = .ok (.iload_n 1, 1) := by decide +kernel
theorem dX5_match_57 : decode cX5_match 57 = .ok (.imul, 1) := by decide +kernel
theorem dX5_match_58 : decode cX5_match 58 = .ok (.iload 4, 2) := by decide +kernel
theorem dX5_match_60 : decode cX5_match 60 = .ok (.iadd, 1) := by decide +kernel
theorem dX5_match_61 : decode cX5_match 61 = .ok (.istore 5, 2) := by decide +kernel
theorem dX5_match_63 : decode cX5_match 63 = .ok (.iload 4, 2) := by decide +kernel
theorem dX5_match_65 : decode cX5_match 65 = .ok (.aload_n 0, 1) := by decide +kernel
theorem dX5_match_66 : decode cX5_match 66 = .ok (.getfield 31, 3) := by decide +kernel
theorem dX5_match_69 : decode cX5_match 69 = .ok (.iload_n 1, 1) := by decide +kernel
theorem dX5_match_70 : decode cX5_match 70 = .ok (.iaload, 1) := by decide +kernel
theorem dX5_match_71 : decode cX5_match 71 = .ok (.if_icmp .ne 13, 3) := by decide +kernel
theorem dX5_match_43 : decode cX5_match 43 = .ok (.iload 4, 2) := by decide +kernel
theorem dX5_match_45 : decode cX5_match 45 = .ok (.aload_n 0, 1) := by decide +kernel
theorem dX5_match_46 : decode cX5_match 46 = .ok (.getfield 34, 3) := by decide +kernel
theorem dX5_match_49 : decode cX5_match 49 = .ok (.iload_n 1, 1) := by decide +kernel
theorem dX5_match_50 : decode cX5_match 50 = .ok (.iaload, 1) := by decide +kernel
theorem dX5_match_51 : decode cX5_match 51 = .ok (.if_icmp .ge 202, 3) := by decide +kernel
theorem dX5_match_30 : decode cX5_match 30 = .ok (.aload_n 0, 1) := by decide +kernel
theorem dX5_match_31 : decode cX5_match 31 = .ok (.getfield 153, 3) := by decide +kernel
theorem dX5_match_34 : decode cX5_match 34 = .ok (.istore_n 3, 1) := by decide +kernel
theorem dX5_match_35 : decode cX5_match 35 = .ok (.aload_n 0, 1) := by decide +kernel
theorem dX5_match_36 : decode cX5_match 36 = .ok (.getfield 28, 3) := by decide +kernel
theorem dX5_match_39 : decode cX5_match 39 = .ok (.iload_n 1, 1) := by decide +kernel
theorem dX5_match_40 : decode cX5_match 40 = .ok (.iaload, 1) := by decide +kernel
theorem dX5_match_41 : decode cX5_match 41 = .ok (.istore 4, 2) := by decide +kernel
theorem dX5_match_17 : decode cX5_match 17 = .ok (.aload_n 0, 1) := by decide +kernel
theorem dX5_match_18 : decode cX5_match 18 = .ok (.getfield 68, 3) := by decide +kernel
theorem dX5_match_21 : decode cX5_match 21 = .ok (.iload_n 3, 1) := by decide +kernel
theorem dX5_match_22 : decode cX5_match 22 = .ok (.iconst (-1), 1) := by decide +kernel
theorem dX5_match_23 : decode cX5_match 23 = .ok (.iastore, 1) := by decide +kernel
theorem dX5_match_24 : decode cX5_match 24 = .ok (.iinc 3 1, 3) := by decide +kernel
theorem dX5_match_27 : decode cX5_match 27 = .ok (.goto (-15), 3) := by decide +kernel
theorem dX5_match_12 : decode cX5_match 12 = .ok (.iload_n 3, 1) := by decide +kernel
theorem dX5_match_13 : decode cX5_match 13 = .ok (.iconst 4, 1) := by decide +kernel
theorem dX5_match_14 : decode cX5_match 14 = .ok (.if_icmp .ge 16, 3) := by decide +kernel
theorem dX5_match_10 : decode cX5_match 10 = .ok (.iconst 0, 1) := by decide +kernel
theorem dX5_match_11 : decode cX5_match 11 = .ok (.istore_n 3, 1) := by decide +kernel
theorem dX5_match_8 : decode cX5_match 8 = .ok (.iconst 0, 1) := by decide +kernel
theorem dX5_match_9 : decode cX5_match 9 = .ok (.ireturn, 1) := by decide +kernel
theorem dX5_match_0 : decode cX5_match 0 = .ok (.aload_n 0, 1) := by decide +kernel
theorem dX5_match_1 : decode cX5_match 1 = .ok (.iload_n 1, 1) := by decide +kernel
theorem dX5_match_2 : decode cX5_match 2 = .ok (.invokevirtual 169, 3) := by decide +kernel
theorem dX5_match_5 : decode cX5_match 5 = .ok (.ifCond .ne 5, 3) := by decide +kernel
theorem dX5_given_42 : decode cX5_given 42 = .ok (.ireturn, 1) := by decide +kernel
theorem dX5_given_23 : decode cX5_given 23 = .ok (.aload_n 0, 1) := by decide +kernel
theorem dX5_given_24 : decode cX5_given 24 = .ok (.getfield 71, 3) := by decide +kernel
theorem dX5_given_27 : decode cX5_given 27 = .ok (.iload_n 3, 1) := by decide +kernel
theorem dX5_given_28 : decode cX5_given 28 = .ok (.bipush 48, 2) := by decide +kernel
theorem dX5_given_30 : decode cX5_given 30 = .ok (.isub, 1) := by decide +kernel
theorem dX5_given_31 : decode cX5_given 31 = .ok (.iaload, 1) := by decide +kernel
theorem dX5_given_32 : decode cX5_given 32 = .ok (.aload_n 0, 1) := by decide +kernel
theorem dX5_given_33 : decode cX5_given 33 = .ok (.getfield 68, 3) := by decide +kernel
theorem dX5_given_36 : decode cX5_given 36 = .ok (.iload_n 3, 1) := by decide +kernel
theorem dX5_given_37 : decode cX5_given 37 = .ok (.bipush 48, 2) := by decide +kernel
theorem dX5_given_39 : decode cX5_given 39 = .ok (.isub, 1) := by decide +kernel
theorem dX5_given_40 : decode cX5_given 40 = .ok (.iaload, 1) := by decide +kernel
theorem dX5_given_41 : decode cX5_given 41 = .ok (.isub, 1) := by decide +kernel
theorem dX5_given_19 : decode cX5_given 19 = .ok (.iconst 1, 1) := by decide +kernel
theorem dX5_given_20 : decode cX5_given 20 = .ok (.goto 22, 3) := by decide +kernel
theorem dX5_given_0 : decode cX5_given 0 = .ok (.aload_n 0, 1) := by decide +kernel
theorem dX5_given_1 : decode cX5_given 1 = .ok (.getfield 55, 3) := by decide +kernel
theorem dX5_given_4 : decode cX5_given 4 = .ok (.bipush 12, 2) := by decide +kernel
theorem dX5_given_6 : decode cX5_given 6 = .ok (.iload_n 1, 1) := by decide +kernel
theorem dX5_given_7 : decode cX5_given 7 = .ok (.imul, 1) := by decide +kernel
theorem dX5_given_8 : decode cX5_given 8 = .ok (.iload_n 2, 1) := by decide +kernel
theorem dX5_given_9 : decode cX5_given 9 = .ok (.iadd, 1) := by decide +kernel
theorem dX5_given_10 : decode cX5_given 10 = .ok (.iaload, 1) := by decide +kernel
theorem dX5_given_11 : decode cX5_given 11 = .ok (.istore_n 3, 1) := by decide +kernel
theorem dX5_given_12 : decode cX5_given 12 = .ok (.iload_n 3, 1) := by decide +kernel
theorem dX5_given_13 : decode cX5_given 13 = .ok (.invokestatic 81, 3) := by decide +kernel
theorem dX5_given_16 : decode cX5_given 16 = .ok (.ifCond .eq 7, 3) := by decide +kernel
-- X5_standsFor
def wX5_standsFor : List Cond := Cond.code yX5_standsFor cX5_standsFor 3 (some .boolean) :: kv_tb
abbrev SX5_standsFor (pc : Nat) (F : kv_D) : Prop := kv_S cX5_standsFor 3 RX5 wX5_standsFor (some .boolean) false 0 0 none pc F
def fX5_standsFor_27 : kv_D := o_iret .boolean
theorem sX5_standsFor_27 : SX5_standsFor 27 (fX5_standsFor_27) := k_iret dX5_standsFor_27 rfl
def fX5_standsFor_26 : kv_D := o_const 0 ((fX5_standsFor_27))
theorem sX5_standsFor_26 : SX5_standsFor 26 (fX5_standsFor_26) := k_iconst dX5_standsFor_26 (by decide +kernel) ((sX5_standsFor_27))
def fX5_standsFor_22 : kv_D := o_const 1 ((fX5_standsFor_27))
theorem sX5_standsFor_22 : SX5_standsFor 22 (fX5_standsFor_22) := k_iconst dX5_standsFor_22 (by decide +kernel) (k_goto dX5_standsFor_23 rfl (sX5_standsFor_27))
def fX5_standsFor_0 : kv_D := o_aload 0 (o_getf 5 15 (o_iload 1 (o_iald 0 (o_aload 0 (o_getf 5 23 (o_iload 2 (o_iald 0 (o_const 97 (o_isub (o_ishr (o_const 1 (o_iand (o_const 1 (o_icne (fX5_standsFor_26) (fX5_standsFor_22)))))))))))))))
theorem sX5_standsFor_0 : SX5_standsFor 0 (fX5_standsFor_0) := k_aload_n dX5_standsFor_0 rfl (k_getf (C := RX5) (T := TX5) (N := 32) (ci := 5) (index := 37) (kf := 15) dX5_standsFor_1 rfl (fun w h => List.mem_cons_of_mem _ (inX5 w h)) (by decide) (List.mem_cons_of_mem _ mw_434) (k_iload_n dX5_standsFor_4 rfl (k_iald dX5_standsFor_5 rfl (k_aload_n dX5_standsFor_6 rfl (k_getf (C := RX5) (T := TX5) (N := 32) (ci := 5) (index := 58) (kf := 23) dX5_standsFor_7 rfl (fun w h => List.mem_cons_of_mem _ (inX5 w h)) (by decide) (List.mem_cons_of_mem _ mw_442) (k_iload_n dX5_standsFor_10 rfl (k_iald dX5_standsFor_11 rfl (k_bipush dX5_standsFor_12 (by decide +kernel) (k_isub dX5_standsFor_14 (k_ishr dX5_standsFor_15 (k_iconst dX5_standsFor_16 (by decide +kernel) (k_iand dX5_standsFor_17 (k_iconst dX5_standsFor_18 (by decide +kernel) (k_icne dX5_standsFor_19 rfl (sX5_standsFor_26) (sX5_standsFor_22)))))))))))))))
def mX5_standsFor : kv_M := kv_in 3 3 (fX5_standsFor_0)
theorem cX5_standsFor_ct : kv_CT yX5_standsFor wX5_standsFor 0 0 mX5_standsFor := kv_met (by decide) rfl rfl (by decide) (fun h => by cases h) (sX5_standsFor_0)
-- X5_rowOf
def wX5_rowOf : List Cond := Cond.code yX5_rowOf cX5_rowOf 5 (some .int) :: kv_tb
abbrev SX5_rowOf (pc : Nat) (F : kv_D) : Prop := kv_S cX5_rowOf 5 RX5 wX5_rowOf (some .int) false 1 22 none pc F
def fX5_rowOf_63 (K : Nat → kv_D) : kv_D := o_iload 4 (o_iret .int)
theorem sX5_rowOf_63 {K : Nat → kv_D} (hK : ∀ pc, SX5_rowOf pc (K pc)) : SX5_rowOf 63 (fX5_rowOf_63 K) := k_iload dX5_rowOf_63 (k_iret dX5_rowOf_65 rfl)
theorem nX5_rowOf_63 : kv_cn (fun K => fX5_rowOf_63 K) := cn_iload 4 (cn_c _)
def fX5_rowOf_57 (K : Nat → kv_D) : kv_D := o_iinc 4 1 ((K 36))
theorem sX5_rowOf_57 {K : Nat → kv_D} (hK : ∀ pc, SX5_rowOf pc (K pc)) : SX5_rowOf 57 (fX5_rowOf_57 K) := k_iinc dX5_rowOf_57 (by decide +kernel) (by decide) (k_goto dX5_rowOf_60 rfl (hK 36))
theorem nX5_rowOf_57 : kv_cn (fun K => fX5_rowOf_57 K) := cn_iinc 4 1 ((cn_K 36))
def fX5_rowOf_43 (K : Nat → kv_D) : kv_D := o_aload 0 (o_iload 1 (o_iload 2 (o_iload 4 (o_isub (o_const 1 (o_isub (o_callV 5 2 mX5_standsFor (o_ifeq (fX5_rowOf_63 K) (fX5_rowOf_57 K)))))))))
theorem sX5_rowOf_43 {K : Nat → kv_D} (hK : ∀ pc, SX5_rowOf pc (K pc)) : SX5_rowOf 43 (fX5_rowOf_43 K) := k_aload_n dX5_rowOf_43 rfl (k_iload_n dX5_rowOf_44 rfl (k_iload_n dX5_rowOf_45 rfl (k_iload dX5_rowOf_46 (k_isub dX5_rowOf_48 (k_iconst dX5_rowOf_49 (by decide +kernel) (k_isub dX5_rowOf_50 (k_callV (q := (RX5, TX5, 32)) dX5_rowOf_51 cX5_standsFor_ct rfl (kv_goodV mw_612 mw_614 sel_X5_standsFor mw_6 mw_615) (by decide +kernel) rfl (by decide) (by decide) (k_ifeq dX5_rowOf_54 rfl (sX5_rowOf_63 hK) (sX5_rowOf_57 hK)))))))))
theorem nX5_rowOf_43 : kv_cn (fun K => fX5_rowOf_43 K) := cn_aload 0 (cn_iload 1 (cn_iload 2 (cn_iload 4 (cn_isub (cn_const 1 (cn_isub (cn_callV 5 2 mX5_standsFor (cn_ifeq nX5_rowOf_63 nX5_rowOf_57))))))))
def fX5_rowOf_36 (K : Nat → kv_D) : kv_D := o_iload 2 (o_iload 4 (o_isub (o_ifle (fX5_rowOf_63 K) (fX5_rowOf_43 K))))
theorem sX5_rowOf_36 {K : Nat → kv_D} (hK : ∀ pc, SX5_rowOf pc (K pc)) : SX5_rowOf 36 (fX5_rowOf_36 K) := k_iload_n dX5_rowOf_36 rfl (k_iload dX5_rowOf_37 (k_isub dX5_rowOf_39 (k_ifle dX5_rowOf_40 rfl (sX5_rowOf_63 hK) (sX5_rowOf_43 hK))))
theorem nX5_rowOf_36 : kv_cn (fun K => fX5_rowOf_36 K) := cn_iload 2 (cn_iload 4 (cn_isub (cn_ifle nX5_rowOf_63 nX5_rowOf_43)))
def fX5_rowOf_30 (K : Nat → kv_D) : kv_D := o_iinc 4 1 ((K 7))
theorem sX5_rowOf_30 {K : Nat → kv_D} (hK : ∀ pc, SX5_rowOf pc (K pc)) : SX5_rowOf 30 (fX5_rowOf_30 K) := k_iinc dX5_rowOf_30 (by decide +kernel) (by decide) (k_goto dX5_rowOf_33 rfl (hK 7))
theorem nX5_rowOf_30 : kv_cn (fun K => fX5_rowOf_30 K) := cn_iinc 4 1 ((cn_K 7))
def fX5_rowOf_18 (K : Nat → kv_D) : kv_D := o_aload 0 (o_iload 1 (o_iload 2 (o_iload 4 (o_iadd (o_callV 5 2 mX5_standsFor (o_ifeq (fX5_rowOf_63 K) (fX5_rowOf_30 K)))))))
theorem sX5_rowOf_18 {K : Nat → kv_D} (hK : ∀ pc, SX5_rowOf pc (K pc)) : SX5_rowOf 18 (fX5_rowOf_18 K) := k_aload_n dX5_rowOf_18 rfl (k_iload_n dX5_rowOf_19 rfl (k_iload_n dX5_rowOf_20 rfl (k_iload dX5_rowOf_21 (k_iadd dX5_rowOf_23 (k_callV (q := (RX5, TX5, 32)) dX5_rowOf_24 cX5_standsFor_ct rfl (kv_goodV mw_612 mw_614 sel_X5_standsFor mw_6 mw_615) (by decide +kernel) rfl (by decide) (by decide) (k_ifeq dX5_rowOf_27 rfl (sX5_rowOf_63 hK) (sX5_rowOf_30 hK)))))))
theorem nX5_rowOf_18 : kv_cn (fun K => fX5_rowOf_18 K) := cn_aload 0 (cn_iload 1 (cn_iload 2 (cn_iload 4 (cn_iadd (cn_callV 5 2 mX5_standsFor (cn_ifeq nX5_rowOf_63 nX5_rowOf_30))))))
def fX5_rowOf_7 (K : Nat → kv_D) : kv_D := o_iload 2 (o_iload 4 (o_iadd (o_aload 0 (o_getf 5 22 (o_icge (fX5_rowOf_63 K) (fX5_rowOf_18 K))))))
theorem sX5_rowOf_7 {K : Nat → kv_D} (hK : ∀ pc, SX5_rowOf pc (K pc)) : SX5_rowOf 7 (fX5_rowOf_7 K) := k_iload_n dX5_rowOf_7 rfl (k_iload dX5_rowOf_8 (k_iadd dX5_rowOf_10 (k_aload_n dX5_rowOf_11 rfl (k_getf (C := RX5) (T := TX5) (N := 32) (ci := 5) (index := 150) (kf := 22) dX5_rowOf_12 rfl (fun w h => List.mem_cons_of_mem _ (inX5 w h)) (by decide) (List.mem_cons_of_mem _ mw_441) (k_icge dX5_rowOf_15 rfl (sX5_rowOf_63 hK) (sX5_rowOf_18 hK))))))
theorem nX5_rowOf_7 : kv_cn (fun K => fX5_rowOf_7 K) := cn_iload 2 (cn_iload 4 (cn_iadd (cn_aload 0 (cn_getf 5 22 (cn_icge nX5_rowOf_63 nX5_rowOf_18)))))
def fX5_rowOf_0 (K : Nat → kv_D) : kv_D := o_const 0 (o_istore 4 (o_iload 3 (o_ifeq (K 36) (K 7))))
theorem sX5_rowOf_0 {K : Nat → kv_D} (hK : ∀ pc, SX5_rowOf pc (K pc)) : SX5_rowOf 0 (fX5_rowOf_0 K) := k_iconst dX5_rowOf_0 (by decide +kernel) (k_istore dX5_rowOf_1 (by decide) (k_iload_n dX5_rowOf_3 rfl (k_ifeq dX5_rowOf_4 rfl (hK 36) (hK 7))))
theorem nX5_rowOf_0 : kv_cn (fun K => fX5_rowOf_0 K) := cn_const 0 (cn_istore 4 (cn_iload 3 (cn_ifeq (cn_K 36) (cn_K 7))))
def bX5_rowOf (K : Nat → kv_D) (pc : Nat) : kv_D := if pc = 7 then fX5_rowOf_7 K else if pc = 36 then fX5_rowOf_36 K else fun _ _ _ _ _ => False
theorem hX5_rowOf : ∀ pc, SX5_rowOf pc (kv_lim (bX5_rowOf) pc) := kv_lim_S (fun K hK pc => by
  unfold bX5_rowOf
  by_cases q7 : pc = 7
  · rw [if_pos q7, q7]
    exact sX5_rowOf_7 hK
  rw [if_neg q7]
  by_cases q36 : pc = 36
  · rw [if_pos q36, q36]
    exact sX5_rowOf_36 hK
  rw [if_neg q36]
  exact kv_none)
theorem uX5_rowOf_7 {L : List (Option Value)} {st : List Value} {h : kv_H} {v : Option Value} {h' : kv_H} (hx : fX5_rowOf_7 (kv_lim (bX5_rowOf)) L st h v h') : kv_lim (bX5_rowOf) 7 L st h v h' := kv_un (q := 7) (by have e : (fun K => bX5_rowOf K 7) = fun K => fX5_rowOf_7 K := (by funext K; rfl); rw [e]; exact nX5_rowOf_7) (by have e : bX5_rowOf (kv_lim (bX5_rowOf)) 7 = fX5_rowOf_7 (kv_lim (bX5_rowOf)) := rfl; rw [e]; exact hx)
theorem uX5_rowOf_36 {L : List (Option Value)} {st : List Value} {h : kv_H} {v : Option Value} {h' : kv_H} (hx : fX5_rowOf_36 (kv_lim (bX5_rowOf)) L st h v h') : kv_lim (bX5_rowOf) 36 L st h v h' := kv_un (q := 36) (by have e : (fun K => bX5_rowOf K 36) = fun K => fX5_rowOf_36 K := (by funext K; rfl); rw [e]; exact nX5_rowOf_36) (by have e : bX5_rowOf (kv_lim (bX5_rowOf)) 36 = fX5_rowOf_36 (kv_lim (bX5_rowOf)) := rfl; rw [e]; exact hx)
def mX5_rowOf : kv_M := kv_in 4 5 (fX5_rowOf_0 (kv_lim (bX5_rowOf)))
theorem cX5_rowOf_ct : kv_CT yX5_rowOf wX5_rowOf 1 22 mX5_rowOf := kv_met (by decide) rfl rfl (by decide) (fun h => by cases h) (sX5_rowOf_0 (hX5_rowOf))
-- X5_before
def wX5_before : List Cond := Cond.code yX5_before cX5_before 5 (some .boolean) :: kv_tb
abbrev SX5_before (pc : Nat) (F : kv_D) : Prop := kv_S cX5_before 5 RX5 wX5_before (some .boolean) false 2 46 none pc F
def fX5_before_95 (K : Nat → kv_D) : kv_D := o_const 1 (o_iret .boolean)
theorem sX5_before_95 {K : Nat → kv_D} (hK : ∀ pc, SX5_before pc (K pc)) : SX5_before 95 (fX5_before_95 K) := k_iconst dX5_before_95 (by decide +kernel) (k_iret dX5_before_96 rfl)
theorem nX5_before_95 : kv_cn (fun K => fX5_before_95 K) := cn_const 1 (cn_c _)
def fX5_before_84 (K : Nat → kv_D) : kv_D := o_iload 2 (o_iload 4 (o_isub (o_istore 2 (o_iinc 3 (-1) ((K 14))))))
theorem sX5_before_84 {K : Nat → kv_D} (hK : ∀ pc, SX5_before pc (K pc)) : SX5_before 84 (fX5_before_84 K) := k_iload_n dX5_before_84 rfl (k_iload dX5_before_85 (k_isub dX5_before_87 (k_istore_n dX5_before_88 rfl (by decide) (k_iinc dX5_before_89 (by decide +kernel) (by decide) (k_goto dX5_before_92 rfl (hK 14))))))
theorem nX5_before_84 : kv_cn (fun K => fX5_before_84 K) := cn_iload 2 (cn_iload 4 (cn_isub (cn_istore 2 (cn_iinc 3 (-1) ((cn_K 14))))))
def fX5_before_82 (K : Nat → kv_D) : kv_D := o_const 0 (o_iret .boolean)
theorem sX5_before_82 {K : Nat → kv_D} (hK : ∀ pc, SX5_before pc (K pc)) : SX5_before 82 (fX5_before_82 K) := k_iconst dX5_before_82 (by decide +kernel) (k_iret dX5_before_83 rfl)
theorem nX5_before_82 : kv_cn (fun K => fX5_before_82 K) := cn_const 0 (cn_c _)
def fX5_before_64 (K : Nat → kv_D) : kv_D := o_istore 4 (o_iload 4 (o_aload 0 (o_getf 5 16 (o_const 12 (o_iload 1 (o_imul (o_iload 3 (o_iadd (o_iald 0 (o_icge (fX5_before_84 K) (fX5_before_82 K)))))))))))
theorem sX5_before_64 {K : Nat → kv_D} (hK : ∀ pc, SX5_before pc (K pc)) : SX5_before 64 (fX5_before_64 K) := k_istore dX5_before_64 (by decide) (k_iload dX5_before_66 (k_aload_n dX5_before_68 rfl (k_getf (C := RX5) (T := TX5) (N := 32) (ci := 5) (index := 40) (kf := 16) dX5_before_69 rfl (fun w h => List.mem_cons_of_mem _ (inX5 w h)) (by decide) (List.mem_cons_of_mem _ mw_435) (k_bipush dX5_before_72 (by decide +kernel) (k_iload_n dX5_before_74 rfl (k_imul dX5_before_75 (k_iload_n dX5_before_76 rfl (k_iadd dX5_before_77 (k_iald dX5_before_78 rfl (k_icge dX5_before_79 rfl (sX5_before_84 hK) (sX5_before_82 hK)))))))))))
theorem nX5_before_64 : kv_cn (fun K => fX5_before_64 K) := cn_istore 4 (cn_iload 4 (cn_aload 0 (cn_getf 5 16 (cn_const 12 (cn_iload 1 (cn_imul (cn_iload 3 (cn_iadd (cn_iald 0 (cn_icge nX5_before_84 nX5_before_82))))))))))
def fX5_before_53 (K : Nat → kv_D) : kv_D := o_aload 0 (o_getf 5 17 (o_const 12 (o_iload 1 (o_imul (o_iload 3 (o_iadd (o_iald 0 ((fX5_before_64 K)))))))))
theorem sX5_before_53 {K : Nat → kv_D} (hK : ∀ pc, SX5_before pc (K pc)) : SX5_before 53 (fX5_before_53 K) := k_aload_n dX5_before_53 rfl (k_getf (C := RX5) (T := TX5) (N := 32) (ci := 5) (index := 43) (kf := 17) dX5_before_54 rfl (fun w h => List.mem_cons_of_mem _ (inX5 w h)) (by decide) (List.mem_cons_of_mem _ mw_436) (k_bipush dX5_before_57 (by decide +kernel) (k_iload_n dX5_before_59 rfl (k_imul dX5_before_60 (k_iload_n dX5_before_61 rfl (k_iadd dX5_before_62 (k_iald dX5_before_63 rfl ((sX5_before_64 hK)))))))))
theorem nX5_before_53 : kv_cn (fun K => fX5_before_53 K) := cn_aload 0 (cn_getf 5 17 (cn_const 12 (cn_iload 1 (cn_imul (cn_iload 3 (cn_iadd (cn_iald 0 (nX5_before_64))))))))
def fX5_before_48 (K : Nat → kv_D) : kv_D := o_iload 4 ((fX5_before_64 K))
theorem sX5_before_48 {K : Nat → kv_D} (hK : ∀ pc, SX5_before pc (K pc)) : SX5_before 48 (fX5_before_48 K) := k_iload dX5_before_48 (k_goto dX5_before_50 rfl (sX5_before_64 hK))
theorem nX5_before_48 : kv_cn (fun K => fX5_before_48 K) := cn_iload 4 (nX5_before_64)
def fX5_before_18 (K : Nat → kv_D) : kv_D := o_aload 0 (o_const 12 (o_iload 1 (o_imul (o_iload 3 (o_iadd (o_iload 2 (o_const 0 (o_callV 5 3 mX5_rowOf (o_istore 4 (o_iload 4 (o_aload 0 (o_getf 5 17 (o_const 12 (o_iload 1 (o_imul (o_iload 3 (o_iadd (o_iald 0 (o_icge (fX5_before_53 K) (fX5_before_48 K))))))))))))))))))))
theorem sX5_before_18 {K : Nat → kv_D} (hK : ∀ pc, SX5_before pc (K pc)) : SX5_before 18 (fX5_before_18 K) := k_aload_n dX5_before_18 rfl (k_bipush dX5_before_19 (by decide +kernel) (k_iload_n dX5_before_21 rfl (k_imul dX5_before_22 (k_iload_n dX5_before_23 rfl (k_iadd dX5_before_24 (k_iload_n dX5_before_25 rfl (k_iconst dX5_before_26 (by decide +kernel) (k_callV (q := (RX5, TX5, 32)) dX5_before_27 cX5_rowOf_ct rfl (kv_goodV mw_608 mw_610 sel_X5_rowOf mw_6 mw_611) (by decide +kernel) rfl (by decide) (by decide) (k_istore dX5_before_30 (by decide) (k_iload dX5_before_32 (k_aload_n dX5_before_34 rfl (k_getf (C := RX5) (T := TX5) (N := 32) (ci := 5) (index := 43) (kf := 17) dX5_before_35 rfl (fun w h => List.mem_cons_of_mem _ (inX5 w h)) (by decide) (List.mem_cons_of_mem _ mw_436) (k_bipush dX5_before_38 (by decide +kernel) (k_iload_n dX5_before_40 rfl (k_imul dX5_before_41 (k_iload_n dX5_before_42 rfl (k_iadd dX5_before_43 (k_iald dX5_before_44 rfl (k_icge dX5_before_45 rfl (sX5_before_53 hK) (sX5_before_48 hK))))))))))))))))))))
theorem nX5_before_18 : kv_cn (fun K => fX5_before_18 K) := cn_aload 0 (cn_const 12 (cn_iload 1 (cn_imul (cn_iload 3 (cn_iadd (cn_iload 2 (cn_const 0 (cn_callV 5 3 mX5_rowOf (cn_istore 4 (cn_iload 4 (cn_aload 0 (cn_getf 5 17 (cn_const 12 (cn_iload 1 (cn_imul (cn_iload 3 (cn_iadd (cn_iald 0 (cn_icge nX5_before_53 nX5_before_48)))))))))))))))))))
def fX5_before_14 (K : Nat → kv_D) : kv_D := o_iload 3 (o_iflt (fX5_before_95 K) (fX5_before_18 K))
theorem sX5_before_14 {K : Nat → kv_D} (hK : ∀ pc, SX5_before pc (K pc)) : SX5_before 14 (fX5_before_14 K) := k_iload_n dX5_before_14 rfl (k_iflt dX5_before_15 rfl (sX5_before_95 hK) (sX5_before_18 hK))
theorem nX5_before_14 : kv_cn (fun K => fX5_before_14 K) := cn_iload 3 (cn_iflt nX5_before_95 nX5_before_18)
def fX5_before_0 (K : Nat → kv_D) : kv_D := o_aload 0 (o_getf 5 25 (o_istore 2 (o_aload 0 (o_getf 5 12 (o_iload 1 (o_iald 0 (o_const 1 (o_isub (o_istore 3 ((K 14)))))))))))
theorem sX5_before_0 {K : Nat → kv_D} (hK : ∀ pc, SX5_before pc (K pc)) : SX5_before 0 (fX5_before_0 K) := k_aload_n dX5_before_0 rfl (k_getf (C := RX5) (T := TX5) (N := 32) (ci := 5) (index := 153) (kf := 25) dX5_before_1 rfl (fun w h => List.mem_cons_of_mem _ (inX5 w h)) (by decide) (List.mem_cons_of_mem _ mw_444) (k_istore_n dX5_before_4 rfl (by decide) (k_aload_n dX5_before_5 rfl (k_getf (C := RX5) (T := TX5) (N := 32) (ci := 5) (index := 28) (kf := 12) dX5_before_6 rfl (fun w h => List.mem_cons_of_mem _ (inX5 w h)) (by decide) (List.mem_cons_of_mem _ mw_431) (k_iload_n dX5_before_9 rfl (k_iald dX5_before_10 rfl (k_iconst dX5_before_11 (by decide +kernel) (k_isub dX5_before_12 (k_istore_n dX5_before_13 rfl (by decide) ((hK 14)))))))))))
theorem nX5_before_0 : kv_cn (fun K => fX5_before_0 K) := cn_aload 0 (cn_getf 5 25 (cn_istore 2 (cn_aload 0 (cn_getf 5 12 (cn_iload 1 (cn_iald 0 (cn_const 1 (cn_isub (cn_istore 3 ((cn_K 14)))))))))))
def bX5_before (K : Nat → kv_D) (pc : Nat) : kv_D := if pc = 14 then fX5_before_14 K else fun _ _ _ _ _ => False
theorem hX5_before : ∀ pc, SX5_before pc (kv_lim (bX5_before) pc) := kv_lim_S (fun K hK pc => by
  unfold bX5_before
  by_cases q14 : pc = 14
  · rw [if_pos q14, q14]
    exact sX5_before_14 hK
  rw [if_neg q14]
  exact kv_none)
theorem uX5_before_14 {L : List (Option Value)} {st : List Value} {h : kv_H} {v : Option Value} {h' : kv_H} (hx : fX5_before_14 (kv_lim (bX5_before)) L st h v h') : kv_lim (bX5_before) 14 L st h v h' := kv_un (q := 14) (by have e : (fun K => bX5_before K 14) = fun K => fX5_before_14 K := (by funext K; rfl); rw [e]; exact nX5_before_14) (by have e : bX5_before (kv_lim (bX5_before)) 14 = fX5_before_14 (kv_lim (bX5_before)) := rfl; rw [e]; exact hx)
def mX5_before : kv_M := kv_in 2 5 (fX5_before_0 (kv_lim (bX5_before)))
theorem cX5_before_ct : kv_CT yX5_before wX5_before 2 46 mX5_before := kv_met (by decide) rfl rfl (by decide) (fun h => by cases h) (sX5_before_0 (hX5_before))
-- X5_match
def wX5_match : List Cond := Cond.code yX5_match cX5_match 8 (some .int) :: kv_tb
abbrev SX5_match (pc : Nat) (F : kv_D) : Prop := kv_S cX5_match 8 RX5 wX5_match (some .int) false 3 70 none pc F
def fX5_match_269 (K : Nat → kv_D) : kv_D := o_iret .int
theorem sX5_match_269 {K : Nat → kv_D} (hK : ∀ pc, SX5_match pc (K pc)) : SX5_match 269 (fX5_match_269 K) := k_iret dX5_match_269 rfl
theorem nX5_match_269 : kv_cn (fun K => fX5_match_269 K) := cn_c _
def fX5_match_268 (K : Nat → kv_D) : kv_D := o_const 1 ((fX5_match_269 K))
theorem sX5_match_268 {K : Nat → kv_D} (hK : ∀ pc, SX5_match pc (K pc)) : SX5_match 268 (fX5_match_268 K) := k_iconst dX5_match_268 (by decide +kernel) ((sX5_match_269 hK))
theorem nX5_match_268 : kv_cn (fun K => fX5_match_268 K) := cn_const 1 (nX5_match_269)
def fX5_match_264 (K : Nat → kv_D) : kv_D := o_const 0 ((fX5_match_269 K))
theorem sX5_match_264 {K : Nat → kv_D} (hK : ∀ pc, SX5_match pc (K pc)) : SX5_match 264 (fX5_match_264 K) := k_iconst dX5_match_264 (by decide +kernel) (k_goto dX5_match_265 rfl (sX5_match_269 hK))
theorem nX5_match_264 : kv_cn (fun K => fX5_match_264 K) := cn_const 0 (nX5_match_269)
def fX5_match_253 (K : Nat → kv_D) : kv_D := o_aload 0 (o_getf 5 29 (o_aload 0 (o_getf 5 25 (o_icne (fX5_match_268 K) (fX5_match_264 K)))))
theorem sX5_match_253 {K : Nat → kv_D} (hK : ∀ pc, SX5_match pc (K pc)) : SX5_match 253 (fX5_match_253 K) := k_aload_n dX5_match_253 rfl (k_getf (C := RX5) (T := TX5) (N := 32) (ci := 5) (index := 172) (kf := 29) dX5_match_254 rfl (fun w h => List.mem_cons_of_mem _ (inX5 w h)) (by decide) (List.mem_cons_of_mem _ mw_448) (k_aload_n dX5_match_257 rfl (k_getf (C := RX5) (T := TX5) (N := 32) (ci := 5) (index := 153) (kf := 25) dX5_match_258 rfl (fun w h => List.mem_cons_of_mem _ (inX5 w h)) (by decide) (List.mem_cons_of_mem _ mw_444) (k_icne dX5_match_261 rfl (sX5_match_268 hK) (sX5_match_264 hK)))))
theorem nX5_match_253 : kv_cn (fun K => fX5_match_253 K) := cn_aload 0 (cn_getf 5 29 (cn_aload 0 (cn_getf 5 25 (cn_icne nX5_match_268 nX5_match_264))))
def fX5_match_244 (K : Nat → kv_D) : kv_D := o_putf 5 29 .int (o_iinc 4 1 ((K 43)))
theorem sX5_match_244 {K : Nat → kv_D} (hK : ∀ pc, SX5_match pc (K pc)) : SX5_match 244 (fX5_match_244 K) := k_putf (C := RX5) (T := TX5) (N := 32) (ci := 5) (index := 172) (kf := 29) (ty := .int) dX5_match_244 rfl (fun w h => List.mem_cons_of_mem _ (inX5 w h)) tyX5 tyX5_ok nmX5 (by decide) (List.mem_cons_of_mem _ mw_448) rfl rfl (k_iinc dX5_match_247 (by decide +kernel) (by decide) (k_goto dX5_match_250 rfl (hK 43)))
theorem nX5_match_244 : kv_cn (fun K => fX5_match_244 K) := cn_putf 5 29 .int (cn_iinc 4 1 ((cn_K 43)))
def fX5_match_240 (K : Nat → kv_D) : kv_D := o_aload 0 (o_getf 5 29 ((fX5_match_244 K)))
theorem sX5_match_240 {K : Nat → kv_D} (hK : ∀ pc, SX5_match pc (K pc)) : SX5_match 240 (fX5_match_240 K) := k_aload_n dX5_match_240 rfl (k_getf (C := RX5) (T := TX5) (N := 32) (ci := 5) (index := 172) (kf := 29) dX5_match_241 rfl (fun w h => List.mem_cons_of_mem _ (inX5 w h)) (by decide) (List.mem_cons_of_mem _ mw_448) ((sX5_match_244 hK)))
theorem nX5_match_240 : kv_cn (fun K => fX5_match_240 K) := cn_aload 0 (cn_getf 5 29 (nX5_match_244))
def fX5_match_236 (K : Nat → kv_D) : kv_D := o_iload 3 ((fX5_match_244 K))
theorem sX5_match_236 {K : Nat → kv_D} (hK : ∀ pc, SX5_match pc (K pc)) : SX5_match 236 (fX5_match_236 K) := k_iload_n dX5_match_236 rfl (k_goto dX5_match_237 rfl (sX5_match_244 hK))
theorem nX5_match_236 : kv_cn (fun K => fX5_match_236 K) := cn_iload 3 (nX5_match_244)
def fX5_match_205 (K : Nat → kv_D) : kv_D := o_iast 0 (fun x => x) (o_iload 3 (o_iload 7 (o_iadd (o_istore 3 (o_aload 0 (o_getf 5 31 (o_aload 0 (o_getf 5 18 (o_iload 5 (o_iald 0 (o_iload 3 (o_iast 0 (fun x => x) (o_aload 0 (o_iload 4 (o_aload 0 (o_getf 5 13 (o_iload 1 (o_iald 0 (o_icge (fX5_match_240 K) (fX5_match_236 K))))))))))))))))))))
theorem sX5_match_205 {K : Nat → kv_D} (hK : ∀ pc, SX5_match pc (K pc)) : SX5_match 205 (fX5_match_205 K) := k_iast dX5_match_205 rfl (k_iload_n dX5_match_206 rfl (k_iload dX5_match_207 (k_iadd dX5_match_209 (k_istore_n dX5_match_210 rfl (by decide) (k_aload_n dX5_match_211 rfl (k_getf (C := RX5) (T := TX5) (N := 32) (ci := 5) (index := 71) (kf := 31) dX5_match_212 rfl (fun w h => List.mem_cons_of_mem _ (inX5 w h)) (by decide) (List.mem_cons_of_mem _ mw_450) (k_aload_n dX5_match_215 rfl (k_getf (C := RX5) (T := TX5) (N := 32) (ci := 5) (index := 46) (kf := 18) dX5_match_216 rfl (fun w h => List.mem_cons_of_mem _ (inX5 w h)) (by decide) (List.mem_cons_of_mem _ mw_437) (k_iload dX5_match_219 (k_iald dX5_match_221 rfl (k_iload_n dX5_match_222 rfl (k_iast dX5_match_223 rfl (k_aload_n dX5_match_224 rfl (k_iload dX5_match_225 (k_aload_n dX5_match_227 rfl (k_getf (C := RX5) (T := TX5) (N := 32) (ci := 5) (index := 31) (kf := 13) dX5_match_228 rfl (fun w h => List.mem_cons_of_mem _ (inX5 w h)) (by decide) (List.mem_cons_of_mem _ mw_432) (k_iload_n dX5_match_231 rfl (k_iald dX5_match_232 rfl (k_icge dX5_match_233 rfl (sX5_match_240 hK) (sX5_match_236 hK))))))))))))))))))))
theorem nX5_match_205 : kv_cn (fun K => fX5_match_205 K) := cn_iast 0 (fun x => x) (cn_iload 3 (cn_iload 7 (cn_iadd (cn_istore 3 (cn_aload 0 (cn_getf 5 31 (cn_aload 0 (cn_getf 5 18 (cn_iload 5 (cn_iald 0 (cn_iload 3 (cn_iast 0 (fun x => x) (cn_aload 0 (cn_iload 4 (cn_aload 0 (cn_getf 5 13 (cn_iload 1 (cn_iald 0 (cn_icge nX5_match_240 nX5_match_236)))))))))))))))))))
def fX5_match_193 (K : Nat → kv_D) : kv_D := o_aload 0 (o_getf 5 30 (o_aload 0 (o_getf 5 18 (o_iload 5 (o_iald 0 (o_iald 0 ((fX5_match_205 K))))))))
theorem sX5_match_193 {K : Nat → kv_D} (hK : ∀ pc, SX5_match pc (K pc)) : SX5_match 193 (fX5_match_193 K) := k_aload_n dX5_match_193 rfl (k_getf (C := RX5) (T := TX5) (N := 32) (ci := 5) (index := 68) (kf := 30) dX5_match_194 rfl (fun w h => List.mem_cons_of_mem _ (inX5 w h)) (by decide) (List.mem_cons_of_mem _ mw_449) (k_aload_n dX5_match_197 rfl (k_getf (C := RX5) (T := TX5) (N := 32) (ci := 5) (index := 46) (kf := 18) dX5_match_198 rfl (fun w h => List.mem_cons_of_mem _ (inX5 w h)) (by decide) (List.mem_cons_of_mem _ mw_437) (k_iload dX5_match_201 (k_iald dX5_match_203 rfl (k_iald dX5_match_204 rfl ((sX5_match_205 hK))))))))
theorem nX5_match_193 : kv_cn (fun K => fX5_match_193 K) := cn_aload 0 (cn_getf 5 30 (cn_aload 0 (cn_getf 5 18 (cn_iload 5 (cn_iald 0 (cn_iald 0 (nX5_match_205)))))))
def fX5_match_189 (K : Nat → kv_D) : kv_D := o_iload 3 ((fX5_match_205 K))
theorem sX5_match_189 {K : Nat → kv_D} (hK : ∀ pc, SX5_match pc (K pc)) : SX5_match 189 (fX5_match_189 K) := k_iload_n dX5_match_189 rfl (k_goto dX5_match_190 rfl (sX5_match_205 hK))
theorem nX5_match_189 : kv_cn (fun K => fX5_match_189 K) := cn_iload 3 (nX5_match_205)
def fX5_match_163 (K : Nat → kv_D) : kv_D := o_aload 0 (o_getf 5 30 (o_aload 0 (o_getf 5 18 (o_iload 5 (o_iald 0 (o_aload 0 (o_getf 5 30 (o_aload 0 (o_getf 5 18 (o_iload 5 (o_iald 0 (o_iald 0 (o_ifge (fX5_match_193 K) (fX5_match_189 K))))))))))))))
theorem sX5_match_163 {K : Nat → kv_D} (hK : ∀ pc, SX5_match pc (K pc)) : SX5_match 163 (fX5_match_163 K) := k_aload_n dX5_match_163 rfl (k_getf (C := RX5) (T := TX5) (N := 32) (ci := 5) (index := 68) (kf := 30) dX5_match_164 rfl (fun w h => List.mem_cons_of_mem _ (inX5 w h)) (by decide) (List.mem_cons_of_mem _ mw_449) (k_aload_n dX5_match_167 rfl (k_getf (C := RX5) (T := TX5) (N := 32) (ci := 5) (index := 46) (kf := 18) dX5_match_168 rfl (fun w h => List.mem_cons_of_mem _ (inX5 w h)) (by decide) (List.mem_cons_of_mem _ mw_437) (k_iload dX5_match_171 (k_iald dX5_match_173 rfl (k_aload_n dX5_match_174 rfl (k_getf (C := RX5) (T := TX5) (N := 32) (ci := 5) (index := 68) (kf := 30) dX5_match_175 rfl (fun w h => List.mem_cons_of_mem _ (inX5 w h)) (by decide) (List.mem_cons_of_mem _ mw_449) (k_aload_n dX5_match_178 rfl (k_getf (C := RX5) (T := TX5) (N := 32) (ci := 5) (index := 46) (kf := 18) dX5_match_179 rfl (fun w h => List.mem_cons_of_mem _ (inX5 w h)) (by decide) (List.mem_cons_of_mem _ mw_437) (k_iload dX5_match_182 (k_iald dX5_match_184 rfl (k_iald dX5_match_185 rfl (k_ifge dX5_match_186 rfl (sX5_match_193 hK) (sX5_match_189 hK))))))))))))))
theorem nX5_match_163 : kv_cn (fun K => fX5_match_163 K) := cn_aload 0 (cn_getf 5 30 (cn_aload 0 (cn_getf 5 18 (cn_iload 5 (cn_iald 0 (cn_aload 0 (cn_getf 5 30 (cn_aload 0 (cn_getf 5 18 (cn_iload 5 (cn_iald 0 (cn_iald 0 (cn_ifge nX5_match_193 nX5_match_189)))))))))))))
def fX5_match_161 (K : Nat → kv_D) : kv_D := o_const 0 (o_iret .int)
theorem sX5_match_161 {K : Nat → kv_D} (hK : ∀ pc, SX5_match pc (K pc)) : SX5_match 161 (fX5_match_161 K) := k_iconst dX5_match_161 (by decide +kernel) (k_iret dX5_match_162 rfl)
theorem nX5_match_161 : kv_cn (fun K => fX5_match_161 K) := cn_const 0 (cn_c _)
def fX5_match_149 (K : Nat → kv_D) : kv_D := o_iload 7 (o_aload 0 (o_getf 5 16 (o_iload 5 (o_iald 0 (o_icge (fX5_match_163 K) (fX5_match_161 K))))))
theorem sX5_match_149 {K : Nat → kv_D} (hK : ∀ pc, SX5_match pc (K pc)) : SX5_match 149 (fX5_match_149 K) := k_iload dX5_match_149 (k_aload_n dX5_match_151 rfl (k_getf (C := RX5) (T := TX5) (N := 32) (ci := 5) (index := 40) (kf := 16) dX5_match_152 rfl (fun w h => List.mem_cons_of_mem _ (inX5 w h)) (by decide) (List.mem_cons_of_mem _ mw_435) (k_iload dX5_match_155 (k_iald dX5_match_157 rfl (k_icge dX5_match_158 rfl (sX5_match_163 hK) (sX5_match_161 hK))))))
theorem nX5_match_149 : kv_cn (fun K => fX5_match_149 K) := cn_iload 7 (cn_aload 0 (cn_getf 5 16 (cn_iload 5 (cn_iald 0 (cn_icge nX5_match_163 nX5_match_161)))))
def fX5_match_147 (K : Nat → kv_D) : kv_D := o_const 2 (o_iret .int)
theorem sX5_match_147 {K : Nat → kv_D} (hK : ∀ pc, SX5_match pc (K pc)) : SX5_match 147 (fX5_match_147 K) := k_iconst dX5_match_147 (by decide +kernel) (k_iret dX5_match_148 rfl)
theorem nX5_match_147 : kv_cn (fun K => fX5_match_147 K) := cn_const 2 (cn_c _)
def fX5_match_135 (K : Nat → kv_D) : kv_D := o_iload 7 (o_aload 0 (o_getf 5 17 (o_iload 5 (o_iald 0 (o_icge (fX5_match_149 K) (fX5_match_147 K))))))
theorem sX5_match_135 {K : Nat → kv_D} (hK : ∀ pc, SX5_match pc (K pc)) : SX5_match 135 (fX5_match_135 K) := k_iload dX5_match_135 (k_aload_n dX5_match_137 rfl (k_getf (C := RX5) (T := TX5) (N := 32) (ci := 5) (index := 43) (kf := 17) dX5_match_138 rfl (fun w h => List.mem_cons_of_mem _ (inX5 w h)) (by decide) (List.mem_cons_of_mem _ mw_436) (k_iload dX5_match_141 (k_iald dX5_match_143 rfl (k_icge dX5_match_144 rfl (sX5_match_149 hK) (sX5_match_147 hK))))))
theorem nX5_match_135 : kv_cn (fun K => fX5_match_135 K) := cn_iload 7 (cn_aload 0 (cn_getf 5 17 (cn_iload 5 (cn_iald 0 (cn_icge nX5_match_149 nX5_match_147)))))
def fX5_match_124 (K : Nat → kv_D) : kv_D := o_iload 3 (o_iload 7 (o_iadd (o_aload 0 (o_getf 5 22 (o_icne (fX5_match_149 K) (fX5_match_135 K))))))
theorem sX5_match_124 {K : Nat → kv_D} (hK : ∀ pc, SX5_match pc (K pc)) : SX5_match 124 (fX5_match_124 K) := k_iload_n dX5_match_124 rfl (k_iload dX5_match_125 (k_iadd dX5_match_127 (k_aload_n dX5_match_128 rfl (k_getf (C := RX5) (T := TX5) (N := 32) (ci := 5) (index := 150) (kf := 22) dX5_match_129 rfl (fun w h => List.mem_cons_of_mem _ (inX5 w h)) (by decide) (List.mem_cons_of_mem _ mw_441) (k_icne dX5_match_132 rfl (sX5_match_149 hK) (sX5_match_135 hK))))))
theorem nX5_match_124 : kv_cn (fun K => fX5_match_124 K) := cn_iload 3 (cn_iload 7 (cn_iadd (cn_aload 0 (cn_getf 5 22 (cn_icne nX5_match_149 nX5_match_135)))))
def fX5_match_118 (K : Nat → kv_D) : kv_D := o_istore 7 (o_iload 2 (o_ifne (fX5_match_149 K) (fX5_match_124 K)))
theorem sX5_match_118 {K : Nat → kv_D} (hK : ∀ pc, SX5_match pc (K pc)) : SX5_match 118 (fX5_match_118 K) := k_istore dX5_match_118 (by decide) (k_iload_n dX5_match_120 rfl (k_ifne dX5_match_121 rfl (sX5_match_149 hK) (sX5_match_124 hK)))
theorem nX5_match_118 : kv_cn (fun K => fX5_match_118 K) := cn_istore 7 (cn_iload 2 (cn_ifne nX5_match_149 nX5_match_124))
def fX5_match_111 (K : Nat → kv_D) : kv_D := o_aload 0 (o_getf 5 17 (o_iload 5 (o_iald 0 ((fX5_match_118 K)))))
theorem sX5_match_111 {K : Nat → kv_D} (hK : ∀ pc, SX5_match pc (K pc)) : SX5_match 111 (fX5_match_111 K) := k_aload_n dX5_match_111 rfl (k_getf (C := RX5) (T := TX5) (N := 32) (ci := 5) (index := 43) (kf := 17) dX5_match_112 rfl (fun w h => List.mem_cons_of_mem _ (inX5 w h)) (by decide) (List.mem_cons_of_mem _ mw_436) (k_iload dX5_match_115 (k_iald dX5_match_117 rfl ((sX5_match_118 hK)))))
theorem nX5_match_111 : kv_cn (fun K => fX5_match_111 K) := cn_aload 0 (cn_getf 5 17 (cn_iload 5 (cn_iald 0 (nX5_match_118))))
def fX5_match_106 (K : Nat → kv_D) : kv_D := o_iload 6 ((fX5_match_118 K))
theorem sX5_match_106 {K : Nat → kv_D} (hK : ∀ pc, SX5_match pc (K pc)) : SX5_match 106 (fX5_match_106 K) := k_iload dX5_match_106 (k_goto dX5_match_108 rfl (sX5_match_118 hK))
theorem nX5_match_106 : kv_cn (fun K => fX5_match_106 K) := cn_iload 6 (nX5_match_118)
def fX5_match_84 (K : Nat → kv_D) : kv_D := o_aload 0 (o_iload 5 (o_iload 3 (o_const 1 (o_callV 5 3 mX5_rowOf (o_istore 6 (o_iload 6 (o_aload 0 (o_getf 5 17 (o_iload 5 (o_iald 0 (o_icge (fX5_match_111 K) (fX5_match_106 K))))))))))))
theorem sX5_match_84 {K : Nat → kv_D} (hK : ∀ pc, SX5_match pc (K pc)) : SX5_match 84 (fX5_match_84 K) := k_aload_n dX5_match_84 rfl (k_iload dX5_match_85 (k_iload_n dX5_match_87 rfl (k_iconst dX5_match_88 (by decide +kernel) (k_callV (q := (RX5, TX5, 32)) dX5_match_89 cX5_rowOf_ct rfl (kv_goodV mw_608 mw_610 sel_X5_rowOf mw_6 mw_611) (by decide +kernel) rfl (by decide) (by decide) (k_istore dX5_match_92 (by decide) (k_iload dX5_match_94 (k_aload_n dX5_match_96 rfl (k_getf (C := RX5) (T := TX5) (N := 32) (ci := 5) (index := 43) (kf := 17) dX5_match_97 rfl (fun w h => List.mem_cons_of_mem _ (inX5 w h)) (by decide) (List.mem_cons_of_mem _ mw_436) (k_iload dX5_match_100 (k_iald dX5_match_102 rfl (k_icge dX5_match_103 rfl (sX5_match_111 hK) (sX5_match_106 hK))))))))))))
theorem nX5_match_84 : kv_cn (fun K => fX5_match_84 K) := cn_aload 0 (cn_iload 5 (cn_iload 3 (cn_const 1 (cn_callV 5 3 mX5_rowOf (cn_istore 6 (cn_iload 6 (cn_aload 0 (cn_getf 5 17 (cn_iload 5 (cn_iald 0 (cn_icge nX5_match_111 nX5_match_106)))))))))))
def fX5_match_82 (K : Nat → kv_D) : kv_D := o_const 0 (o_iret .int)
theorem sX5_match_82 {K : Nat → kv_D} (hK : ∀ pc, SX5_match pc (K pc)) : SX5_match 82 (fX5_match_82 K) := k_iconst dX5_match_82 (by decide +kernel) (k_iret dX5_match_83 rfl)
theorem nX5_match_82 : kv_cn (fun K => fX5_match_82 K) := cn_const 0 (cn_c _)
def fX5_match_74 (K : Nat → kv_D) : kv_D := o_iload 3 (o_aload 0 (o_getf 5 25 (o_icne (fX5_match_84 K) (fX5_match_82 K))))
theorem sX5_match_74 {K : Nat → kv_D} (hK : ∀ pc, SX5_match pc (K pc)) : SX5_match 74 (fX5_match_74 K) := k_iload_n dX5_match_74 rfl (k_aload_n dX5_match_75 rfl (k_getf (C := RX5) (T := TX5) (N := 32) (ci := 5) (index := 153) (kf := 25) dX5_match_76 rfl (fun w h => List.mem_cons_of_mem _ (inX5 w h)) (by decide) (List.mem_cons_of_mem _ mw_444) (k_icne dX5_match_79 rfl (sX5_match_84 hK) (sX5_match_82 hK))))
theorem nX5_match_74 : kv_cn (fun K => fX5_match_74 K) := cn_iload 3 (cn_aload 0 (cn_getf 5 25 (cn_icne nX5_match_84 nX5_match_82)))
def fX5_match_54 (K : Nat → kv_D) : kv_D := o_const 12 (o_iload 1 (o_imul (o_iload 4 (o_iadd (o_istore 5 (o_iload 4 (o_aload 0 (o_getf 5 13 (o_iload 1 (o_iald 0 (o_icne (fX5_match_84 K) (fX5_match_74 K))))))))))))
theorem sX5_match_54 {K : Nat → kv_D} (hK : ∀ pc, SX5_match pc (K pc)) : SX5_match 54 (fX5_match_54 K) := k_bipush dX5_match_54 (by decide +kernel) (k_iload_n dX5_match_56 rfl (k_imul dX5_match_57 (k_iload dX5_match_58 (k_iadd dX5_match_60 (k_istore dX5_match_61 (by decide) (k_iload dX5_match_63 (k_aload_n dX5_match_65 rfl (k_getf (C := RX5) (T := TX5) (N := 32) (ci := 5) (index := 31) (kf := 13) dX5_match_66 rfl (fun w h => List.mem_cons_of_mem _ (inX5 w h)) (by decide) (List.mem_cons_of_mem _ mw_432) (k_iload_n dX5_match_69 rfl (k_iald dX5_match_70 rfl (k_icne dX5_match_71 rfl (sX5_match_84 hK) (sX5_match_74 hK))))))))))))
theorem nX5_match_54 : kv_cn (fun K => fX5_match_54 K) := cn_const 12 (cn_iload 1 (cn_imul (cn_iload 4 (cn_iadd (cn_istore 5 (cn_iload 4 (cn_aload 0 (cn_getf 5 13 (cn_iload 1 (cn_iald 0 (cn_icne nX5_match_84 nX5_match_74)))))))))))
def fX5_match_43 (K : Nat → kv_D) : kv_D := o_iload 4 (o_aload 0 (o_getf 5 14 (o_iload 1 (o_iald 0 (o_icge (fX5_match_253 K) (fX5_match_54 K))))))
theorem sX5_match_43 {K : Nat → kv_D} (hK : ∀ pc, SX5_match pc (K pc)) : SX5_match 43 (fX5_match_43 K) := k_iload dX5_match_43 (k_aload_n dX5_match_45 rfl (k_getf (C := RX5) (T := TX5) (N := 32) (ci := 5) (index := 34) (kf := 14) dX5_match_46 rfl (fun w h => List.mem_cons_of_mem _ (inX5 w h)) (by decide) (List.mem_cons_of_mem _ mw_433) (k_iload_n dX5_match_49 rfl (k_iald dX5_match_50 rfl (k_icge dX5_match_51 rfl (sX5_match_253 hK) (sX5_match_54 hK))))))
theorem nX5_match_43 : kv_cn (fun K => fX5_match_43 K) := cn_iload 4 (cn_aload 0 (cn_getf 5 14 (cn_iload 1 (cn_iald 0 (cn_icge nX5_match_253 nX5_match_54)))))
def fX5_match_30 (K : Nat → kv_D) : kv_D := o_aload 0 (o_getf 5 25 (o_istore 3 (o_aload 0 (o_getf 5 12 (o_iload 1 (o_iald 0 (o_istore 4 ((K 43)))))))))
theorem sX5_match_30 {K : Nat → kv_D} (hK : ∀ pc, SX5_match pc (K pc)) : SX5_match 30 (fX5_match_30 K) := k_aload_n dX5_match_30 rfl (k_getf (C := RX5) (T := TX5) (N := 32) (ci := 5) (index := 153) (kf := 25) dX5_match_31 rfl (fun w h => List.mem_cons_of_mem _ (inX5 w h)) (by decide) (List.mem_cons_of_mem _ mw_444) (k_istore_n dX5_match_34 rfl (by decide) (k_aload_n dX5_match_35 rfl (k_getf (C := RX5) (T := TX5) (N := 32) (ci := 5) (index := 28) (kf := 12) dX5_match_36 rfl (fun w h => List.mem_cons_of_mem _ (inX5 w h)) (by decide) (List.mem_cons_of_mem _ mw_431) (k_iload_n dX5_match_39 rfl (k_iald dX5_match_40 rfl (k_istore dX5_match_41 (by decide) ((hK 43)))))))))
theorem nX5_match_30 : kv_cn (fun K => fX5_match_30 K) := cn_aload 0 (cn_getf 5 25 (cn_istore 3 (cn_aload 0 (cn_getf 5 12 (cn_iload 1 (cn_iald 0 (cn_istore 4 ((cn_K 43)))))))))
def fX5_match_17 (K : Nat → kv_D) : kv_D := o_aload 0 (o_getf 5 30 (o_iload 3 (o_const (-1) (o_iast 0 (fun x => x) (o_iinc 3 1 ((K 12)))))))
theorem sX5_match_17 {K : Nat → kv_D} (hK : ∀ pc, SX5_match pc (K pc)) : SX5_match 17 (fX5_match_17 K) := k_aload_n dX5_match_17 rfl (k_getf (C := RX5) (T := TX5) (N := 32) (ci := 5) (index := 68) (kf := 30) dX5_match_18 rfl (fun w h => List.mem_cons_of_mem _ (inX5 w h)) (by decide) (List.mem_cons_of_mem _ mw_449) (k_iload_n dX5_match_21 rfl (k_iconst dX5_match_22 (by decide +kernel) (k_iast dX5_match_23 rfl (k_iinc dX5_match_24 (by decide +kernel) (by decide) (k_goto dX5_match_27 rfl (hK 12)))))))
theorem nX5_match_17 : kv_cn (fun K => fX5_match_17 K) := cn_aload 0 (cn_getf 5 30 (cn_iload 3 (cn_const (-1) (cn_iast 0 (fun x => x) (cn_iinc 3 1 ((cn_K 12)))))))
def fX5_match_12 (K : Nat → kv_D) : kv_D := o_iload 3 (o_const 4 (o_icge (fX5_match_30 K) (fX5_match_17 K)))
theorem sX5_match_12 {K : Nat → kv_D} (hK : ∀ pc, SX5_match pc (K pc)) : SX5_match 12 (fX5_match_12 K) := k_iload_n dX5_match_12 rfl (k_iconst dX5_match_13 (by decide +kernel) (k_icge dX5_match_14 rfl (sX5_match_30 hK) (sX5_match_17 hK)))
theorem nX5_match_12 : kv_cn (fun K => fX5_match_12 K) := cn_iload 3 (cn_const 4 (cn_icge nX5_match_30 nX5_match_17))
def fX5_match_10 (K : Nat → kv_D) : kv_D := o_const 0 (o_istore 3 ((K 12)))
theorem sX5_match_10 {K : Nat → kv_D} (hK : ∀ pc, SX5_match pc (K pc)) : SX5_match 10 (fX5_match_10 K) := k_iconst dX5_match_10 (by decide +kernel) (k_istore_n dX5_match_11 rfl (by decide) ((hK 12)))
theorem nX5_match_10 : kv_cn (fun K => fX5_match_10 K) := cn_const 0 (cn_istore 3 ((cn_K 12)))
def fX5_match_8 (K : Nat → kv_D) : kv_D := o_const 0 (o_iret .int)
theorem sX5_match_8 {K : Nat → kv_D} (hK : ∀ pc, SX5_match pc (K pc)) : SX5_match 8 (fX5_match_8 K) := k_iconst dX5_match_8 (by decide +kernel) (k_iret dX5_match_9 rfl)
theorem nX5_match_8 : kv_cn (fun K => fX5_match_8 K) := cn_const 0 (cn_c _)
def fX5_match_0 (K : Nat → kv_D) : kv_D := o_aload 0 (o_iload 1 (o_callV 5 1 mX5_before (o_ifne (fX5_match_10 K) (fX5_match_8 K))))
theorem sX5_match_0 {K : Nat → kv_D} (hK : ∀ pc, SX5_match pc (K pc)) : SX5_match 0 (fX5_match_0 K) := k_aload_n dX5_match_0 rfl (k_iload_n dX5_match_1 rfl (k_callV (q := (RX5, TX5, 32)) dX5_match_2 cX5_before_ct rfl (kv_goodV mw_604 mw_606 sel_X5_before mw_6 mw_607) (by decide +kernel) rfl (by decide) (by decide) (k_ifne dX5_match_5 rfl (sX5_match_10 hK) (sX5_match_8 hK))))
theorem nX5_match_0 : kv_cn (fun K => fX5_match_0 K) := cn_aload 0 (cn_iload 1 (cn_callV 5 1 mX5_before (cn_ifne nX5_match_10 nX5_match_8)))
def bX5_match (K : Nat → kv_D) (pc : Nat) : kv_D := if pc = 12 then fX5_match_12 K else if pc = 43 then fX5_match_43 K else fun _ _ _ _ _ => False
theorem hX5_match : ∀ pc, SX5_match pc (kv_lim (bX5_match) pc) := kv_lim_S (fun K hK pc => by
  unfold bX5_match
  by_cases q12 : pc = 12
  · rw [if_pos q12, q12]
    exact sX5_match_12 hK
  rw [if_neg q12]
  by_cases q43 : pc = 43
  · rw [if_pos q43, q43]
    exact sX5_match_43 hK
  rw [if_neg q43]
  exact kv_none)
theorem uX5_match_12 {L : List (Option Value)} {st : List Value} {h : kv_H} {v : Option Value} {h' : kv_H} (hx : fX5_match_12 (kv_lim (bX5_match)) L st h v h') : kv_lim (bX5_match) 12 L st h v h' := kv_un (q := 12) (by have e : (fun K => bX5_match K 12) = fun K => fX5_match_12 K := (by funext K; rfl); rw [e]; exact nX5_match_12) (by have e : bX5_match (kv_lim (bX5_match)) 12 = fX5_match_12 (kv_lim (bX5_match)) := rfl; rw [e]; exact hx)
theorem uX5_match_43 {L : List (Option Value)} {st : List Value} {h : kv_H} {v : Option Value} {h' : kv_H} (hx : fX5_match_43 (kv_lim (bX5_match)) L st h v h') : kv_lim (bX5_match) 43 L st h v h' := kv_un (q := 43) (by have e : (fun K => bX5_match K 43) = fun K => fX5_match_43 K := (by funext K; rfl); rw [e]; exact nX5_match_43) (by have e : bX5_match (kv_lim (bX5_match)) 43 = fX5_match_43 (kv_lim (bX5_match)) := rfl; rw [e]; exact hx)
def mX5_match : kv_M := kv_in 3 8 (fX5_match_0 (kv_lim (bX5_match)))
theorem cX5_match_ct : kv_CT yX5_match wX5_match 3 70 mX5_match := kv_met (by decide) rfl rfl (by decide) (fun h => by cases h) (sX5_match_0 (hX5_match))
-- X5_given
def wX5_given : List Cond := Cond.code yX5_given cX5_given 4 (some .int) :: kv_tb
abbrev SX5_given (pc : Nat) (F : kv_D) : Prop := kv_S cX5_given 4 RX5 wX5_given (some .int) false 1 20 none pc F
def fX5_given_42 : kv_D := o_iret .int
theorem sX5_given_42 : SX5_given 42 (fX5_given_42) := k_iret dX5_given_42 rfl
def fX5_given_23 : kv_D := o_aload 0 (o_getf 5 31 (o_iload 3 (o_const 48 (o_isub (o_iald 0 (o_aload 0 (o_getf 5 30 (o_iload 3 (o_const 48 (o_isub (o_iald 0 (o_isub ((fX5_given_42))))))))))))))
theorem sX5_given_23 : SX5_given 23 (fX5_given_23) := k_aload_n dX5_given_23 rfl (k_getf (C := RX5) (T := TX5) (N := 32) (ci := 5) (index := 71) (kf := 31) dX5_given_24 rfl (fun w h => List.mem_cons_of_mem _ (inX5 w h)) (by decide) (List.mem_cons_of_mem _ mw_450) (k_iload_n dX5_given_27 rfl (k_bipush dX5_given_28 (by decide +kernel) (k_isub dX5_given_30 (k_iald dX5_given_31 rfl (k_aload_n dX5_given_32 rfl (k_getf (C := RX5) (T := TX5) (N := 32) (ci := 5) (index := 68) (kf := 30) dX5_given_33 rfl (fun w h => List.mem_cons_of_mem _ (inX5 w h)) (by decide) (List.mem_cons_of_mem _ mw_449) (k_iload_n dX5_given_36 rfl (k_bipush dX5_given_37 (by decide +kernel) (k_isub dX5_given_39 (k_iald dX5_given_40 rfl (k_isub dX5_given_41 ((sX5_given_42))))))))))))))
def fX5_given_19 : kv_D := o_const 1 ((fX5_given_42))
theorem sX5_given_19 : SX5_given 19 (fX5_given_19) := k_iconst dX5_given_19 (by decide +kernel) (k_goto dX5_given_20 rfl (sX5_given_42))
def fX5_given_0 : kv_D := o_aload 0 (o_getf 5 21 (o_const 12 (o_iload 1 (o_imul (o_iload 2 (o_iadd (o_iald 0 (o_istore 3 (o_iload 3 (o_callS 1 mX5_small (o_ifeq (fX5_given_23) (fX5_given_19))))))))))))
theorem sX5_given_0 : SX5_given 0 (fX5_given_0) := k_aload_n dX5_given_0 rfl (k_getf (C := RX5) (T := TX5) (N := 32) (ci := 5) (index := 55) (kf := 21) dX5_given_1 rfl (fun w h => List.mem_cons_of_mem _ (inX5 w h)) (by decide) (List.mem_cons_of_mem _ mw_440) (k_bipush dX5_given_4 (by decide +kernel) (k_iload_n dX5_given_6 rfl (k_imul dX5_given_7 (k_iload_n dX5_given_8 rfl (k_iadd dX5_given_9 (k_iald dX5_given_10 rfl (k_istore_n dX5_given_11 rfl (by decide) (k_iload_n dX5_given_12 rfl (k_callS dX5_given_13 cX5_small_ct rfl (kv_goodS mw_540 mw_541 mw_6 mw_542) (by decide +kernel) (by decide) (by decide) (k_ifeq dX5_given_16 rfl (sX5_given_23) (sX5_given_19))))))))))))
def mX5_given : kv_M := kv_in 3 4 (fX5_given_0)
theorem cX5_given_ct : kv_CT yX5_given wX5_given 1 20 mX5_given := kv_met (by decide) rfl rfl (by decide) (fun h => by cases h) (sX5_given_0)
