theorem dL_law_358 : decode cL_law 358 = .ok (.iconst 1, 1) := by decide +kernel
theorem dL_law_359 : decode cL_law 359 = .ok (.ireturn, 1) := by decide +kernel
theorem dL_law_352 : decode cL_law 352 = .ok (.iinc 3 3, 3) := by decide +kernel
theorem dL_law_355 : decode cL_law 355 = .ok (.goto (-337), 3) := by decide +kernel
theorem dL_law_350 : decode cL_law 350 = .ok (.iconst 0, 1) := by decide +kernel
theorem dL_law_351 : decode cL_law 351 = .ok (.ireturn, 1) := by decide +kernel
theorem dL_law_344 : decode cL_law 344 = .ok (.invokevirtual 74, 3) := by decide +kernel
theorem dL_law_347 : decode cL_law 347 = .ok (.if_icmp .eq 5, 3) := by decide +kernel
theorem dL_law_343 : decode cL_law 343 = .ok (.iconst 0, 1) := by decide +kernel
theorem dL_law_339 : decode cL_law 339 = .ok (.iconst 1, 1) := by decide +kernel
theorem dL_law_340 : decode cL_law 340 = .ok (.goto 4, 3) := by decide +kernel
theorem dL_law_322 : decode cL_law 322 = .ok (.invokevirtual 70, 3) := by decide +kernel
theorem dL_law_325 : decode cL_law 325 = .ok (.aload_n 2, 1) := by decide +kernel
theorem dL_law_326 : decode cL_law 326 = .ok (.aload_n 0, 1) := by decide +kernel
theorem dL_law_327 : decode cL_law 327 = .ok (.iload_n 3, 1) := by decide +kernel
theorem dL_law_328 : decode cL_law 328 = .ok (.iconst 1, 1) := by decide +kernel
theorem dL_law_329 : decode cL_law 329 = .ok (.iadd, 1) := by decide +kernel
theorem dL_law_330 : decode cL_law 330 = .ok (.iaload, 1) := by decide +kernel
theorem dL_law_331 : decode cL_law 331 = .ok (.aload_n 0, 1) := by decide +kernel
theorem dL_law_332 : decode cL_law 332 = .ok (.iload_n 3, 1) := by decide +kernel
theorem dL_law_333 : decode cL_law 333 = .ok (.iconst 2, 1) := by decide +kernel
theorem dL_law_334 : decode cL_law 334 = .ok (.iadd, 1) := by decide +kernel
theorem dL_law_335 : decode cL_law 335 = .ok (.iaload, 1) := by decide +kernel
theorem dL_law_336 : decode cL_law 336 = .ok (.ifCond .eq 7, 3) := by decide +kernel
theorem dL_law_321 : decode cL_law 321 = .ok (.iconst 0, 1) := by decide +kernel
theorem dL_law_317 : decode cL_law 317 = .ok (.iconst 1, 1) := by decide +kernel
theorem dL_law_318 : decode cL_law 318 = .ok (.goto 4, 3) := by decide +kernel
theorem dL_law_303 : decode cL_law 303 = .ok (.aload_n 1, 1) := by decide +kernel
theorem dL_law_304 : decode cL_law 304 = .ok (.aload_n 0, 1) := by decide +kernel
theorem dL_law_305 : decode cL_law 305 = .ok (.iload_n 3, 1) := by decide +kernel
theorem dL_law_306 : decode cL_law 306 = .ok (.iconst 1, 1) := by decide +kernel
theorem dL_law_307 : decode cL_law 307 = .ok (.iadd, 1) := by decide +kernel
theorem dL_law_308 : decode cL_law 308 = .ok (.iaload, 1) := by decide +kernel
theorem dL_law_309 : decode cL_law 309 = .ok (.aload_n 0, 1) := by decide +kernel
theorem dL_law_310 : decode cL_law 310 = .ok (.iload_n 3, 1) := by decide +kernel
theorem dL_law_311 : decode cL_law 311 = .ok (.iconst 2, 1) := by decide +kernel
theorem dL_law_312 : decode cL_law 312 = .ok (.iadd, 1) := by decide +kernel
theorem dL_law_313 : decode cL_law 313 = .ok (.iaload, 1) := by decide +kernel
theorem dL_law_314 : decode cL_law 314 = .ok (.ifCond .eq 7, 3) := by decide +kernel
theorem dL_law_301 : decode cL_law 301 = .ok (.iconst 0, 1) := by decide +kernel
theorem dL_law_302 : decode cL_law 302 = .ok (.ireturn, 1) := by decide +kernel
theorem dL_law_290 : decode cL_law 290 = .ok (.aload_n 1, 1) := by decide +kernel
theorem dL_law_291 : decode cL_law 291 = .ok (.invokevirtual 65, 3) := by decide +kernel
theorem dL_law_294 : decode cL_law 294 = .ok (.aload_n 2, 1) := by decide +kernel
theorem dL_law_295 : decode cL_law 295 = .ok (.invokevirtual 69, 3) := by decide +kernel
theorem dL_law_298 : decode cL_law 298 = .ok (.if_icmp .eq 54, 3) := by decide +kernel
theorem dL_law_288 : decode cL_law 288 = .ok (.iconst 0, 1) := by decide +kernel
theorem dL_law_289 : decode cL_law 289 = .ok (.ireturn, 1) := by decide +kernel
theorem dL_law_277 : decode cL_law 277 = .ok (.aload_n 1, 1) := by decide +kernel
theorem dL_law_278 : decode cL_law 278 = .ok (.invokevirtual 61, 3) := by decide +kernel
theorem dL_law_281 : decode cL_law 281 = .ok (.aload_n 2, 1) := by decide +kernel
theorem dL_law_282 : decode cL_law 282 = .ok (.invokevirtual 64, 3) := by decide +kernel
theorem dL_law_285 : decode cL_law 285 = .ok (.if_icmp .eq 67, 3) := by decide +kernel
theorem dL_law_275 : decode cL_law 275 = .ok (.iconst 0, 1) := by decide +kernel
theorem dL_law_276 : decode cL_law 276 = .ok (.ireturn, 1) := by decide +kernel
theorem dL_law_264 : decode cL_law 264 = .ok (.aload_n 1, 1) := by decide +kernel
theorem dL_law_265 : decode cL_law 265 = .ok (.invokevirtual 57, 3) := by decide +kernel
theorem dL_law_268 : decode cL_law 268 = .ok (.aload_n 2, 1) := by decide +kernel
theorem dL_law_269 : decode cL_law 269 = .ok (.invokevirtual 60, 3) := by decide +kernel
theorem dL_law_272 : decode cL_law 272 = .ok (.if_icmp .eq 80, 3) := by decide +kernel
theorem dL_law_262 : decode cL_law 262 = .ok (.iconst 0, 1) := by decide +kernel
theorem dL_law_263 : decode cL_law 263 = .ok (.ireturn, 1) := by decide +kernel
theorem dL_law_251 : decode cL_law 251 = .ok (.aload_n 1, 1) := by decide +kernel
theorem dL_law_252 : decode cL_law 252 = .ok (.invokevirtual 53, 3) := by decide +kernel
theorem dL_law_255 : decode cL_law 255 = .ok (.aload_n 2, 1) := by decide +kernel
theorem dL_law_256 : decode cL_law 256 = .ok (.invokevirtual 56, 3) := by decide +kernel
theorem dL_law_259 : decode cL_law 259 = .ok (.if_icmp .eq 93, 3) := by decide +kernel
theorem dL_law_249 : decode cL_law 249 = .ok (.iconst 0, 1) := by decide +kernel
theorem dL_law_250 : decode cL_law 250 = .ok (.ireturn, 1) := by decide +kernel
theorem dL_law_228 : decode cL_law 228 = .ok (.aload_n 1, 1) := by decide +kernel
theorem dL_law_229 : decode cL_law 229 = .ok (.aload_n 0, 1) := by decide +kernel
theorem dL_law_230 : decode cL_law 230 = .ok (.iload_n 3, 1) := by decide +kernel
theorem dL_law_231 : decode cL_law 231 = .ok (.iconst 1, 1) := by decide +kernel
theorem dL_law_232 : decode cL_law 232 = .ok (.iadd, 1) := by decide +kernel
theorem dL_law_233 : decode cL_law 233 = .ok (.iaload, 1) := by decide +kernel
theorem dL_law_234 : decode cL_law 234 = .ok (.invokevirtual 48, 3) := by decide +kernel
theorem dL_law_237 : decode cL_law 237 = .ok (.aload_n 2, 1) := by decide +kernel
theorem dL_law_238 : decode cL_law 238 = .ok (.aload_n 0, 1) := by decide +kernel
theorem dL_law_239 : decode cL_law 239 = .ok (.iload_n 3, 1) := by decide +kernel
theorem dL_law_240 : decode cL_law 240 = .ok (.iconst 1, 1) := by decide +kernel
theorem dL_law_241 : decode cL_law 241 = .ok (.iadd, 1) := by decide +kernel
theorem dL_law_242 : decode cL_law 242 = .ok (.iaload, 1) := by decide +kernel
theorem dL_law_243 : decode cL_law 243 = .ok (.invokevirtual 52, 3) := by decide +kernel
theorem dL_law_246 : decode cL_law 246 = .ok (.if_icmp .eq 106, 3) := by decide +kernel
theorem dL_law_226 : decode cL_law 226 = .ok (.iconst 0, 1) := by decide +kernel
theorem dL_law_227 : decode cL_law 227 = .ok (.ireturn, 1) := by decide +kernel
theorem dL_law_215 : decode cL_law 215 = .ok (.aload_n 1, 1) := by decide +kernel
theorem dL_law_216 : decode cL_law 216 = .ok (.invokevirtual 44, 3) := by decide +kernel
theorem dL_law_219 : decode cL_law 219 = .ok (.aload_n 2, 1) := by decide +kernel
theorem dL_law_220 : decode cL_law 220 = .ok (.invokevirtual 47, 3) := by decide +kernel
theorem dL_law_223 : decode cL_law 223 = .ok (.if_icmp .eq 129, 3) := by decide +kernel
theorem dL_law_213 : decode cL_law 213 = .ok (.iconst 0, 1) := by decide +kernel
theorem dL_law_214 : decode cL_law 214 = .ok (.ireturn, 1) := by decide +kernel
theorem dL_law_202 : decode cL_law 202 = .ok (.aload_n 1, 1) := by decide +kernel
theorem dL_law_203 : decode cL_law 203 = .ok (.invokevirtual 40, 3) := by decide +kernel
theorem dL_law_206 : decode cL_law 206 = .ok (.aload_n 2, 1) := by decide +kernel
theorem dL_law_207 : decode cL_law 207 = .ok (.invokevirtual 43, 3) := by decide +kernel
theorem dL_law_210 : decode cL_law 210 = .ok (.if_icmp .eq 142, 3) := by decide +kernel
theorem dL_law_200 : decode cL_law 200 = .ok (.iconst 0, 1) := by decide +kernel
theorem dL_law_201 : decode cL_law 201 = .ok (.ireturn, 1) := by decide +kernel
theorem dL_law_189 : decode cL_law 189 = .ok (.aload_n 1, 1) := by decide +kernel
theorem dL_law_190 : decode cL_law 190 = .ok (.invokevirtual 36, 3) := by decide +kernel
theorem dL_law_193 : decode cL_law 193 = .ok (.aload_n 2, 1) := by decide +kernel
theorem dL_law_194 : decode cL_law 194 = .ok (.invokevirtual 39, 3) := by decide +kernel
theorem dL_law_197 : decode cL_law 197 = .ok (.if_icmp .eq 155, 3) := by decide +kernel
theorem dL_law_187 : decode cL_law 187 = .ok (.iconst 0, 1) := by decide +kernel
theorem dL_law_188 : decode cL_law 188 = .ok (.ireturn, 1) := by decide +kernel
theorem dL_law_164 : decode cL_law 164 = .ok (.aload_n 1, 1) := by decide +kernel
theorem dL_law_165 : decode cL_law 165 = .ok (.aload_n 0, 1) := by decide +kernel
theorem dL_law_166 : decode cL_law 166 = .ok (.iload_n 3, 1) := by decide +kernel
theorem dL_law_167 : decode cL_law 167 = .ok (.iconst 1, 1) := by decide +kernel
theorem dL_law_168 : decode cL_law 168 = .ok (.iadd, 1) := by decide +kernel
theorem dL_law_169 : decode cL_law 169 = .ok (.iaload, 1) := by decide +kernel
theorem dL_law_170 : decode cL_law 170 = .ok (.i2c, 1) := by decide +kernel
theorem dL_law_171 : decode cL_law 171 = .ok (.invokevirtual 31, 3) := by decide +kernel
theorem dL_law_174 : decode cL_law 174 = .ok (.aload_n 2, 1) := by decide +kernel
theorem dL_law_175 : decode cL_law 175 = .ok (.aload_n 0, 1) := by decide +kernel
theorem dL_law_176 : decode cL_law 176 = .ok (.iload_n 3, 1) := by decide +kernel
theorem dL_law_177 : decode cL_law 177 = .ok (.iconst 1, 1) := by decide +kernel
theorem dL_law_178 : decode cL_law 178 = .ok (.iadd, 1) := by decide +kernel
theorem dL_law_179 : decode cL_law 179 = .ok (.iaload, 1) := by decide +kernel
theorem dL_law_180 : decode cL_law 180 = .ok (.i2c, 1) := by decide +kernel
theorem dL_law_181 : decode cL_law 181 = .ok (.invokevirtual 35, 3) := by decide +kernel
theorem dL_law_184 : decode cL_law 184 = .ok (.if_icmp .eq 168, 3) := by decide +kernel
theorem dL_law_153 : decode cL_law 153 = .ok (.aload_n 1, 1) := by decide +kernel
theorem dL_law_154 : decode cL_law 154 = .ok (.invokevirtual 27, 3) := by decide +kernel
theorem dL_law_157 : decode cL_law 157 = .ok (.aload_n 2, 1) := by decide +kernel
theorem dL_law_158 : decode cL_law 158 = .ok (.invokevirtual 30, 3) := by decide +kernel
theorem dL_law_161 : decode cL_law 161 = .ok (.goto 191, 3) := by decide +kernel
theorem dL_law_142 : decode cL_law 142 = .ok (.aload_n 1, 1) := by decide +kernel
theorem dL_law_143 : decode cL_law 143 = .ok (.invokevirtual 23, 3) := by decide +kernel
theorem dL_law_146 : decode cL_law 146 = .ok (.aload_n 2, 1) := by decide +kernel
theorem dL_law_147 : decode cL_law 147 = .ok (.invokevirtual 26, 3) := by decide +kernel
theorem dL_law_150 : decode cL_law 150 = .ok (.goto 202, 3) := by decide +kernel
theorem dL_law_140 : decode cL_law 140 = .ok (.iconst 0, 1) := by decide +kernel
theorem dL_law_141 : decode cL_law 141 = .ok (.ireturn, 1) := by decide +kernel
theorem dL_law_129 : decode cL_law 129 = .ok (.aload_n 1, 1) := by decide +kernel
theorem dL_law_130 : decode cL_law 130 = .ok (.invokevirtual 18, 3) := by decide +kernel
theorem dL_law_133 : decode cL_law 133 = .ok (.aload_n 2, 1) := by decide +kernel
theorem dL_law_134 : decode cL_law 134 = .ok (.invokevirtual 22, 3) := by decide +kernel
theorem dL_law_137 : decode cL_law 137 = .ok (.if_icmp .eq 215, 3) := by decide +kernel
theorem dL_law_127 : decode cL_law 127 = .ok (.iconst 0, 1) := by decide +kernel
theorem dL_law_128 : decode cL_law 128 = .ok (.ireturn, 1) := by decide +kernel
theorem dL_law_104 : decode cL_law 104 = .ok (.aload_n 1, 1) := by decide +kernel
theorem dL_law_105 : decode cL_law 105 = .ok (.aload_n 0, 1) := by decide +kernel
theorem dL_law_106 : decode cL_law 106 = .ok (.iload_n 3, 1) := by decide +kernel
theorem dL_law_107 : decode cL_law 107 = .ok (.iconst 1, 1) := by decide +kernel
theorem dL_law_108 : decode cL_law 108 = .ok (.iadd, 1) := by decide +kernel
theorem dL_law_109 : decode cL_law 109 = .ok (.iaload, 1) := by decide +kernel
theorem dL_law_110 : decode cL_law 110 = .ok (.i2c, 1) := by decide +kernel
theorem dL_law_111 : decode cL_law 111 = .ok (.invokevirtual 13, 3) := by decide +kernel
theorem dL_law_114 : decode cL_law 114 = .ok (.aload_n 2, 1) := by decide +kernel
theorem dL_law_115 : decode cL_law 115 = .ok (.aload_n 0, 1) := by decide +kernel
theorem dL_law_116 : decode cL_law 116 = .ok (.iload_n 3, 1) := by decide +kernel
theorem dL_law_117 : decode cL_law 117 = .ok (.iconst 1, 1) := by decide +kernel
theorem dL_law_118 : decode cL_law 118 = .ok (.iadd, 1) := by decide +kernel
theorem dL_law_119 : decode cL_law 119 = .ok (.iaload, 1) := by decide +kernel
theorem dL_law_120 : decode cL_law 120 = .ok (.i2c, 1) := by decide +kernel
theorem dL_law_121 : decode cL_law 121 = .ok (.invokevirtual 17, 3) := by decide +kernel
theorem dL_law_124 : decode cL_law 124 = .ok (.if_icmp .eq 228, 3) := by decide +kernel
theorem dL_law_26 : decode cL_law 26 = .ok (.aload_n 0, 1) := by decide +kernel
theorem dL_law_27 : decode cL_law 27 = .ok (.iload_n 3, 1) := by decide +kernel
theorem dL_law_28 : decode cL_law 28 = .ok (.iaload, 1) := by decide +kernel
theorem dL_law_29 : decode cL_law 29 = .ok (.bipush 15, 2) := by decide +kernel
theorem dL_law_31 : decode cL_law 31 = .ok (.iand, 1) := by decide +kernel
theorem dL_law_32 : decode cL_law 32 = .ok (.tableswitch 320 0 13 #[72, 97, 110, 121, 132, 157, 170, 183, 196, 219, 232, 245, 258, 271], 72) := by decide +kernel
theorem dL_law_18 : decode cL_law 18 = .ok (.iload_n 3, 1) := by decide +kernel
theorem dL_law_19 : decode cL_law 19 = .ok (.aload_n 0, 1) := by decide +kernel
theorem dL_law_20 : decode cL_law 20 = .ok (.arraylength, 1) := by decide +kernel
theorem dL_law_21 : decode cL_law 21 = .ok (.iconst 3, 1) := by decide +kernel
theorem dL_law_22 : decode cL_law 22 = .ok (.isub, 1) := by decide +kernel
theorem dL_law_23 : decode cL_law 23 = .ok (.if_icmp .gt 335, 3) := by decide +kernel
theorem dL_law_0 : decode cL_law 0 = .ok (.new 7, 3) := by decide +kernel
theorem dL_law_3 : decode cL_law 3 = .ok (.dup, 1) := by decide +kernel
theorem dL_law_4 : decode cL_law 4 = .ok (.invokespecial 9, 3) := by decide +kernel
theorem dL_law_7 : decode cL_law 7 = .ok (.astore_n 1, 1) := by decide +kernel
theorem dL_law_8 : decode cL_law 8 = .ok (.new 10, 3) := by decide +kernel
theorem dL_law_11 : decode cL_law 11 = .ok (.dup, 1) := by decide +kernel
theorem dL_law_12 : decode cL_law 12 = .ok (.invokespecial 12, 3) := by decide +kernel
theorem dL_law_15 : decode cL_law 15 = .ok (.astore_n 2, 1) := by decide +kernel
theorem dL_law_16 : decode cL_law 16 = .ok (.iconst 0, 1) := by decide +kernel
theorem dL_law_17 : decode cL_law 17 = .ok (.istore_n 3, 1) := by decide +kernel
-- L_law
abbrev wL_law : List Cond := kv_tb
abbrev SL_law (N : Nat) (xs : Nat → Int32) (pc : Nat) (F : kv_D) : Prop := kv_S cL_law 4 RL wL_law (some .boolean) false 7 166 (some (N, xs)) pc F
def fL_law_358 (N : Nat) (xs : Nat → Int32) (K : Nat → kv_D) : kv_D := o_const 1 (o_iret .boolean)
theorem sL_law_358 (N : Nat) (xs : Nat → Int32) {K : Nat → kv_D} (hK : ∀ pc, SL_law N xs pc (K pc)) : SL_law N xs 358 (fL_law_358 N xs K) := k_iconst dL_law_358 (by decide +kernel) (k_iret dL_law_359 rfl)
theorem nL_law_358 (N : Nat) (xs : Nat → Int32) : kv_cn (fun K => fL_law_358 N xs K) := cn_const 1 (cn_c _)
def fL_law_352 (N : Nat) (xs : Nat → Int32) (K : Nat → kv_D) : kv_D := o_iinc 3 3 ((K 18))
theorem sL_law_352 (N : Nat) (xs : Nat → Int32) {K : Nat → kv_D} (hK : ∀ pc, SL_law N xs pc (K pc)) : SL_law N xs 352 (fL_law_352 N xs K) := k_iinc dL_law_352 (by decide +kernel) (by decide) (k_goto dL_law_355 rfl (hK 18))
theorem nL_law_352 (N : Nat) (xs : Nat → Int32) : kv_cn (fun K => fL_law_352 N xs K) := cn_iinc 3 3 ((cn_K 18))
def fL_law_350 (N : Nat) (xs : Nat → Int32) (K : Nat → kv_D) : kv_D := o_const 0 (o_iret .boolean)
theorem sL_law_350 (N : Nat) (xs : Nat → Int32) {K : Nat → kv_D} (hK : ∀ pc, SL_law N xs pc (K pc)) : SL_law N xs 350 (fL_law_350 N xs K) := k_iconst dL_law_350 (by decide +kernel) (k_iret dL_law_351 rfl)
theorem nL_law_350 (N : Nat) (xs : Nat → Int32) : kv_cn (fun K => fL_law_350 N xs K) := cn_const 0 (cn_c _)
def fL_law_344 (N : Nat) (xs : Nat → Int32) (K : Nat → kv_D) : kv_D := o_callV 5 2 mX5_probe (o_iceq (fL_law_352 N xs K) (fL_law_350 N xs K))
theorem sL_law_344 (N : Nat) (xs : Nat → Int32) {K : Nat → kv_D} (hK : ∀ pc, SL_law N xs pc (K pc)) : SL_law N xs 344 (fL_law_344 N xs K) := k_callV (q := (RX5, TX5, 32)) dL_law_344 cX5_probe_ct rfl (kv_goodVL mw_596 mw_597 mw_598 mw_6 mw_599) (by decide +kernel) rfl (by decide) (by decide) (k_iceq dL_law_347 rfl (sL_law_352 N xs hK) (sL_law_350 N xs hK))
theorem nL_law_344 (N : Nat) (xs : Nat → Int32) : kv_cn (fun K => fL_law_344 N xs K) := cn_callV 5 2 mX5_probe (cn_iceq (nL_law_352 N xs) (nL_law_350 N xs))
def fL_law_343 (N : Nat) (xs : Nat → Int32) (K : Nat → kv_D) : kv_D := o_const 0 ((fL_law_344 N xs K))
theorem sL_law_343 (N : Nat) (xs : Nat → Int32) {K : Nat → kv_D} (hK : ∀ pc, SL_law N xs pc (K pc)) : SL_law N xs 343 (fL_law_343 N xs K) := k_iconst dL_law_343 (by decide +kernel) ((sL_law_344 N xs hK))
theorem nL_law_343 (N : Nat) (xs : Nat → Int32) : kv_cn (fun K => fL_law_343 N xs K) := cn_const 0 ((nL_law_344 N xs))
def fL_law_339 (N : Nat) (xs : Nat → Int32) (K : Nat → kv_D) : kv_D := o_const 1 ((fL_law_344 N xs K))
theorem sL_law_339 (N : Nat) (xs : Nat → Int32) {K : Nat → kv_D} (hK : ∀ pc, SL_law N xs pc (K pc)) : SL_law N xs 339 (fL_law_339 N xs K) := k_iconst dL_law_339 (by decide +kernel) (k_goto dL_law_340 rfl (sL_law_344 N xs hK))
theorem nL_law_339 (N : Nat) (xs : Nat → Int32) : kv_cn (fun K => fL_law_339 N xs K) := cn_const 1 ((nL_law_344 N xs))
def fL_law_322 (N : Nat) (xs : Nat → Int32) (K : Nat → kv_D) : kv_D := o_callV 4 2 mX4_probe (o_aload 2 (o_aload 0 (o_iload 3 (o_const 1 (o_iadd (o_sld N xs (o_aload 0 (o_iload 3 (o_const 2 (o_iadd (o_sld N xs (o_ifeq (fL_law_343 N xs K) (fL_law_339 N xs K)))))))))))))
theorem sL_law_322 (N : Nat) (xs : Nat → Int32) {K : Nat → kv_D} (hK : ∀ pc, SL_law N xs pc (K pc)) : SL_law N xs 322 (fL_law_322 N xs K) := k_callV (q := (RX4, TX4, 8)) dL_law_322 cX4_probe_ct rfl (kv_goodVL mw_409 mw_410 mw_411 mw_1 mw_412) (by decide +kernel) rfl (by decide) (by decide) (k_aload_n dL_law_325 rfl (k_aload_n dL_law_326 rfl (k_iload_n dL_law_327 rfl (k_iconst dL_law_328 (by decide +kernel) (k_iadd dL_law_329 (k_sld dL_law_330 rfl (k_aload_n dL_law_331 rfl (k_iload_n dL_law_332 rfl (k_iconst dL_law_333 (by decide +kernel) (k_iadd dL_law_334 (k_sld dL_law_335 rfl (k_ifeq dL_law_336 rfl (sL_law_343 N xs hK) (sL_law_339 N xs hK)))))))))))))
theorem nL_law_322 (N : Nat) (xs : Nat → Int32) : kv_cn (fun K => fL_law_322 N xs K) := cn_callV 4 2 mX4_probe (cn_aload 2 (cn_aload 0 (cn_iload 3 (cn_const 1 (cn_iadd (cn_sld N xs (cn_aload 0 (cn_iload 3 (cn_const 2 (cn_iadd (cn_sld N xs (cn_ifeq (nL_law_343 N xs) (nL_law_339 N xs)))))))))))))
def fL_law_321 (N : Nat) (xs : Nat → Int32) (K : Nat → kv_D) : kv_D := o_const 0 ((fL_law_322 N xs K))
theorem sL_law_321 (N : Nat) (xs : Nat → Int32) {K : Nat → kv_D} (hK : ∀ pc, SL_law N xs pc (K pc)) : SL_law N xs 321 (fL_law_321 N xs K) := k_iconst dL_law_321 (by decide +kernel) ((sL_law_322 N xs hK))
theorem nL_law_321 (N : Nat) (xs : Nat → Int32) : kv_cn (fun K => fL_law_321 N xs K) := cn_const 0 ((nL_law_322 N xs))
def fL_law_317 (N : Nat) (xs : Nat → Int32) (K : Nat → kv_D) : kv_D := o_const 1 ((fL_law_322 N xs K))
theorem sL_law_317 (N : Nat) (xs : Nat → Int32) {K : Nat → kv_D} (hK : ∀ pc, SL_law N xs pc (K pc)) : SL_law N xs 317 (fL_law_317 N xs K) := k_iconst dL_law_317 (by decide +kernel) (k_goto dL_law_318 rfl (sL_law_322 N xs hK))
theorem nL_law_317 (N : Nat) (xs : Nat → Int32) : kv_cn (fun K => fL_law_317 N xs K) := cn_const 1 ((nL_law_322 N xs))
def fL_law_303 (N : Nat) (xs : Nat → Int32) (K : Nat → kv_D) : kv_D := o_aload 1 (o_aload 0 (o_iload 3 (o_const 1 (o_iadd (o_sld N xs (o_aload 0 (o_iload 3 (o_const 2 (o_iadd (o_sld N xs (o_ifeq (fL_law_321 N xs K) (fL_law_317 N xs K))))))))))))
theorem sL_law_303 (N : Nat) (xs : Nat → Int32) {K : Nat → kv_D} (hK : ∀ pc, SL_law N xs pc (K pc)) : SL_law N xs 303 (fL_law_303 N xs K) := k_aload_n dL_law_303 rfl (k_aload_n dL_law_304 rfl (k_iload_n dL_law_305 rfl (k_iconst dL_law_306 (by decide +kernel) (k_iadd dL_law_307 (k_sld dL_law_308 rfl (k_aload_n dL_law_309 rfl (k_iload_n dL_law_310 rfl (k_iconst dL_law_311 (by decide +kernel) (k_iadd dL_law_312 (k_sld dL_law_313 rfl (k_ifeq dL_law_314 rfl (sL_law_321 N xs hK) (sL_law_317 N xs hK))))))))))))
theorem nL_law_303 (N : Nat) (xs : Nat → Int32) : kv_cn (fun K => fL_law_303 N xs K) := cn_aload 1 (cn_aload 0 (cn_iload 3 (cn_const 1 (cn_iadd (cn_sld N xs (cn_aload 0 (cn_iload 3 (cn_const 2 (cn_iadd (cn_sld N xs (cn_ifeq (nL_law_321 N xs) (nL_law_317 N xs))))))))))))
def fL_law_301 (N : Nat) (xs : Nat → Int32) (K : Nat → kv_D) : kv_D := o_const 0 (o_iret .boolean)
theorem sL_law_301 (N : Nat) (xs : Nat → Int32) {K : Nat → kv_D} (hK : ∀ pc, SL_law N xs pc (K pc)) : SL_law N xs 301 (fL_law_301 N xs K) := k_iconst dL_law_301 (by decide +kernel) (k_iret dL_law_302 rfl)
theorem nL_law_301 (N : Nat) (xs : Nat → Int32) : kv_cn (fun K => fL_law_301 N xs K) := cn_const 0 (cn_c _)
def fL_law_290 (N : Nat) (xs : Nat → Int32) (K : Nat → kv_D) : kv_D := o_aload 1 (o_callV 4 0 mX4_stuck (o_aload 2 (o_callV 5 0 mX5_stuck (o_iceq (fL_law_352 N xs K) (fL_law_301 N xs K)))))
theorem sL_law_290 (N : Nat) (xs : Nat → Int32) {K : Nat → kv_D} (hK : ∀ pc, SL_law N xs pc (K pc)) : SL_law N xs 290 (fL_law_290 N xs K) := k_aload_n dL_law_290 rfl (k_callV (q := (RX4, TX4, 8)) dL_law_291 cX4_stuck_ct rfl (kv_goodVL mw_405 mw_406 mw_407 mw_1 mw_408) (by decide +kernel) rfl (by decide) (by decide) (k_aload_n dL_law_294 rfl (k_callV (q := (RX5, TX5, 32)) dL_law_295 cX5_stuck_ct rfl (kv_goodVL mw_656 mw_657 mw_658 mw_6 mw_659) (by decide +kernel) rfl (by decide) (by decide) (k_iceq dL_law_298 rfl (sL_law_352 N xs hK) (sL_law_301 N xs hK)))))
theorem nL_law_290 (N : Nat) (xs : Nat → Int32) : kv_cn (fun K => fL_law_290 N xs K) := cn_aload 1 (cn_callV 4 0 mX4_stuck (cn_aload 2 (cn_callV 5 0 mX5_stuck (cn_iceq (nL_law_352 N xs) (nL_law_301 N xs)))))
def fL_law_288 (N : Nat) (xs : Nat → Int32) (K : Nat → kv_D) : kv_D := o_const 0 (o_iret .boolean)
theorem sL_law_288 (N : Nat) (xs : Nat → Int32) {K : Nat → kv_D} (hK : ∀ pc, SL_law N xs pc (K pc)) : SL_law N xs 288 (fL_law_288 N xs K) := k_iconst dL_law_288 (by decide +kernel) (k_iret dL_law_289 rfl)
theorem nL_law_288 (N : Nat) (xs : Nat → Int32) : kv_cn (fun K => fL_law_288 N xs K) := cn_const 0 (cn_c _)
def fL_law_277 (N : Nat) (xs : Nat → Int32) (K : Nat → kv_D) : kv_D := o_aload 1 (o_callV 4 0 mX4_latest (o_aload 2 (o_callV 5 0 mX5_latest (o_iceq (fL_law_352 N xs K) (fL_law_288 N xs K)))))
theorem sL_law_277 (N : Nat) (xs : Nat → Int32) {K : Nat → kv_D} (hK : ∀ pc, SL_law N xs pc (K pc)) : SL_law N xs 277 (fL_law_277 N xs K) := k_aload_n dL_law_277 rfl (k_callV (q := (RX4, TX4, 8)) dL_law_278 cX4_latest_ct rfl (kv_goodVL mw_401 mw_402 mw_403 mw_1 mw_404) (by decide +kernel) rfl (by decide) (by decide) (k_aload_n dL_law_281 rfl (k_callV (q := (RX5, TX5, 32)) dL_law_282 cX5_latest_ct rfl (kv_goodVL mw_652 mw_653 mw_654 mw_6 mw_655) (by decide +kernel) rfl (by decide) (by decide) (k_iceq dL_law_285 rfl (sL_law_352 N xs hK) (sL_law_288 N xs hK)))))
theorem nL_law_277 (N : Nat) (xs : Nat → Int32) : kv_cn (fun K => fL_law_277 N xs K) := cn_aload 1 (cn_callV 4 0 mX4_latest (cn_aload 2 (cn_callV 5 0 mX5_latest (cn_iceq (nL_law_352 N xs) (nL_law_288 N xs)))))
def fL_law_275 (N : Nat) (xs : Nat → Int32) (K : Nat → kv_D) : kv_D := o_const 0 (o_iret .boolean)
theorem sL_law_275 (N : Nat) (xs : Nat → Int32) {K : Nat → kv_D} (hK : ∀ pc, SL_law N xs pc (K pc)) : SL_law N xs 275 (fL_law_275 N xs K) := k_iconst dL_law_275 (by decide +kernel) (k_iret dL_law_276 rfl)
theorem nL_law_275 (N : Nat) (xs : Nat → Int32) : kv_cn (fun K => fL_law_275 N xs K) := cn_const 0 (cn_c _)
def fL_law_264 (N : Nat) (xs : Nat → Int32) (K : Nat → kv_D) : kv_D := o_aload 1 (o_callV 4 0 mX4_applied (o_aload 2 (o_callV 5 0 mX5_applied (o_iceq (fL_law_352 N xs K) (fL_law_275 N xs K)))))
theorem sL_law_264 (N : Nat) (xs : Nat → Int32) {K : Nat → kv_D} (hK : ∀ pc, SL_law N xs pc (K pc)) : SL_law N xs 264 (fL_law_264 N xs K) := k_aload_n dL_law_264 rfl (k_callV (q := (RX4, TX4, 8)) dL_law_265 cX4_applied_ct rfl (kv_goodVL mw_397 mw_398 mw_399 mw_1 mw_400) (by decide +kernel) rfl (by decide) (by decide) (k_aload_n dL_law_268 rfl (k_callV (q := (RX5, TX5, 32)) dL_law_269 cX5_applied_ct rfl (kv_goodVL mw_648 mw_649 mw_650 mw_6 mw_651) (by decide +kernel) rfl (by decide) (by decide) (k_iceq dL_law_272 rfl (sL_law_352 N xs hK) (sL_law_275 N xs hK)))))
theorem nL_law_264 (N : Nat) (xs : Nat → Int32) : kv_cn (fun K => fL_law_264 N xs K) := cn_aload 1 (cn_callV 4 0 mX4_applied (cn_aload 2 (cn_callV 5 0 mX5_applied (cn_iceq (nL_law_352 N xs) (nL_law_275 N xs)))))
def fL_law_262 (N : Nat) (xs : Nat → Int32) (K : Nat → kv_D) : kv_D := o_const 0 (o_iret .boolean)
theorem sL_law_262 (N : Nat) (xs : Nat → Int32) {K : Nat → kv_D} (hK : ∀ pc, SL_law N xs pc (K pc)) : SL_law N xs 262 (fL_law_262 N xs K) := k_iconst dL_law_262 (by decide +kernel) (k_iret dL_law_263 rfl)
theorem nL_law_262 (N : Nat) (xs : Nat → Int32) : kv_cn (fun K => fL_law_262 N xs K) := cn_const 0 (cn_c _)
def fL_law_251 (N : Nat) (xs : Nat → Int32) (K : Nat → kv_D) : kv_D := o_aload 1 (o_callV 4 0 mX4_cursor (o_aload 2 (o_callV 5 0 mX5_cursor (o_iceq (fL_law_352 N xs K) (fL_law_262 N xs K)))))
theorem sL_law_251 (N : Nat) (xs : Nat → Int32) {K : Nat → kv_D} (hK : ∀ pc, SL_law N xs pc (K pc)) : SL_law N xs 251 (fL_law_251 N xs K) := k_aload_n dL_law_251 rfl (k_callV (q := (RX4, TX4, 8)) dL_law_252 cX4_cursor_ct rfl (kv_goodVL mw_393 mw_394 mw_395 mw_1 mw_396) (by decide +kernel) rfl (by decide) (by decide) (k_aload_n dL_law_255 rfl (k_callV (q := (RX5, TX5, 32)) dL_law_256 cX5_cursor_ct rfl (kv_goodVL mw_644 mw_645 mw_646 mw_6 mw_647) (by decide +kernel) rfl (by decide) (by decide) (k_iceq dL_law_259 rfl (sL_law_352 N xs hK) (sL_law_262 N xs hK)))))
theorem nL_law_251 (N : Nat) (xs : Nat → Int32) : kv_cn (fun K => fL_law_251 N xs K) := cn_aload 1 (cn_callV 4 0 mX4_cursor (cn_aload 2 (cn_callV 5 0 mX5_cursor (cn_iceq (nL_law_352 N xs) (nL_law_262 N xs)))))
def fL_law_249 (N : Nat) (xs : Nat → Int32) (K : Nat → kv_D) : kv_D := o_const 0 (o_iret .boolean)
theorem sL_law_249 (N : Nat) (xs : Nat → Int32) {K : Nat → kv_D} (hK : ∀ pc, SL_law N xs pc (K pc)) : SL_law N xs 249 (fL_law_249 N xs K) := k_iconst dL_law_249 (by decide +kernel) (k_iret dL_law_250 rfl)
theorem nL_law_249 (N : Nat) (xs : Nat → Int32) : kv_cn (fun K => fL_law_249 N xs K) := cn_const 0 (cn_c _)
def fL_law_228 (N : Nat) (xs : Nat → Int32) (K : Nat → kv_D) : kv_D := o_aload 1 (o_aload 0 (o_iload 3 (o_const 1 (o_iadd (o_sld N xs (o_callV 4 1 mX4_letter (o_aload 2 (o_aload 0 (o_iload 3 (o_const 1 (o_iadd (o_sld N xs (o_callV 5 1 mX5_letter (o_iceq (fL_law_352 N xs K) (fL_law_249 N xs K)))))))))))))))
theorem sL_law_228 (N : Nat) (xs : Nat → Int32) {K : Nat → kv_D} (hK : ∀ pc, SL_law N xs pc (K pc)) : SL_law N xs 228 (fL_law_228 N xs K) := k_aload_n dL_law_228 rfl (k_aload_n dL_law_229 rfl (k_iload_n dL_law_230 rfl (k_iconst dL_law_231 (by decide +kernel) (k_iadd dL_law_232 (k_sld dL_law_233 rfl (k_callV (q := (RX4, TX4, 8)) dL_law_234 cX4_letter_ct rfl (kv_goodVL mw_389 mw_390 mw_391 mw_1 mw_392) (by decide +kernel) rfl (by decide) (by decide) (k_aload_n dL_law_237 rfl (k_aload_n dL_law_238 rfl (k_iload_n dL_law_239 rfl (k_iconst dL_law_240 (by decide +kernel) (k_iadd dL_law_241 (k_sld dL_law_242 rfl (k_callV (q := (RX5, TX5, 32)) dL_law_243 cX5_letter_ct rfl (kv_goodVL mw_640 mw_641 mw_642 mw_6 mw_643) (by decide +kernel) rfl (by decide) (by decide) (k_iceq dL_law_246 rfl (sL_law_352 N xs hK) (sL_law_249 N xs hK)))))))))))))))
theorem nL_law_228 (N : Nat) (xs : Nat → Int32) : kv_cn (fun K => fL_law_228 N xs K) := cn_aload 1 (cn_aload 0 (cn_iload 3 (cn_const 1 (cn_iadd (cn_sld N xs (cn_callV 4 1 mX4_letter (cn_aload 2 (cn_aload 0 (cn_iload 3 (cn_const 1 (cn_iadd (cn_sld N xs (cn_callV 5 1 mX5_letter (cn_iceq (nL_law_352 N xs) (nL_law_249 N xs)))))))))))))))
def fL_law_226 (N : Nat) (xs : Nat → Int32) (K : Nat → kv_D) : kv_D := o_const 0 (o_iret .boolean)
theorem sL_law_226 (N : Nat) (xs : Nat → Int32) {K : Nat → kv_D} (hK : ∀ pc, SL_law N xs pc (K pc)) : SL_law N xs 226 (fL_law_226 N xs K) := k_iconst dL_law_226 (by decide +kernel) (k_iret dL_law_227 rfl)
theorem nL_law_226 (N : Nat) (xs : Nat → Int32) : kv_cn (fun K => fL_law_226 N xs K) := cn_const 0 (cn_c _)
def fL_law_215 (N : Nat) (xs : Nat → Int32) (K : Nat → kv_D) : kv_D := o_aload 1 (o_callV 4 0 mX4_length (o_aload 2 (o_callV 5 0 mX5_length (o_iceq (fL_law_352 N xs K) (fL_law_226 N xs K)))))
theorem sL_law_215 (N : Nat) (xs : Nat → Int32) {K : Nat → kv_D} (hK : ∀ pc, SL_law N xs pc (K pc)) : SL_law N xs 215 (fL_law_215 N xs K) := k_aload_n dL_law_215 rfl (k_callV (q := (RX4, TX4, 8)) dL_law_216 cX4_length_ct rfl (kv_goodVL mw_385 mw_386 mw_387 mw_1 mw_388) (by decide +kernel) rfl (by decide) (by decide) (k_aload_n dL_law_219 rfl (k_callV (q := (RX5, TX5, 32)) dL_law_220 cX5_length_ct rfl (kv_goodVL mw_636 mw_637 mw_638 mw_6 mw_639) (by decide +kernel) rfl (by decide) (by decide) (k_iceq dL_law_223 rfl (sL_law_352 N xs hK) (sL_law_226 N xs hK)))))
theorem nL_law_215 (N : Nat) (xs : Nat → Int32) : kv_cn (fun K => fL_law_215 N xs K) := cn_aload 1 (cn_callV 4 0 mX4_length (cn_aload 2 (cn_callV 5 0 mX5_length (cn_iceq (nL_law_352 N xs) (nL_law_226 N xs)))))
def fL_law_213 (N : Nat) (xs : Nat → Int32) (K : Nat → kv_D) : kv_D := o_const 0 (o_iret .boolean)
theorem sL_law_213 (N : Nat) (xs : Nat → Int32) {K : Nat → kv_D} (hK : ∀ pc, SL_law N xs pc (K pc)) : SL_law N xs 213 (fL_law_213 N xs K) := k_iconst dL_law_213 (by decide +kernel) (k_iret dL_law_214 rfl)
theorem nL_law_213 (N : Nat) (xs : Nat → Int32) : kv_cn (fun K => fL_law_213 N xs K) := cn_const 0 (cn_c _)
def fL_law_202 (N : Nat) (xs : Nat → Int32) (K : Nat → kv_D) : kv_D := o_aload 1 (o_callV 4 0 mX4_finish (o_aload 2 (o_callV 5 0 mX5_finish (o_iceq (fL_law_352 N xs K) (fL_law_213 N xs K)))))
theorem sL_law_202 (N : Nat) (xs : Nat → Int32) {K : Nat → kv_D} (hK : ∀ pc, SL_law N xs pc (K pc)) : SL_law N xs 202 (fL_law_202 N xs K) := k_aload_n dL_law_202 rfl (k_callV (q := (RX4, TX4, 8)) dL_law_203 cX4_finish_ct rfl (kv_goodVL mw_381 mw_382 mw_383 mw_1 mw_384) (by decide +kernel) rfl (by decide) (by decide) (k_aload_n dL_law_206 rfl (k_callV (q := (RX5, TX5, 32)) dL_law_207 cX5_finish_ct rfl (kv_goodVL mw_632 mw_633 mw_634 mw_6 mw_635) (by decide +kernel) rfl (by decide) (by decide) (k_iceq dL_law_210 rfl (sL_law_352 N xs hK) (sL_law_213 N xs hK)))))
theorem nL_law_202 (N : Nat) (xs : Nat → Int32) : kv_cn (fun K => fL_law_202 N xs K) := cn_aload 1 (cn_callV 4 0 mX4_finish (cn_aload 2 (cn_callV 5 0 mX5_finish (cn_iceq (nL_law_352 N xs) (nL_law_213 N xs)))))
def fL_law_200 (N : Nat) (xs : Nat → Int32) (K : Nat → kv_D) : kv_D := o_const 0 (o_iret .boolean)
theorem sL_law_200 (N : Nat) (xs : Nat → Int32) {K : Nat → kv_D} (hK : ∀ pc, SL_law N xs pc (K pc)) : SL_law N xs 200 (fL_law_200 N xs K) := k_iconst dL_law_200 (by decide +kernel) (k_iret dL_law_201 rfl)
theorem nL_law_200 (N : Nat) (xs : Nat → Int32) : kv_cn (fun K => fL_law_200 N xs K) := cn_const 0 (cn_c _)
def fL_law_189 (N : Nat) (xs : Nat → Int32) (K : Nat → kv_D) : kv_D := o_aload 1 (o_callV 4 0 mX4_settle (o_aload 2 (o_callV 5 0 mX5_settle (o_iceq (fL_law_352 N xs K) (fL_law_200 N xs K)))))
theorem sL_law_189 (N : Nat) (xs : Nat → Int32) {K : Nat → kv_D} (hK : ∀ pc, SL_law N xs pc (K pc)) : SL_law N xs 189 (fL_law_189 N xs K) := k_aload_n dL_law_189 rfl (k_callV (q := (RX4, TX4, 8)) dL_law_190 cX4_settle_ct rfl (kv_goodVL mw_322 mw_323 mw_324 mw_1 mw_325) (by decide +kernel) rfl (by decide) (by decide) (k_aload_n dL_law_193 rfl (k_callV (q := (RX5, TX5, 32)) dL_law_194 cX5_settle_ct rfl (kv_goodVL mw_616 mw_617 mw_618 mw_6 mw_619) (by decide +kernel) rfl (by decide) (by decide) (k_iceq dL_law_197 rfl (sL_law_352 N xs hK) (sL_law_200 N xs hK)))))
theorem nL_law_189 (N : Nat) (xs : Nat → Int32) : kv_cn (fun K => fL_law_189 N xs K) := cn_aload 1 (cn_callV 4 0 mX4_settle (cn_aload 2 (cn_callV 5 0 mX5_settle (cn_iceq (nL_law_352 N xs) (nL_law_200 N xs)))))
def fL_law_187 (N : Nat) (xs : Nat → Int32) (K : Nat → kv_D) : kv_D := o_const 0 (o_iret .boolean)
theorem sL_law_187 (N : Nat) (xs : Nat → Int32) {K : Nat → kv_D} (hK : ∀ pc, SL_law N xs pc (K pc)) : SL_law N xs 187 (fL_law_187 N xs K) := k_iconst dL_law_187 (by decide +kernel) (k_iret dL_law_188 rfl)
theorem nL_law_187 (N : Nat) (xs : Nat → Int32) : kv_cn (fun K => fL_law_187 N xs K) := cn_const 0 (cn_c _)
def fL_law_164 (N : Nat) (xs : Nat → Int32) (K : Nat → kv_D) : kv_D := o_aload 1 (o_aload 0 (o_iload 3 (o_const 1 (o_iadd (o_sld N xs (o_i2c (o_callV 4 1 mX4_write (o_aload 2 (o_aload 0 (o_iload 3 (o_const 1 (o_iadd (o_sld N xs (o_i2c (o_callV 5 1 mX5_write (o_iceq (fL_law_352 N xs K) (fL_law_187 N xs K)))))))))))))))))
theorem sL_law_164 (N : Nat) (xs : Nat → Int32) {K : Nat → kv_D} (hK : ∀ pc, SL_law N xs pc (K pc)) : SL_law N xs 164 (fL_law_164 N xs K) := k_aload_n dL_law_164 rfl (k_aload_n dL_law_165 rfl (k_iload_n dL_law_166 rfl (k_iconst dL_law_167 (by decide +kernel) (k_iadd dL_law_168 (k_sld dL_law_169 rfl (k_i2c dL_law_170 (k_callV (q := (RX4, TX4, 8)) dL_law_171 cX4_write_ct rfl (kv_goodVL mw_313 mw_314 mw_315 mw_1 mw_316) (by decide +kernel) rfl (by decide) (by decide) (k_aload_n dL_law_174 rfl (k_aload_n dL_law_175 rfl (k_iload_n dL_law_176 rfl (k_iconst dL_law_177 (by decide +kernel) (k_iadd dL_law_178 (k_sld dL_law_179 rfl (k_i2c dL_law_180 (k_callV (q := (RX5, TX5, 32)) dL_law_181 cX5_write_ct rfl (kv_goodVL mw_592 mw_593 mw_594 mw_6 mw_595) (by decide +kernel) rfl (by decide) (by decide) (k_iceq dL_law_184 rfl (sL_law_352 N xs hK) (sL_law_187 N xs hK)))))))))))))))))
theorem nL_law_164 (N : Nat) (xs : Nat → Int32) : kv_cn (fun K => fL_law_164 N xs K) := cn_aload 1 (cn_aload 0 (cn_iload 3 (cn_const 1 (cn_iadd (cn_sld N xs (cn_i2c (cn_callV 4 1 mX4_write (cn_aload 2 (cn_aload 0 (cn_iload 3 (cn_const 1 (cn_iadd (cn_sld N xs (cn_i2c (cn_callV 5 1 mX5_write (cn_iceq (nL_law_352 N xs) (nL_law_187 N xs)))))))))))))))))
def fL_law_153 (N : Nat) (xs : Nat → Int32) (K : Nat → kv_D) : kv_D := o_aload 1 (o_callV 4 0 mX4_restart (o_aload 2 (o_callV 5 0 mX5_restart ((fL_law_352 N xs K)))))
theorem sL_law_153 (N : Nat) (xs : Nat → Int32) {K : Nat → kv_D} (hK : ∀ pc, SL_law N xs pc (K pc)) : SL_law N xs 153 (fL_law_153 N xs K) := k_aload_n dL_law_153 rfl (k_callV (q := (RX4, TX4, 8)) dL_law_154 cX4_restart_ct rfl (kv_goodVL mw_312 mw_305 mw_306 mw_1 mw_307) (by decide +kernel) rfl (by decide) (by decide) (k_aload_n dL_law_157 rfl (k_callV (q := (RX5, TX5, 32)) dL_law_158 cX5_restart_ct rfl (kv_goodVL mw_591 mw_588 mw_589 mw_6 mw_590) (by decide +kernel) rfl (by decide) (by decide) (k_goto dL_law_161 rfl (sL_law_352 N xs hK)))))
theorem nL_law_153 (N : Nat) (xs : Nat → Int32) : kv_cn (fun K => fL_law_153 N xs K) := cn_aload 1 (cn_callV 4 0 mX4_restart (cn_aload 2 (cn_callV 5 0 mX5_restart ((nL_law_352 N xs)))))
def fL_law_142 (N : Nat) (xs : Nat → Int32) (K : Nat → kv_D) : kv_D := o_aload 1 (o_callV 4 0 mX4_forget (o_aload 2 (o_callV 5 0 mX5_forget ((fL_law_352 N xs K)))))
theorem sL_law_142 (N : Nat) (xs : Nat → Int32) {K : Nat → kv_D} (hK : ∀ pc, SL_law N xs pc (K pc)) : SL_law N xs 142 (fL_law_142 N xs K) := k_aload_n dL_law_142 rfl (k_callV (q := (RX4, TX4, 8)) dL_law_143 cX4_forget_ct rfl (kv_goodVL mw_299 mw_300 mw_301 mw_1 mw_302) (by decide +kernel) rfl (by decide) (by decide) (k_aload_n dL_law_146 rfl (k_callV (q := (RX5, TX5, 32)) dL_law_147 cX5_forget_ct rfl (kv_goodVL mw_583 mw_584 mw_585 mw_6 mw_586) (by decide +kernel) rfl (by decide) (by decide) (k_goto dL_law_150 rfl (sL_law_352 N xs hK)))))
theorem nL_law_142 (N : Nat) (xs : Nat → Int32) : kv_cn (fun K => fL_law_142 N xs K) := cn_aload 1 (cn_callV 4 0 mX4_forget (cn_aload 2 (cn_callV 5 0 mX5_forget ((nL_law_352 N xs)))))
def fL_law_140 (N : Nat) (xs : Nat → Int32) (K : Nat → kv_D) : kv_D := o_const 0 (o_iret .boolean)
theorem sL_law_140 (N : Nat) (xs : Nat → Int32) {K : Nat → kv_D} (hK : ∀ pc, SL_law N xs pc (K pc)) : SL_law N xs 140 (fL_law_140 N xs K) := k_iconst dL_law_140 (by decide +kernel) (k_iret dL_law_141 rfl)
theorem nL_law_140 (N : Nat) (xs : Nat → Int32) : kv_cn (fun K => fL_law_140 N xs K) := cn_const 0 (cn_c _)
def fL_law_129 (N : Nat) (xs : Nat → Int32) (K : Nat → kv_D) : kv_D := o_aload 1 (o_callV 4 0 mX4_rules (o_aload 2 (o_callV 5 0 mX5_rules (o_iceq (fL_law_352 N xs K) (fL_law_140 N xs K)))))
theorem sL_law_129 (N : Nat) (xs : Nat → Int32) {K : Nat → kv_D} (hK : ∀ pc, SL_law N xs pc (K pc)) : SL_law N xs 129 (fL_law_129 N xs K) := k_aload_n dL_law_129 rfl (k_callV (q := (RX4, TX4, 8)) dL_law_130 cX4_rules_ct rfl (kv_goodVL mw_295 mw_296 mw_297 mw_1 mw_298) (by decide +kernel) rfl (by decide) (by decide) (k_aload_n dL_law_133 rfl (k_callV (q := (RX5, TX5, 32)) dL_law_134 cX5_rules_ct rfl (kv_goodVL mw_579 mw_580 mw_581 mw_6 mw_582) (by decide +kernel) rfl (by decide) (by decide) (k_iceq dL_law_137 rfl (sL_law_352 N xs hK) (sL_law_140 N xs hK)))))
theorem nL_law_129 (N : Nat) (xs : Nat → Int32) : kv_cn (fun K => fL_law_129 N xs K) := cn_aload 1 (cn_callV 4 0 mX4_rules (cn_aload 2 (cn_callV 5 0 mX5_rules (cn_iceq (nL_law_352 N xs) (nL_law_140 N xs)))))
def fL_law_127 (N : Nat) (xs : Nat → Int32) (K : Nat → kv_D) : kv_D := o_const 0 (o_iret .boolean)
theorem sL_law_127 (N : Nat) (xs : Nat → Int32) {K : Nat → kv_D} (hK : ∀ pc, SL_law N xs pc (K pc)) : SL_law N xs 127 (fL_law_127 N xs K) := k_iconst dL_law_127 (by decide +kernel) (k_iret dL_law_128 rfl)
theorem nL_law_127 (N : Nat) (xs : Nat → Int32) : kv_cn (fun K => fL_law_127 N xs K) := cn_const 0 (cn_c _)
def fL_law_104 (N : Nat) (xs : Nat → Int32) (K : Nat → kv_D) : kv_D := o_aload 1 (o_aload 0 (o_iload 3 (o_const 1 (o_iadd (o_sld N xs (o_i2c (o_callV 4 1 mX4_code (o_aload 2 (o_aload 0 (o_iload 3 (o_const 1 (o_iadd (o_sld N xs (o_i2c (o_callV 5 1 mX5_code (o_iceq (fL_law_352 N xs K) (fL_law_127 N xs K)))))))))))))))))
theorem sL_law_104 (N : Nat) (xs : Nat → Int32) {K : Nat → kv_D} (hK : ∀ pc, SL_law N xs pc (K pc)) : SL_law N xs 104 (fL_law_104 N xs K) := k_aload_n dL_law_104 rfl (k_aload_n dL_law_105 rfl (k_iload_n dL_law_106 rfl (k_iconst dL_law_107 (by decide +kernel) (k_iadd dL_law_108 (k_sld dL_law_109 rfl (k_i2c dL_law_110 (k_callV (q := (RX4, TX4, 8)) dL_law_111 cX4_code_ct rfl (kv_goodVL mw_178 mw_179 mw_180 mw_1 mw_181) (by decide +kernel) rfl (by decide) (by decide) (k_aload_n dL_law_114 rfl (k_aload_n dL_law_115 rfl (k_iload_n dL_law_116 rfl (k_iconst dL_law_117 (by decide +kernel) (k_iadd dL_law_118 (k_sld dL_law_119 rfl (k_i2c dL_law_120 (k_callV (q := (RX5, TX5, 32)) dL_law_121 cX5_code_ct rfl (kv_goodVL mw_516 mw_517 mw_518 mw_6 mw_519) (by decide +kernel) rfl (by decide) (by decide) (k_iceq dL_law_124 rfl (sL_law_352 N xs hK) (sL_law_127 N xs hK)))))))))))))))))
theorem nL_law_104 (N : Nat) (xs : Nat → Int32) : kv_cn (fun K => fL_law_104 N xs K) := cn_aload 1 (cn_aload 0 (cn_iload 3 (cn_const 1 (cn_iadd (cn_sld N xs (cn_i2c (cn_callV 4 1 mX4_code (cn_aload 2 (cn_aload 0 (cn_iload 3 (cn_const 1 (cn_iadd (cn_sld N xs (cn_i2c (cn_callV 5 1 mX5_code (cn_iceq (nL_law_352 N xs) (nL_law_127 N xs)))))))))))))))))
def fL_law_26 (N : Nat) (xs : Nat → Int32) (K : Nat → kv_D) : kv_D := o_aload 0 (o_iload 3 (o_sld N xs (o_const 15 (o_iand (o_tsw 0 [(fL_law_104 N xs K), (fL_law_129 N xs K), (fL_law_142 N xs K), (fL_law_153 N xs K), (fL_law_164 N xs K), (fL_law_189 N xs K), (fL_law_202 N xs K), (fL_law_215 N xs K), (fL_law_228 N xs K), (fL_law_251 N xs K), (fL_law_264 N xs K), (fL_law_277 N xs K), (fL_law_290 N xs K), (fL_law_303 N xs K)] (fL_law_352 N xs K))))))
theorem sL_law_26 (N : Nat) (xs : Nat → Int32) {K : Nat → kv_D} (hK : ∀ pc, SL_law N xs pc (K pc)) : SL_law N xs 26 (fL_law_26 N xs K) := k_aload_n dL_law_26 rfl (k_iload_n dL_law_27 rfl (k_sld dL_law_28 rfl (k_bipush dL_law_29 (by decide +kernel) (k_iand dL_law_31 (k_tsw dL_law_32 rfl rfl (sL_law_352 N xs hK) (fun i F h => match i, F, h with
    | 0, F, h => by cases h; exact ⟨_, 104, rfl, rfl, (sL_law_104 N xs hK)⟩
    | 1, F, h => by cases h; exact ⟨_, 129, rfl, rfl, (sL_law_129 N xs hK)⟩
    | 2, F, h => by cases h; exact ⟨_, 142, rfl, rfl, (sL_law_142 N xs hK)⟩
    | 3, F, h => by cases h; exact ⟨_, 153, rfl, rfl, (sL_law_153 N xs hK)⟩
    | 4, F, h => by cases h; exact ⟨_, 164, rfl, rfl, (sL_law_164 N xs hK)⟩
    | 5, F, h => by cases h; exact ⟨_, 189, rfl, rfl, (sL_law_189 N xs hK)⟩
    | 6, F, h => by cases h; exact ⟨_, 202, rfl, rfl, (sL_law_202 N xs hK)⟩
    | 7, F, h => by cases h; exact ⟨_, 215, rfl, rfl, (sL_law_215 N xs hK)⟩
    | 8, F, h => by cases h; exact ⟨_, 228, rfl, rfl, (sL_law_228 N xs hK)⟩
    | 9, F, h => by cases h; exact ⟨_, 251, rfl, rfl, (sL_law_251 N xs hK)⟩
    | 10, F, h => by cases h; exact ⟨_, 264, rfl, rfl, (sL_law_264 N xs hK)⟩
    | 11, F, h => by cases h; exact ⟨_, 277, rfl, rfl, (sL_law_277 N xs hK)⟩
    | 12, F, h => by cases h; exact ⟨_, 290, rfl, rfl, (sL_law_290 N xs hK)⟩
    | 13, F, h => by cases h; exact ⟨_, 303, rfl, rfl, (sL_law_303 N xs hK)⟩
    | n + 14, F, h => by simp at h))))))
theorem nL_law_26 (N : Nat) (xs : Nat → Int32) : kv_cn (fun K => fL_law_26 N xs K) := cn_aload 0 (cn_iload 3 (cn_sld N xs (cn_const 15 (cn_iand (cn_tsw 0 (Gs := [(fun K => (fL_law_104 N xs K)), (fun K => (fL_law_129 N xs K)), (fun K => (fL_law_142 N xs K)), (fun K => (fL_law_153 N xs K)), (fun K => (fL_law_164 N xs K)), (fun K => (fL_law_189 N xs K)), (fun K => (fL_law_202 N xs K)), (fun K => (fL_law_215 N xs K)), (fun K => (fL_law_228 N xs K)), (fun K => (fL_law_251 N xs K)), (fun K => (fL_law_264 N xs K)), (fun K => (fL_law_277 N xs K)), (fun K => (fL_law_290 N xs K)), (fun K => (fL_law_303 N xs K))]) (by intro G hG; simp only [List.mem_cons, List.not_mem_nil, or_false] at hG; rcases hG with rfl | rfl | rfl | rfl | rfl | rfl | rfl | rfl | rfl | rfl | rfl | rfl | rfl | rfl; exact (nL_law_104 N xs); exact (nL_law_129 N xs); exact (nL_law_142 N xs); exact (nL_law_153 N xs); exact (nL_law_164 N xs); exact (nL_law_189 N xs); exact (nL_law_202 N xs); exact (nL_law_215 N xs); exact (nL_law_228 N xs); exact (nL_law_251 N xs); exact (nL_law_264 N xs); exact (nL_law_277 N xs); exact (nL_law_290 N xs); exact (nL_law_303 N xs)) (nL_law_352 N xs))))))
def fL_law_18 (N : Nat) (xs : Nat → Int32) (K : Nat → kv_D) : kv_D := o_iload 3 (o_aload 0 (o_slen N (o_const 3 (o_isub (o_icgt (fL_law_358 N xs K) (fL_law_26 N xs K))))))
theorem sL_law_18 (N : Nat) (xs : Nat → Int32) {K : Nat → kv_D} (hK : ∀ pc, SL_law N xs pc (K pc)) : SL_law N xs 18 (fL_law_18 N xs K) := k_iload_n dL_law_18 rfl (k_aload_n dL_law_19 rfl (k_slen (xs := xs) dL_law_20 rfl (k_iconst dL_law_21 (by decide +kernel) (k_isub dL_law_22 (k_icgt dL_law_23 rfl (sL_law_358 N xs hK) (sL_law_26 N xs hK))))))
theorem nL_law_18 (N : Nat) (xs : Nat → Int32) : kv_cn (fun K => fL_law_18 N xs K) := cn_iload 3 (cn_aload 0 (cn_slen N (cn_const 3 (cn_isub (cn_icgt (nL_law_358 N xs) (nL_law_26 N xs))))))
def fL_law_0 (N : Nat) (xs : Nat → Int32) (K : Nat → kv_D) : kv_D := o_new 4 8 [.null, .null, .int 0, .null, .null, .int 0, .int 0, .int 0] (o_dup (o_callI 0 mX4_init (o_astore 1 (o_new 5 32 [.int 0, .null, .null, .int 0, .null, .null, .null, .null, .int 0, .int 0, .int 0, .int 0, .null, .null, .null, .null, .null, .null, .null, .null, .null, .null, .int 0, .null, .null, .int 0, .int 0, .int 0, .int 0, .int 0, .null, .null] (o_dup (o_callI 0 mX5_init (o_astore 2 (o_const 0 (o_istore 3 ((K 18)))))))))))
theorem sL_law_0 (N : Nat) (xs : Nat → Int32) {K : Nat → kv_D} (hK : ∀ pc, SL_law N xs pc (K pc)) : SL_law N xs 0 (fL_law_0 N xs K) := k_new (C := RX4) (T := TX4) (index := 7) (fs := [.null, .null, .int 0, .null, .null, .int 0, .int 0, .int 0]) dL_law_0 rfl inX4 tyX4 tyX4_ok mw_9 mw_10 mw_1 (by decide +kernel) (fun _ _ => rfl) (k_dup dL_law_3 (k_callI dL_law_4 cX4_init_ct rfl (kv_goodCL mw_13) mw_11 mw_1 mw_12 rfl (by decide +kernel) (by decide) (by decide) (k_astore_n dL_law_7 rfl (by decide) (k_new (C := RX5) (T := TX5) (index := 10) (fs := [.int 0, .null, .null, .int 0, .null, .null, .null, .null, .int 0, .int 0, .int 0, .int 0, .null, .null, .null, .null, .null, .null, .null, .null, .null, .null, .int 0, .null, .null, .int 0, .int 0, .int 0, .int 0, .int 0, .null, .null]) dL_law_8 rfl inX5 tyX5 tyX5_ok mw_413 mw_414 mw_6 (by decide +kernel) (fun _ _ => rfl) (k_dup dL_law_11 (k_callI dL_law_12 cX5_init_ct rfl (kv_goodCL mw_417) mw_415 mw_6 mw_416 rfl (by decide +kernel) (by decide) (by decide) (k_astore_n dL_law_15 rfl (by decide) (k_iconst dL_law_16 (by decide +kernel) (k_istore_n dL_law_17 rfl (by decide) ((hK 18)))))))))))
theorem nL_law_0 (N : Nat) (xs : Nat → Int32) : kv_cn (fun K => fL_law_0 N xs K) := cn_new 4 8 [.null, .null, .int 0, .null, .null, .int 0, .int 0, .int 0] (cn_dup (cn_callI 0 mX4_init (cn_astore 1 (cn_new 5 32 [.int 0, .null, .null, .int 0, .null, .null, .null, .null, .int 0, .int 0, .int 0, .int 0, .null, .null, .null, .null, .null, .null, .null, .null, .null, .null, .int 0, .null, .null, .int 0, .int 0, .int 0, .int 0, .int 0, .null, .null] (cn_dup (cn_callI 0 mX5_init (cn_astore 2 (cn_const 0 (cn_istore 3 ((cn_K 18)))))))))))
def bL_law (N : Nat) (xs : Nat → Int32) (K : Nat → kv_D) (pc : Nat) : kv_D := if pc = 18 then fL_law_18 N xs K else fun _ _ _ _ _ => False
theorem hL_law (N : Nat) (xs : Nat → Int32) : ∀ pc, SL_law N xs pc (kv_lim (bL_law N xs) pc) := kv_lim_S (fun K hK pc => by
  unfold bL_law
  by_cases q18 : pc = 18
  · rw [if_pos q18, q18]
    exact sL_law_18 N xs hK
  rw [if_neg q18]
  exact kv_none)
theorem uL_law_18 (N : Nat) (xs : Nat → Int32) {L : List (Option Value)} {st : List Value} {h : kv_H} {v : Option Value} {h' : kv_H} (hx : fL_law_18 N xs (kv_lim (bL_law N xs)) L st h v h') : kv_lim (bL_law N xs) 18 L st h v h' := kv_un (q := 18) (by have e : (fun K => bL_law N xs K 18) = fun K => fL_law_18 N xs K := (by funext K; rfl); rw [e]; exact nL_law_18 N xs) (by have e : bL_law N xs (kv_lim (bL_law N xs)) 18 = fL_law_18 N xs (kv_lim (bL_law N xs)) := rfl; rw [e]; exact hx)
def eL_law (N : Nat) (xs : Nat → Int32) : kv_D := fL_law_0 N xs (kv_lim (bL_law N xs))
theorem eL_law_s (N : Nat) (xs : Nat → Int32) : SL_law N xs 0 (eL_law N xs) := sL_law_0 N xs (hL_law N xs)
