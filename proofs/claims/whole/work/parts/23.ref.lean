theorem dX5_enter_303 : decode cX5_enter 303 = .ok (.aload_n 0, 1) := by decide +kernel
theorem dX5_enter_304 : decode cX5_enter 304 = .ok (.dup, 1) := by decide +kernel
theorem dX5_enter_305 : decode cX5_enter 305 = .ok (.getfield 131, 3) := by decide +kernel
theorem dX5_enter_308 : decode cX5_enter 308 = .ok (.iconst 1, 1) := by decide +kernel
theorem dX5_enter_309 : decode cX5_enter 309 = .ok (.iadd, 1) := by decide +kernel
theorem dX5_enter_310 : decode cX5_enter 310 = .ok (.putfield 131, 3) := by decide +kernel
theorem dX5_enter_313 : decode cX5_enter 313 = .ok (.bipush 10, 2) := by decide +kernel
theorem dX5_enter_315 : decode cX5_enter 315 = .ok (.aload_n 0, 1) := by decide +kernel
theorem dX5_enter_316 : decode cX5_enter 316 = .ok (.getfield 131, 3) := by decide +kernel
theorem dX5_enter_319 : decode cX5_enter 319 = .ok (.iadd, 1) := by decide +kernel
theorem dX5_enter_320 : decode cX5_enter 320 = .ok (.iconst 1, 1) := by decide +kernel
theorem dX5_enter_321 : decode cX5_enter 321 = .ok (.isub, 1) := by decide +kernel
theorem dX5_enter_322 : decode cX5_enter 322 = .ok (.ireturn, 1) := by decide +kernel
theorem dX5_enter_297 : decode cX5_enter 297 = .ok (.iinc 5 1, 3) := by decide +kernel
theorem dX5_enter_300 : decode cX5_enter 300 = .ok (.goto (-28), 3) := by decide +kernel
theorem dX5_enter_294 : decode cX5_enter 294 = .ok (.bipush (-5), 2) := by decide +kernel
theorem dX5_enter_296 : decode cX5_enter 296 = .ok (.ireturn, 1) := by decide +kernel
theorem dX5_enter_281 : decode cX5_enter 281 = .ok (.aload_n 0, 1) := by decide +kernel
theorem dX5_enter_282 : decode cX5_enter 282 = .ok (.iload 5, 2) := by decide +kernel
theorem dX5_enter_284 : decode cX5_enter 284 = .ok (.aload_n 0, 1) := by decide +kernel
theorem dX5_enter_285 : decode cX5_enter 285 = .ok (.getfield 131, 3) := by decide +kernel
theorem dX5_enter_288 : decode cX5_enter 288 = .ok (.invokevirtual 137, 3) := by decide +kernel
theorem dX5_enter_291 : decode cX5_enter 291 = .ok (.ifCond .eq 6, 3) := by decide +kernel
theorem dX5_enter_272 : decode cX5_enter 272 = .ok (.iload 5, 2) := by decide +kernel
theorem dX5_enter_274 : decode cX5_enter 274 = .ok (.aload_n 0, 1) := by decide +kernel
theorem dX5_enter_275 : decode cX5_enter 275 = .ok (.getfield 131, 3) := by decide +kernel
theorem dX5_enter_278 : decode cX5_enter 278 = .ok (.if_icmp .ge 25, 3) := by decide +kernel
theorem dX5_enter_268 : decode cX5_enter 268 = .ok (.iastore, 1) := by decide +kernel
theorem dX5_enter_269 : decode cX5_enter 269 = .ok (.iconst 0, 1) := by decide +kernel
theorem dX5_enter_270 : decode cX5_enter 270 = .ok (.istore 5, 2) := by decide +kernel
theorem dX5_enter_259 : decode cX5_enter 259 = .ok (.aload_n 0, 1) := by decide +kernel
theorem dX5_enter_260 : decode cX5_enter 260 = .ok (.getfield 52, 3) := by decide +kernel
theorem dX5_enter_263 : decode cX5_enter 263 = .ok (.aload_n 0, 1) := by decide +kernel
theorem dX5_enter_264 : decode cX5_enter 264 = .ok (.getfield 131, 3) := by decide +kernel
theorem dX5_enter_267 : decode cX5_enter 267 = .ok (.iaload, 1) := by decide +kernel
theorem dX5_enter_254 : decode cX5_enter 254 = .ok (.iload 4, 2) := by decide +kernel
theorem dX5_enter_256 : decode cX5_enter 256 = .ok (.goto 12, 3) := by decide +kernel
theorem dX5_enter_223 : decode cX5_enter 223 = .ok (.aload_n 0, 1) := by decide +kernel
theorem dX5_enter_224 : decode cX5_enter 224 = .ok (.getfield 49, 3) := by decide +kernel
theorem dX5_enter_227 : decode cX5_enter 227 = .ok (.aload_n 0, 1) := by decide +kernel
theorem dX5_enter_228 : decode cX5_enter 228 = .ok (.getfield 131, 3) := by decide +kernel
theorem dX5_enter_231 : decode cX5_enter 231 = .ok (.iload 4, 2) := by decide +kernel
theorem dX5_enter_233 : decode cX5_enter 233 = .ok (.iastore, 1) := by decide +kernel
theorem dX5_enter_234 : decode cX5_enter 234 = .ok (.aload_n 0, 1) := by decide +kernel
theorem dX5_enter_235 : decode cX5_enter 235 = .ok (.getfield 52, 3) := by decide +kernel
theorem dX5_enter_238 : decode cX5_enter 238 = .ok (.aload_n 0, 1) := by decide +kernel
theorem dX5_enter_239 : decode cX5_enter 239 = .ok (.getfield 131, 3) := by decide +kernel
theorem dX5_enter_242 : decode cX5_enter 242 = .ok (.aload_n 0, 1) := by decide +kernel
theorem dX5_enter_243 : decode cX5_enter 243 = .ok (.getfield 52, 3) := by decide +kernel
theorem dX5_enter_246 : decode cX5_enter 246 = .ok (.aload_n 0, 1) := by decide +kernel
theorem dX5_enter_247 : decode cX5_enter 247 = .ok (.getfield 131, 3) := by decide +kernel
theorem dX5_enter_250 : decode cX5_enter 250 = .ok (.iaload, 1) := by decide +kernel
theorem dX5_enter_251 : decode cX5_enter 251 = .ok (.ifCond .ge 8, 3) := by decide +kernel
theorem dX5_enter_217 : decode cX5_enter 217 = .ok (.iinc 5 1, 3) := by decide +kernel
theorem dX5_enter_220 : decode cX5_enter 220 = .ok (.goto (-63), 3) := by decide +kernel
theorem dX5_enter_192 : decode cX5_enter 192 = .ok (.aload_n 0, 1) := by decide +kernel
theorem dX5_enter_193 : decode cX5_enter 193 = .ok (.getfield 55, 3) := by decide +kernel
theorem dX5_enter_196 : decode cX5_enter 196 = .ok (.bipush 12, 2) := by decide +kernel
theorem dX5_enter_198 : decode cX5_enter 198 = .ok (.aload_n 0, 1) := by decide +kernel
theorem dX5_enter_199 : decode cX5_enter 199 = .ok (.getfield 131, 3) := by decide +kernel
theorem dX5_enter_202 : decode cX5_enter 202 = .ok (.imul, 1) := by decide +kernel
theorem dX5_enter_203 : decode cX5_enter 203 = .ok (.iload 4, 2) := by decide +kernel
theorem dX5_enter_205 : decode cX5_enter 205 = .ok (.iadd, 1) := by decide +kernel
theorem dX5_enter_206 : decode cX5_enter 206 = .ok (.aload_n 0, 1) := by decide +kernel
theorem dX5_enter_207 : decode cX5_enter 207 = .ok (.getfield 7, 3) := by decide +kernel
theorem dX5_enter_210 : decode cX5_enter 210 = .ok (.iload 5, 2) := by decide +kernel
theorem dX5_enter_212 : decode cX5_enter 212 = .ok (.iaload, 1) := by decide +kernel
theorem dX5_enter_213 : decode cX5_enter 213 = .ok (.iastore, 1) := by decide +kernel
theorem dX5_enter_214 : decode cX5_enter 214 = .ok (.iinc 4 1, 3) := by decide +kernel
theorem dX5_enter_178 : decode cX5_enter 178 = .ok (.aload_n 0, 1) := by decide +kernel
theorem dX5_enter_179 : decode cX5_enter 179 = .ok (.getfield 52, 3) := by decide +kernel
theorem dX5_enter_182 : decode cX5_enter 182 = .ok (.aload_n 0, 1) := by decide +kernel
theorem dX5_enter_183 : decode cX5_enter 183 = .ok (.getfield 131, 3) := by decide +kernel
theorem dX5_enter_186 : decode cX5_enter 186 = .ok (.iload 4, 2) := by decide +kernel
theorem dX5_enter_188 : decode cX5_enter 188 = .ok (.iastore, 1) := by decide +kernel
theorem dX5_enter_189 : decode cX5_enter 189 = .ok (.goto 28, 3) := by decide +kernel
theorem dX5_enter_166 : decode cX5_enter 166 = .ok (.aload_n 0, 1) := by decide +kernel
theorem dX5_enter_167 : decode cX5_enter 167 = .ok (.getfield 7, 3) := by decide +kernel
theorem dX5_enter_170 : decode cX5_enter 170 = .ok (.iload 5, 2) := by decide +kernel
theorem dX5_enter_172 : decode cX5_enter 172 = .ok (.iaload, 1) := by decide +kernel
theorem dX5_enter_173 : decode cX5_enter 173 = .ok (.bipush 124, 2) := by decide +kernel
theorem dX5_enter_175 : decode cX5_enter 175 = .ok (.if_icmp .ne 17, 3) := by decide +kernel
theorem dX5_enter_157 : decode cX5_enter 157 = .ok (.iload 5, 2) := by decide +kernel
theorem dX5_enter_159 : decode cX5_enter 159 = .ok (.aload_n 0, 1) := by decide +kernel
theorem dX5_enter_160 : decode cX5_enter 160 = .ok (.getfield 74, 3) := by decide +kernel
theorem dX5_enter_163 : decode cX5_enter 163 = .ok (.if_icmp .ge 60, 3) := by decide +kernel
theorem dX5_enter_139 : decode cX5_enter 139 = .ok (.iconst 0, 1) := by decide +kernel
theorem dX5_enter_140 : decode cX5_enter 140 = .ok (.istore 4, 2) := by decide +kernel
theorem dX5_enter_142 : decode cX5_enter 142 = .ok (.aload_n 0, 1) := by decide +kernel
theorem dX5_enter_143 : decode cX5_enter 143 = .ok (.getfield 52, 3) := by decide +kernel
theorem dX5_enter_146 : decode cX5_enter 146 = .ok (.aload_n 0, 1) := by decide +kernel
theorem dX5_enter_147 : decode cX5_enter 147 = .ok (.getfield 131, 3) := by decide +kernel
theorem dX5_enter_150 : decode cX5_enter 150 = .ok (.iconst (-1), 1) := by decide +kernel
theorem dX5_enter_151 : decode cX5_enter 151 = .ok (.iastore, 1) := by decide +kernel
theorem dX5_enter_152 : decode cX5_enter 152 = .ok (.iload_n 3, 1) := by decide +kernel
theorem dX5_enter_153 : decode cX5_enter 153 = .ok (.iconst 1, 1) := by decide +kernel
theorem dX5_enter_154 : decode cX5_enter 154 = .ok (.iadd, 1) := by decide +kernel
theorem dX5_enter_155 : decode cX5_enter 155 = .ok (.istore 5, 2) := by decide +kernel
theorem dX5_enter_45 : decode cX5_enter 45 = .ok (.aload_n 0, 1) := by decide +kernel
theorem dX5_enter_46 : decode cX5_enter 46 = .ok (.getfield 37, 3) := by decide +kernel
theorem dX5_enter_49 : decode cX5_enter 49 = .ok (.bipush 12, 2) := by decide +kernel
theorem dX5_enter_51 : decode cX5_enter 51 = .ok (.aload_n 0, 1) := by decide +kernel
theorem dX5_enter_52 : decode cX5_enter 52 = .ok (.getfield 131, 3) := by decide +kernel
theorem dX5_enter_55 : decode cX5_enter 55 = .ok (.imul, 1) := by decide +kernel
theorem dX5_enter_56 : decode cX5_enter 56 = .ok (.iload 4, 2) := by decide +kernel
theorem dX5_enter_58 : decode cX5_enter 58 = .ok (.iadd, 1) := by decide +kernel
theorem dX5_enter_59 : decode cX5_enter 59 = .ok (.aload_n 0, 1) := by decide +kernel
theorem dX5_enter_60 : decode cX5_enter 60 = .ok (.getfield 16, 3) := by decide +kernel
theorem dX5_enter_63 : decode cX5_enter 63 = .ok (.iload 4, 2) := by decide +kernel
theorem dX5_enter_65 : decode cX5_enter 65 = .ok (.iaload, 1) := by decide +kernel
theorem dX5_enter_66 : decode cX5_enter 66 = .ok (.iastore, 1) := by decide +kernel
theorem dX5_enter_67 : decode cX5_enter 67 = .ok (.aload_n 0, 1) := by decide +kernel
theorem dX5_enter_68 : decode cX5_enter 68 = .ok (.getfield 40, 3) := by decide +kernel
theorem dX5_enter_71 : decode cX5_enter 71 = .ok (.bipush 12, 2) := by decide +kernel
theorem dX5_enter_73 : decode cX5_enter 73 = .ok (.aload_n 0, 1) := by decide +kernel
theorem dX5_enter_74 : decode cX5_enter 74 = .ok (.getfield 131, 3) := by decide +kernel
theorem dX5_enter_77 : decode cX5_enter 77 = .ok (.imul, 1) := by decide +kernel
theorem dX5_enter_78 : decode cX5_enter 78 = .ok (.iload 4, 2) := by decide +kernel
theorem dX5_enter_80 : decode cX5_enter 80 = .ok (.iadd, 1) := by decide +kernel
theorem dX5_enter_81 : decode cX5_enter 81 = .ok (.aload_n 0, 1) := by decide +kernel
theorem dX5_enter_82 : decode cX5_enter 82 = .ok (.getfield 19, 3) := by decide +kernel
theorem dX5_enter_85 : decode cX5_enter 85 = .ok (.iload 4, 2) := by decide +kernel
theorem dX5_enter_87 : decode cX5_enter 87 = .ok (.iaload, 1) := by decide +kernel
theorem dX5_enter_88 : decode cX5_enter 88 = .ok (.iastore, 1) := by decide +kernel
theorem dX5_enter_89 : decode cX5_enter 89 = .ok (.aload_n 0, 1) := by decide +kernel
theorem dX5_enter_90 : decode cX5_enter 90 = .ok (.getfield 43, 3) := by decide +kernel
theorem dX5_enter_93 : decode cX5_enter 93 = .ok (.bipush 12, 2) := by decide +kernel
theorem dX5_enter_95 : decode cX5_enter 95 = .ok (.aload_n 0, 1) := by decide +kernel
theorem dX5_enter_96 : decode cX5_enter 96 = .ok (.getfield 131, 3) := by decide +kernel
theorem dX5_enter_99 : decode cX5_enter 99 = .ok (.imul, 1) := by decide +kernel
theorem dX5_enter_100 : decode cX5_enter 100 = .ok (.iload 4, 2) := by decide +kernel
theorem dX5_enter_102 : decode cX5_enter 102 = .ok (.iadd, 1) := by decide +kernel
theorem dX5_enter_103 : decode cX5_enter 103 = .ok (.aload_n 0, 1) := by decide +kernel
theorem dX5_enter_104 : decode cX5_enter 104 = .ok (.getfield 22, 3) := by decide +kernel
theorem dX5_enter_107 : decode cX5_enter 107 = .ok (.iload 4, 2) := by decide +kernel
theorem dX5_enter_109 : decode cX5_enter 109 = .ok (.iaload, 1) := by decide +kernel
theorem dX5_enter_110 : decode cX5_enter 110 = .ok (.iastore, 1) := by decide +kernel
theorem dX5_enter_111 : decode cX5_enter 111 = .ok (.aload_n 0, 1) := by decide +kernel
theorem dX5_enter_112 : decode cX5_enter 112 = .ok (.getfield 46, 3) := by decide +kernel
theorem dX5_enter_115 : decode cX5_enter 115 = .ok (.bipush 12, 2) := by decide +kernel
theorem dX5_enter_117 : decode cX5_enter 117 = .ok (.aload_n 0, 1) := by decide +kernel
theorem dX5_enter_118 : decode cX5_enter 118 = .ok (.getfield 131, 3) := by decide +kernel
theorem dX5_enter_121 : decode cX5_enter 121 = .ok (.imul, 1) := by decide +kernel
theorem dX5_enter_122 : decode cX5_enter 122 = .ok (.iload 4, 2) := by decide +kernel
theorem dX5_enter_124 : decode cX5_enter 124 = .ok (.iadd, 1) := by decide +kernel
theorem dX5_enter_125 : decode cX5_enter 125 = .ok (.aload_n 0, 1) := by decide +kernel
theorem dX5_enter_126 : decode cX5_enter 126 = .ok (.getfield 25, 3) := by decide +kernel
theorem dX5_enter_129 : decode cX5_enter 129 = .ok (.iload 4, 2) := by decide +kernel
theorem dX5_enter_131 : decode cX5_enter 131 = .ok (.iaload, 1) := by decide +kernel
theorem dX5_enter_132 : decode cX5_enter 132 = .ok (.iastore, 1) := by decide +kernel
theorem dX5_enter_133 : decode cX5_enter 133 = .ok (.iinc 4 1, 3) := by decide +kernel
theorem dX5_enter_136 : decode cX5_enter 136 = .ok (.goto (-100), 3) := by decide +kernel
theorem dX5_enter_36 : decode cX5_enter 36 = .ok (.iload 4, 2) := by decide +kernel
theorem dX5_enter_38 : decode cX5_enter 38 = .ok (.aload_n 0, 1) := by decide +kernel
theorem dX5_enter_39 : decode cX5_enter 39 = .ok (.getfield 99, 3) := by decide +kernel
theorem dX5_enter_42 : decode cX5_enter 42 = .ok (.if_icmp .ge 97, 3) := by decide +kernel
theorem dX5_enter_0 : decode cX5_enter 0 = .ok (.aload_n 0, 1) := by decide +kernel
theorem dX5_enter_1 : decode cX5_enter 1 = .ok (.getfield 28, 3) := by decide +kernel
theorem dX5_enter_4 : decode cX5_enter 4 = .ok (.aload_n 0, 1) := by decide +kernel
theorem dX5_enter_5 : decode cX5_enter 5 = .ok (.getfield 131, 3) := by decide +kernel
theorem dX5_enter_8 : decode cX5_enter 8 = .ok (.iload_n 1, 1) := by decide +kernel
theorem dX5_enter_9 : decode cX5_enter 9 = .ok (.iastore, 1) := by decide +kernel
theorem dX5_enter_10 : decode cX5_enter 10 = .ok (.aload_n 0, 1) := by decide +kernel
theorem dX5_enter_11 : decode cX5_enter 11 = .ok (.getfield 31, 3) := by decide +kernel
theorem dX5_enter_14 : decode cX5_enter 14 = .ok (.aload_n 0, 1) := by decide +kernel
theorem dX5_enter_15 : decode cX5_enter 15 = .ok (.getfield 131, 3) := by decide +kernel
theorem dX5_enter_18 : decode cX5_enter 18 = .ok (.iload_n 2, 1) := by decide +kernel
theorem dX5_enter_19 : decode cX5_enter 19 = .ok (.iastore, 1) := by decide +kernel
theorem dX5_enter_20 : decode cX5_enter 20 = .ok (.aload_n 0, 1) := by decide +kernel
theorem dX5_enter_21 : decode cX5_enter 21 = .ok (.getfield 34, 3) := by decide +kernel
theorem dX5_enter_24 : decode cX5_enter 24 = .ok (.aload_n 0, 1) := by decide +kernel
theorem dX5_enter_25 : decode cX5_enter 25 = .ok (.getfield 131, 3) := by decide +kernel
theorem dX5_enter_28 : decode cX5_enter 28 = .ok (.aload_n 0, 1) := by decide +kernel
theorem dX5_enter_29 : decode cX5_enter 29 = .ok (.getfield 99, 3) := by decide +kernel
theorem dX5_enter_32 : decode cX5_enter 32 = .ok (.iastore, 1) := by decide +kernel
theorem dX5_enter_33 : decode cX5_enter 33 = .ok (.iconst 0, 1) := by decide +kernel
theorem dX5_enter_34 : decode cX5_enter 34 = .ok (.istore 4, 2) := by decide +kernel
-- X5_enter
def wX5_enter : List Cond := Cond.code yX5_enter cX5_enter 6 (some .int) :: kv_tb
abbrev SX5_enter (pc : Nat) (F : kv_D) : Prop := kv_S cX5_enter 6 RX5 wX5_enter (some .int) false 2 47 none pc F
def fX5_enter_303 (K : Nat → kv_D) : kv_D := o_aload 0 (o_dup (o_getf 5 11 (o_const 1 (o_iadd (o_putf 5 11 .int (o_const 10 (o_aload 0 (o_getf 5 11 (o_iadd (o_const 1 (o_isub (o_iret .int))))))))))))
theorem sX5_enter_303 {K : Nat → kv_D} (hK : ∀ pc, SX5_enter pc (K pc)) : SX5_enter 303 (fX5_enter_303 K) := k_aload_n dX5_enter_303 rfl (k_dup dX5_enter_304 (k_getf (C := RX5) (T := TX5) (N := 32) (ci := 5) (index := 131) (kf := 11) dX5_enter_305 rfl (fun w h => List.mem_cons_of_mem _ (inX5 w h)) (by decide) (List.mem_cons_of_mem _ mw_430) (k_iconst dX5_enter_308 (by decide +kernel) (k_iadd dX5_enter_309 (k_putf (C := RX5) (T := TX5) (N := 32) (ci := 5) (index := 131) (kf := 11) (ty := .int) dX5_enter_310 rfl (fun w h => List.mem_cons_of_mem _ (inX5 w h)) tyX5 tyX5_ok nmX5 (by decide) (List.mem_cons_of_mem _ mw_430) rfl rfl (k_bipush dX5_enter_313 (by decide +kernel) (k_aload_n dX5_enter_315 rfl (k_getf (C := RX5) (T := TX5) (N := 32) (ci := 5) (index := 131) (kf := 11) dX5_enter_316 rfl (fun w h => List.mem_cons_of_mem _ (inX5 w h)) (by decide) (List.mem_cons_of_mem _ mw_430) (k_iadd dX5_enter_319 (k_iconst dX5_enter_320 (by decide +kernel) (k_isub dX5_enter_321 (k_iret dX5_enter_322 rfl))))))))))))
theorem nX5_enter_303 : kv_cn (fun K => fX5_enter_303 K) := cn_aload 0 (cn_dup (cn_getf 5 11 (cn_const 1 (cn_iadd (cn_putf 5 11 .int (cn_const 10 (cn_aload 0 (cn_getf 5 11 (cn_iadd (cn_const 1 (cn_isub (cn_c _))))))))))))
def fX5_enter_297 (K : Nat → kv_D) : kv_D := o_iinc 5 1 ((K 272))
theorem sX5_enter_297 {K : Nat → kv_D} (hK : ∀ pc, SX5_enter pc (K pc)) : SX5_enter 297 (fX5_enter_297 K) := k_iinc dX5_enter_297 (by decide +kernel) (by decide) (k_goto dX5_enter_300 rfl (hK 272))
theorem nX5_enter_297 : kv_cn (fun K => fX5_enter_297 K) := cn_iinc 5 1 ((cn_K 272))
def fX5_enter_294 (K : Nat → kv_D) : kv_D := o_const (-5) (o_iret .int)
theorem sX5_enter_294 {K : Nat → kv_D} (hK : ∀ pc, SX5_enter pc (K pc)) : SX5_enter 294 (fX5_enter_294 K) := k_bipush dX5_enter_294 (by decide +kernel) (k_iret dX5_enter_296 rfl)
theorem nX5_enter_294 : kv_cn (fun K => fX5_enter_294 K) := cn_const (-5) (cn_c _)
def fX5_enter_281 (K : Nat → kv_D) : kv_D := o_aload 0 (o_iload 5 (o_aload 0 (o_getf 5 11 (o_callV 5 2 mX5_masks (o_ifeq (fX5_enter_297 K) (fX5_enter_294 K))))))
theorem sX5_enter_281 {K : Nat → kv_D} (hK : ∀ pc, SX5_enter pc (K pc)) : SX5_enter 281 (fX5_enter_281 K) := k_aload_n dX5_enter_281 rfl (k_iload dX5_enter_282 (k_aload_n dX5_enter_284 rfl (k_getf (C := RX5) (T := TX5) (N := 32) (ci := 5) (index := 131) (kf := 11) dX5_enter_285 rfl (fun w h => List.mem_cons_of_mem _ (inX5 w h)) (by decide) (List.mem_cons_of_mem _ mw_430) (k_callV (q := (RX5, TX5, 32)) dX5_enter_288 cX5_masks_ct rfl (kv_goodV mw_571 mw_573 sel_X5_masks mw_6 mw_574) (by decide +kernel) rfl (by decide) (by decide) (k_ifeq dX5_enter_291 rfl (sX5_enter_297 hK) (sX5_enter_294 hK))))))
theorem nX5_enter_281 : kv_cn (fun K => fX5_enter_281 K) := cn_aload 0 (cn_iload 5 (cn_aload 0 (cn_getf 5 11 (cn_callV 5 2 mX5_masks (cn_ifeq nX5_enter_297 nX5_enter_294)))))
def fX5_enter_272 (K : Nat → kv_D) : kv_D := o_iload 5 (o_aload 0 (o_getf 5 11 (o_icge (fX5_enter_303 K) (fX5_enter_281 K))))
theorem sX5_enter_272 {K : Nat → kv_D} (hK : ∀ pc, SX5_enter pc (K pc)) : SX5_enter 272 (fX5_enter_272 K) := k_iload dX5_enter_272 (k_aload_n dX5_enter_274 rfl (k_getf (C := RX5) (T := TX5) (N := 32) (ci := 5) (index := 131) (kf := 11) dX5_enter_275 rfl (fun w h => List.mem_cons_of_mem _ (inX5 w h)) (by decide) (List.mem_cons_of_mem _ mw_430) (k_icge dX5_enter_278 rfl (sX5_enter_303 hK) (sX5_enter_281 hK))))
theorem nX5_enter_272 : kv_cn (fun K => fX5_enter_272 K) := cn_iload 5 (cn_aload 0 (cn_getf 5 11 (cn_icge nX5_enter_303 nX5_enter_281)))
def fX5_enter_268 (K : Nat → kv_D) : kv_D := o_iast 0 (fun x => x) (o_const 0 (o_istore 5 ((K 272))))
theorem sX5_enter_268 {K : Nat → kv_D} (hK : ∀ pc, SX5_enter pc (K pc)) : SX5_enter 268 (fX5_enter_268 K) := k_iast dX5_enter_268 rfl (k_iconst dX5_enter_269 (by decide +kernel) (k_istore dX5_enter_270 (by decide) ((hK 272))))
theorem nX5_enter_268 : kv_cn (fun K => fX5_enter_268 K) := cn_iast 0 (fun x => x) (cn_const 0 (cn_istore 5 ((cn_K 272))))
def fX5_enter_259 (K : Nat → kv_D) : kv_D := o_aload 0 (o_getf 5 20 (o_aload 0 (o_getf 5 11 (o_iald 0 ((fX5_enter_268 K))))))
theorem sX5_enter_259 {K : Nat → kv_D} (hK : ∀ pc, SX5_enter pc (K pc)) : SX5_enter 259 (fX5_enter_259 K) := k_aload_n dX5_enter_259 rfl (k_getf (C := RX5) (T := TX5) (N := 32) (ci := 5) (index := 52) (kf := 20) dX5_enter_260 rfl (fun w h => List.mem_cons_of_mem _ (inX5 w h)) (by decide) (List.mem_cons_of_mem _ mw_439) (k_aload_n dX5_enter_263 rfl (k_getf (C := RX5) (T := TX5) (N := 32) (ci := 5) (index := 131) (kf := 11) dX5_enter_264 rfl (fun w h => List.mem_cons_of_mem _ (inX5 w h)) (by decide) (List.mem_cons_of_mem _ mw_430) (k_iald dX5_enter_267 rfl ((sX5_enter_268 hK))))))
theorem nX5_enter_259 : kv_cn (fun K => fX5_enter_259 K) := cn_aload 0 (cn_getf 5 20 (cn_aload 0 (cn_getf 5 11 (cn_iald 0 (nX5_enter_268)))))
def fX5_enter_254 (K : Nat → kv_D) : kv_D := o_iload 4 ((fX5_enter_268 K))
theorem sX5_enter_254 {K : Nat → kv_D} (hK : ∀ pc, SX5_enter pc (K pc)) : SX5_enter 254 (fX5_enter_254 K) := k_iload dX5_enter_254 (k_goto dX5_enter_256 rfl (sX5_enter_268 hK))
theorem nX5_enter_254 : kv_cn (fun K => fX5_enter_254 K) := cn_iload 4 (nX5_enter_268)
def fX5_enter_223 (K : Nat → kv_D) : kv_D := o_aload 0 (o_getf 5 19 (o_aload 0 (o_getf 5 11 (o_iload 4 (o_iast 0 (fun x => x) (o_aload 0 (o_getf 5 20 (o_aload 0 (o_getf 5 11 (o_aload 0 (o_getf 5 20 (o_aload 0 (o_getf 5 11 (o_iald 0 (o_ifge (fX5_enter_259 K) (fX5_enter_254 K))))))))))))))))
theorem sX5_enter_223 {K : Nat → kv_D} (hK : ∀ pc, SX5_enter pc (K pc)) : SX5_enter 223 (fX5_enter_223 K) := k_aload_n dX5_enter_223 rfl (k_getf (C := RX5) (T := TX5) (N := 32) (ci := 5) (index := 49) (kf := 19) dX5_enter_224 rfl (fun w h => List.mem_cons_of_mem _ (inX5 w h)) (by decide) (List.mem_cons_of_mem _ mw_438) (k_aload_n dX5_enter_227 rfl (k_getf (C := RX5) (T := TX5) (N := 32) (ci := 5) (index := 131) (kf := 11) dX5_enter_228 rfl (fun w h => List.mem_cons_of_mem _ (inX5 w h)) (by decide) (List.mem_cons_of_mem _ mw_430) (k_iload dX5_enter_231 (k_iast dX5_enter_233 rfl (k_aload_n dX5_enter_234 rfl (k_getf (C := RX5) (T := TX5) (N := 32) (ci := 5) (index := 52) (kf := 20) dX5_enter_235 rfl (fun w h => List.mem_cons_of_mem _ (inX5 w h)) (by decide) (List.mem_cons_of_mem _ mw_439) (k_aload_n dX5_enter_238 rfl (k_getf (C := RX5) (T := TX5) (N := 32) (ci := 5) (index := 131) (kf := 11) dX5_enter_239 rfl (fun w h => List.mem_cons_of_mem _ (inX5 w h)) (by decide) (List.mem_cons_of_mem _ mw_430) (k_aload_n dX5_enter_242 rfl (k_getf (C := RX5) (T := TX5) (N := 32) (ci := 5) (index := 52) (kf := 20) dX5_enter_243 rfl (fun w h => List.mem_cons_of_mem _ (inX5 w h)) (by decide) (List.mem_cons_of_mem _ mw_439) (k_aload_n dX5_enter_246 rfl (k_getf (C := RX5) (T := TX5) (N := 32) (ci := 5) (index := 131) (kf := 11) dX5_enter_247 rfl (fun w h => List.mem_cons_of_mem _ (inX5 w h)) (by decide) (List.mem_cons_of_mem _ mw_430) (k_iald dX5_enter_250 rfl (k_ifge dX5_enter_251 rfl (sX5_enter_259 hK) (sX5_enter_254 hK))))))))))))))))
theorem nX5_enter_223 : kv_cn (fun K => fX5_enter_223 K) := cn_aload 0 (cn_getf 5 19 (cn_aload 0 (cn_getf 5 11 (cn_iload 4 (cn_iast 0 (fun x => x) (cn_aload 0 (cn_getf 5 20 (cn_aload 0 (cn_getf 5 11 (cn_aload 0 (cn_getf 5 20 (cn_aload 0 (cn_getf 5 11 (cn_iald 0 (cn_ifge nX5_enter_259 nX5_enter_254)))))))))))))))
def fX5_enter_217 (K : Nat → kv_D) : kv_D := o_iinc 5 1 ((K 157))
theorem sX5_enter_217 {K : Nat → kv_D} (hK : ∀ pc, SX5_enter pc (K pc)) : SX5_enter 217 (fX5_enter_217 K) := k_iinc dX5_enter_217 (by decide +kernel) (by decide) (k_goto dX5_enter_220 rfl (hK 157))
theorem nX5_enter_217 : kv_cn (fun K => fX5_enter_217 K) := cn_iinc 5 1 ((cn_K 157))
def fX5_enter_192 (K : Nat → kv_D) : kv_D := o_aload 0 (o_getf 5 21 (o_const 12 (o_aload 0 (o_getf 5 11 (o_imul (o_iload 4 (o_iadd (o_aload 0 (o_getf 5 1 (o_iload 5 (o_iald 0 (o_iast 0 (fun x => x) (o_iinc 4 1 ((fX5_enter_217 K)))))))))))))))
theorem sX5_enter_192 {K : Nat → kv_D} (hK : ∀ pc, SX5_enter pc (K pc)) : SX5_enter 192 (fX5_enter_192 K) := k_aload_n dX5_enter_192 rfl (k_getf (C := RX5) (T := TX5) (N := 32) (ci := 5) (index := 55) (kf := 21) dX5_enter_193 rfl (fun w h => List.mem_cons_of_mem _ (inX5 w h)) (by decide) (List.mem_cons_of_mem _ mw_440) (k_bipush dX5_enter_196 (by decide +kernel) (k_aload_n dX5_enter_198 rfl (k_getf (C := RX5) (T := TX5) (N := 32) (ci := 5) (index := 131) (kf := 11) dX5_enter_199 rfl (fun w h => List.mem_cons_of_mem _ (inX5 w h)) (by decide) (List.mem_cons_of_mem _ mw_430) (k_imul dX5_enter_202 (k_iload dX5_enter_203 (k_iadd dX5_enter_205 (k_aload_n dX5_enter_206 rfl (k_getf (C := RX5) (T := TX5) (N := 32) (ci := 5) (index := 7) (kf := 1) dX5_enter_207 rfl (fun w h => List.mem_cons_of_mem _ (inX5 w h)) (by decide) (List.mem_cons_of_mem _ mw_420) (k_iload dX5_enter_210 (k_iald dX5_enter_212 rfl (k_iast dX5_enter_213 rfl (k_iinc dX5_enter_214 (by decide +kernel) (by decide) ((sX5_enter_217 hK)))))))))))))))
theorem nX5_enter_192 : kv_cn (fun K => fX5_enter_192 K) := cn_aload 0 (cn_getf 5 21 (cn_const 12 (cn_aload 0 (cn_getf 5 11 (cn_imul (cn_iload 4 (cn_iadd (cn_aload 0 (cn_getf 5 1 (cn_iload 5 (cn_iald 0 (cn_iast 0 (fun x => x) (cn_iinc 4 1 (nX5_enter_217))))))))))))))
def fX5_enter_178 (K : Nat → kv_D) : kv_D := o_aload 0 (o_getf 5 20 (o_aload 0 (o_getf 5 11 (o_iload 4 (o_iast 0 (fun x => x) ((fX5_enter_217 K)))))))
theorem sX5_enter_178 {K : Nat → kv_D} (hK : ∀ pc, SX5_enter pc (K pc)) : SX5_enter 178 (fX5_enter_178 K) := k_aload_n dX5_enter_178 rfl (k_getf (C := RX5) (T := TX5) (N := 32) (ci := 5) (index := 52) (kf := 20) dX5_enter_179 rfl (fun w h => List.mem_cons_of_mem _ (inX5 w h)) (by decide) (List.mem_cons_of_mem _ mw_439) (k_aload_n dX5_enter_182 rfl (k_getf (C := RX5) (T := TX5) (N := 32) (ci := 5) (index := 131) (kf := 11) dX5_enter_183 rfl (fun w h => List.mem_cons_of_mem _ (inX5 w h)) (by decide) (List.mem_cons_of_mem _ mw_430) (k_iload dX5_enter_186 (k_iast dX5_enter_188 rfl (k_goto dX5_enter_189 rfl (sX5_enter_217 hK)))))))
theorem nX5_enter_178 : kv_cn (fun K => fX5_enter_178 K) := cn_aload 0 (cn_getf 5 20 (cn_aload 0 (cn_getf 5 11 (cn_iload 4 (cn_iast 0 (fun x => x) (nX5_enter_217))))))
def fX5_enter_166 (K : Nat → kv_D) : kv_D := o_aload 0 (o_getf 5 1 (o_iload 5 (o_iald 0 (o_const 124 (o_icne (fX5_enter_192 K) (fX5_enter_178 K))))))
theorem sX5_enter_166 {K : Nat → kv_D} (hK : ∀ pc, SX5_enter pc (K pc)) : SX5_enter 166 (fX5_enter_166 K) := k_aload_n dX5_enter_166 rfl (k_getf (C := RX5) (T := TX5) (N := 32) (ci := 5) (index := 7) (kf := 1) dX5_enter_167 rfl (fun w h => List.mem_cons_of_mem _ (inX5 w h)) (by decide) (List.mem_cons_of_mem _ mw_420) (k_iload dX5_enter_170 (k_iald dX5_enter_172 rfl (k_bipush dX5_enter_173 (by decide +kernel) (k_icne dX5_enter_175 rfl (sX5_enter_192 hK) (sX5_enter_178 hK))))))
theorem nX5_enter_166 : kv_cn (fun K => fX5_enter_166 K) := cn_aload 0 (cn_getf 5 1 (cn_iload 5 (cn_iald 0 (cn_const 124 (cn_icne nX5_enter_192 nX5_enter_178)))))
def fX5_enter_157 (K : Nat → kv_D) : kv_D := o_iload 5 (o_aload 0 (o_getf 5 0 (o_icge (fX5_enter_223 K) (fX5_enter_166 K))))
theorem sX5_enter_157 {K : Nat → kv_D} (hK : ∀ pc, SX5_enter pc (K pc)) : SX5_enter 157 (fX5_enter_157 K) := k_iload dX5_enter_157 (k_aload_n dX5_enter_159 rfl (k_getf (C := RX5) (T := TX5) (N := 32) (ci := 5) (index := 74) (kf := 0) dX5_enter_160 rfl (fun w h => List.mem_cons_of_mem _ (inX5 w h)) (by decide) (List.mem_cons_of_mem _ mw_419) (k_icge dX5_enter_163 rfl (sX5_enter_223 hK) (sX5_enter_166 hK))))
theorem nX5_enter_157 : kv_cn (fun K => fX5_enter_157 K) := cn_iload 5 (cn_aload 0 (cn_getf 5 0 (cn_icge nX5_enter_223 nX5_enter_166)))
def fX5_enter_139 (K : Nat → kv_D) : kv_D := o_const 0 (o_istore 4 (o_aload 0 (o_getf 5 20 (o_aload 0 (o_getf 5 11 (o_const (-1) (o_iast 0 (fun x => x) (o_iload 3 (o_const 1 (o_iadd (o_istore 5 ((K 157)))))))))))))
theorem sX5_enter_139 {K : Nat → kv_D} (hK : ∀ pc, SX5_enter pc (K pc)) : SX5_enter 139 (fX5_enter_139 K) := k_iconst dX5_enter_139 (by decide +kernel) (k_istore dX5_enter_140 (by decide) (k_aload_n dX5_enter_142 rfl (k_getf (C := RX5) (T := TX5) (N := 32) (ci := 5) (index := 52) (kf := 20) dX5_enter_143 rfl (fun w h => List.mem_cons_of_mem _ (inX5 w h)) (by decide) (List.mem_cons_of_mem _ mw_439) (k_aload_n dX5_enter_146 rfl (k_getf (C := RX5) (T := TX5) (N := 32) (ci := 5) (index := 131) (kf := 11) dX5_enter_147 rfl (fun w h => List.mem_cons_of_mem _ (inX5 w h)) (by decide) (List.mem_cons_of_mem _ mw_430) (k_iconst dX5_enter_150 (by decide +kernel) (k_iast dX5_enter_151 rfl (k_iload_n dX5_enter_152 rfl (k_iconst dX5_enter_153 (by decide +kernel) (k_iadd dX5_enter_154 (k_istore dX5_enter_155 (by decide) ((hK 157)))))))))))))
theorem nX5_enter_139 : kv_cn (fun K => fX5_enter_139 K) := cn_const 0 (cn_istore 4 (cn_aload 0 (cn_getf 5 20 (cn_aload 0 (cn_getf 5 11 (cn_const (-1) (cn_iast 0 (fun x => x) (cn_iload 3 (cn_const 1 (cn_iadd (cn_istore 5 ((cn_K 157)))))))))))))
def fX5_enter_45 (K : Nat → kv_D) : kv_D := o_aload 0 (o_getf 5 15 (o_const 12 (o_aload 0 (o_getf 5 11 (o_imul (o_iload 4 (o_iadd (o_aload 0 (o_getf 5 4 (o_iload 4 (o_iald 0 (o_iast 0 (fun x => x) (o_aload 0 (o_getf 5 16 (o_const 12 (o_aload 0 (o_getf 5 11 (o_imul (o_iload 4 (o_iadd (o_aload 0 (o_getf 5 5 (o_iload 4 (o_iald 0 (o_iast 0 (fun x => x) (o_aload 0 (o_getf 5 17 (o_const 12 (o_aload 0 (o_getf 5 11 (o_imul (o_iload 4 (o_iadd (o_aload 0 (o_getf 5 6 (o_iload 4 (o_iald 0 (o_iast 0 (fun x => x) (o_aload 0 (o_getf 5 18 (o_const 12 (o_aload 0 (o_getf 5 11 (o_imul (o_iload 4 (o_iadd (o_aload 0 (o_getf 5 7 (o_iload 4 (o_iald 0 (o_iast 0 (fun x => x) (o_iinc 4 1 ((K 36))))))))))))))))))))))))))))))))))))))))))))))))))))))
theorem sX5_enter_45 {K : Nat → kv_D} (hK : ∀ pc, SX5_enter pc (K pc)) : SX5_enter 45 (fX5_enter_45 K) := k_aload_n dX5_enter_45 rfl (k_getf (C := RX5) (T := TX5) (N := 32) (ci := 5) (index := 37) (kf := 15) dX5_enter_46 rfl (fun w h => List.mem_cons_of_mem _ (inX5 w h)) (by decide) (List.mem_cons_of_mem _ mw_434) (k_bipush dX5_enter_49 (by decide +kernel) (k_aload_n dX5_enter_51 rfl (k_getf (C := RX5) (T := TX5) (N := 32) (ci := 5) (index := 131) (kf := 11) dX5_enter_52 rfl (fun w h => List.mem_cons_of_mem _ (inX5 w h)) (by decide) (List.mem_cons_of_mem _ mw_430) (k_imul dX5_enter_55 (k_iload dX5_enter_56 (k_iadd dX5_enter_58 (k_aload_n dX5_enter_59 rfl (k_getf (C := RX5) (T := TX5) (N := 32) (ci := 5) (index := 16) (kf := 4) dX5_enter_60 rfl (fun w h => List.mem_cons_of_mem _ (inX5 w h)) (by decide) (List.mem_cons_of_mem _ mw_423) (k_iload dX5_enter_63 (k_iald dX5_enter_65 rfl (k_iast dX5_enter_66 rfl (k_aload_n dX5_enter_67 rfl (k_getf (C := RX5) (T := TX5) (N := 32) (ci := 5) (index := 40) (kf := 16) dX5_enter_68 rfl (fun w h => List.mem_cons_of_mem _ (inX5 w h)) (by decide) (List.mem_cons_of_mem _ mw_435) (k_bipush dX5_enter_71 (by decide +kernel) (k_aload_n dX5_enter_73 rfl (k_getf (C := RX5) (T := TX5) (N := 32) (ci := 5) (index := 131) (kf := 11) dX5_enter_74 rfl (fun w h => List.mem_cons_of_mem _ (inX5 w h)) (by decide) (List.mem_cons_of_mem _ mw_430) (k_imul dX5_enter_77 (k_iload dX5_enter_78 (k_iadd dX5_enter_80 (k_aload_n dX5_enter_81 rfl (k_getf (C := RX5) (T := TX5) (N := 32) (ci := 5) (index := 19) (kf := 5) dX5_enter_82 rfl (fun w h => List.mem_cons_of_mem _ (inX5 w h)) (by decide) (List.mem_cons_of_mem _ mw_424) (k_iload dX5_enter_85 (k_iald dX5_enter_87 rfl (k_iast dX5_enter_88 rfl (k_aload_n dX5_enter_89 rfl (k_getf (C := RX5) (T := TX5) (N := 32) (ci := 5) (index := 43) (kf := 17) dX5_enter_90 rfl (fun w h => List.mem_cons_of_mem _ (inX5 w h)) (by decide) (List.mem_cons_of_mem _ mw_436) (k_bipush dX5_enter_93 (by decide +kernel) (k_aload_n dX5_enter_95 rfl (k_getf (C := RX5) (T := TX5) (N := 32) (ci := 5) (index := 131) (kf := 11) dX5_enter_96 rfl (fun w h => List.mem_cons_of_mem _ (inX5 w h)) (by decide) (List.mem_cons_of_mem _ mw_430) (k_imul dX5_enter_99 (k_iload dX5_enter_100 (k_iadd dX5_enter_102 (k_aload_n dX5_enter_103 rfl (k_getf (C := RX5) (T := TX5) (N := 32) (ci := 5) (index := 22) (kf := 6) dX5_enter_104 rfl (fun w h => List.mem_cons_of_mem _ (inX5 w h)) (by decide) (List.mem_cons_of_mem _ mw_425) (k_iload dX5_enter_107 (k_iald dX5_enter_109 rfl (k_iast dX5_enter_110 rfl (k_aload_n dX5_enter_111 rfl (k_getf (C := RX5) (T := TX5) (N := 32) (ci := 5) (index := 46) (kf := 18) dX5_enter_112 rfl (fun w h => List.mem_cons_of_mem _ (inX5 w h)) (by decide) (List.mem_cons_of_mem _ mw_437) (k_bipush dX5_enter_115 (by decide +kernel) (k_aload_n dX5_enter_117 rfl (k_getf (C := RX5) (T := TX5) (N := 32) (ci := 5) (index := 131) (kf := 11) dX5_enter_118 rfl (fun w h => List.mem_cons_of_mem _ (inX5 w h)) (by decide) (List.mem_cons_of_mem _ mw_430) (k_imul dX5_enter_121 (k_iload dX5_enter_122 (k_iadd dX5_enter_124 (k_aload_n dX5_enter_125 rfl (k_getf (C := RX5) (T := TX5) (N := 32) (ci := 5) (index := 25) (kf := 7) dX5_enter_126 rfl (fun w h => List.mem_cons_of_mem _ (inX5 w h)) (by decide) (List.mem_cons_of_mem _ mw_426) (k_iload dX5_enter_129 (k_iald dX5_enter_131 rfl (k_iast dX5_enter_132 rfl (k_iinc dX5_enter_133 (by decide +kernel) (by decide) (k_goto dX5_enter_136 rfl (hK 36))))))))))))))))))))))))))))))))))))))))))))))))))))))
theorem nX5_enter_45 : kv_cn (fun K => fX5_enter_45 K) := cn_aload 0 (cn_getf 5 15 (cn_const 12 (cn_aload 0 (cn_getf 5 11 (cn_imul (cn_iload 4 (cn_iadd (cn_aload 0 (cn_getf 5 4 (cn_iload 4 (cn_iald 0 (cn_iast 0 (fun x => x) (cn_aload 0 (cn_getf 5 16 (cn_const 12 (cn_aload 0 (cn_getf 5 11 (cn_imul (cn_iload 4 (cn_iadd (cn_aload 0 (cn_getf 5 5 (cn_iload 4 (cn_iald 0 (cn_iast 0 (fun x => x) (cn_aload 0 (cn_getf 5 17 (cn_const 12 (cn_aload 0 (cn_getf 5 11 (cn_imul (cn_iload 4 (cn_iadd (cn_aload 0 (cn_getf 5 6 (cn_iload 4 (cn_iald 0 (cn_iast 0 (fun x => x) (cn_aload 0 (cn_getf 5 18 (cn_const 12 (cn_aload 0 (cn_getf 5 11 (cn_imul (cn_iload 4 (cn_iadd (cn_aload 0 (cn_getf 5 7 (cn_iload 4 (cn_iald 0 (cn_iast 0 (fun x => x) (cn_iinc 4 1 ((cn_K 36))))))))))))))))))))))))))))))))))))))))))))))))))))))
def fX5_enter_36 (K : Nat → kv_D) : kv_D := o_iload 4 (o_aload 0 (o_getf 5 3 (o_icge (fX5_enter_139 K) (fX5_enter_45 K))))
theorem sX5_enter_36 {K : Nat → kv_D} (hK : ∀ pc, SX5_enter pc (K pc)) : SX5_enter 36 (fX5_enter_36 K) := k_iload dX5_enter_36 (k_aload_n dX5_enter_38 rfl (k_getf (C := RX5) (T := TX5) (N := 32) (ci := 5) (index := 99) (kf := 3) dX5_enter_39 rfl (fun w h => List.mem_cons_of_mem _ (inX5 w h)) (by decide) (List.mem_cons_of_mem _ mw_422) (k_icge dX5_enter_42 rfl (sX5_enter_139 hK) (sX5_enter_45 hK))))
theorem nX5_enter_36 : kv_cn (fun K => fX5_enter_36 K) := cn_iload 4 (cn_aload 0 (cn_getf 5 3 (cn_icge nX5_enter_139 nX5_enter_45)))
def fX5_enter_0 (K : Nat → kv_D) : kv_D := o_aload 0 (o_getf 5 12 (o_aload 0 (o_getf 5 11 (o_iload 1 (o_iast 0 (fun x => x) (o_aload 0 (o_getf 5 13 (o_aload 0 (o_getf 5 11 (o_iload 2 (o_iast 0 (fun x => x) (o_aload 0 (o_getf 5 14 (o_aload 0 (o_getf 5 11 (o_aload 0 (o_getf 5 3 (o_iast 0 (fun x => x) (o_const 0 (o_istore 4 ((K 36))))))))))))))))))))))
theorem sX5_enter_0 {K : Nat → kv_D} (hK : ∀ pc, SX5_enter pc (K pc)) : SX5_enter 0 (fX5_enter_0 K) := k_aload_n dX5_enter_0 rfl (k_getf (C := RX5) (T := TX5) (N := 32) (ci := 5) (index := 28) (kf := 12) dX5_enter_1 rfl (fun w h => List.mem_cons_of_mem _ (inX5 w h)) (by decide) (List.mem_cons_of_mem _ mw_431) (k_aload_n dX5_enter_4 rfl (k_getf (C := RX5) (T := TX5) (N := 32) (ci := 5) (index := 131) (kf := 11) dX5_enter_5 rfl (fun w h => List.mem_cons_of_mem _ (inX5 w h)) (by decide) (List.mem_cons_of_mem _ mw_430) (k_iload_n dX5_enter_8 rfl (k_iast dX5_enter_9 rfl (k_aload_n dX5_enter_10 rfl (k_getf (C := RX5) (T := TX5) (N := 32) (ci := 5) (index := 31) (kf := 13) dX5_enter_11 rfl (fun w h => List.mem_cons_of_mem _ (inX5 w h)) (by decide) (List.mem_cons_of_mem _ mw_432) (k_aload_n dX5_enter_14 rfl (k_getf (C := RX5) (T := TX5) (N := 32) (ci := 5) (index := 131) (kf := 11) dX5_enter_15 rfl (fun w h => List.mem_cons_of_mem _ (inX5 w h)) (by decide) (List.mem_cons_of_mem _ mw_430) (k_iload_n dX5_enter_18 rfl (k_iast dX5_enter_19 rfl (k_aload_n dX5_enter_20 rfl (k_getf (C := RX5) (T := TX5) (N := 32) (ci := 5) (index := 34) (kf := 14) dX5_enter_21 rfl (fun w h => List.mem_cons_of_mem _ (inX5 w h)) (by decide) (List.mem_cons_of_mem _ mw_433) (k_aload_n dX5_enter_24 rfl (k_getf (C := RX5) (T := TX5) (N := 32) (ci := 5) (index := 131) (kf := 11) dX5_enter_25 rfl (fun w h => List.mem_cons_of_mem _ (inX5 w h)) (by decide) (List.mem_cons_of_mem _ mw_430) (k_aload_n dX5_enter_28 rfl (k_getf (C := RX5) (T := TX5) (N := 32) (ci := 5) (index := 99) (kf := 3) dX5_enter_29 rfl (fun w h => List.mem_cons_of_mem _ (inX5 w h)) (by decide) (List.mem_cons_of_mem _ mw_422) (k_iast dX5_enter_32 rfl (k_iconst dX5_enter_33 (by decide +kernel) (k_istore dX5_enter_34 (by decide) ((hK 36))))))))))))))))))))))
theorem nX5_enter_0 : kv_cn (fun K => fX5_enter_0 K) := cn_aload 0 (cn_getf 5 12 (cn_aload 0 (cn_getf 5 11 (cn_iload 1 (cn_iast 0 (fun x => x) (cn_aload 0 (cn_getf 5 13 (cn_aload 0 (cn_getf 5 11 (cn_iload 2 (cn_iast 0 (fun x => x) (cn_aload 0 (cn_getf 5 14 (cn_aload 0 (cn_getf 5 11 (cn_aload 0 (cn_getf 5 3 (cn_iast 0 (fun x => x) (cn_const 0 (cn_istore 4 ((cn_K 36))))))))))))))))))))))
def bX5_enter (K : Nat → kv_D) (pc : Nat) : kv_D := if pc = 36 then fX5_enter_36 K else if pc = 157 then fX5_enter_157 K else if pc = 272 then fX5_enter_272 K else fun _ _ _ _ _ => False
theorem hX5_enter : ∀ pc, SX5_enter pc (kv_lim (bX5_enter) pc) := kv_lim_S (fun K hK pc => by
  unfold bX5_enter
  by_cases q36 : pc = 36
  · rw [if_pos q36, q36]
    exact sX5_enter_36 hK
  rw [if_neg q36]
  by_cases q157 : pc = 157
  · rw [if_pos q157, q157]
    exact sX5_enter_157 hK
  rw [if_neg q157]
  by_cases q272 : pc = 272
  · rw [if_pos q272, q272]
    exact sX5_enter_272 hK
  rw [if_neg q272]
  exact kv_none)
theorem uX5_enter_36 {L : List (Option Value)} {st : List Value} {h : kv_H} {v : Option Value} {h' : kv_H} (hx : fX5_enter_36 (kv_lim (bX5_enter)) L st h v h') : kv_lim (bX5_enter) 36 L st h v h' := kv_un (q := 36) (by have e : (fun K => bX5_enter K 36) = fun K => fX5_enter_36 K := (by funext K; rfl); rw [e]; exact nX5_enter_36) (by have e : bX5_enter (kv_lim (bX5_enter)) 36 = fX5_enter_36 (kv_lim (bX5_enter)) := rfl; rw [e]; exact hx)
theorem uX5_enter_157 {L : List (Option Value)} {st : List Value} {h : kv_H} {v : Option Value} {h' : kv_H} (hx : fX5_enter_157 (kv_lim (bX5_enter)) L st h v h') : kv_lim (bX5_enter) 157 L st h v h' := kv_un (q := 157) (by have e : (fun K => bX5_enter K 157) = fun K => fX5_enter_157 K := (by funext K; rfl); rw [e]; exact nX5_enter_157) (by have e : bX5_enter (kv_lim (bX5_enter)) 157 = fX5_enter_157 (kv_lim (bX5_enter)) := rfl; rw [e]; exact hx)
theorem uX5_enter_272 {L : List (Option Value)} {st : List Value} {h : kv_H} {v : Option Value} {h' : kv_H} (hx : fX5_enter_272 (kv_lim (bX5_enter)) L st h v h') : kv_lim (bX5_enter) 272 L st h v h' := kv_un (q := 272) (by have e : (fun K => bX5_enter K 272) = fun K => fX5_enter_272 K := (by funext K; rfl); rw [e]; exact nX5_enter_272) (by have e : bX5_enter (kv_lim (bX5_enter)) 272 = fX5_enter_272 (kv_lim (bX5_enter)) := rfl; rw [e]; exact hx)
def mX5_enter : kv_M := kv_in 4 6 (fX5_enter_0 (kv_lim (bX5_enter)))
theorem cX5_enter_ct : kv_CT yX5_enter wX5_enter 2 47 mX5_enter := kv_met (by decide) rfl rfl (by decide) (fun h => by cases h) (sX5_enter_0 (hX5_enter))
