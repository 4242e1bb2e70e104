/-! the law's loop, and the run that is owed -/
theorem and15 (x : Int32) : ∃ k, k < 16 ∧ (x &&& nI 15) = nI k := by
  refine ⟨x.toBitVec.toNat % 16, Nat.mod_lt _ (by decide), Int32.toBitVec_inj.mp ?_⟩
  rw [Int32.toBitVec_and]
  apply BitVec.eq_of_toNat_eq
  rw [BitVec.toNat_and]
  have e1 : (nI 15).toBitVec.toNat = 2 ^ 4 - 1 := by decide +kernel
  have e2 : (nI (x.toBitVec.toNat % 16)).toBitVec.toNat = x.toBitVec.toNat % 16 := by
    show (BitVec.ofNat 32 (x.toBitVec.toNat % 16)).toNat = _
    rw [BitVec.toNat_ofNat]
    omega
  rw [e1, e2, Nat.and_two_pow_sub_one_eq_mod]
theorem i2c_nI (x : Int32) : ∃ c, c < 65536 ∧ (x.toUInt32 % 65536).toInt32 = nI c := by
  refine ⟨(x.toUInt32 % 65536).toNat, ?_, ?_⟩
  · rw [UInt32.toNat_mod]
    exact Nat.mod_lt _ (by decide)
  · show _ = (UInt32.ofNat (x.toUInt32 % 65536).toNat).toInt32
    rw [UInt32.ofNat_toNat]
section LW
variable {N : Nat} {xs : Nat → Int32} {L : List (Option Value)} {h : kv_H} {P : Option Value → kv_H → Prop} {Z : Nat × Nat}
theorem w_tsw {Fs : List kv_D} {D : kv_D} {r : List Value} {k : Nat} (hk : k < 2147483648) (h1 : ∀ F, Fs[k]? = some F → wp F L r h P) (h2 : Fs.length ≤ k → wp D L r h P) : wp (o_tsw 0 Fs D) L (.int (nI k) :: r) h P := by
  have e : (nI k).toInt = (k : Int) := nI_toInt hk
  by_cases q : Fs.length ≤ k
  · obtain ⟨v, h', a, b⟩ := h2 q
    refine ⟨v, h', ?_, b⟩
    unfold o_tsw
    dsimp only
    rw [if_pos (by rw [e]; omega)]
    exact a
  · have hl : k < Fs.length := by omega
    obtain ⟨v, h', a, b⟩ := h1 _ (List.getElem?_eq_getElem hl)
    refine ⟨v, h', ?_, b⟩
    unfold o_tsw
    dsimp only
    rw [if_neg (by rw [e]; omega)]
    refine ⟨_, ?_, a⟩
    rw [e]
    have : ((k : Int) - 0).toNat = k := by omega
    rw [this]
    exact List.getElem?_eq_getElem hl
theorem la_0 {M4 M5 : kv_M} {F G : kv_D} (hL1 : L[1]? = some (some (.ref 1))) (hL2 : L[2]? = some (some (.ref 74))) (b : bo M4 M5 [] h Z) (K : ∀ h', vW h' Z → wp F L [] h' P) : wp (o_aload 1 (o_callV 4 0 M4 (o_aload 2 (o_callV 5 0 M5 (o_iceq F G))))) L [] h P := by
  obtain ⟨fs, g1, w⟩ := b
  simp only [w_aload, hL1]
  refine w_callV0 (r := []) g1 w (by decide) ?_
  rintro v h1 ⟨a, gs, rfl, g2, w2⟩
  simp only [Option.toList, List.cons_append, List.nil_append, w_aload, hL2]
  refine w_callV0 (r := [.int a]) g2 w2 (Nat.le_of_ble_eq_true rfl) ?_
  rintro v2 h2 ⟨rfl, V2⟩
  simp only [Option.toList, List.cons_append, List.nil_append, w_iceq, if_true]
  exact K h2 V2
theorem la_v {M4 M5 : kv_M} {F : kv_D} (hL1 : L[1]? = some (some (.ref 1))) (hL2 : L[2]? = some (some (.ref 74))) (b : bv M4 M5 h Z) (K : ∀ h', vW h' Z → wp F L [] h' P) : wp (o_aload 1 (o_callV 4 0 M4 (o_aload 2 (o_callV 5 0 M5 F)))) L [] h P := by
  obtain ⟨fs, g1, w⟩ := b
  simp only [w_aload, hL1]
  refine w_callV0 (r := []) g1 w (by decide) ?_
  rintro v h1 ⟨gs, rfl, g2, w2⟩
  simp only [Option.toList, List.nil_append, w_aload, hL2]
  refine w_callV0 (r := []) g2 w2 (by decide) ?_
  rintro v2 h2 ⟨rfl, V2⟩
  exact K h2 V2
theorem law_step {i : Nat} (V : vW h Z) (hi : i + 3 ≤ N) (hN : N ≤ 1536) (K : ∀ h', vW h' Z → wp (fL_law_352 N xs (kv_lim (bL_law N xs))) [some (.ref 0), some (.ref 1), some (.ref 74), some (.int (nI i))] [] h' P) : wp (fL_law_26 N xs (kv_lim (bL_law N xs))) [some (.ref 0), some (.ref 1), some (.ref 74), some (.int (nI i))] [] h P := by
  have g0 : i < 2147483648 := by omega
  have g1 : i + 1 < 2147483648 := by omega
  have g2 : i + 2 < 2147483648 := by omega
  simp only [fL_law_26, w_const, w_iload, w_aload, w_iinc, w_istore, w_astore, w_iadd, w_isub, w_imul, w_iand, w_ior, w_ixor, w_ishl, w_ishr, w_ineg, w_i2c, w_dup, w_pop, w_dup_x1, w_dup_x2, w_dup2, w_ifeq, w_ifne, w_iflt, w_ifge, w_ifgt, w_ifle, w_iceq, w_icne, w_iclt, w_icge, w_icgt, w_icle, w_ret, w_iret, w_aret, w_max, w_sld, w_slen, w_new, w_newa, w_newq, w_obj, w_getf, w_putf, w_iald, w_iast, w_alen, w_aald, w_aast, w_copy, List.getElem?_cons_zero, List.getElem?_cons_succ, List.set_cons_zero, List.set_cons_succ, List.length_cons, List.length_nil, List.cons_append, List.nil_append, Option.some.injEq, exists_eq_left', true_and, and_true, Option.toList, Value.category, l_0, l_1, l_2, l_3, l_4, l_8, l_9, l_10, l_12, l_13, l_15, l_26, l_32, l_40, l_41, l_42, l_43, l_45, l_46, l_48, l_49, l_50, l_51, l_59, l_60, l_61, l_62, l_63, l_65, l_90, l_91, l_93, l_94, l_96, l_97, l_100, l_122, l_123, l_124, l_125, l_126, l_161, l_1000, l_67108863, q_nb0, q_nb1, q_ni, q_fi, q_fb0, q_fb1, q_le (show 0 < 2147483648 by decide) g0, q_clamp g0, Nat.zero_le, show i < N by omega]
  obtain ⟨k, hk, ek⟩ := and15 (xs i)
  rw [ek]
  have one : ∀ {M4 M5 : kv_M} {x : Int32} {F G : kv_D}, bo M4 M5 [.int x] h Z → (∀ h', vW h' Z → wp F [some (.ref 0), some (.ref 1), some (.ref 74), some (.int (nI i))] [] h' P) → ∃ fs, kv_g h 1 = some (.inr (4, fs)) ∧ wm M4 [.ref 1, .int x] h (fun v h1 => ∃ a gs, v = some (.int a) ∧ kv_g h1 74 = some (.inr (5, gs)) ∧ wm M5 [.ref 74, .int x] h1 (fun v2 h2 => v2 = some (.int a) ∧ vW h2 Z)) := fun b _ => b
  refine w_tsw (by omega) (fun F hF => ?_) (fun _ => K h V)
  have hk14 : k < 14 := (List.getElem?_eq_some_iff.mp hF).1
  match k, hk14, hF with
  | 0, _, hF =>
    cases hF
    obtain ⟨c, hc, ec⟩ := i2c_nI (xs (i + 1))
    obtain ⟨fs, k1, w⟩ := bo_code V hc
    simp only [fL_law_104, w_const, w_iload, w_aload, w_iinc, w_istore, w_astore, w_iadd, w_isub, w_imul, w_iand, w_ior, w_ixor, w_ishl, w_ishr, w_ineg, w_i2c, w_dup, w_pop, w_dup_x1, w_dup_x2, w_dup2, w_ifeq, w_ifne, w_iflt, w_ifge, w_ifgt, w_ifle, w_iceq, w_icne, w_iclt, w_icge, w_icgt, w_icle, w_ret, w_iret, w_aret, w_max, w_sld, w_slen, w_new, w_newa, w_newq, w_obj, w_getf, w_putf, w_iald, w_iast, w_alen, w_aald, w_aast, w_copy, List.getElem?_cons_zero, List.getElem?_cons_succ, List.set_cons_zero, List.set_cons_succ, List.length_cons, List.length_nil, List.cons_append, List.nil_append, Option.some.injEq, exists_eq_left', true_and, and_true, Option.toList, Value.category, l_0, l_1, l_2, l_3, l_4, l_8, l_9, l_10, l_12, l_13, l_15, l_26, l_32, l_40, l_41, l_42, l_43, l_45, l_46, l_48, l_49, l_50, l_51, l_59, l_60, l_61, l_62, l_63, l_65, l_90, l_91, l_93, l_94, l_96, l_97, l_100, l_122, l_123, l_124, l_125, l_126, l_161, l_1000, l_67108863, q_nb0, q_nb1, q_ni, q_fi, q_fb0, q_fb1, q_add, q_le (show 0 < 2147483648 by decide) g1, q_clamp g1, Nat.zero_le, show i + 1 < N by omega, ec]
    refine w_callV1 (r := []) k1 w (by decide) ?_
    rintro v h1 ⟨a, gs, rfl, k2, w2⟩
    simp only [w_const, w_iload, w_aload, w_iinc, w_istore, w_astore, w_iadd, w_isub, w_imul, w_iand, w_ior, w_ixor, w_ishl, w_ishr, w_ineg, w_i2c, w_dup, w_pop, w_dup_x1, w_dup_x2, w_dup2, w_ifeq, w_ifne, w_iflt, w_ifge, w_ifgt, w_ifle, w_iceq, w_icne, w_iclt, w_icge, w_icgt, w_icle, w_ret, w_iret, w_aret, w_max, w_sld, w_slen, w_new, w_newa, w_newq, w_obj, w_getf, w_putf, w_iald, w_iast, w_alen, w_aald, w_aast, w_copy, List.getElem?_cons_zero, List.getElem?_cons_succ, List.set_cons_zero, List.set_cons_succ, List.length_cons, List.length_nil, List.cons_append, List.nil_append, Option.some.injEq, exists_eq_left', true_and, and_true, Option.toList, Value.category, l_0, l_1, l_2, l_3, l_4, l_8, l_9, l_10, l_12, l_13, l_15, l_26, l_32, l_40, l_41, l_42, l_43, l_45, l_46, l_48, l_49, l_50, l_51, l_59, l_60, l_61, l_62, l_63, l_65, l_90, l_91, l_93, l_94, l_96, l_97, l_100, l_122, l_123, l_124, l_125, l_126, l_161, l_1000, l_67108863, q_nb0, q_nb1, q_ni, q_fi, q_fb0, q_fb1, q_add, q_le (show 0 < 2147483648 by decide) g1, q_clamp g1, Nat.zero_le, show i + 1 < N by omega, ec]
    refine w_callV1 (r := [.int a]) k2 w2 (Nat.le_of_ble_eq_true rfl) ?_
    rintro v2 h2 ⟨rfl, V2⟩
    simp only [w_const, w_iload, w_aload, w_iinc, w_istore, w_astore, w_iadd, w_isub, w_imul, w_iand, w_ior, w_ixor, w_ishl, w_ishr, w_ineg, w_i2c, w_dup, w_pop, w_dup_x1, w_dup_x2, w_dup2, w_ifeq, w_ifne, w_iflt, w_ifge, w_ifgt, w_ifle, w_iceq, w_icne, w_iclt, w_icge, w_icgt, w_icle, w_ret, w_iret, w_aret, w_max, w_sld, w_slen, w_new, w_newa, w_newq, w_obj, w_getf, w_putf, w_iald, w_iast, w_alen, w_aald, w_aast, w_copy, List.getElem?_cons_zero, List.getElem?_cons_succ, List.set_cons_zero, List.set_cons_succ, List.length_cons, List.length_nil, List.cons_append, List.nil_append, Option.some.injEq, exists_eq_left', true_and, and_true, Option.toList, Value.category, l_0, l_1, l_2, l_3, l_4, l_8, l_9, l_10, l_12, l_13, l_15, l_26, l_32, l_40, l_41, l_42, l_43, l_45, l_46, l_48, l_49, l_50, l_51, l_59, l_60, l_61, l_62, l_63, l_65, l_90, l_91, l_93, l_94, l_96, l_97, l_100, l_122, l_123, l_124, l_125, l_126, l_161, l_1000, l_67108863, q_nb0, q_nb1, q_ni, q_fi, q_fb0, q_fb1, if_true]
    exact K h2 V2
  | 1, _, hF => cases hF; exact la_0 rfl rfl (bo_rules V) K
  | 2, _, hF => cases hF; exact la_v rfl rfl (bv_forget V) K
  | 3, _, hF => cases hF; exact la_v rfl rfl (bv_restart V) K
  | 4, _, hF =>
    cases hF
    obtain ⟨c, hc, ec⟩ := i2c_nI (xs (i + 1))
    obtain ⟨fs, k1, w⟩ := bo_write V hc
    simp only [fL_law_164, w_const, w_iload, w_aload, w_iinc, w_istore, w_astore, w_iadd, w_isub, w_imul, w_iand, w_ior, w_ixor, w_ishl, w_ishr, w_ineg, w_i2c, w_dup, w_pop, w_dup_x1, w_dup_x2, w_dup2, w_ifeq, w_ifne, w_iflt, w_ifge, w_ifgt, w_ifle, w_iceq, w_icne, w_iclt, w_icge, w_icgt, w_icle, w_ret, w_iret, w_aret, w_max, w_sld, w_slen, w_new, w_newa, w_newq, w_obj, w_getf, w_putf, w_iald, w_iast, w_alen, w_aald, w_aast, w_copy, List.getElem?_cons_zero, List.getElem?_cons_succ, List.set_cons_zero, List.set_cons_succ, List.length_cons, List.length_nil, List.cons_append, List.nil_append, Option.some.injEq, exists_eq_left', true_and, and_true, Option.toList, Value.category, l_0, l_1, l_2, l_3, l_4, l_8, l_9, l_10, l_12, l_13, l_15, l_26, l_32, l_40, l_41, l_42, l_43, l_45, l_46, l_48, l_49, l_50, l_51, l_59, l_60, l_61, l_62, l_63, l_65, l_90, l_91, l_93, l_94, l_96, l_97, l_100, l_122, l_123, l_124, l_125, l_126, l_161, l_1000, l_67108863, q_nb0, q_nb1, q_ni, q_fi, q_fb0, q_fb1, q_add, q_le (show 0 < 2147483648 by decide) g1, q_clamp g1, Nat.zero_le, show i + 1 < N by omega, ec]
    refine w_callV1 (r := []) k1 w (by decide) ?_
    rintro v h1 ⟨a, gs, rfl, k2, w2⟩
    simp only [w_const, w_iload, w_aload, w_iinc, w_istore, w_astore, w_iadd, w_isub, w_imul, w_iand, w_ior, w_ixor, w_ishl, w_ishr, w_ineg, w_i2c, w_dup, w_pop, w_dup_x1, w_dup_x2, w_dup2, w_ifeq, w_ifne, w_iflt, w_ifge, w_ifgt, w_ifle, w_iceq, w_icne, w_iclt, w_icge, w_icgt, w_icle, w_ret, w_iret, w_aret, w_max, w_sld, w_slen, w_new, w_newa, w_newq, w_obj, w_getf, w_putf, w_iald, w_iast, w_alen, w_aald, w_aast, w_copy, List.getElem?_cons_zero, List.getElem?_cons_succ, List.set_cons_zero, List.set_cons_succ, List.length_cons, List.length_nil, List.cons_append, List.nil_append, Option.some.injEq, exists_eq_left', true_and, and_true, Option.toList, Value.category, l_0, l_1, l_2, l_3, l_4, l_8, l_9, l_10, l_12, l_13, l_15, l_26, l_32, l_40, l_41, l_42, l_43, l_45, l_46, l_48, l_49, l_50, l_51, l_59, l_60, l_61, l_62, l_63, l_65, l_90, l_91, l_93, l_94, l_96, l_97, l_100, l_122, l_123, l_124, l_125, l_126, l_161, l_1000, l_67108863, q_nb0, q_nb1, q_ni, q_fi, q_fb0, q_fb1, q_add, q_le (show 0 < 2147483648 by decide) g1, q_clamp g1, Nat.zero_le, show i + 1 < N by omega, ec]
    refine w_callV1 (r := [.int a]) k2 w2 (Nat.le_of_ble_eq_true rfl) ?_
    rintro v2 h2 ⟨rfl, V2⟩
    simp only [w_const, w_iload, w_aload, w_iinc, w_istore, w_astore, w_iadd, w_isub, w_imul, w_iand, w_ior, w_ixor, w_ishl, w_ishr, w_ineg, w_i2c, w_dup, w_pop, w_dup_x1, w_dup_x2, w_dup2, w_ifeq, w_ifne, w_iflt, w_ifge, w_ifgt, w_ifle, w_iceq, w_icne, w_iclt, w_icge, w_icgt, w_icle, w_ret, w_iret, w_aret, w_max, w_sld, w_slen, w_new, w_newa, w_newq, w_obj, w_getf, w_putf, w_iald, w_iast, w_alen, w_aald, w_aast, w_copy, List.getElem?_cons_zero, List.getElem?_cons_succ, List.set_cons_zero, List.set_cons_succ, List.length_cons, List.length_nil, List.cons_append, List.nil_append, Option.some.injEq, exists_eq_left', true_and, and_true, Option.toList, Value.category, l_0, l_1, l_2, l_3, l_4, l_8, l_9, l_10, l_12, l_13, l_15, l_26, l_32, l_40, l_41, l_42, l_43, l_45, l_46, l_48, l_49, l_50, l_51, l_59, l_60, l_61, l_62, l_63, l_65, l_90, l_91, l_93, l_94, l_96, l_97, l_100, l_122, l_123, l_124, l_125, l_126, l_161, l_1000, l_67108863, q_nb0, q_nb1, q_ni, q_fi, q_fb0, q_fb1, if_true]
    exact K h2 V2
  | 5, _, hF => cases hF; exact la_0 rfl rfl (bo_settle V) K
  | 6, _, hF => cases hF; exact la_0 rfl rfl (bo_finish V) K
  | 7, _, hF => cases hF; exact la_0 rfl rfl (bo_length V) K
  | 8, _, hF =>
    cases hF
    obtain ⟨fs, k1, w⟩ := bo_letter V (xs (i + 1))
    simp only [fL_law_228, w_const, w_iload, w_aload, w_iinc, w_istore, w_astore, w_iadd, w_isub, w_imul, w_iand, w_ior, w_ixor, w_ishl, w_ishr, w_ineg, w_i2c, w_dup, w_pop, w_dup_x1, w_dup_x2, w_dup2, w_ifeq, w_ifne, w_iflt, w_ifge, w_ifgt, w_ifle, w_iceq, w_icne, w_iclt, w_icge, w_icgt, w_icle, w_ret, w_iret, w_aret, w_max, w_sld, w_slen, w_new, w_newa, w_newq, w_obj, w_getf, w_putf, w_iald, w_iast, w_alen, w_aald, w_aast, w_copy, List.getElem?_cons_zero, List.getElem?_cons_succ, List.set_cons_zero, List.set_cons_succ, List.length_cons, List.length_nil, List.cons_append, List.nil_append, Option.some.injEq, exists_eq_left', true_and, and_true, Option.toList, Value.category, l_0, l_1, l_2, l_3, l_4, l_8, l_9, l_10, l_12, l_13, l_15, l_26, l_32, l_40, l_41, l_42, l_43, l_45, l_46, l_48, l_49, l_50, l_51, l_59, l_60, l_61, l_62, l_63, l_65, l_90, l_91, l_93, l_94, l_96, l_97, l_100, l_122, l_123, l_124, l_125, l_126, l_161, l_1000, l_67108863, q_nb0, q_nb1, q_ni, q_fi, q_fb0, q_fb1, q_add, q_le (show 0 < 2147483648 by decide) g1, q_clamp g1, Nat.zero_le, show i + 1 < N by omega]
    refine w_callV1 (r := []) k1 w (by decide) ?_
    rintro v h1 ⟨a, gs, rfl, k2, w2⟩
    simp only [w_const, w_iload, w_aload, w_iinc, w_istore, w_astore, w_iadd, w_isub, w_imul, w_iand, w_ior, w_ixor, w_ishl, w_ishr, w_ineg, w_i2c, w_dup, w_pop, w_dup_x1, w_dup_x2, w_dup2, w_ifeq, w_ifne, w_iflt, w_ifge, w_ifgt, w_ifle, w_iceq, w_icne, w_iclt, w_icge, w_icgt, w_icle, w_ret, w_iret, w_aret, w_max, w_sld, w_slen, w_new, w_newa, w_newq, w_obj, w_getf, w_putf, w_iald, w_iast, w_alen, w_aald, w_aast, w_copy, List.getElem?_cons_zero, List.getElem?_cons_succ, List.set_cons_zero, List.set_cons_succ, List.length_cons, List.length_nil, List.cons_append, List.nil_append, Option.some.injEq, exists_eq_left', true_and, and_true, Option.toList, Value.category, l_0, l_1, l_2, l_3, l_4, l_8, l_9, l_10, l_12, l_13, l_15, l_26, l_32, l_40, l_41, l_42, l_43, l_45, l_46, l_48, l_49, l_50, l_51, l_59, l_60, l_61, l_62, l_63, l_65, l_90, l_91, l_93, l_94, l_96, l_97, l_100, l_122, l_123, l_124, l_125, l_126, l_161, l_1000, l_67108863, q_nb0, q_nb1, q_ni, q_fi, q_fb0, q_fb1, q_add, q_le (show 0 < 2147483648 by decide) g1, q_clamp g1, Nat.zero_le, show i + 1 < N by omega]
    refine w_callV1 (r := [.int a]) k2 w2 (Nat.le_of_ble_eq_true rfl) ?_
    rintro v2 h2 ⟨rfl, V2⟩
    simp only [w_const, w_iload, w_aload, w_iinc, w_istore, w_astore, w_iadd, w_isub, w_imul, w_iand, w_ior, w_ixor, w_ishl, w_ishr, w_ineg, w_i2c, w_dup, w_pop, w_dup_x1, w_dup_x2, w_dup2, w_ifeq, w_ifne, w_iflt, w_ifge, w_ifgt, w_ifle, w_iceq, w_icne, w_iclt, w_icge, w_icgt, w_icle, w_ret, w_iret, w_aret, w_max, w_sld, w_slen, w_new, w_newa, w_newq, w_obj, w_getf, w_putf, w_iald, w_iast, w_alen, w_aald, w_aast, w_copy, List.getElem?_cons_zero, List.getElem?_cons_succ, List.set_cons_zero, List.set_cons_succ, List.length_cons, List.length_nil, List.cons_append, List.nil_append, Option.some.injEq, exists_eq_left', true_and, and_true, Option.toList, Value.category, l_0, l_1, l_2, l_3, l_4, l_8, l_9, l_10, l_12, l_13, l_15, l_26, l_32, l_40, l_41, l_42, l_43, l_45, l_46, l_48, l_49, l_50, l_51, l_59, l_60, l_61, l_62, l_63, l_65, l_90, l_91, l_93, l_94, l_96, l_97, l_100, l_122, l_123, l_124, l_125, l_126, l_161, l_1000, l_67108863, q_nb0, q_nb1, q_ni, q_fi, q_fb0, q_fb1, if_true]
    exact K h2 V2
  | 9, _, hF => cases hF; exact la_0 rfl rfl (bo_cursor V) K
  | 10, _, hF => cases hF; exact la_0 rfl rfl (bo_applied V) K
  | 11, _, hF => cases hF; exact la_0 rfl rfl (bo_latest V) K
  | 12, _, hF => cases hF; exact la_0 rfl rfl (bo_stuck V) K
  | 13, _, hF =>
    cases hF
    have at344 : ∀ (b : Bool) (a : Int32) (h1 : kv_H) (gs : List Value), kv_g h1 74 = some (.inr (5, gs)) → wm mX5_probe [.ref 74, .int (xs (i + 1)), .int (nI b.toNat)] h1 (fun v2 h2 => v2 = some (.int a) ∧ vW h2 Z) → wp (fL_law_344 N xs (kv_lim (bL_law N xs))) [some (.ref 0), some (.ref 1), some (.ref 74), some (.int (nI i))] [.int (nI b.toNat), .int (xs (i + 1)), .ref 74, .int a] h1 P := by
      intro b a h1 gs k2 w2
      unfold fL_law_344
      refine w_callV2 (r := [.int a]) k2 w2 (Nat.le_of_ble_eq_true rfl) ?_
      rintro v2 h2 ⟨rfl, V2⟩
      simp only [w_const, w_iload, w_aload, w_iinc, w_istore, w_astore, w_iadd, w_isub, w_imul, w_iand, w_ior, w_ixor, w_ishl, w_ishr, w_ineg, w_i2c, w_dup, w_pop, w_dup_x1, w_dup_x2, w_dup2, w_ifeq, w_ifne, w_iflt, w_ifge, w_ifgt, w_ifle, w_iceq, w_icne, w_iclt, w_icge, w_icgt, w_icle, w_ret, w_iret, w_aret, w_max, w_sld, w_slen, w_new, w_newa, w_newq, w_obj, w_getf, w_putf, w_iald, w_iast, w_alen, w_aald, w_aast, w_copy, List.getElem?_cons_zero, List.getElem?_cons_succ, List.set_cons_zero, List.set_cons_succ, List.length_cons, List.length_nil, List.cons_append, List.nil_append, Option.some.injEq, exists_eq_left', true_and, and_true, Option.toList, Value.category, l_0, l_1, l_2, l_3, l_4, l_8, l_9, l_10, l_12, l_13, l_15, l_26, l_32, l_40, l_41, l_42, l_43, l_45, l_46, l_48, l_49, l_50, l_51, l_59, l_60, l_61, l_62, l_63, l_65, l_90, l_91, l_93, l_94, l_96, l_97, l_100, l_122, l_123, l_124, l_125, l_126, l_161, l_1000, l_67108863, q_nb0, q_nb1, q_ni, q_fi, q_fb0, q_fb1, if_true]
      exact K h2 V2
    have at322 : ∀ b : Bool, (xs (i + 2) = nI 0 ↔ b = false) → wp (fL_law_322 N xs (kv_lim (bL_law N xs))) [some (.ref 0), some (.ref 1), some (.ref 74), some (.int (nI i))] [.int (nI b.toNat), .int (xs (i + 1)), .ref 1] h P := by
      intro b hb
      obtain ⟨fs, k1, w⟩ := bo_probe V (xs (i + 1)) b
      unfold fL_law_322
      refine w_callV2 (r := []) k1 w (by decide) ?_
      rintro v h1 ⟨a, gs, rfl, k2, w2⟩
      simp only [w_const, w_iload, w_aload, w_iinc, w_istore, w_astore, w_iadd, w_isub, w_imul, w_iand, w_ior, w_ixor, w_ishl, w_ishr, w_ineg, w_i2c, w_dup, w_pop, w_dup_x1, w_dup_x2, w_dup2, w_ifeq, w_ifne, w_iflt, w_ifge, w_ifgt, w_ifle, w_iceq, w_icne, w_iclt, w_icge, w_icgt, w_icle, w_ret, w_iret, w_aret, w_max, w_sld, w_slen, w_new, w_newa, w_newq, w_obj, w_getf, w_putf, w_iald, w_iast, w_alen, w_aald, w_aast, w_copy, List.getElem?_cons_zero, List.getElem?_cons_succ, List.set_cons_zero, List.set_cons_succ, List.length_cons, List.length_nil, List.cons_append, List.nil_append, Option.some.injEq, exists_eq_left', true_and, and_true, Option.toList, Value.category, l_0, l_1, l_2, l_3, l_4, l_8, l_9, l_10, l_12, l_13, l_15, l_26, l_32, l_40, l_41, l_42, l_43, l_45, l_46, l_48, l_49, l_50, l_51, l_59, l_60, l_61, l_62, l_63, l_65, l_90, l_91, l_93, l_94, l_96, l_97, l_100, l_122, l_123, l_124, l_125, l_126, l_161, l_1000, l_67108863, q_nb0, q_nb1, q_ni, q_fi, q_fb0, q_fb1, q_add, q_le (show 0 < 2147483648 by decide) g1, q_clamp g1, q_le (show 0 < 2147483648 by decide) g2, q_clamp g2, Nat.zero_le, show i + 1 < N by omega, show i + 2 < N by omega]
      by_cases e : xs (i + 2) = nI 0
      · have eb := hb.mp e
        subst eb
        simp only [e, if_true, fL_law_343, w_const, w_iload, w_aload, w_iinc, w_istore, w_astore, w_iadd, w_isub, w_imul, w_iand, w_ior, w_ixor, w_ishl, w_ishr, w_ineg, w_i2c, w_dup, w_pop, w_dup_x1, w_dup_x2, w_dup2, w_ifeq, w_ifne, w_iflt, w_ifge, w_ifgt, w_ifle, w_iceq, w_icne, w_iclt, w_icge, w_icgt, w_icle, w_ret, w_iret, w_aret, w_max, w_sld, w_slen, w_new, w_newa, w_newq, w_obj, w_getf, w_putf, w_iald, w_iast, w_alen, w_aald, w_aast, w_copy, List.getElem?_cons_zero, List.getElem?_cons_succ, List.set_cons_zero, List.set_cons_succ, List.length_cons, List.length_nil, List.cons_append, List.nil_append, Option.some.injEq, exists_eq_left', true_and, and_true, Option.toList, Value.category, l_0, l_1, l_2, l_3, l_4, l_8, l_9, l_10, l_12, l_13, l_15, l_26, l_32, l_40, l_41, l_42, l_43, l_45, l_46, l_48, l_49, l_50, l_51, l_59, l_60, l_61, l_62, l_63, l_65, l_90, l_91, l_93, l_94, l_96, l_97, l_100, l_122, l_123, l_124, l_125, l_126, l_161, l_1000, l_67108863, q_nb0, q_nb1, q_ni, q_fi, q_fb0, q_fb1]
        exact at344 false a h1 gs k2 w2
      · have eb : b = true := by
          cases b
          · exact absurd (hb.mpr rfl) e
          · rfl
        subst eb
        simp only [e, if_false, fL_law_339, w_const, w_iload, w_aload, w_iinc, w_istore, w_astore, w_iadd, w_isub, w_imul, w_iand, w_ior, w_ixor, w_ishl, w_ishr, w_ineg, w_i2c, w_dup, w_pop, w_dup_x1, w_dup_x2, w_dup2, w_ifeq, w_ifne, w_iflt, w_ifge, w_ifgt, w_ifle, w_iceq, w_icne, w_iclt, w_icge, w_icgt, w_icle, w_ret, w_iret, w_aret, w_max, w_sld, w_slen, w_new, w_newa, w_newq, w_obj, w_getf, w_putf, w_iald, w_iast, w_alen, w_aald, w_aast, w_copy, List.getElem?_cons_zero, List.getElem?_cons_succ, List.set_cons_zero, List.set_cons_succ, List.length_cons, List.length_nil, List.cons_append, List.nil_append, Option.some.injEq, exists_eq_left', true_and, and_true, Option.toList, Value.category, l_0, l_1, l_2, l_3, l_4, l_8, l_9, l_10, l_12, l_13, l_15, l_26, l_32, l_40, l_41, l_42, l_43, l_45, l_46, l_48, l_49, l_50, l_51, l_59, l_60, l_61, l_62, l_63, l_65, l_90, l_91, l_93, l_94, l_96, l_97, l_100, l_122, l_123, l_124, l_125, l_126, l_161, l_1000, l_67108863, q_nb0, q_nb1, q_ni, q_fi, q_fb0, q_fb1]
        exact at344 true a h1 gs k2 w2
    simp only [fL_law_303, w_const, w_iload, w_aload, w_iinc, w_istore, w_astore, w_iadd, w_isub, w_imul, w_iand, w_ior, w_ixor, w_ishl, w_ishr, w_ineg, w_i2c, w_dup, w_pop, w_dup_x1, w_dup_x2, w_dup2, w_ifeq, w_ifne, w_iflt, w_ifge, w_ifgt, w_ifle, w_iceq, w_icne, w_iclt, w_icge, w_icgt, w_icle, w_ret, w_iret, w_aret, w_max, w_sld, w_slen, w_new, w_newa, w_newq, w_obj, w_getf, w_putf, w_iald, w_iast, w_alen, w_aald, w_aast, w_copy, List.getElem?_cons_zero, List.getElem?_cons_succ, List.set_cons_zero, List.set_cons_succ, List.length_cons, List.length_nil, List.cons_append, List.nil_append, Option.some.injEq, exists_eq_left', true_and, and_true, Option.toList, Value.category, l_0, l_1, l_2, l_3, l_4, l_8, l_9, l_10, l_12, l_13, l_15, l_26, l_32, l_40, l_41, l_42, l_43, l_45, l_46, l_48, l_49, l_50, l_51, l_59, l_60, l_61, l_62, l_63, l_65, l_90, l_91, l_93, l_94, l_96, l_97, l_100, l_122, l_123, l_124, l_125, l_126, l_161, l_1000, l_67108863, q_nb0, q_nb1, q_ni, q_fi, q_fb0, q_fb1, q_add, q_le (show 0 < 2147483648 by decide) g1, q_clamp g1, q_le (show 0 < 2147483648 by decide) g2, q_clamp g2, Nat.zero_le, show i + 1 < N by omega, show i + 2 < N by omega]
    by_cases e : xs (i + 2) = nI 0
    · simp only [e, if_true, fL_law_321, w_const, w_iload, w_aload, w_iinc, w_istore, w_astore, w_iadd, w_isub, w_imul, w_iand, w_ior, w_ixor, w_ishl, w_ishr, w_ineg, w_i2c, w_dup, w_pop, w_dup_x1, w_dup_x2, w_dup2, w_ifeq, w_ifne, w_iflt, w_ifge, w_ifgt, w_ifle, w_iceq, w_icne, w_iclt, w_icge, w_icgt, w_icle, w_ret, w_iret, w_aret, w_max, w_sld, w_slen, w_new, w_newa, w_newq, w_obj, w_getf, w_putf, w_iald, w_iast, w_alen, w_aald, w_aast, w_copy, List.getElem?_cons_zero, List.getElem?_cons_succ, List.set_cons_zero, List.set_cons_succ, List.length_cons, List.length_nil, List.cons_append, List.nil_append, Option.some.injEq, exists_eq_left', true_and, and_true, Option.toList, Value.category, l_0, l_1, l_2, l_3, l_4, l_8, l_9, l_10, l_12, l_13, l_15, l_26, l_32, l_40, l_41, l_42, l_43, l_45, l_46, l_48, l_49, l_50, l_51, l_59, l_60, l_61, l_62, l_63, l_65, l_90, l_91, l_93, l_94, l_96, l_97, l_100, l_122, l_123, l_124, l_125, l_126, l_161, l_1000, l_67108863, q_nb0, q_nb1, q_ni, q_fi, q_fb0, q_fb1]
      exact at322 false ⟨fun _ => rfl, fun _ => e⟩
    · simp only [e, if_false, fL_law_317, w_const, w_iload, w_aload, w_iinc, w_istore, w_astore, w_iadd, w_isub, w_imul, w_iand, w_ior, w_ixor, w_ishl, w_ishr, w_ineg, w_i2c, w_dup, w_pop, w_dup_x1, w_dup_x2, w_dup2, w_ifeq, w_ifne, w_iflt, w_ifge, w_ifgt, w_ifle, w_iceq, w_icne, w_iclt, w_icge, w_icgt, w_icle, w_ret, w_iret, w_aret, w_max, w_sld, w_slen, w_new, w_newa, w_newq, w_obj, w_getf, w_putf, w_iald, w_iast, w_alen, w_aald, w_aast, w_copy, List.getElem?_cons_zero, List.getElem?_cons_succ, List.set_cons_zero, List.set_cons_succ, List.length_cons, List.length_nil, List.cons_append, List.nil_append, Option.some.injEq, exists_eq_left', true_and, and_true, Option.toList, Value.category, l_0, l_1, l_2, l_3, l_4, l_8, l_9, l_10, l_12, l_13, l_15, l_26, l_32, l_40, l_41, l_42, l_43, l_45, l_46, l_48, l_49, l_50, l_51, l_59, l_60, l_61, l_62, l_63, l_65, l_90, l_91, l_93, l_94, l_96, l_97, l_100, l_122, l_123, l_124, l_125, l_126, l_161, l_1000, l_67108863, q_nb0, q_nb1, q_ni, q_fi, q_fb0, q_fb1]
      exact at322 true ⟨fun z => absurd z e, fun z => by cases z⟩
theorem law_loop (hN : N ≤ 1536) : ∀ (f i : Nat) (h : kv_H), N ≤ i + 3 * f + 2 → i ≤ N → vW h Z → wp (kv_lim (bL_law N xs) 18) [some (.ref 0), some (.ref 1), some (.ref 74), some (.int (nI i))] [] h (fun v h' => v = some (.int (nI 1)) ∧ h'.2 = Z) := by
  have out : ∀ (i : Nat) (h : kv_H), N < i + 3 → i ≤ N → vW h Z → wp (kv_lim (bL_law N xs) 18) [some (.ref 0), some (.ref 1), some (.ref 74), some (.int (nI i))] [] h (fun v h' => v = some (.int (nI 1)) ∧ h'.2 = Z) := by
    intro i h hi hiN V
    refine tL_law_18 N xs ?_
    have e : (Int32.ofNat N - nI 3 < nI i) = True := by
      apply eq_true
      show nI N - nI 3 < nI i
      by_cases q : 3 ≤ N
      · rw [q_sub q, q_lt (by omega) (by omega)]
        omega
      · have a : nI N - nI 3 < nI 0 := by
          rcases (show N = 0 ∨ N = 1 ∨ N = 2 by omega) with rfl | rfl | rfl <;> decide +kernel
        have b : nI 0 ≤ nI i := by
          rw [q_le (by decide) (by omega)]
          omega
        rw [Int32.lt_iff_toInt_lt] at a ⊢
        rw [Int32.le_iff_toInt_le] at b
        omega
    simp only [fL_law_18, fL_law_358, w_const, w_iload, w_aload, w_iinc, w_istore, w_astore, w_iadd, w_isub, w_imul, w_iand, w_ior, w_ixor, w_ishl, w_ishr, w_ineg, w_i2c, w_dup, w_pop, w_dup_x1, w_dup_x2, w_dup2, w_ifeq, w_ifne, w_iflt, w_ifge, w_ifgt, w_ifle, w_iceq, w_icne, w_iclt, w_icge, w_icgt, w_icle, w_ret, w_iret, w_aret, w_max, w_sld, w_slen, w_new, w_newa, w_newq, w_obj, w_getf, w_putf, w_iald, w_iast, w_alen, w_aald, w_aast, w_copy, List.getElem?_cons_zero, List.getElem?_cons_succ, List.set_cons_zero, List.set_cons_succ, List.length_cons, List.length_nil, List.cons_append, List.nil_append, Option.some.injEq, exists_eq_left', true_and, and_true, Option.toList, Value.category, l_0, l_1, l_2, l_3, l_4, l_8, l_9, l_10, l_12, l_13, l_15, l_26, l_32, l_40, l_41, l_42, l_43, l_45, l_46, l_48, l_49, l_50, l_51, l_59, l_60, l_61, l_62, l_63, l_65, l_90, l_91, l_93, l_94, l_96, l_97, l_100, l_122, l_123, l_124, l_125, l_126, l_161, l_1000, l_67108863, q_nb0, q_nb1, q_ni, q_fi, q_fb0, q_fb1, e, if_true]
    obtain ⟨t, n, mn, mn2, rs, s, -, -, -, -, -, -, -, -, -, hz⟩ := V
    exact hz
  intro f
  induction f with
  | zero =>
    intro i h hi hiN V
    exact out i h (by omega) hiN V
  | succ f ih =>
    intro i h hi hiN V
    by_cases q : i + 3 ≤ N
    · refine tL_law_18 N xs ?_
      have e : (Int32.ofNat N - nI 3 < nI i) = False := by
        apply eq_false
        show ¬ nI N - nI 3 < nI i
        rw [q_sub (by omega), q_lt (by omega) (by omega)]
        omega
      simp only [fL_law_18, w_const, w_iload, w_aload, w_iinc, w_istore, w_astore, w_iadd, w_isub, w_imul, w_iand, w_ior, w_ixor, w_ishl, w_ishr, w_ineg, w_i2c, w_dup, w_pop, w_dup_x1, w_dup_x2, w_dup2, w_ifeq, w_ifne, w_iflt, w_ifge, w_ifgt, w_ifle, w_iceq, w_icne, w_iclt, w_icge, w_icgt, w_icle, w_ret, w_iret, w_aret, w_max, w_sld, w_slen, w_new, w_newa, w_newq, w_obj, w_getf, w_putf, w_iald, w_iast, w_alen, w_aald, w_aast, w_copy, List.getElem?_cons_zero, List.getElem?_cons_succ, List.set_cons_zero, List.set_cons_succ, List.length_cons, List.length_nil, List.cons_append, List.nil_append, Option.some.injEq, exists_eq_left', true_and, and_true, Option.toList, Value.category, l_0, l_1, l_2, l_3, l_4, l_8, l_9, l_10, l_12, l_13, l_15, l_26, l_32, l_40, l_41, l_42, l_43, l_45, l_46, l_48, l_49, l_50, l_51, l_59, l_60, l_61, l_62, l_63, l_65, l_90, l_91, l_93, l_94, l_96, l_97, l_100, l_122, l_123, l_124, l_125, l_126, l_161, l_1000, l_67108863, q_nb0, q_nb1, q_ni, q_fi, q_fb0, q_fb1, e, if_false]
      refine law_step V q hN (fun h' V' => ?_)
      simp only [fL_law_352, w_const, w_iload, w_aload, w_iinc, w_istore, w_astore, w_iadd, w_isub, w_imul, w_iand, w_ior, w_ixor, w_ishl, w_ishr, w_ineg, w_i2c, w_dup, w_pop, w_dup_x1, w_dup_x2, w_dup2, w_ifeq, w_ifne, w_iflt, w_ifge, w_ifgt, w_ifle, w_iceq, w_icne, w_iclt, w_icge, w_icgt, w_icle, w_ret, w_iret, w_aret, w_max, w_sld, w_slen, w_new, w_newa, w_newq, w_obj, w_getf, w_putf, w_iald, w_iast, w_alen, w_aald, w_aast, w_copy, List.getElem?_cons_zero, List.getElem?_cons_succ, List.set_cons_zero, List.set_cons_succ, List.length_cons, List.length_nil, List.cons_append, List.nil_append, Option.some.injEq, exists_eq_left', true_and, and_true, Option.toList, Value.category, l_0, l_1, l_2, l_3, l_4, l_8, l_9, l_10, l_12, l_13, l_15, l_26, l_32, l_40, l_41, l_42, l_43, l_45, l_46, l_48, l_49, l_50, l_51, l_59, l_60, l_61, l_62, l_63, l_65, l_90, l_91, l_93, l_94, l_96, l_97, l_100, l_122, l_123, l_124, l_125, l_126, l_161, l_1000, l_67108863, q_nb0, q_nb1, q_ni, q_fi, q_fb0, q_fb1, q_add]
      exact ih (i + 3) h' (by omega) (by omega) V'
    · exact out i h (by omega) hiN V
end LW
theorem kv_pure {L : Nat} {xs : Nat → Int32} (hL : L ≤ 1536) : ∃ h', eL_law L xs [some (.ref 0), none, none, none] [] kv_0 (some (.int 1)) h' ∧ h'.2.1 ≤ 600000 ∧ h'.2.2 ≤ 7302250 := by
  have w : wp (eL_law L xs) [some (.ref 0), none, none, none] [] kv_0 (fun v h' => v = some (.int (nI 1)) ∧ h'.2 = (94, 1793)) := by
    unfold eL_law fL_law_0
    have c1 : kv_g (kv_n kv_0 (.inr (4, [.null, .null, .int 0, .null, .null, .int 0, .int 0, .int 0])) 8) 1 = some (.inr (4, [.null, .null, .int 0, .null, .null, .int 0, .int 0, .int 0])) := by rw [kv_gn, if_pos (by rfl)]
    have c2 : (kv_n kv_0 (.inr (4, [.null, .null, .int 0, .null, .null, .int 0, .int 0, .int 0])) 8).2 = (1, 8) := rfl
    have c3 : kv_0.2.1 + 1 = 1 := rfl
    simp only [w_new, w_dup, Value.category, true_and, c3]
    generalize kv_n kv_0 (.inr (4, [.null, .null, .int 0, .null, .null, .int 0, .int 0, .int 0])) 8 = h1 at c1 c2 ⊢
    refine w_callI0 (r := [.ref 1]) (p_init4 c1 c2) (Nat.le_of_ble_eq_true rfl) ?_
    rintro v h2 ⟨rfl, ⟨mn, hmn, VL⟩, m2⟩
    have m21 : h2.2.1 = 73 := by rw [m2]
    have d1 : kv_g (kv_n h2 (.inr (5, [.int 0, .null, .null, .int 0, .null, .null, .null, .null, .int 0, .int 0, .int 0, .int 0, .null, .null, .null, .null, .null, .null, .null, .null, .null, .null, .int 0, .null, .null, .int 0, .int 0, .int 0, .int 0, .int 0, .null, .null])) 32) 74 = some (.inr (5, [.int 0, .null, .null, .int 0, .null, .null, .null, .null, .int 0, .int 0, .int 0, .int 0, .null, .null, .null, .null, .null, .null, .null, .null, .null, .null, .int 0, .null, .null, .int 0, .int 0, .int 0, .int 0, .int 0, .null, .null])) := by rw [kv_gn, if_pos (by omega)]
    have d2 : (kv_n h2 (.inr (5, [.int 0, .null, .null, .int 0, .null, .null, .null, .null, .int 0, .int 0, .int 0, .int 0, .null, .null, .null, .null, .null, .null, .null, .null, .null, .null, .int 0, .null, .null, .int 0, .int 0, .int 0, .int 0, .int 0, .null, .null])) 32).2 = (74, 879) := by
      show (h2.2.1 + 1, h2.2.2 + 32) = _
      rw [m2]
    have d3 : ∀ a, a ≤ 73 → kv_g (kv_n h2 (.inr (5, [.int 0, .null, .null, .int 0, .null, .null, .null, .null, .int 0, .int 0, .int 0, .int 0, .null, .null, .null, .null, .null, .null, .null, .null, .null, .null, .int 0, .null, .null, .int 0, .int 0, .int 0, .int 0, .int 0, .null, .null])) 32) a = kv_g h2 a := fun a ha => by rw [kv_gn, if_neg (by omega)]
    simp only [Option.toList, List.nil_append, w_astore, w_new, w_dup, Value.category, true_and, m21, List.set_cons_succ, List.set_cons_zero]
    generalize kv_n h2 (.inr (5, [.int 0, .null, .null, .int 0, .null, .null, .null, .null, .int 0, .int 0, .int 0, .int 0, .null, .null, .null, .null, .null, .null, .null, .null, .null, .null, .int 0, .null, .null, .int 0, .int 0, .int 0, .int 0, .int 0, .null, .null])) 32 = h3 at d1 d2 d3 ⊢
    refine w_callI0 (r := [.ref 74]) (r_init d1 d2) (Nat.le_of_ble_eq_true rfl) ?_
    rintro v h4 ⟨rfl, ⟨mn2, hmn2, VQ⟩, m4, f4⟩
    have VL4 := vL_eq VL (fun a ha => (f4 a ha).trans (d3 a ha))
    have V : vW h4 (94, 1793) := ⟨_, 0, mn, mn2, [], ([], 0, 0, -nI 1, 0), VL4, VQ, by decide, fun _ => by decide, by decide, (fun r hr => by cases hr), fun j hj => Or.inl (hmn j hj), fun j hj => by rw [hmn2 j hj, hmn j hj], okW_0, m4⟩
    simp only [w_const, w_iload, w_aload, w_iinc, w_istore, w_astore, w_iadd, w_isub, w_imul, w_iand, w_ior, w_ixor, w_ishl, w_ishr, w_ineg, w_i2c, w_dup, w_pop, w_dup_x1, w_dup_x2, w_dup2, w_ifeq, w_ifne, w_iflt, w_ifge, w_ifgt, w_ifle, w_iceq, w_icne, w_iclt, w_icge, w_icgt, w_icle, w_ret, w_iret, w_aret, w_max, w_sld, w_slen, w_new, w_newa, w_newq, w_obj, w_getf, w_putf, w_iald, w_iast, w_alen, w_aald, w_aast, w_copy, List.getElem?_cons_zero, List.getElem?_cons_succ, List.set_cons_zero, List.set_cons_succ, List.length_cons, List.length_nil, List.cons_append, List.nil_append, Option.some.injEq, exists_eq_left', true_and, and_true, Option.toList, Value.category, l_0, l_1, l_2, l_3, l_4, l_8, l_9, l_10, l_12, l_13, l_15, l_26, l_32, l_40, l_41, l_42, l_43, l_45, l_46, l_48, l_49, l_50, l_51, l_59, l_60, l_61, l_62, l_63, l_65, l_90, l_91, l_93, l_94, l_96, l_97, l_100, l_122, l_123, l_124, l_125, l_126, l_161, l_1000, l_67108863, q_nb0, q_nb1, q_ni, q_fi, q_fb0, q_fb1]
    exact law_loop hL L 0 h4 (by omega) (Nat.zero_le _) V
  obtain ⟨v, h', a, rfl, m⟩ := w
  refine ⟨h', a, ?_, ?_⟩
  · rw [m]
    decide
  · rw [m]
    decide
