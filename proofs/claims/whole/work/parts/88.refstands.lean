/-! standsFor, the reference -/
theorem and1 (x : Int32) : (x &&& nI 1) = nI 0 ∨ (x &&& nI 1) = nI 1 := by
  have e : (x &&& nI 1).toBitVec = BitVec.setWidth 32 (BitVec.ofBool (x.toBitVec.getLsbD 0)) := by
    rw [Int32.toBitVec_and]
    exact BitVec.and_one_eq_setWidth_ofBool_getLsbD
  cases hb : x.toBitVec.getLsbD 0 <;> rw [hb] at e
  · exact Or.inl (Int32.toBitVec_inj.mp (e.trans (by decide +kernel)))
  · exact Or.inr (Int32.toBitVec_inj.mp (e.trans (by decide +kernel)))
section RSF
variable {y : Nat → Int32} {B : Nat → Nat → Int32} {h : kv_H}
theorem r_standsFor (H : vY h y B) {lt : Nat → Nat} {sz e p : Nat} (hT : ∀ i, i < sz → B 16 i = nI (lt i)) (hL : ∀ i, i < sz → 97 ≤ lt i ∧ lt i ≤ 122) (hs : sz ≤ 60) (hp : p < sz) (he : e < 96) : wm mX5_standsFor [.ref 74, .int (nI e), .int (nI p)] h (fun v h' => v = some (.int (nI (inS (B 9 e) (lt p)).toNat)) ∧ h' = h) := by
  have g1 : e < 2147483648 := by omega
  have g2 : p < 2147483648 := by omega
  have g3 : p < 60 := by omega
  refine iX5_standsFor rfl rfl rfl ?_
  simp only [fX5_standsFor_0, w_const, w_iload, w_aload, w_iinc, w_istore, w_astore, w_iadd, w_isub, w_imul, w_iand, w_ior, w_ixor, w_ishl, w_ishr, w_ineg, w_i2c, w_dup, w_pop, w_dup_x1, w_dup_x2, w_dup2, w_ifeq, w_ifne, w_iflt, w_ifge, w_ifgt, w_ifle, w_iceq, w_icne, w_iclt, w_icge, w_icgt, w_icle, w_ret, w_iret, w_aret, w_max, w_sld, w_slen, w_new, w_newa, w_newq, w_obj, w_getf, w_putf, w_iald, w_iast, w_alen, w_aald, w_aast, w_copy, List.getElem?_cons_zero, List.getElem?_cons_succ, List.set_cons_zero, List.set_cons_succ, List.length_cons, List.length_nil, List.cons_append, List.nil_append, Option.some.injEq, exists_eq_left', true_and, and_true, Option.toList, Value.category, l_0, l_1, l_2, l_3, l_4, l_8, l_9, l_10, l_12, l_13, l_15, l_26, l_32, l_40, l_41, l_42, l_43, l_45, l_46, l_48, l_49, l_50, l_51, l_59, l_60, l_61, l_62, l_63, l_65, l_90, l_91, l_93, l_94, l_96, l_97, l_100, l_122, l_123, l_124, l_125, l_126, l_161, l_1000, l_67108863, q_nb0, q_nb1, q_ni, q_fi, q_fb0, q_fb1, vY_74 H, vY_84 H, vY_91 H, q_le (show 0 < 2147483648 by decide) g1, q_clamp g1, q_le (show 0 < 2147483648 by decide) g2, q_clamp g2, Nat.zero_le, he, g3, hT p hp, q_sub (hL p hp).1]
  have a := and1 (B 9 e >>> (nI (lt p - 97) &&& 31))
  unfold inS
  generalize (B 9 e >>> (nI (lt p - 97) &&& 31)) &&& nI 1 = z at a ⊢
  rcases a with rfl | rfl
  · simp only [show ¬ nI 0 = nI 1 by decide +kernel, not_false_eq_true, if_true, fX5_standsFor_26, fX5_standsFor_27, w_const, w_iload, w_aload, w_iinc, w_istore, w_astore, w_iadd, w_isub, w_imul, w_iand, w_ior, w_ixor, w_ishl, w_ishr, w_ineg, w_i2c, w_dup, w_pop, w_dup_x1, w_dup_x2, w_dup2, w_ifeq, w_ifne, w_iflt, w_ifge, w_ifgt, w_ifle, w_iceq, w_icne, w_iclt, w_icge, w_icgt, w_icle, w_ret, w_iret, w_aret, w_max, w_sld, w_slen, w_new, w_newa, w_newq, w_obj, w_getf, w_putf, w_iald, w_iast, w_alen, w_aald, w_aast, w_copy, List.getElem?_cons_zero, List.getElem?_cons_succ, List.set_cons_zero, List.set_cons_succ, List.length_cons, List.length_nil, List.cons_append, List.nil_append, Option.some.injEq, exists_eq_left', true_and, and_true, Option.toList, Value.category, l_0, l_1, l_2, l_3, l_4, l_8, l_9, l_10, l_12, l_13, l_15, l_26, l_32, l_40, l_41, l_42, l_43, l_45, l_46, l_48, l_49, l_50, l_51, l_59, l_60, l_61, l_62, l_63, l_65, l_90, l_91, l_93, l_94, l_96, l_97, l_100, l_122, l_123, l_124, l_125, l_126, l_161, l_1000, l_67108863, q_nb0, q_nb1, q_ni, q_fi, q_fb0, q_fb1, not_true, decide_false, Bool.toNat_false]
  · simp only [not_true, if_false, fX5_standsFor_22, fX5_standsFor_27, w_const, w_iload, w_aload, w_iinc, w_istore, w_astore, w_iadd, w_isub, w_imul, w_iand, w_ior, w_ixor, w_ishl, w_ishr, w_ineg, w_i2c, w_dup, w_pop, w_dup_x1, w_dup_x2, w_dup2, w_ifeq, w_ifne, w_iflt, w_ifge, w_ifgt, w_ifle, w_iceq, w_icne, w_iclt, w_icge, w_icgt, w_icle, w_ret, w_iret, w_aret, w_max, w_sld, w_slen, w_new, w_newa, w_newq, w_obj, w_getf, w_putf, w_iald, w_iast, w_alen, w_aald, w_aast, w_copy, List.getElem?_cons_zero, List.getElem?_cons_succ, List.set_cons_zero, List.set_cons_succ, List.length_cons, List.length_nil, List.cons_append, List.nil_append, Option.some.injEq, exists_eq_left', true_and, and_true, Option.toList, Value.category, l_0, l_1, l_2, l_3, l_4, l_8, l_9, l_10, l_12, l_13, l_15, l_26, l_32, l_40, l_41, l_42, l_43, l_45, l_46, l_48, l_49, l_50, l_51, l_59, l_60, l_61, l_62, l_63, l_65, l_90, l_91, l_93, l_94, l_96, l_97, l_100, l_122, l_123, l_124, l_125, l_126, l_161, l_1000, l_67108863, q_nb0, q_nb1, q_ni, q_fi, q_fb0, q_fb1, n01, not_false_eq_true, decide_true, Bool.toNat_true]
end RSF
