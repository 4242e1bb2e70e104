/-! enter: the end; the reference -/
section RQ
variable {t : Nat → Nat} {y : Nat → Int32}
def pEn (y : Nat → Int32) (B0 : Nat → Nat → Int32) (h0 : kv_H) (rs : List Rl) (r : Rl) (v : Option Value) (h' : kv_H) : Prop := ∃ y' B', vY h' y' B' ∧ offR rs.length B0 B' ∧ yR B' rs.length r ∧ kv_fr inYe h0 h' ∧ ((v = some (.int (-5)) ∧ y' = y ∧ ∃ i a, rs[i]? = some a ∧ mskY B' i rs.length a r) ∨ (v = some (.int (nI (10 + rs.length))) ∧ y' = va_up y 5 (nI (rs.length + 1)) ∧ ∀ i a, rs[i]? = some a → ¬ mskY B' i rs.length a r))
theorem r_ent4 {rs : List Rl} {r : Rl} {B0 B : Nat → Nat → Int32} {h0 h : kv_H} {z1 z2 z3 x4 : Option Value} (H : vY h y B) (hm : rs.length < 8) (hy : y 5 = nI rs.length) (hR : ∀ j a, rs[j]? = some a → yR B j a) (hw : ∀ a ∈ rs, wfR a) (R : yR B rs.length r) (hl : r.1.length ≤ 12) (hk : r.2.1 ≤ r.1.length) (o : offR rs.length B0 B) (hf : kv_fr inYe h0 h) : ∀ (f i : Nat), i + f = rs.length → (∀ j a, j < i → rs[j]? = some a → ¬ mskY B j rs.length a r) → wp (kv_lim bX5_enter 272) [some (.ref 74), z1, z2, z3, x4, some (.int (nI i))] [] h (pEn y B0 h0 rs r) := by
  intro f
  induction f with
  | zero =>
    intro i hi hj
    refine tX5_enter_272 ?_
    have ei : i = rs.length := by omega
    subst ei
    simp only [fX5_enter_272, fX5_enter_303, w_const, w_iload, w_aload, w_iinc, w_istore, w_astore, w_iadd, w_isub, w_imul, w_iand, w_ior, w_ixor, w_ishl, w_ishr, w_ineg, w_i2c, w_dup, w_pop, w_dup_x1, w_dup_x2, w_dup2, w_ifeq, w_ifne, w_iflt, w_ifge, w_ifgt, w_ifle, w_iceq, w_icne, w_iclt, w_icge, w_icgt, w_icle, w_ret, w_iret, w_aret, w_max, w_sld, w_slen, w_new, w_newa, w_newq, w_obj, w_getf, w_putf, w_iald, w_iast, w_alen, w_aald, w_aast, w_copy, List.getElem?_cons_zero, List.getElem?_cons_succ, List.set_cons_zero, List.set_cons_succ, List.length_cons, List.length_nil, List.cons_append, List.nil_append, Option.some.injEq, exists_eq_left', true_and, and_true, Option.toList, Value.category, l_0, l_1, l_2, l_3, l_4, l_8, l_9, l_10, l_12, l_13, l_15, l_26, l_32, l_40, l_41, l_42, l_43, l_45, l_46, l_48, l_49, l_50, l_51, l_59, l_60, l_61, l_62, l_63, l_65, l_90, l_91, l_93, l_94, l_96, l_97, l_100, l_122, l_123, l_124, l_125, l_126, l_161, l_1000, l_67108863, q_nb0, q_nb1, q_ni, q_fi, q_fb0, q_fb1, vY_74 H, hy, Int32.le_refl, if_true, q_add]
    refine ⟨by decide, ?_⟩
    have H1 : vY (kv_p h 74 (yo (va_up y 5 (nI (rs.length + 1))))) (va_up y 5 (nI (rs.length + 1))) B := vY_o H
    have f1 : kv_fr inYe h0 (kv_p h 74 (yo (va_up y 5 (nI (rs.length + 1))))) := hf.p (Or.inl rfl)
    have eg : kv_p h 74 (yo (va_up y 5 (nI (rs.length + 1)))) = kv_p h 74 (.inr (5, [.int (y 0), .ref 75, .ref 76, .int (y 1), .ref 77, .ref 78, .ref 79, .ref 80, .int (y 2), .int (y 3), .int (y 4), .int (nI (rs.length + 1)), .ref 81, .ref 82, .ref 83, .ref 84, .ref 85, .ref 86, .ref 87, .ref 88, .ref 89, .ref 90, .int (y 6), .ref 91, .ref 92, .int (y 7), .int (y 8), .int (y 9), .int (y 10), .int (y 11), .ref 93, .ref 94])) := rfl
    rw [← eg]
    simp only [w_const, w_iload, w_aload, w_iinc, w_istore, w_astore, w_iadd, w_isub, w_imul, w_iand, w_ior, w_ixor, w_ishl, w_ishr, w_ineg, w_i2c, w_dup, w_pop, w_dup_x1, w_dup_x2, w_dup2, w_ifeq, w_ifne, w_iflt, w_ifge, w_ifgt, w_ifle, w_iceq, w_icne, w_iclt, w_icge, w_icgt, w_icle, w_ret, w_iret, w_aret, w_max, w_sld, w_slen, w_new, w_newa, w_newq, w_obj, w_getf, w_putf, w_iald, w_iast, w_alen, w_aald, w_aast, w_copy, List.getElem?_cons_zero, List.getElem?_cons_succ, List.set_cons_zero, List.set_cons_succ, List.length_cons, List.length_nil, List.cons_append, List.nil_append, Option.some.injEq, exists_eq_left', true_and, and_true, Option.toList, Value.category, l_0, l_1, l_2, l_3, l_4, l_8, l_9, l_10, l_12, l_13, l_15, l_26, l_32, l_40, l_41, l_42, l_43, l_45, l_46, l_48, l_49, l_50, l_51, l_59, l_60, l_61, l_62, l_63, l_65, l_90, l_91, l_93, l_94, l_96, l_97, l_100, l_122, l_123, l_124, l_125, l_126, l_161, l_1000, l_67108863, q_nb0, q_nb1, q_ni, q_fi, q_fb0, q_fb1, vY_74 H1, show va_up y 5 (nI (rs.length + 1)) 5 = nI (rs.length + 1) from rfl, q_add, q_sub (show 1 ≤ 10 + (rs.length + 1) by omega)]
    exact ⟨_, B, H1, o, R, f1, Or.inr ⟨by rw [show 10 + (rs.length + 1) - 1 = 10 + rs.length by omega], rfl, fun j a hja => hj j a (List.getElem?_eq_some_iff.mp hja).1 hja⟩⟩
  | succ f ih =>
    intro i hi hj
    refine tX5_enter_272 ?_
    have hil : i < rs.length := by omega
    have wa := hw _ (List.getElem_mem hil)
    have Ra := hR i _ (List.getElem?_eq_getElem hil)
    have ga := List.getElem?_eq_getElem hil
    generalize rs[i] = a at wa Ra ga
    obtain ⟨w1, w2, w3, -⟩ := wa
    simp only [fX5_enter_272, fX5_enter_281, w_const, w_iload, w_aload, w_iinc, w_istore, w_astore, w_iadd, w_isub, w_imul, w_iand, w_ior, w_ixor, w_ishl, w_ishr, w_ineg, w_i2c, w_dup, w_pop, w_dup_x1, w_dup_x2, w_dup2, w_ifeq, w_ifne, w_iflt, w_ifge, w_ifgt, w_ifle, w_iceq, w_icne, w_iclt, w_icge, w_icgt, w_icle, w_ret, w_iret, w_aret, w_max, w_sld, w_slen, w_new, w_newa, w_newq, w_obj, w_getf, w_putf, w_iald, w_iast, w_alen, w_aald, w_aast, w_copy, List.getElem?_cons_zero, List.getElem?_cons_succ, List.set_cons_zero, List.set_cons_succ, List.length_cons, List.length_nil, List.cons_append, List.nil_append, Option.some.injEq, exists_eq_left', true_and, and_true, Option.toList, Value.category, l_0, l_1, l_2, l_3, l_4, l_8, l_9, l_10, l_12, l_13, l_15, l_26, l_32, l_40, l_41, l_42, l_43, l_45, l_46, l_48, l_49, l_50, l_51, l_59, l_60, l_61, l_62, l_63, l_65, l_90, l_91, l_93, l_94, l_96, l_97, l_100, l_122, l_123, l_124, l_125, l_126, l_161, l_1000, l_67108863, q_nb0, q_nb1, q_ni, q_fi, q_fb0, q_fb1, vY_74 H, hy, q_le (show rs.length < 2147483648 by omega) (show i < 2147483648 by omega), show ¬ rs.length ≤ i by omega, if_false]
    refine w_callV2 (r := []) (vY_74 H) (r_masks H Ra R (by omega) hm w1 hl (by omega) hk) (by decide) ?_
    rintro v1 h1 ⟨rfl, ⟨rfl, q⟩ | ⟨rfl, q⟩⟩
    · simp only [w_const, w_iload, w_aload, w_iinc, w_istore, w_astore, w_iadd, w_isub, w_imul, w_iand, w_ior, w_ixor, w_ishl, w_ishr, w_ineg, w_i2c, w_dup, w_pop, w_dup_x1, w_dup_x2, w_dup2, w_ifeq, w_ifne, w_iflt, w_ifge, w_ifgt, w_ifle, w_iceq, w_icne, w_iclt, w_icge, w_icgt, w_icle, w_ret, w_iret, w_aret, w_max, w_sld, w_slen, w_new, w_newa, w_newq, w_obj, w_getf, w_putf, w_iald, w_iast, w_alen, w_aald, w_aast, w_copy, List.getElem?_cons_zero, List.getElem?_cons_succ, List.set_cons_zero, List.set_cons_succ, List.length_cons, List.length_nil, List.cons_append, List.nil_append, Option.some.injEq, exists_eq_left', true_and, and_true, Option.toList, Value.category, l_0, l_1, l_2, l_3, l_4, l_8, l_9, l_10, l_12, l_13, l_15, l_26, l_32, l_40, l_41, l_42, l_43, l_45, l_46, l_48, l_49, l_50, l_51, l_59, l_60, l_61, l_62, l_63, l_65, l_90, l_91, l_93, l_94, l_96, l_97, l_100, l_122, l_123, l_124, l_125, l_126, l_161, l_1000, l_67108863, q_nb0, q_nb1, q_ni, q_fi, q_fb0, q_fb1, n01, if_false, fX5_enter_294]
      exact ⟨y, B, H, o, R, hf, Or.inl ⟨rfl, rfl, i, a, ga, q⟩⟩
    · simp only [w_const, w_iload, w_aload, w_iinc, w_istore, w_astore, w_iadd, w_isub, w_imul, w_iand, w_ior, w_ixor, w_ishl, w_ishr, w_ineg, w_i2c, w_dup, w_pop, w_dup_x1, w_dup_x2, w_dup2, w_ifeq, w_ifne, w_iflt, w_ifge, w_ifgt, w_ifle, w_iceq, w_icne, w_iclt, w_icge, w_icgt, w_icle, w_ret, w_iret, w_aret, w_max, w_sld, w_slen, w_new, w_newa, w_newq, w_obj, w_getf, w_putf, w_iald, w_iast, w_alen, w_aald, w_aast, w_copy, List.getElem?_cons_zero, List.getElem?_cons_succ, List.set_cons_zero, List.set_cons_succ, List.length_cons, List.length_nil, List.cons_append, List.nil_append, Option.some.injEq, exists_eq_left', true_and, and_true, Option.toList, Value.category, l_0, l_1, l_2, l_3, l_4, l_8, l_9, l_10, l_12, l_13, l_15, l_26, l_32, l_40, l_41, l_42, l_43, l_45, l_46, l_48, l_49, l_50, l_51, l_59, l_60, l_61, l_62, l_63, l_65, l_90, l_91, l_93, l_94, l_96, l_97, l_100, l_122, l_123, l_124, l_125, l_126, l_161, l_1000, l_67108863, q_nb0, q_nb1, q_ni, q_fi, q_fb0, q_fb1, if_true, fX5_enter_297, q_add]
      refine ih (i + 1) (by omega) (fun j b hji hjb => ?_)
      by_cases e : j = i
      · subst e
        rw [ga] at hjb
        cases hjb
        exact q
      · exact hj j b (by omega) hjb
end RQ
