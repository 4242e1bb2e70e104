/-! forget, the reference -/
section RZ
variable {t : Nat → Nat} {y : Nat → Int32} {B : Nat → Nat → Int32} {h : kv_H}
def inYf : Nat → Prop := fun a => a = 74 ∨ a = 76
theorem r_forget (H : vY h y B) : wm mX5_forget [.ref 74] h (fun v h' => v = none ∧ kv_fr inYf h h' ∧ ∃ y' B', vY h' y' B' ∧ y' 0 = nI 0 ∧ y' 5 = nI 0 ∧ y' 6 = nI 0 ∧ y' 7 = nI 0 ∧ y' 8 = nI 0 ∧ y' 9 = -nI 1 ∧ y' 10 = nI 0 ∧ (∀ k, k < 26 → B' 1 k = -nI 1) ∧ (∀ k, k ≠ 1 → B' k = B k) ∧ (∀ k, 0 < k ∧ k < 5 → y' k = y k)) := by
  refine iX5_forget rfl ?_
  simp only [fX5_forget_0, w_const, w_iload, w_aload, w_iinc, w_istore, w_astore, w_iadd, w_isub, w_imul, w_iand, w_ior, w_ixor, w_ishl, w_ishr, w_ineg, w_i2c, w_dup, w_pop, w_dup_x1, w_dup_x2, w_dup2, w_ifeq, w_ifne, w_iflt, w_ifge, w_ifgt, w_ifle, w_iceq, w_icne, w_iclt, w_icge, w_icgt, w_icle, w_ret, w_iret, w_aret, w_max, w_sld, w_slen, w_new, w_newa, w_newq, w_obj, w_getf, w_putf, w_iald, w_iast, w_alen, w_aald, w_aast, w_copy, List.getElem?_cons_zero, List.getElem?_cons_succ, List.set_cons_zero, List.set_cons_succ, List.length_cons, List.length_nil, List.cons_append, List.nil_append, Option.some.injEq, exists_eq_left', true_and, and_true, Option.toList, Value.category, l_0, l_1, l_2, l_3, l_4, l_8, l_9, l_10, l_12, l_13, l_15, l_26, l_32, l_40, l_41, l_42, l_43, l_45, l_46, l_48, l_49, l_50, l_51, l_59, l_60, l_61, l_62, l_63, l_65, l_90, l_91, l_93, l_94, l_96, l_97, l_100, l_122, l_123, l_124, l_125, l_126, l_161, l_1000, l_67108863, q_nb0, q_nb1, q_ni, q_fi, q_fb0, q_fb1, vY_74 H]
  refine ⟨by decide, ?_⟩
  have H1 : vY (kv_p h 74 (yo (va_up y 5 (nI 0)))) (va_up y 5 (nI 0)) B := vY_o H
  have f1 : kv_fr inYf h (kv_p h 74 (yo (va_up y 5 (nI 0)))) := kv_fr.rf.p (Or.inl rfl)
  have eg1 : kv_p h 74 (yo (va_up y 5 (nI 0))) = kv_p h 74 (.inr (5, [.int (y 0), .ref 75, .ref 76, .int (y 1), .ref 77, .ref 78, .ref 79, .ref 80, .int (y 2), .int (y 3), .int (y 4), .int (nI 0), .ref 81, .ref 82, .ref 83, .ref 84, .ref 85, .ref 86, .ref 87, .ref 88, .ref 89, .ref 90, .int (y 6), .ref 91, .ref 92, .int (y 7), .int (y 8), .int (y 9), .int (y 10), .int (y 11), .ref 93, .ref 94])) := rfl
  rw [← eg1]
  have u1 : va_up y 5 (nI 0) 5 = nI 0 := rfl
  have v1 : ∀ k, k ≠ 5 → va_up y 5 (nI 0) k = y k := fun k hk => va_up_ne _ _ hk
  generalize kv_p h 74 (yo (va_up y 5 (nI 0))) = k1 at H1 f1 ⊢
  generalize va_up y 5 (nI 0) = y1 at H1 u1 v1
  simp only [w_const, w_iload, w_aload, w_iinc, w_istore, w_astore, w_iadd, w_isub, w_imul, w_iand, w_ior, w_ixor, w_ishl, w_ishr, w_ineg, w_i2c, w_dup, w_pop, w_dup_x1, w_dup_x2, w_dup2, w_ifeq, w_ifne, w_iflt, w_ifge, w_ifgt, w_ifle, w_iceq, w_icne, w_iclt, w_icge, w_icgt, w_icle, w_ret, w_iret, w_aret, w_max, w_sld, w_slen, w_new, w_newa, w_newq, w_obj, w_getf, w_putf, w_iald, w_iast, w_alen, w_aald, w_aast, w_copy, List.getElem?_cons_zero, List.getElem?_cons_succ, List.set_cons_zero, List.set_cons_succ, List.length_cons, List.length_nil, List.cons_append, List.nil_append, Option.some.injEq, exists_eq_left', true_and, and_true, Option.toList, Value.category, l_0, l_1, l_2, l_3, l_4, l_8, l_9, l_10, l_12, l_13, l_15, l_26, l_32, l_40, l_41, l_42, l_43, l_45, l_46, l_48, l_49, l_50, l_51, l_59, l_60, l_61, l_62, l_63, l_65, l_90, l_91, l_93, l_94, l_96, l_97, l_100, l_122, l_123, l_124, l_125, l_126, l_161, l_1000, l_67108863, q_nb0, q_nb1, q_ni, q_fi, q_fb0, q_fb1, vY_74 H1]
  refine ⟨by decide, ?_⟩
  have H2 : vY (kv_p k1 74 (yo (va_up y1 0 (nI 0)))) (va_up y1 0 (nI 0)) B := vY_o H1
  have f2 : kv_fr inYf h (kv_p k1 74 (yo (va_up y1 0 (nI 0)))) := f1.p (Or.inl rfl)
  have eg2 : kv_p k1 74 (yo (va_up y1 0 (nI 0))) = kv_p k1 74 (.inr (5, [.int (nI 0), .ref 75, .ref 76, .int (y1 1), .ref 77, .ref 78, .ref 79, .ref 80, .int (y1 2), .int (y1 3), .int (y1 4), .int (y1 5), .ref 81, .ref 82, .ref 83, .ref 84, .ref 85, .ref 86, .ref 87, .ref 88, .ref 89, .ref 90, .int (y1 6), .ref 91, .ref 92, .int (y1 7), .int (y1 8), .int (y1 9), .int (y1 10), .int (y1 11), .ref 93, .ref 94])) := rfl
  rw [← eg2]
  have u2 : va_up y1 0 (nI 0) 0 = nI 0 := rfl
  have v2 : ∀ k, k ≠ 0 → va_up y1 0 (nI 0) k = y1 k := fun k hk => va_up_ne _ _ hk
  generalize kv_p k1 74 (yo (va_up y1 0 (nI 0))) = k2 at H2 f2 ⊢
  generalize va_up y1 0 (nI 0) = y2 at H2 u2 v2
  have loop : ∀ (f i : Nat) (B3 : Nat → Nat → Int32) (h3 : kv_H), i + f = 26 → vY h3 y2 B3 → kv_fr inYf h h3 → (∀ k, k < i → B3 1 k = -nI 1) → (∀ k, k ≠ 1 → B3 k = B k) → wp (kv_lim bX5_forget 12) [some (.ref 74), some (.int (nI i))] [] h3 (fun v h' => v = none ∧ kv_fr inYf h h' ∧ ∃ y' B', vY h' y' B' ∧ y' 0 = nI 0 ∧ y' 5 = nI 0 ∧ y' 6 = nI 0 ∧ y' 7 = nI 0 ∧ y' 8 = nI 0 ∧ y' 9 = -nI 1 ∧ y' 10 = nI 0 ∧ (∀ k, k < 26 → B' 1 k = -nI 1) ∧ (∀ k, k ≠ 1 → B' k = B k) ∧ (∀ k, 0 < k ∧ k < 5 → y' k = y k)) := by
    intro f
    induction f with
    | zero =>
      intro i B3 h3 hi H3 f3 hb kb
      refine tX5_forget_12 ?_
      have ei : i = 26 := by omega
      subst ei
      simp only [fX5_forget_12, w_const, w_iload, w_aload, w_iinc, w_istore, w_astore, w_iadd, w_isub, w_imul, w_iand, w_ior, w_ixor, w_ishl, w_ishr, w_ineg, w_i2c, w_dup, w_pop, w_dup_x1, w_dup_x2, w_dup2, w_ifeq, w_ifne, w_iflt, w_ifge, w_ifgt, w_ifle, w_iceq, w_icne, w_iclt, w_icge, w_icgt, w_icle, w_ret, w_iret, w_aret, w_max, w_sld, w_slen, w_new, w_newa, w_newq, w_obj, w_getf, w_putf, w_iald, w_iast, w_alen, w_aald, w_aast, w_copy, List.getElem?_cons_zero, List.getElem?_cons_succ, List.set_cons_zero, List.set_cons_succ, List.length_cons, List.length_nil, List.cons_append, List.nil_append, Option.some.injEq, exists_eq_left', true_and, and_true, Option.toList, Value.category, l_0, l_1, l_2, l_3, l_4, l_8, l_9, l_10, l_12, l_13, l_15, l_26, l_32, l_40, l_41, l_42, l_43, l_45, l_46, l_48, l_49, l_50, l_51, l_59, l_60, l_61, l_62, l_63, l_65, l_90, l_91, l_93, l_94, l_96, l_97, l_100, l_122, l_123, l_124, l_125, l_126, l_161, l_1000, l_67108863, q_nb0, q_nb1, q_ni, q_fi, q_fb0, q_fb1, Int32.le_refl, if_true, fX5_forget_31]
      refine w_callV0 (r := []) (vY_74 H3) (r_restart H3) (by decide) ?_
      rintro v1 h4 ⟨rfl, f4, y4, H4, a6, a7, a8, a9, a10, ka⟩
      simp only [w_const, w_iload, w_aload, w_iinc, w_istore, w_astore, w_iadd, w_isub, w_imul, w_iand, w_ior, w_ixor, w_ishl, w_ishr, w_ineg, w_i2c, w_dup, w_pop, w_dup_x1, w_dup_x2, w_dup2, w_ifeq, w_ifne, w_iflt, w_ifge, w_ifgt, w_ifle, w_iceq, w_icne, w_iclt, w_icge, w_icgt, w_icle, w_ret, w_iret, w_aret, w_max, w_sld, w_slen, w_new, w_newa, w_newq, w_obj, w_getf, w_putf, w_iald, w_iast, w_alen, w_aald, w_aast, w_copy, List.getElem?_cons_zero, List.getElem?_cons_succ, List.set_cons_zero, List.set_cons_succ, List.length_cons, List.length_nil, List.cons_append, List.nil_append, Option.some.injEq, exists_eq_left', true_and, and_true, Option.toList, Value.category, l_0, l_1, l_2, l_3, l_4, l_8, l_9, l_10, l_12, l_13, l_15, l_26, l_32, l_40, l_41, l_42, l_43, l_45, l_46, l_48, l_49, l_50, l_51, l_59, l_60, l_61, l_62, l_63, l_65, l_90, l_91, l_93, l_94, l_96, l_97, l_100, l_122, l_123, l_124, l_125, l_126, l_161, l_1000, l_67108863, q_nb0, q_nb1, q_ni, q_fi, q_fb0, q_fb1]
      exact ⟨f3.tr (f4.mono (fun a z => Or.inl z)), y4, B3, H4, (ka 0 (by decide)).trans u2, (ka 5 (by decide)).trans ((v2 5 (by decide)).trans u1), a6, a7, a8, a9, a10, hb, kb, fun k hk => (ka k (by omega)).trans ((v2 k (by omega)).trans (v1 k (by omega)))⟩
    | succ f ih =>
      intro i B3 h3 hi H3 f3 hb kb
      refine tX5_forget_12 ?_
      have g1 : i < 2147483648 := by omega
      have g2 : i < 26 := by omega
      simp only [fX5_forget_12, fX5_forget_18, w_const, w_iload, w_aload, w_iinc, w_istore, w_astore, w_iadd, w_isub, w_imul, w_iand, w_ior, w_ixor, w_ishl, w_ishr, w_ineg, w_i2c, w_dup, w_pop, w_dup_x1, w_dup_x2, w_dup2, w_ifeq, w_ifne, w_iflt, w_ifge, w_ifgt, w_ifle, w_iceq, w_icne, w_iclt, w_icge, w_icgt, w_icle, w_ret, w_iret, w_aret, w_max, w_sld, w_slen, w_new, w_newa, w_newq, w_obj, w_getf, w_putf, w_iald, w_iast, w_alen, w_aald, w_aast, w_copy, List.getElem?_cons_zero, List.getElem?_cons_succ, List.set_cons_zero, List.set_cons_succ, List.length_cons, List.length_nil, List.cons_append, List.nil_append, Option.some.injEq, exists_eq_left', true_and, and_true, Option.toList, Value.category, l_0, l_1, l_2, l_3, l_4, l_8, l_9, l_10, l_12, l_13, l_15, l_26, l_32, l_40, l_41, l_42, l_43, l_45, l_46, l_48, l_49, l_50, l_51, l_59, l_60, l_61, l_62, l_63, l_65, l_90, l_91, l_93, l_94, l_96, l_97, l_100, l_122, l_123, l_124, l_125, l_126, l_161, l_1000, l_67108863, q_nb0, q_nb1, q_ni, q_fi, q_fb0, q_fb1, vY_74 H3, vY_76 H3, q_le (show 26 < 2147483648 by decide) g1, show ¬ 26 ≤ i by omega, if_false, q_le (show 0 < 2147483648 by decide) g1, q_clamp g1, Nat.zero_le, g2, q_add]
      refine ih (i + 1) (va_up B3 1 (upd (B3 1) i (-nI 1))) _ (by omega) (vY_a1 H3) (f3.p (Or.inr rfl)) (fun k hk => ?_) (fun k hk => (va_up_ne _ _ hk).trans (kb k hk))
      rw [va_up_self]
      unfold upd
      split
      · rfl
      · exact hb k (by omega)
  exact loop 26 0 B k2 (by omega) H2 f2 (fun k hk => absurd hk (Nat.not_lt_zero k)) (fun _ _ => rfl)
end RZ
