/-! match: from is emptied; the reference -/
section RMA
variable {y : Nat → Int32}
theorem r_mt0 {P : Option Value → kv_H → Prop} {z1 z2 : Value} : ∀ (f i : Nat) (B : Nat → Nat → Int32) (h : kv_H), i + f = 4 → vY h y B → (∀ g, g < i → B 18 g = -nI 1) → (∀ B' h', vY h' y B' → kv_fr (fun a => a = 93) h h' → (∀ k, k ≠ 18 → B' k = B k) → (∀ g, g < 4 → B' 18 g = -nI 1) → wp (fX5_match_30 (kv_lim bX5_match)) [some (.ref 74), some z1, some z2, some (.int (nI 4)), none, none, none, none] [] h' P) → wp (kv_lim bX5_match 12) [some (.ref 74), some z1, some z2, some (.int (nI i)), none, none, none, none] [] h P := by
  intro f
  induction f with
  | zero =>
    intro i B h hi H hb K
    refine tX5_match_12 ?_
    have ei : i = 4 := by omega
    subst ei
    simp only [fX5_match_12, w_const, w_iload, w_aload, w_iinc, w_istore, w_astore, w_iadd, w_isub, w_imul, w_iand, w_ior, w_ixor, w_ishl, w_ishr, w_ineg, w_i2c, w_dup, w_pop, w_dup_x1, w_dup_x2, w_dup2, w_ifeq, w_ifne, w_iflt, w_ifge, w_ifgt, w_ifle, w_iceq, w_icne, w_iclt, w_icge, w_icgt, w_icle, w_ret, w_iret, w_aret, w_max, w_sld, w_slen, w_new, w_newa, w_newq, w_obj, w_getf, w_putf, w_iald, w_iast, w_alen, w_aald, w_aast, w_copy, List.getElem?_cons_zero, List.getElem?_cons_succ, List.set_cons_zero, List.set_cons_succ, List.length_cons, List.length_nil, List.cons_append, List.nil_append, Option.some.injEq, exists_eq_left', true_and, and_true, Option.toList, Value.category, l_0, l_1, l_2, l_3, l_4, l_8, l_9, l_10, l_12, l_13, l_15, l_26, l_32, l_40, l_41, l_42, l_43, l_45, l_46, l_48, l_49, l_50, l_51, l_59, l_60, l_61, l_62, l_63, l_65, l_90, l_91, l_93, l_94, l_96, l_97, l_100, l_122, l_123, l_124, l_125, l_126, l_161, l_1000, l_67108863, q_nb0, q_nb1, q_ni, q_fi, q_fb0, q_fb1, Int32.le_refl, if_true]
    exact K B h H kv_fr.rf (fun _ _ => rfl) hb
  | succ f ih =>
    intro i B h hi H hb K
    refine tX5_match_12 ?_
    have g1 : i < 2147483648 := by omega
    have g2 : i < 4 := by omega
    simp only [fX5_match_12, fX5_match_17, w_const, w_iload, w_aload, w_iinc, w_istore, w_astore, w_iadd, w_isub, w_imul, w_iand, w_ior, w_ixor, w_ishl, w_ishr, w_ineg, w_i2c, w_dup, w_pop, w_dup_x1, w_dup_x2, w_dup2, w_ifeq, w_ifne, w_iflt, w_ifge, w_ifgt, w_ifle, w_iceq, w_icne, w_iclt, w_icge, w_icgt, w_icle, w_ret, w_iret, w_aret, w_max, w_sld, w_slen, w_new, w_newa, w_newq, w_obj, w_getf, w_putf, w_iald, w_iast, w_alen, w_aald, w_aast, w_copy, List.getElem?_cons_zero, List.getElem?_cons_succ, List.set_cons_zero, List.set_cons_succ, List.length_cons, List.length_nil, List.cons_append, List.nil_append, Option.some.injEq, exists_eq_left', true_and, and_true, Option.toList, Value.category, l_0, l_1, l_2, l_3, l_4, l_8, l_9, l_10, l_12, l_13, l_15, l_26, l_32, l_40, l_41, l_42, l_43, l_45, l_46, l_48, l_49, l_50, l_51, l_59, l_60, l_61, l_62, l_63, l_65, l_90, l_91, l_93, l_94, l_96, l_97, l_100, l_122, l_123, l_124, l_125, l_126, l_161, l_1000, l_67108863, q_nb0, q_nb1, q_ni, q_fi, q_fb0, q_fb1, vY_74 H, vY_93 H, q_le (show 4 < 2147483648 by decide) g1, show ¬ 4 ≤ i by omega, if_false, q_le (show 0 < 2147483648 by decide) g1, q_clamp g1, Nat.zero_le, g2, q_add]
    have f1 : kv_fr (fun a => a = 93) h (kv_p h 93 (.inl (0, 4, .inl (upd (B 18) i (-nI 1))))) := kv_fr.rf.p rfl
    refine ih (i + 1) (va_up B 18 (upd (B 18) i (-nI 1))) _ (by omega) (vY_a18 H) (fun g hg => ?_) (fun B' h' H' f' k' b' => K B' h' H' (f1.tr f') (fun k hk => (k' k hk).trans (va_up_ne _ _ hk)) b')
    rw [va_up_self]
    unfold upd
    split
    · rfl
    · exact hb g (by omega)
end RMA
