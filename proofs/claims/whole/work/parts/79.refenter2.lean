/-! enter: the replacement, the masks; the reference -/
section RO
variable {t : Nat → Nat} {y : Nat → Int32}
def sGv (t : Nat → Nat) : Nat → Nat → Option Nat → List Nat → List Nat × Option Nat
  | 0, _, mk, ps => (ps, mk)
  | f + 1, k, mk, ps => if t k = 124 then sGv t f (k + 1) (some ps.length) ps else sGv t f (k + 1) mk (ps ++ [t k])
def stp (mk : Option Nat) : Int32 := match mk with
  | none => -nI 1
  | some x => nI x
def cpP (m : Nat) (B : Nat → Nat → Int32) (ps : List Nat) : Prop := ∀ (i c : Nat), ps[i]? = some c → B 15 (12 * m + i) = nI c
theorem r_ent2 {m n : Nat} {P : Option Value → kv_H → Prop} {z1 z2 z3 : Value} (ht : ∀ i, t i < 128) (hm : m < 8) (hn : n ≤ 48) (hy : y 5 = nI m) (hy0 : y 0 = nI n) : ∀ (f k : Nat) (mk : Option Nat) (ps : List Nat) (B : Nat → Nat → Int32) (h : kv_H), k + f = n → ps.length + f ≤ 12 + cnt t 124 k f → vY h y B → B 0 = (fun i => nI (t i)) → cpP m B ps → B 14 m = stp mk → (∀ B' h', vY h' y B' → offR m B B' → (∀ k, k ≠ 14 → k ≠ 15 → B' k = B k) → cpP m B' (sGv t f k mk ps).1 → B' 14 m = stp (sGv t f k mk ps).2 → kv_fr inYe h h' → wp (fX5_enter_223 (kv_lim bX5_enter)) [some (.ref 74), some z1, some z2, some z3, some (.int (nI (sGv t f k mk ps).1.length)), some (.int (nI n))] [] h' P) → wp (kv_lim bX5_enter 157) [some (.ref 74), some z1, some z2, some z3, some (.int (nI ps.length)), some (.int (nI k))] [] h P := by
  intro f
  induction f with
  | zero =>
    intro k mk ps B h hk hl H hB hC hS K
    refine tX5_enter_157 ?_
    have ek : k = n := by omega
    subst ek
    simp only [fX5_enter_157, w_const, w_iload, w_aload, w_iinc, w_istore, w_astore, w_iadd, w_isub, w_imul, w_iand, w_ior, w_ixor, w_ishl, w_ishr, w_ineg, w_i2c, w_dup, w_pop, w_dup_x1, w_dup_x2, w_dup2, w_ifeq, w_ifne, w_iflt, w_ifge, w_ifgt, w_ifle, w_iceq, w_icne, w_iclt, w_icge, w_icgt, w_icle, w_ret, w_iret, w_aret, w_max, w_sld, w_slen, w_new, w_newa, w_newq, w_obj, w_getf, w_putf, w_iald, w_iast, w_alen, w_aald, w_aast, w_copy, List.getElem?_cons_zero, List.getElem?_cons_succ, List.set_cons_zero, List.set_cons_succ, List.length_cons, List.length_nil, List.cons_append, List.nil_append, Option.some.injEq, exists_eq_left', true_and, and_true, Option.toList, Value.category, l_0, l_1, l_2, l_3, l_4, l_8, l_9, l_10, l_12, l_13, l_15, l_26, l_32, l_40, l_41, l_42, l_43, l_45, l_46, l_48, l_49, l_50, l_51, l_59, l_60, l_61, l_62, l_63, l_65, l_90, l_91, l_93, l_94, l_96, l_97, l_100, l_122, l_123, l_124, l_125, l_126, l_161, l_1000, l_67108863, q_nb0, q_nb1, q_ni, q_fi, q_fb0, q_fb1, vY_74 H, hy0, Int32.le_refl, if_true]
    exact K B h H offR.rf (fun _ _ _ => rfl) hC hS kv_fr.rf
  | succ f ih =>
    intro k mk ps B h hk hl H hB hC hS K
    refine tX5_enter_157 ?_
    have hc := ht k
    have g1 : k < 2147483648 := by omega
    have g2 : k < 48 := by omega
    have gm : m < 2147483648 := by omega
    simp only [fX5_enter_157, fX5_enter_166, w_const, w_iload, w_aload, w_iinc, w_istore, w_astore, w_iadd, w_isub, w_imul, w_iand, w_ior, w_ixor, w_ishl, w_ishr, w_ineg, w_i2c, w_dup, w_pop, w_dup_x1, w_dup_x2, w_dup2, w_ifeq, w_ifne, w_iflt, w_ifge, w_ifgt, w_ifle, w_iceq, w_icne, w_iclt, w_icge, w_icgt, w_icle, w_ret, w_iret, w_aret, w_max, w_sld, w_slen, w_new, w_newa, w_newq, w_obj, w_getf, w_putf, w_iald, w_iast, w_alen, w_aald, w_aast, w_copy, List.getElem?_cons_zero, List.getElem?_cons_succ, List.set_cons_zero, List.set_cons_succ, List.length_cons, List.length_nil, List.cons_append, List.nil_append, Option.some.injEq, exists_eq_left', true_and, and_true, Option.toList, Value.category, l_0, l_1, l_2, l_3, l_4, l_8, l_9, l_10, l_12, l_13, l_15, l_26, l_32, l_40, l_41, l_42, l_43, l_45, l_46, l_48, l_49, l_50, l_51, l_59, l_60, l_61, l_62, l_63, l_65, l_90, l_91, l_93, l_94, l_96, l_97, l_100, l_122, l_123, l_124, l_125, l_126, l_161, l_1000, l_67108863, q_nb0, q_nb1, q_ni, q_fi, q_fb0, q_fb1, vY_74 H, vY_75 H, hB, hy0, q_le (show n < 2147483648 by omega) g1, show ¬ n ≤ k by omega, if_false, q_le (show 0 < 2147483648 by decide) g1, q_clamp g1, Nat.zero_le, g2, q_eq (show t k < 2147483648 by omega) (show 124 < 2147483648 by decide)]
    unfold cnt at hl
    unfold sGv at K
    by_cases e1 : t k = 124
    · simp only [e1, if_true] at hl K
      simp only [e1, not_true, if_false, fX5_enter_178, fX5_enter_217, w_const, w_iload, w_aload, w_iinc, w_istore, w_astore, w_iadd, w_isub, w_imul, w_iand, w_ior, w_ixor, w_ishl, w_ishr, w_ineg, w_i2c, w_dup, w_pop, w_dup_x1, w_dup_x2, w_dup2, w_ifeq, w_ifne, w_iflt, w_ifge, w_ifgt, w_ifle, w_iceq, w_icne, w_iclt, w_icge, w_icgt, w_icle, w_ret, w_iret, w_aret, w_max, w_sld, w_slen, w_new, w_newa, w_newq, w_obj, w_getf, w_putf, w_iald, w_iast, w_alen, w_aald, w_aast, w_copy, List.getElem?_cons_zero, List.getElem?_cons_succ, List.set_cons_zero, List.set_cons_succ, List.length_cons, List.length_nil, List.cons_append, List.nil_append, Option.some.injEq, exists_eq_left', true_and, and_true, Option.toList, Value.category, l_0, l_1, l_2, l_3, l_4, l_8, l_9, l_10, l_12, l_13, l_15, l_26, l_32, l_40, l_41, l_42, l_43, l_45, l_46, l_48, l_49, l_50, l_51, l_59, l_60, l_61, l_62, l_63, l_65, l_90, l_91, l_93, l_94, l_96, l_97, l_100, l_122, l_123, l_124, l_125, l_126, l_161, l_1000, l_67108863, q_nb0, q_nb1, q_ni, q_fi, q_fb0, q_fb1, vY_74 H, vY_89 H, hy, q_le (show 0 < 2147483648 by decide) gm, q_clamp gm, Nat.zero_le, hm, q_add]
      have H1 := vY_a14 (f := upd (B 14) m (nI ps.length)) H
      have o1 : offR m B (va_up B 14 (upd (B 14) m (nI ps.length))) := offR_upd (by decide) (fun _ => rfl) (fun q => by cases q)
      have f1 : kv_fr inYe h (kv_p h 89 (.inl (0, 8, .inl (upd (B 14) m (nI ps.length))))) := kv_fr.rf.p (Or.inr (by decide))
      refine ih (k + 1) (some ps.length) ps _ _ (by omega) (by omega) H1 hB hC (by simp [va_up, upd, stp]) (fun B' h' H' o' b' c' s' f' => K B' h' H' (o1.tr o') (fun j j1 j2 => (b' j j1 j2).trans (va_up_ne _ _ j1)) c' s' (f1.tr f'))
    · simp only [e1, if_false] at hl K
      have hcl := cnt_le t 124 f (k + 1)
      have g3 : 12 * m + ps.length < 2147483648 := by omega
      have g4 : 12 * m + ps.length < 96 := by omega
      simp only [e1, not_false_eq_true, if_true, fX5_enter_192, fX5_enter_217, w_const, w_iload, w_aload, w_iinc, w_istore, w_astore, w_iadd, w_isub, w_imul, w_iand, w_ior, w_ixor, w_ishl, w_ishr, w_ineg, w_i2c, w_dup, w_pop, w_dup_x1, w_dup_x2, w_dup2, w_ifeq, w_ifne, w_iflt, w_ifge, w_ifgt, w_ifle, w_iceq, w_icne, w_iclt, w_icge, w_icgt, w_icle, w_ret, w_iret, w_aret, w_max, w_sld, w_slen, w_new, w_newa, w_newq, w_obj, w_getf, w_putf, w_iald, w_iast, w_alen, w_aald, w_aast, w_copy, List.getElem?_cons_zero, List.getElem?_cons_succ, List.set_cons_zero, List.set_cons_succ, List.length_cons, List.length_nil, List.cons_append, List.nil_append, Option.some.injEq, exists_eq_left', true_and, and_true, Option.toList, Value.category, l_0, l_1, l_2, l_3, l_4, l_8, l_9, l_10, l_12, l_13, l_15, l_26, l_32, l_40, l_41, l_42, l_43, l_45, l_46, l_48, l_49, l_50, l_51, l_59, l_60, l_61, l_62, l_63, l_65, l_90, l_91, l_93, l_94, l_96, l_97, l_100, l_122, l_123, l_124, l_125, l_126, l_161, l_1000, l_67108863, q_nb0, q_nb1, q_ni, q_fi, q_fb0, q_fb1, vY_74 H, vY_75 H, vY_90 H, hB, hy, q_mul, q_add, q_le (show 0 < 2147483648 by decide) g1, q_clamp g1, Nat.zero_le, g2, q_le (show 0 < 2147483648 by decide) g3, q_clamp g3, g4]
      have H1 := vY_a15 (f := upd (B 15) (12 * m + ps.length) (nI (t k))) H
      have o1 : offR m B (va_up B 15 (upd (B 15) (12 * m + ps.length) (nI (t k)))) := offR_upd (by decide) (fun q => by cases q) (fun _ => by omega)
      have f1 : kv_fr inYe h (kv_p h 90 (.inl (0, 96, .inl (upd (B 15) (12 * m + ps.length) (nI (t k)))))) := kv_fr.rf.p (Or.inr (by decide))
      have w9 := ih (k + 1) mk (ps ++ [t k]) _ _ (by omega) (by simp; omega) H1 hB ?_ hS (fun B' h' H' o' b' c' s' f' => K B' h' H' (o1.tr o') (fun j j1 j2 => (b' j j1 j2).trans (va_up_ne _ _ j2)) c' s' (f1.tr f'))
      · rw [List.length_append] at w9
        exact w9
      · intro i c hi
        show upd (B 15) (12 * m + ps.length) (nI (t k)) (12 * m + i) = nI c
        by_cases hil : i < ps.length
        · rw [List.getElem?_append_left hil] at hi
          have ne : ¬ 12 * m + i = 12 * m + ps.length := by omega
          simp only [upd, ne, if_false]
          exact hC i c hi
        · rw [List.getElem?_append_right (by omega)] at hi
          have hz : i - ps.length < 1 := (List.getElem?_eq_some_iff.mp hi).1
          have hi2 : i = ps.length := by omega
          subst hi2
          rw [Nat.sub_self] at hi
          cases hi
          simp only [upd, if_true]
end RO
