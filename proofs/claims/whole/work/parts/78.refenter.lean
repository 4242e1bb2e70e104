/-! enter: the reference -/
section RN
variable {t : Nat → Nat} {y : Nat → Int32}
def sm (k : Nat) : Bool := decide (k = 6) || (decide (k = 7) || (decide (k = 8) || (decide (k = 13) || decide (k = 14))))
/-- nothing but the rows of rule m differs -/
def offR (m : Nat) (B B' : Nat → Nat → Int32) : Prop := ∀ k i, (k < 6 ∨ 15 < k ∨ (sm k = true ∧ i ≠ m) ∨ (sm k = false ∧ (i < 12 * m ∨ 12 * m + 12 ≤ i))) → B' k i = B k i
theorem offR.rf {m : Nat} {B : Nat → Nat → Int32} : offR m B B := fun _ _ _ => rfl
theorem offR.tr {m : Nat} {B B' B'' : Nat → Nat → Int32} (a : offR m B B') (b : offR m B' B'') : offR m B B'' := fun k i q => (b k i q).trans (a k i q)
theorem offR_upd {m : Nat} {B : Nat → Nat → Int32} {k ix : Nat} {v : Int32} (h1 : 6 ≤ k ∧ k ≤ 15) (h2 : sm k = true → ix = m) (h3 : sm k = false → 12 * m ≤ ix ∧ ix < 12 * m + 12) : offR m B (va_up B k (upd (B k) ix v)) := by
  intro k' i q
  by_cases e : k' = k
  · subst e
    rw [va_up_self]
    unfold upd
    rw [if_neg ?_]
    intro e2
    rcases q with q | q | ⟨q, q2⟩ | ⟨q, q2⟩
    · omega
    · omega
    · exact q2 (e2.trans (h2 q))
    · have := h3 q
      omega
  · rw [va_up_ne _ _ e]
theorem yR_off {m j : Nat} {B B' : Nat → Nat → Int32} {r : Rl} (h : yR B j r) (o : offR m B B') (hj : j ≠ m) (hl : r.1.length ≤ 12) (hp : r.2.2.2.2.2.1.length ≤ 12) : yR B' j r := by
  obtain ⟨h1, h2, h3, h4, h5, h6, h7⟩ := h
  have s : ∀ k, sm k = true → B' k j = B k j := fun k hk => o k j (Or.inr (Or.inr (Or.inl ⟨hk, hj⟩)))
  have b : ∀ k i, sm k = false → i < 12 → B' k (12 * j + i) = B k (12 * j + i) := fun k i hk hi => o k _ (Or.inr (Or.inr (Or.inr ⟨hk, by omega⟩)))
  refine ⟨(s 6 rfl).trans h1, (s 7 rfl).trans h2, (s 8 rfl).trans h3, (s 13 rfl).trans h4, (s 14 rfl).trans h5, fun i e he => ?_, fun i c hc => ?_⟩
  · have hi : i < r.1.length := (List.getElem?_eq_some_iff.mp he).1
    obtain ⟨a1, a2, a3, a4⟩ := h6 i e he
    exact ⟨(b 9 i rfl (by omega)).trans a1, (b 10 i rfl (by omega)).trans a2, (b 11 i rfl (by omega)).trans a3, (b 12 i rfl (by omega)).trans a4⟩
  · have hi : i < r.2.2.2.2.2.1.length := (List.getElem?_eq_some_iff.mp hc).1
    exact (b 15 i rfl (by omega)).trans (h7 i c hc)
def inYe : Nat → Prop := fun a => a = 74 ∨ (81 ≤ a ∧ a ≤ 90)
def cop (m : Nat) (B : Nat → Nat → Int32) (els : List (Int32 × Nat × Nat)) (n : Nat) : Prop := ∀ (i : Nat) (e : Int32 × Nat × Nat), i < n → els[i]? = some e → B 9 (12 * m + i) = (if e.1 = -nI 1 then nI 0 else e.1) ∧ B 10 (12 * m + i) = nI (if mis e.2.1 = true then 0 else 1) ∧ B 11 (12 * m + i) = nI (if rep e.2.1 = true then 100 else 1) ∧ B 12 (12 * m + i) = nI e.2.2
theorem r_ent1 {m : Nat} {els : List (Int32 × Nat × Nat)} {P : Option Value → kv_H → Prop} {z1 z2 z3 : Value} (hm : m < 8) (hl : els.length ≤ 12) (hy : y 5 = nI m) : ∀ (f i : Nat) (B : Nat → Nat → Int32) (h : kv_H) (x5 : Option Value), i + f = els.length → vY h y B → yE y B els → cop m B els i → (∀ B' h', vY h' y B' → offR m B B' → (∀ k, k < 9 ∨ 12 < k → B' k = B k) → cop m B' els els.length → kv_fr inYe h h' → wp (fX5_enter_139 (kv_lim bX5_enter)) [some (.ref 74), some z1, some z2, some z3, some (.int (nI els.length)), x5] [] h' P) → wp (kv_lim bX5_enter 36) [some (.ref 74), some z1, some z2, some z3, some (.int (nI i)), x5] [] h P := by
  intro f
  induction f with
  | zero =>
    intro i B h x5 hi H hE hC K
    refine tX5_enter_36 ?_
    have ei : i = els.length := by omega
    subst ei
    simp only [fX5_enter_36, w_const, w_iload, w_aload, w_iinc, w_istore, w_astore, w_iadd, w_isub, w_imul, w_iand, w_ior, w_ixor, w_ishl, w_ishr, w_ineg, w_i2c, w_dup, w_pop, w_dup_x1, w_dup_x2, w_dup2, w_ifeq, w_ifne, w_iflt, w_ifge, w_ifgt, w_ifle, w_iceq, w_icne, w_iclt, w_icge, w_icgt, w_icle, w_ret, w_iret, w_aret, w_max, w_sld, w_slen, w_new, w_newa, w_newq, w_obj, w_getf, w_putf, w_iald, w_iast, w_alen, w_aald, w_aast, w_copy, List.getElem?_cons_zero, List.getElem?_cons_succ, List.set_cons_zero, List.set_cons_succ, List.length_cons, List.length_nil, List.cons_append, List.nil_append, Option.some.injEq, exists_eq_left', true_and, and_true, Option.toList, Value.category, l_0, l_1, l_2, l_3, l_4, l_8, l_9, l_10, l_12, l_13, l_15, l_26, l_32, l_40, l_41, l_42, l_43, l_45, l_46, l_48, l_49, l_50, l_51, l_59, l_60, l_61, l_62, l_63, l_65, l_90, l_91, l_93, l_94, l_96, l_97, l_100, l_122, l_123, l_124, l_125, l_126, l_161, l_1000, l_67108863, q_nb0, q_nb1, q_ni, q_fi, q_fb0, q_fb1, vY_74 H, hE.1, Int32.le_refl, if_true]
    exact K B h H offR.rf (fun _ _ => rfl) hC kv_fr.rf
  | succ f ih =>
    intro i B h x5 hi H hE hC K
    refine tX5_enter_36 ?_
    have g1 : i < 2147483648 := by omega
    have g2 : i < 48 := by omega
    have g3 : 12 * m + i < 2147483648 := by omega
    have g4 : 12 * m + i < 96 := by omega
    have hil : i < els.length := by omega
    obtain ⟨v2, v3, v4, v5⟩ := hE.2 i _ (List.getElem?_eq_getElem hil)
    simp only [fX5_enter_36, fX5_enter_45, w_const, w_iload, w_aload, w_iinc, w_istore, w_astore, w_iadd, w_isub, w_imul, w_iand, w_ior, w_ixor, w_ishl, w_ishr, w_ineg, w_i2c, w_dup, w_pop, w_dup_x1, w_dup_x2, w_dup2, w_ifeq, w_ifne, w_iflt, w_ifge, w_ifgt, w_ifle, w_iceq, w_icne, w_iclt, w_icge, w_icgt, w_icle, w_ret, w_iret, w_aret, w_max, w_sld, w_slen, w_new, w_newa, w_newq, w_obj, w_getf, w_putf, w_iald, w_iast, w_alen, w_aald, w_aast, w_copy, List.getElem?_cons_zero, List.getElem?_cons_succ, List.set_cons_zero, List.set_cons_succ, List.length_cons, List.length_nil, List.cons_append, List.nil_append, Option.some.injEq, exists_eq_left', true_and, and_true, Option.toList, Value.category, l_0, l_1, l_2, l_3, l_4, l_8, l_9, l_10, l_12, l_13, l_15, l_26, l_32, l_40, l_41, l_42, l_43, l_45, l_46, l_48, l_49, l_50, l_51, l_59, l_60, l_61, l_62, l_63, l_65, l_90, l_91, l_93, l_94, l_96, l_97, l_100, l_122, l_123, l_124, l_125, l_126, l_161, l_1000, l_67108863, q_nb0, q_nb1, q_ni, q_fi, q_fb0, q_fb1, vY_74 H, vY_84 H, vY_77 H, hE.1, hy, q_le (show els.length < 2147483648 by omega) g1, show ¬ els.length ≤ i by omega, if_false, q_mul, q_add, q_le (show 0 < 2147483648 by decide) g1, q_clamp g1, q_le (show 0 < 2147483648 by decide) g3, q_clamp g3, Nat.zero_le, g2, g4]
    have H1 := vY_a9 (f := upd (B 9) (12 * m + i) (B 2 i)) H
    have o1 : offR m B (va_up B 9 (upd (B 9) (12 * m + i) (B 2 i))) := offR_upd (by decide) (fun q => by cases q) (fun _ => by omega)
    have f1 : kv_fr inYe h (kv_p h 84 (.inl (0, 96, .inl (upd (B 9) (12 * m + i) (B 2 i))))) := kv_fr.rf.p (Or.inr (by decide))
    generalize kv_p h 84 (.inl (0, 96, .inl (upd (B 9) (12 * m + i) (B 2 i)))) = k1 at H1 f1 ⊢
    generalize hB1 : va_up B 9 (upd (B 9) (12 * m + i) (B 2 i)) = B1 at H1 o1
    have c2 : B1 3 = B 3 := by rw [← hB1]; rfl
    have d2 : B1 10 = B 10 := by rw [← hB1]; rfl
    have e24 : B1 4 = B 4 := by rw [← hB1]; rfl
    have e25 : B1 5 = B 5 := by rw [← hB1]; rfl
    have e211 : B1 11 = B 11 := by rw [← hB1]; rfl
    have e212 : B1 12 = B 12 := by rw [← hB1]; rfl
    simp only [w_const, w_iload, w_aload, w_iinc, w_istore, w_astore, w_iadd, w_isub, w_imul, w_iand, w_ior, w_ixor, w_ishl, w_ishr, w_ineg, w_i2c, w_dup, w_pop, w_dup_x1, w_dup_x2, w_dup2, w_ifeq, w_ifne, w_iflt, w_ifge, w_ifgt, w_ifle, w_iceq, w_icne, w_iclt, w_icge, w_icgt, w_icle, w_ret, w_iret, w_aret, w_max, w_sld, w_slen, w_new, w_newa, w_newq, w_obj, w_getf, w_putf, w_iald, w_iast, w_alen, w_aald, w_aast, w_copy, List.getElem?_cons_zero, List.getElem?_cons_succ, List.set_cons_zero, List.set_cons_succ, List.length_cons, List.length_nil, List.cons_append, List.nil_append, Option.some.injEq, exists_eq_left', true_and, and_true, Option.toList, Value.category, l_0, l_1, l_2, l_3, l_4, l_8, l_9, l_10, l_12, l_13, l_15, l_26, l_32, l_40, l_41, l_42, l_43, l_45, l_46, l_48, l_49, l_50, l_51, l_59, l_60, l_61, l_62, l_63, l_65, l_90, l_91, l_93, l_94, l_96, l_97, l_100, l_122, l_123, l_124, l_125, l_126, l_161, l_1000, l_67108863, q_nb0, q_nb1, q_ni, q_fi, q_fb0, q_fb1, vY_74 H1, vY_85 H1, vY_78 H1, hy, q_mul, q_add, q_le (show 0 < 2147483648 by decide) g1, q_clamp g1, q_le (show 0 < 2147483648 by decide) g3, q_clamp g3, Nat.zero_le, g2, g4, c2]
    have H2 := vY_a10 (f := upd (B1 10) (12 * m + i) (B 3 i)) H1
    have o2 : offR m B (va_up B1 10 (upd (B1 10) (12 * m + i) (B 3 i))) := o1.tr (offR_upd (by decide) (fun q => by cases q) (fun _ => by omega))
    have f2 : kv_fr inYe h (kv_p k1 85 (.inl (0, 96, .inl (upd (B1 10) (12 * m + i) (B 3 i))))) := f1.p (Or.inr (by decide))
    generalize kv_p k1 85 (.inl (0, 96, .inl (upd (B1 10) (12 * m + i) (B 3 i)))) = k2 at H2 f2 ⊢
    generalize hB2 : va_up B1 10 (upd (B1 10) (12 * m + i) (B 3 i)) = B2 at H2 o2
    have c3 : B2 4 = B 4 := by rw [← hB2]; exact (va_up_ne _ _ (by decide)).trans e24
    have d3 : B2 11 = B 11 := by rw [← hB2]; exact (va_up_ne _ _ (by decide)).trans e211
    have e35 : B2 5 = B 5 := by rw [← hB2]; exact (va_up_ne _ _ (by decide)).trans e25
    have e312 : B2 12 = B 12 := by rw [← hB2]; exact (va_up_ne _ _ (by decide)).trans e212
    simp only [w_const, w_iload, w_aload, w_iinc, w_istore, w_astore, w_iadd, w_isub, w_imul, w_iand, w_ior, w_ixor, w_ishl, w_ishr, w_ineg, w_i2c, w_dup, w_pop, w_dup_x1, w_dup_x2, w_dup2, w_ifeq, w_ifne, w_iflt, w_ifge, w_ifgt, w_ifle, w_iceq, w_icne, w_iclt, w_icge, w_icgt, w_icle, w_ret, w_iret, w_aret, w_max, w_sld, w_slen, w_new, w_newa, w_newq, w_obj, w_getf, w_putf, w_iald, w_iast, w_alen, w_aald, w_aast, w_copy, List.getElem?_cons_zero, List.getElem?_cons_succ, List.set_cons_zero, List.set_cons_succ, List.length_cons, List.length_nil, List.cons_append, List.nil_append, Option.some.injEq, exists_eq_left', true_and, and_true, Option.toList, Value.category, l_0, l_1, l_2, l_3, l_4, l_8, l_9, l_10, l_12, l_13, l_15, l_26, l_32, l_40, l_41, l_42, l_43, l_45, l_46, l_48, l_49, l_50, l_51, l_59, l_60, l_61, l_62, l_63, l_65, l_90, l_91, l_93, l_94, l_96, l_97, l_100, l_122, l_123, l_124, l_125, l_126, l_161, l_1000, l_67108863, q_nb0, q_nb1, q_ni, q_fi, q_fb0, q_fb1, vY_74 H2, vY_86 H2, vY_79 H2, hy, q_mul, q_add, q_le (show 0 < 2147483648 by decide) g1, q_clamp g1, q_le (show 0 < 2147483648 by decide) g3, q_clamp g3, Nat.zero_le, g2, g4, c3]
    have H3 := vY_a11 (f := upd (B2 11) (12 * m + i) (B 4 i)) H2
    have o3 : offR m B (va_up B2 11 (upd (B2 11) (12 * m + i) (B 4 i))) := o2.tr (offR_upd (by decide) (fun q => by cases q) (fun _ => by omega))
    have f3 : kv_fr inYe h (kv_p k2 86 (.inl (0, 96, .inl (upd (B2 11) (12 * m + i) (B 4 i))))) := f2.p (Or.inr (by decide))
    generalize kv_p k2 86 (.inl (0, 96, .inl (upd (B2 11) (12 * m + i) (B 4 i)))) = k3 at H3 f3 ⊢
    generalize hB3 : va_up B2 11 (upd (B2 11) (12 * m + i) (B 4 i)) = B3 at H3 o3
    have c4 : B3 5 = B 5 := by rw [← hB3]; exact (va_up_ne _ _ (by decide)).trans e35
    have d4 : B3 12 = B 12 := by rw [← hB3]; exact (va_up_ne _ _ (by decide)).trans e312
    simp only [w_const, w_iload, w_aload, w_iinc, w_istore, w_astore, w_iadd, w_isub, w_imul, w_iand, w_ior, w_ixor, w_ishl, w_ishr, w_ineg, w_i2c, w_dup, w_pop, w_dup_x1, w_dup_x2, w_dup2, w_ifeq, w_ifne, w_iflt, w_ifge, w_ifgt, w_ifle, w_iceq, w_icne, w_iclt, w_icge, w_icgt, w_icle, w_ret, w_iret, w_aret, w_max, w_sld, w_slen, w_new, w_newa, w_newq, w_obj, w_getf, w_putf, w_iald, w_iast, w_alen, w_aald, w_aast, w_copy, List.getElem?_cons_zero, List.getElem?_cons_succ, List.set_cons_zero, List.set_cons_succ, List.length_cons, List.length_nil, List.cons_append, List.nil_append, Option.some.injEq, exists_eq_left', true_and, and_true, Option.toList, Value.category, l_0, l_1, l_2, l_3, l_4, l_8, l_9, l_10, l_12, l_13, l_15, l_26, l_32, l_40, l_41, l_42, l_43, l_45, l_46, l_48, l_49, l_50, l_51, l_59, l_60, l_61, l_62, l_63, l_65, l_90, l_91, l_93, l_94, l_96, l_97, l_100, l_122, l_123, l_124, l_125, l_126, l_161, l_1000, l_67108863, q_nb0, q_nb1, q_ni, q_fi, q_fb0, q_fb1, vY_74 H3, vY_87 H3, vY_80 H3, hy, q_mul, q_add, q_le (show 0 < 2147483648 by decide) g1, q_clamp g1, q_le (show 0 < 2147483648 by decide) g3, q_clamp g3, Nat.zero_le, g2, g4, c4]
    have H4 := vY_a12 (f := upd (B3 12) (12 * m + i) (B 5 i)) H3
    have o4 : offR m B (va_up B3 12 (upd (B3 12) (12 * m + i) (B 5 i))) := o3.tr (offR_upd (by decide) (fun q => by cases q) (fun _ => by omega))
    have f4 : kv_fr inYe h (kv_p k3 87 (.inl (0, 96, .inl (upd (B3 12) (12 * m + i) (B 5 i))))) := f3.p (Or.inr (by decide))
    generalize kv_p k3 87 (.inl (0, 96, .inl (upd (B3 12) (12 * m + i) (B 5 i)))) = k4 at H4 f4 ⊢
    generalize hB4 : va_up B3 12 (upd (B3 12) (12 * m + i) (B 5 i)) = B4 at H4 o4
    have b : ∀ k, k < 9 ∨ 12 < k → B4 k = B k := by
      intro k hk
      rw [← hB4, va_up_ne _ _ (by omega), ← hB3, va_up_ne _ _ (by omega), ← hB2, va_up_ne _ _ (by omega), ← hB1, va_up_ne _ _ (by omega)]
    have w9 : B4 9 = upd (B 9) (12 * m + i) (B 2 i) := by
      rw [← hB4, va_up_ne _ _ (by decide), ← hB3, va_up_ne _ _ (by decide), ← hB2, va_up_ne _ _ (by decide), ← hB1, va_up_self]
    have w10 : B4 10 = upd (B 10) (12 * m + i) (B 3 i) := by
      rw [← hB4, va_up_ne _ _ (by decide), ← hB3, va_up_ne _ _ (by decide), ← hB2, va_up_self, d2]
    have w11 : B4 11 = upd (B 11) (12 * m + i) (B 4 i) := by
      rw [← hB4, va_up_ne _ _ (by decide), ← hB3, va_up_self, d3]
    have w12 : B4 12 = upd (B 12) (12 * m + i) (B 5 i) := by
      rw [← hB4, va_up_self, d4]
    refine ih (i + 1) B4 k4 x5 (by omega) H4 ⟨hE.1, fun j e he => ?_⟩ ?_ (fun B' h' H' o' b' C' f' => K B' h' H' (o4.tr o') (fun k hk => (b' k hk).trans (b k hk)) C' (f4.tr f'))
    · rw [b 2 (by decide), b 3 (by decide), b 4 (by decide), b 5 (by decide)]
      exact hE.2 j e he
    · intro j e hj he
      rw [w9, w10, w11, w12]
      by_cases ej : j = i
      · subst ej
        rw [List.getElem?_eq_getElem hil] at he
        cases he
        simp only [upd, if_true]
        exact ⟨v2, v3, v4, v5⟩
      · have ne : ¬ 12 * m + j = 12 * m + i := by omega
        simp only [upd, ne, if_false]
        exact hC j e (by omega) he
end RN
