/-! matching: the class -/
def vT (h : kv_H) (tl ts : Nat) (lt sp : Nat → Nat) (sz pl : Nat) : Prop := kv_g h 69 = some (.inr (3, [.ref tl, .ref ts, .int (nI sz), .int (nI pl)])) ∧ kv_g h tl = some (.inl (1, 60, .inl (fun i => nI (lt i)))) ∧ kv_g h ts = some (.inl (1, 60, .inl (fun i => nI (sp i)))) ∧ ((tl = 70 ∧ ts = 71) ∨ (tl = 71 ∧ ts = 70))
def vM (h : kv_H) (bg : Nat → Nat) : Prop := kv_g h 72 = some (.inr (0, [.ref 73])) ∧ kv_g h 73 = some (.inl (0, 13, .inl (fun i => nI (bg i))))
def inS (s : Int32) (c : Nat) : Bool := decide (¬ ((s >>> (nI (c - 97) &&& 31)) &&& nI 1) = nI 0)
theorem p_isIn {h : kv_H} {tl ts sz pl i : Nat} {lt sp : Nat → Nat} {s : Int32} (H : vT h tl ts lt sp sz pl) (hi : i < 60) (h97 : 97 ≤ lt i) : wm mX3_isIn [.ref 69, .int s, .int (nI i)] h (fun v h' => v = some (.int (nI (inS s (lt i)).toNat)) ∧ h' = h) := by
  refine iX3_isIn rfl rfl rfl ?_
  have g1 : i < 2147483648 := by omega
  simp only [fX3_isIn_0, w_const, w_iload, w_aload, w_iinc, w_istore, w_astore, w_iadd, w_isub, w_imul, w_iand, w_ior, w_ixor, w_ishl, w_ishr, w_ineg, w_i2c, w_dup, w_pop, w_dup_x1, w_dup_x2, w_dup2, w_ifeq, w_ifne, w_iflt, w_ifge, w_ifgt, w_ifle, w_iceq, w_icne, w_iclt, w_icge, w_icgt, w_icle, w_ret, w_iret, w_aret, w_max, w_sld, w_slen, w_new, w_newa, w_newq, w_obj, w_getf, w_putf, w_iald, w_iast, w_alen, w_aald, w_aast, w_copy, List.getElem?_cons_zero, List.getElem?_cons_succ, List.set_cons_zero, List.set_cons_succ, List.length_cons, List.length_nil, List.cons_append, List.nil_append, Option.some.injEq, exists_eq_left', true_and, and_true, Option.toList, Value.category, l_0, l_1, l_2, l_3, l_4, l_8, l_9, l_10, l_12, l_13, l_15, l_26, l_32, l_40, l_41, l_42, l_43, l_45, l_46, l_48, l_49, l_50, l_51, l_59, l_60, l_61, l_62, l_63, l_65, l_90, l_91, l_93, l_94, l_96, l_97, l_100, l_122, l_123, l_124, l_125, l_126, l_161, l_1000, l_67108863, q_nb0, q_nb1, q_ni, q_fi, q_fb0, q_fb1, H.1, H.2.1, q_le (show 0 < 2147483648 by decide) g1, q_clamp g1, Nat.zero_le, hi, q_sub h97]
  unfold inS
  by_cases e : ((s >>> (nI (lt i - 97) &&& 31)) &&& nI 1) = nI 0
  · simp only [e, if_true, fX3_isIn_20, fX3_isIn_21, w_const, w_iload, w_aload, w_iinc, w_istore, w_astore, w_iadd, w_isub, w_imul, w_iand, w_ior, w_ixor, w_ishl, w_ishr, w_ineg, w_i2c, w_dup, w_pop, w_dup_x1, w_dup_x2, w_dup2, w_ifeq, w_ifne, w_iflt, w_ifge, w_ifgt, w_ifle, w_iceq, w_icne, w_iclt, w_icge, w_icgt, w_icle, w_ret, w_iret, w_aret, w_max, w_sld, w_slen, w_new, w_newa, w_newq, w_obj, w_getf, w_putf, w_iald, w_iast, w_alen, w_aald, w_aast, w_copy, List.getElem?_cons_zero, List.getElem?_cons_succ, List.set_cons_zero, List.set_cons_succ, List.length_cons, List.length_nil, List.cons_append, List.nil_append, Option.some.injEq, exists_eq_left', true_and, and_true, Option.toList, Value.category, l_0, l_1, l_2, l_3, l_4, l_8, l_9, l_10, l_12, l_13, l_15, l_26, l_32, l_40, l_41, l_42, l_43, l_45, l_46, l_48, l_49, l_50, l_51, l_59, l_60, l_61, l_62, l_63, l_65, l_90, l_91, l_93, l_94, l_96, l_97, l_100, l_122, l_123, l_124, l_125, l_126, l_161, l_1000, l_67108863, q_nb0, q_nb1, q_ni, q_fi, q_fb0, q_fb1, not_true, decide_false, Bool.toNat_false]
  · simp only [e, if_false, fX3_isIn_16, fX3_isIn_21, w_const, w_iload, w_aload, w_iinc, w_istore, w_astore, w_iadd, w_isub, w_imul, w_iand, w_ior, w_ixor, w_ishl, w_ishr, w_ineg, w_i2c, w_dup, w_pop, w_dup_x1, w_dup_x2, w_dup2, w_ifeq, w_ifne, w_iflt, w_ifge, w_ifgt, w_ifle, w_iceq, w_icne, w_iclt, w_icge, w_icgt, w_icle, w_ret, w_iret, w_aret, w_max, w_sld, w_slen, w_new, w_newa, w_newq, w_obj, w_getf, w_putf, w_iald, w_iast, w_alen, w_aald, w_aast, w_copy, List.getElem?_cons_zero, List.getElem?_cons_succ, List.set_cons_zero, List.set_cons_succ, List.length_cons, List.length_nil, List.cons_append, List.nil_append, Option.some.injEq, exists_eq_left', true_and, and_true, Option.toList, Value.category, l_0, l_1, l_2, l_3, l_4, l_8, l_9, l_10, l_12, l_13, l_15, l_26, l_32, l_40, l_41, l_42, l_43, l_45, l_46, l_48, l_49, l_50, l_51, l_59, l_60, l_61, l_62, l_63, l_65, l_90, l_91, l_93, l_94, l_96, l_97, l_100, l_122, l_123, l_124, l_125, l_126, l_161, l_1000, l_67108863, q_nb0, q_nb1, q_ni, q_fi, q_fb0, q_fb1, not_false_eq_true, decide_true, Bool.toNat_true]
def rnB (lt : Nat → Nat) (s : Int32) : Nat → Nat → Nat
  | 0, _ => 0
  | m + 1, p => if 0 < p ∧ inS s (lt (p - 1)) = true then rnB lt s m (p - 1) + 1 else 0
def rnF (lt : Nat → Nat) (sz : Nat) (s : Int32) : Nat → Nat → Nat
  | 0, _ => 0
  | m + 1, p => if p < sz ∧ inS s (lt p) = true then rnF lt sz s m (p + 1) + 1 else 0
theorem rnB_le {lt : Nat → Nat} {s : Int32} : ∀ (m p : Nat), rnB lt s m p ≤ p ∧ rnB lt s m p ≤ m := by
  intro m
  induction m with
  | zero => intro p; simp [rnB]
  | succ m ih =>
    intro p
    unfold rnB
    split
    · have := ih (p - 1)
      omega
    · omega
theorem rnF_le {lt : Nat → Nat} {sz : Nat} {s : Int32} : ∀ (m p : Nat), p ≤ sz → p + rnF lt sz s m p ≤ sz ∧ rnF lt sz s m p ≤ m := by
  intro m
  induction m with
  | zero => intro p hp; simp [rnF]; exact hp
  | succ m ih =>
    intro p hp
    unfold rnF
    split
    · have := ih (p + 1) (by omega)
      omega
    · omega
def rM (A : Nat → Nat → Int32) (x : Nat → Nat) (S : Nat → Int32) (lo hi : Nat → Nat) : Prop := x 0 ≤ 12 ∧ x 1 ≤ x 2 ∧ x 2 ≤ x 0 ∧ ∀ i, i < x 0 → A 0 i = S i ∧ A 1 i = nI (lo i) ∧ A 2 i = nI (hi i) ∧ lo i ≤ 1 ∧ hi i ≤ 1000
def sBef (lt : Nat → Nat) (S : Nat → Int32) (lo hi : Nat → Nat) : Nat → Nat → Bool
  | 0, _ => true
  | k + 1, p => if rnB lt (S k) (hi k) p < lo k then false else sBef lt S lo hi k (p - rnB lt (S k) (hi k) p)
section MT
variable {h : kv_H} {b tl ts sz pl : Nat} {A : Nat → Nat → Int32} {x : Nat → Nat} {S : Nat → Int32} {lo hi : Nat → Nat} {lt sp : Nat → Nat}
theorem q_dec {a : Nat} (h : 0 < a) : nI a + -nI 1 = nI (a - 1) := by
  rw [← Int32.sub_eq_add_neg, q_sub (by omega)]
theorem p_before_loop (H : vT h tl ts lt sp sz pl) (HR : vR h b A x) (hr : rM A x S lo hi) (hs : sz ≤ 60) (hp : pl ≤ sz) (hl : ∀ i, i < sz → 97 ≤ lt i) : ∀ (k p : Nat) (x5 : Option Value), k ≤ x 1 → p ≤ pl → wp (kv_lim bX0_takeBefore 13) [some (.ref 72), some (.ref b), some (.ref 69), some (.int (nI p)), some (.int (nI k + -nI 1)), x5] [] h (fun v h' => v = some (.int (nI (sBef lt S lo hi k p).toNat)) ∧ h' = h) := by
  obtain ⟨m0, m1, m2, mr⟩ := hr
  intro k
  induction k with
  | zero =>
    intro p x5 hk hp2
    refine tX0_takeBefore_13 ?_
    have e : nI 0 + -nI 1 < nI 0 := by decide +kernel
    simp only [fX0_takeBefore_13, fX0_takeBefore_83, w_const, w_iload, w_aload, w_iinc, w_istore, w_astore, w_iadd, w_isub, w_imul, w_iand, w_ior, w_ixor, w_ishl, w_ishr, w_ineg, w_i2c, w_dup, w_pop, w_dup_x1, w_dup_x2, w_dup2, w_ifeq, w_ifne, w_iflt, w_ifge, w_ifgt, w_ifle, w_iceq, w_icne, w_iclt, w_icge, w_icgt, w_icle, w_ret, w_iret, w_aret, w_max, w_sld, w_slen, w_new, w_newa, w_newq, w_obj, w_getf, w_putf, w_iald, w_iast, w_alen, w_aald, w_aast, w_copy, List.getElem?_cons_zero, List.getElem?_cons_succ, List.set_cons_zero, List.set_cons_succ, List.length_cons, List.length_nil, List.cons_append, List.nil_append, Option.some.injEq, exists_eq_left', true_and, and_true, Option.toList, Value.category, l_0, l_1, l_2, l_3, l_4, l_8, l_9, l_10, l_12, l_13, l_15, l_26, l_32, l_40, l_41, l_42, l_43, l_45, l_46, l_48, l_49, l_50, l_51, l_59, l_60, l_61, l_62, l_63, l_65, l_90, l_91, l_93, l_94, l_96, l_97, l_100, l_122, l_123, l_124, l_125, l_126, l_161, l_1000, l_67108863, q_nb0, q_nb1, q_ni, q_fi, q_fb0, q_fb1, e, if_true, sBef, Bool.toNat_true]
  | succ k ih =>
    intro p x5 hk hp2
    refine tX0_takeBefore_13 ?_
    have g1 : k < 2147483648 := by omega
    have e : ¬ nI k < nI 0 := by rw [q_lt g1 (by decide)]; omega
    obtain ⟨a0, a1, a2, a3, a4⟩ := mr k (by omega)
    rw [q_dec (show 0 < k + 1 by omega)]
    simp only [fX0_takeBefore_13, fX0_takeBefore_18, w_const, w_iload, w_aload, w_iinc, w_istore, w_astore, w_iadd, w_isub, w_imul, w_iand, w_ior, w_ixor, w_ishl, w_ishr, w_ineg, w_i2c, w_dup, w_pop, w_dup_x1, w_dup_x2, w_dup2, w_ifeq, w_ifne, w_iflt, w_ifge, w_ifgt, w_ifle, w_iceq, w_icne, w_iclt, w_icge, w_icgt, w_icle, w_ret, w_iret, w_aret, w_max, w_sld, w_slen, w_new, w_newa, w_newq, w_obj, w_getf, w_putf, w_iald, w_iast, w_alen, w_aald, w_aast, w_copy, List.getElem?_cons_zero, List.getElem?_cons_succ, List.set_cons_zero, List.set_cons_succ, List.length_cons, List.length_nil, List.cons_append, List.nil_append, Option.some.injEq, exists_eq_left', true_and, and_true, Option.toList, Value.category, l_0, l_1, l_2, l_3, l_4, l_8, l_9, l_10, l_12, l_13, l_15, l_26, l_32, l_40, l_41, l_42, l_43, l_45, l_46, l_48, l_49, l_50, l_51, l_59, l_60, l_61, l_62, l_63, l_65, l_90, l_91, l_93, l_94, l_96, l_97, l_100, l_122, l_123, l_124, l_125, l_126, l_161, l_1000, l_67108863, q_nb0, q_nb1, q_ni, q_fi, q_fb0, q_fb1, Nat.add_sub_cancel, e, if_false]
    have inner : ∀ (m q tk : Nat), m + tk = hi k → tk + q = p → wp (kv_lim bX0_takeBefore 21) [some (.ref 72), some (.ref b), some (.ref 69), some (.int (nI q)), some (.int (nI k)), some (.int (nI tk))] [] h (fun v h' => v = some (.int (nI (if tk + rnB lt (S k) m q < lo k then false else sBef lt S lo hi k (q - rnB lt (S k) m q)).toNat)) ∧ h' = h) := by
      have out : ∀ (q tk : Nat), tk + q = p → tk ≤ hi k → wp (fX0_takeBefore_63 (kv_lim bX0_takeBefore)) [some (.ref 72), some (.ref b), some (.ref 69), some (.int (nI q)), some (.int (nI k)), some (.int (nI tk))] [] h (fun v h' => v = some (.int (nI (if tk < lo k then false else sBef lt S lo hi k q).toNat)) ∧ h' = h) := by
        intro q tk hq htk
        simp only [fX0_takeBefore_63, w_const, w_iload, w_aload, w_iinc, w_istore, w_astore, w_iadd, w_isub, w_imul, w_iand, w_ior, w_ixor, w_ishl, w_ishr, w_ineg, w_i2c, w_dup, w_pop, w_dup_x1, w_dup_x2, w_dup2, w_ifeq, w_ifne, w_iflt, w_ifge, w_ifgt, w_ifle, w_iceq, w_icne, w_iclt, w_icge, w_icgt, w_icle, w_ret, w_iret, w_aret, w_max, w_sld, w_slen, w_new, w_newa, w_newq, w_obj, w_getf, w_putf, w_iald, w_iast, w_alen, w_aald, w_aast, w_copy, List.getElem?_cons_zero, List.getElem?_cons_succ, List.set_cons_zero, List.set_cons_succ, List.length_cons, List.length_nil, List.cons_append, List.nil_append, Option.some.injEq, exists_eq_left', true_and, and_true, Option.toList, Value.category, l_0, l_1, l_2, l_3, l_4, l_8, l_9, l_10, l_12, l_13, l_15, l_26, l_32, l_40, l_41, l_42, l_43, l_45, l_46, l_48, l_49, l_50, l_51, l_59, l_60, l_61, l_62, l_63, l_65, l_90, l_91, l_93, l_94, l_96, l_97, l_100, l_122, l_123, l_124, l_125, l_126, l_161, l_1000, l_67108863, q_nb0, q_nb1, q_ni, q_fi, q_fb0, q_fb1, HR.1, HR.2.2.1, q_le (show 0 < 2147483648 by decide) g1, q_clamp g1, Nat.zero_le, show k < 12 by omega, a1, q_le (show lo k < 2147483648 by omega) (show tk < 2147483648 by omega)]
        by_cases e1 : tk < lo k
        · simp only [show ¬ lo k ≤ tk by omega, if_false, fX0_takeBefore_75, w_const, w_iload, w_aload, w_iinc, w_istore, w_astore, w_iadd, w_isub, w_imul, w_iand, w_ior, w_ixor, w_ishl, w_ishr, w_ineg, w_i2c, w_dup, w_pop, w_dup_x1, w_dup_x2, w_dup2, w_ifeq, w_ifne, w_iflt, w_ifge, w_ifgt, w_ifle, w_iceq, w_icne, w_iclt, w_icge, w_icgt, w_icle, w_ret, w_iret, w_aret, w_max, w_sld, w_slen, w_new, w_newa, w_newq, w_obj, w_getf, w_putf, w_iald, w_iast, w_alen, w_aald, w_aast, w_copy, List.getElem?_cons_zero, List.getElem?_cons_succ, List.set_cons_zero, List.set_cons_succ, List.length_cons, List.length_nil, List.cons_append, List.nil_append, Option.some.injEq, exists_eq_left', true_and, and_true, Option.toList, Value.category, l_0, l_1, l_2, l_3, l_4, l_8, l_9, l_10, l_12, l_13, l_15, l_26, l_32, l_40, l_41, l_42, l_43, l_45, l_46, l_48, l_49, l_50, l_51, l_59, l_60, l_61, l_62, l_63, l_65, l_90, l_91, l_93, l_94, l_96, l_97, l_100, l_122, l_123, l_124, l_125, l_126, l_161, l_1000, l_67108863, q_nb0, q_nb1, q_ni, q_fi, q_fb0, q_fb1, e1, if_true, Bool.toNat_false]
        · simp only [show lo k ≤ tk by omega, if_true, fX0_takeBefore_77, w_const, w_iload, w_aload, w_iinc, w_istore, w_astore, w_iadd, w_isub, w_imul, w_iand, w_ior, w_ixor, w_ishl, w_ishr, w_ineg, w_i2c, w_dup, w_pop, w_dup_x1, w_dup_x2, w_dup2, w_ifeq, w_ifne, w_iflt, w_ifge, w_ifgt, w_ifle, w_iceq, w_icne, w_iclt, w_icge, w_icgt, w_icle, w_ret, w_iret, w_aret, w_max, w_sld, w_slen, w_new, w_newa, w_newq, w_obj, w_getf, w_putf, w_iald, w_iast, w_alen, w_aald, w_aast, w_copy, List.getElem?_cons_zero, List.getElem?_cons_succ, List.set_cons_zero, List.set_cons_succ, List.length_cons, List.length_nil, List.cons_append, List.nil_append, Option.some.injEq, exists_eq_left', true_and, and_true, Option.toList, Value.category, l_0, l_1, l_2, l_3, l_4, l_8, l_9, l_10, l_12, l_13, l_15, l_26, l_32, l_40, l_41, l_42, l_43, l_45, l_46, l_48, l_49, l_50, l_51, l_59, l_60, l_61, l_62, l_63, l_65, l_90, l_91, l_93, l_94, l_96, l_97, l_100, l_122, l_123, l_124, l_125, l_126, l_161, l_1000, l_67108863, q_nb0, q_nb1, q_ni, q_fi, q_fb0, q_fb1, e1, if_false]
          exact ih q _ (by omega) (by omega)
      intro m
      induction m with
      | zero =>
        intro q tk hm hq
        refine tX0_takeBefore_21 ?_
        simp only [fX0_takeBefore_21, w_const, w_iload, w_aload, w_iinc, w_istore, w_astore, w_iadd, w_isub, w_imul, w_iand, w_ior, w_ixor, w_ishl, w_ishr, w_ineg, w_i2c, w_dup, w_pop, w_dup_x1, w_dup_x2, w_dup2, w_ifeq, w_ifne, w_iflt, w_ifge, w_ifgt, w_ifle, w_iceq, w_icne, w_iclt, w_icge, w_icgt, w_icle, w_ret, w_iret, w_aret, w_max, w_sld, w_slen, w_new, w_newa, w_newq, w_obj, w_getf, w_putf, w_iald, w_iast, w_alen, w_aald, w_aast, w_copy, List.getElem?_cons_zero, List.getElem?_cons_succ, List.set_cons_zero, List.set_cons_succ, List.length_cons, List.length_nil, List.cons_append, List.nil_append, Option.some.injEq, exists_eq_left', true_and, and_true, Option.toList, Value.category, l_0, l_1, l_2, l_3, l_4, l_8, l_9, l_10, l_12, l_13, l_15, l_26, l_32, l_40, l_41, l_42, l_43, l_45, l_46, l_48, l_49, l_50, l_51, l_59, l_60, l_61, l_62, l_63, l_65, l_90, l_91, l_93, l_94, l_96, l_97, l_100, l_122, l_123, l_124, l_125, l_126, l_161, l_1000, l_67108863, q_nb0, q_nb1, q_ni, q_fi, q_fb0, q_fb1, HR.1, HR.2.2.2.1, q_le (show 0 < 2147483648 by decide) g1, q_clamp g1, Nat.zero_le, show k < 12 by omega, a2, q_le (show hi k < 2147483648 by omega) (show tk < 2147483648 by omega), show hi k ≤ tk by omega, if_true, rnB, Nat.add_zero, Nat.sub_zero]
        exact out q tk hq (by omega)
      | succ m ihm =>
        intro q tk hm hq
        refine tX0_takeBefore_21 ?_
        simp only [fX0_takeBefore_21, w_const, w_iload, w_aload, w_iinc, w_istore, w_astore, w_iadd, w_isub, w_imul, w_iand, w_ior, w_ixor, w_ishl, w_ishr, w_ineg, w_i2c, w_dup, w_pop, w_dup_x1, w_dup_x2, w_dup2, w_ifeq, w_ifne, w_iflt, w_ifge, w_ifgt, w_ifle, w_iceq, w_icne, w_iclt, w_icge, w_icgt, w_icle, w_ret, w_iret, w_aret, w_max, w_sld, w_slen, w_new, w_newa, w_newq, w_obj, w_getf, w_putf, w_iald, w_iast, w_alen, w_aald, w_aast, w_copy, List.getElem?_cons_zero, List.getElem?_cons_succ, List.set_cons_zero, List.set_cons_succ, List.length_cons, List.length_nil, List.cons_append, List.nil_append, Option.some.injEq, exists_eq_left', true_and, and_true, Option.toList, Value.category, l_0, l_1, l_2, l_3, l_4, l_8, l_9, l_10, l_12, l_13, l_15, l_26, l_32, l_40, l_41, l_42, l_43, l_45, l_46, l_48, l_49, l_50, l_51, l_59, l_60, l_61, l_62, l_63, l_65, l_90, l_91, l_93, l_94, l_96, l_97, l_100, l_122, l_123, l_124, l_125, l_126, l_161, l_1000, l_67108863, q_nb0, q_nb1, q_ni, q_fi, q_fb0, q_fb1, HR.1, HR.2.2.2.1, q_le (show 0 < 2147483648 by decide) g1, q_clamp g1, Nat.zero_le, show k < 12 by omega, a2, q_le (show hi k < 2147483648 by omega) (show tk < 2147483648 by omega), show ¬ hi k ≤ tk by omega, if_false, fX0_takeBefore_33, q_le (show q < 2147483648 by omega) (show 0 < 2147483648 by decide)]
        by_cases e1 : q ≤ 0
        · have en : rnB lt (S k) (m + 1) q = 0 := by unfold rnB; rw [if_neg (fun z => by omega)]
          simp only [e1, if_true, en, Nat.add_zero, Nat.sub_zero]
          exact out q tk hq (by omega)
        · simp only [e1, if_false, fX0_takeBefore_37, w_const, w_iload, w_aload, w_iinc, w_istore, w_astore, w_iadd, w_isub, w_imul, w_iand, w_ior, w_ixor, w_ishl, w_ishr, w_ineg, w_i2c, w_dup, w_pop, w_dup_x1, w_dup_x2, w_dup2, w_ifeq, w_ifne, w_iflt, w_ifge, w_ifgt, w_ifle, w_iceq, w_icne, w_iclt, w_icge, w_icgt, w_icle, w_ret, w_iret, w_aret, w_max, w_sld, w_slen, w_new, w_newa, w_newq, w_obj, w_getf, w_putf, w_iald, w_iast, w_alen, w_aald, w_aast, w_copy, List.getElem?_cons_zero, List.getElem?_cons_succ, List.set_cons_zero, List.set_cons_succ, List.length_cons, List.length_nil, List.cons_append, List.nil_append, Option.some.injEq, exists_eq_left', true_and, and_true, Option.toList, Value.category, l_0, l_1, l_2, l_3, l_4, l_8, l_9, l_10, l_12, l_13, l_15, l_26, l_32, l_40, l_41, l_42, l_43, l_45, l_46, l_48, l_49, l_50, l_51, l_59, l_60, l_61, l_62, l_63, l_65, l_90, l_91, l_93, l_94, l_96, l_97, l_100, l_122, l_123, l_124, l_125, l_126, l_161, l_1000, l_67108863, q_nb0, q_nb1, q_ni, q_fi, q_fb0, q_fb1, HR.1, HR.2.1, q_le (show 0 < 2147483648 by decide) g1, q_clamp g1, Nat.zero_le, show k < 12 by omega, a0, q_sub (show 1 ≤ q by omega)]
          refine w_callV2 (r := []) H.1 (p_isIn H (by omega) (hl _ (by omega))) (by decide) ?_
          rintro v1 h2 ⟨rfl, rfl⟩
          simp only [w_const, w_iload, w_aload, w_iinc, w_istore, w_astore, w_iadd, w_isub, w_imul, w_iand, w_ior, w_ixor, w_ishl, w_ishr, w_ineg, w_i2c, w_dup, w_pop, w_dup_x1, w_dup_x2, w_dup2, w_ifeq, w_ifne, w_iflt, w_ifge, w_ifgt, w_ifle, w_iceq, w_icne, w_iclt, w_icge, w_icgt, w_icle, w_ret, w_iret, w_aret, w_max, w_sld, w_slen, w_new, w_newa, w_newq, w_obj, w_getf, w_putf, w_iald, w_iast, w_alen, w_aald, w_aast, w_copy, List.getElem?_cons_zero, List.getElem?_cons_succ, List.set_cons_zero, List.set_cons_succ, List.length_cons, List.length_nil, List.cons_append, List.nil_append, Option.some.injEq, exists_eq_left', true_and, and_true, Option.toList, Value.category, l_0, l_1, l_2, l_3, l_4, l_8, l_9, l_10, l_12, l_13, l_15, l_26, l_32, l_40, l_41, l_42, l_43, l_45, l_46, l_48, l_49, l_50, l_51, l_59, l_60, l_61, l_62, l_63, l_65, l_90, l_91, l_93, l_94, l_96, l_97, l_100, l_122, l_123, l_124, l_125, l_126, l_161, l_1000, l_67108863, q_nb0, q_nb1, q_ni, q_fi, q_fb0, q_fb1, q_b]
          by_cases e2 : inS (S k) (lt (q - 1)) = true
          · have en : rnB lt (S k) (m + 1) q = rnB lt (S k) m (q - 1) + 1 := by conv => lhs; unfold rnB; rw [if_pos ⟨by omega, e2⟩]
            simp only [e2, Bool.true_eq_false, if_false, fX0_takeBefore_54, w_const, w_iload, w_aload, w_iinc, w_istore, w_astore, w_iadd, w_isub, w_imul, w_iand, w_ior, w_ixor, w_ishl, w_ishr, w_ineg, w_i2c, w_dup, w_pop, w_dup_x1, w_dup_x2, w_dup2, w_ifeq, w_ifne, w_iflt, w_ifge, w_ifgt, w_ifle, w_iceq, w_icne, w_iclt, w_icge, w_icgt, w_icle, w_ret, w_iret, w_aret, w_max, w_sld, w_slen, w_new, w_newa, w_newq, w_obj, w_getf, w_putf, w_iald, w_iast, w_alen, w_aald, w_aast, w_copy, List.getElem?_cons_zero, List.getElem?_cons_succ, List.set_cons_zero, List.set_cons_succ, List.length_cons, List.length_nil, List.cons_append, List.nil_append, Option.some.injEq, exists_eq_left', true_and, and_true, Option.toList, Value.category, l_0, l_1, l_2, l_3, l_4, l_8, l_9, l_10, l_12, l_13, l_15, l_26, l_32, l_40, l_41, l_42, l_43, l_45, l_46, l_48, l_49, l_50, l_51, l_59, l_60, l_61, l_62, l_63, l_65, l_90, l_91, l_93, l_94, l_96, l_97, l_100, l_122, l_123, l_124, l_125, l_126, l_161, l_1000, l_67108863, q_nb0, q_nb1, q_ni, q_fi, q_fb0, q_fb1, q_add, q_dec (show 0 < q by omega)]
            have w9 := ihm (q - 1) (tk + 1) (by omega) (by omega)
            rw [en]
            rw [show tk + (rnB lt (S k) m (q - 1) + 1) = tk + 1 + rnB lt (S k) m (q - 1) by omega, show q - (rnB lt (S k) m (q - 1) + 1) = q - 1 - rnB lt (S k) m (q - 1) by omega]
            exact w9
          · have e2' : inS (S k) (lt (q - 1)) = false := by simpa using e2
            have en : rnB lt (S k) (m + 1) q = 0 := by unfold rnB; rw [if_neg (fun z => e2 z.2)]
            simp only [e2', if_true, en, Nat.add_zero, Nat.sub_zero]
            exact out q tk hq (by omega)
    have w9 := inner (hi k) p 0 (by omega) (by omega)
    simp only [Nat.zero_add] at w9
    unfold sBef
    exact w9
theorem p_before (H : vT h tl ts lt sp sz pl) (HR : vR h b A x) (hr : rM A x S lo hi) (hs : sz ≤ 60) (hp : pl ≤ sz) (hl : ∀ i, i < sz → 97 ≤ lt i) : wm mX0_takeBefore [.ref 72, .ref b, .ref 69] h (fun v h' => v = some (.int (nI (sBef lt S lo hi (x 1) pl).toNat)) ∧ h' = h) := by
  refine iX0_takeBefore rfl rfl rfl ?_
  simp only [fX0_takeBefore_0, w_const, w_iload, w_aload, w_iinc, w_istore, w_astore, w_iadd, w_isub, w_imul, w_iand, w_ior, w_ixor, w_ishl, w_ishr, w_ineg, w_i2c, w_dup, w_pop, w_dup_x1, w_dup_x2, w_dup2, w_ifeq, w_ifne, w_iflt, w_ifge, w_ifgt, w_ifle, w_iceq, w_icne, w_iclt, w_icge, w_icgt, w_icle, w_ret, w_iret, w_aret, w_max, w_sld, w_slen, w_new, w_newa, w_newq, w_obj, w_getf, w_putf, w_iald, w_iast, w_alen, w_aald, w_aast, w_copy, List.getElem?_cons_zero, List.getElem?_cons_succ, List.set_cons_zero, List.set_cons_succ, List.length_cons, List.length_nil, List.cons_append, List.nil_append, Option.some.injEq, exists_eq_left', true_and, and_true, Option.toList, Value.category, l_0, l_1, l_2, l_3, l_4, l_8, l_9, l_10, l_12, l_13, l_15, l_26, l_32, l_40, l_41, l_42, l_43, l_45, l_46, l_48, l_49, l_50, l_51, l_59, l_60, l_61, l_62, l_63, l_65, l_90, l_91, l_93, l_94, l_96, l_97, l_100, l_122, l_123, l_124, l_125, l_126, l_161, l_1000, l_67108863, q_nb0, q_nb1, q_ni, q_fi, q_fb0, q_fb1, H.1, HR.1]
  have e : nI (x 1) - nI 1 = nI (x 1) + -nI 1 := Int32.sub_eq_add_neg _ _
  rw [e]
  exact p_before_loop H HR hr hs hp hl (x 1) pl none (Nat.le_refl _) (Nat.le_refl _)
end MT
