/-- the segments of a rule, first and behind the last element -/
def rG (A : Nat → Nat → Int32) (x : Nat → Nat) (sg : List (Nat × Nat)) : Prop := x 4 = sg.length ∧ ∀ (i : Nat) (g : Nat × Nat), i < 3 → sg[i]? = some g → A 3 i = nI g.1 ∧ A 4 i = nI g.2
theorem rG_push {A A' : Nat → Nat → Int32} {x x' : Nat → Nat} {sg : List (Nat × Nat)} {p q : Nat} (h : rG A x sg) (h0 : x' 4 = x 4 + 1) (hk : ∀ i, i < 3 → i ≠ x 4 → A' 3 i = A 3 i ∧ A' 4 i = A 4 i) (hn : x 4 < 3 → A' 3 (x 4) = nI p ∧ A' 4 (x 4) = nI q) : rG A' x' (sg ++ [(p, q)]) := by
  obtain ⟨r0, r⟩ := h
  refine ⟨by rw [h0, r0]; simp, fun i e hi he => ?_⟩
  by_cases hl : i < sg.length
  · rw [List.getElem?_append_left hl] at he
    obtain ⟨k0, k1⟩ := hk i hi (by omega)
    rw [k0, k1]
    exact r i e hi he
  · rw [List.getElem?_append_right (by omega)] at he
    have hz : i - sg.length < 1 := (List.getElem?_eq_some_iff.mp he).1
    have hi2 : i = x 4 := by omega
    rw [show i - sg.length = 0 by omega] at he
    cases he
    subst hi2
    exact hn hi
theorem p_addSegment {h : kv_H} {b p : Nat} {A : Nat → Nat → Int32} {x : Nat → Nat} {sg : List (Nat × Nat)} (H : vR h b A x) (hG : rG A x sg) (hl : sg.length < 1000) : wm mX1_addSegment [.ref b, .int (nI p)] h (fun v h' => v = none ∧ ∃ A' x', vR h' b A' x' ∧ rG A' x' (sg ++ [(p, x 0)]) ∧ kv_fr (inR b) h h' ∧ (∀ k, k ≠ 3 → k ≠ 4 → A' k = A k) ∧ ∀ k, k ≠ 4 → x' k = x k) := by
  refine iX1_addSegment rfl rfl ?_
  have r0 := hG.1
  have hx : x 4 < 2147483648 := by omega
  have last : ∀ (h2 : kv_H) (A2 : Nat → Nat → Int32) (L : List (Option Value)), L[0]? = some (some (.ref b)) → vR h2 b A2 x → kv_fr (inR b) h h2 → (∀ k, k ≠ 3 → k ≠ 4 → A2 k = A k) → rG A2 (va_up x 4 (x 4 + 1)) (sg ++ [(p, x 0)]) → wp fX1_addSegment_31 L [] h2 (fun v h' => v = none ∧ ∃ A' x', vR h' b A' x' ∧ rG A' x' (sg ++ [(p, x 0)]) ∧ kv_fr (inR b) h h' ∧ (∀ k, k ≠ 3 → k ≠ 4 → A' k = A k) ∧ ∀ k, k ≠ 4 → x' k = x k) := by
    intro h2 A2 L hL H2 hf2 hA2 hE2
    simp only [fX1_addSegment_31, w_const, w_iload, w_aload, w_iinc, w_istore, w_astore, w_iadd, w_isub, w_imul, w_iand, w_ior, w_ixor, w_ishl, w_ishr, w_ineg, w_i2c, w_dup, w_pop, w_dup_x1, w_dup_x2, w_dup2, w_ifeq, w_ifne, w_iflt, w_ifge, w_ifgt, w_ifle, w_iceq, w_icne, w_iclt, w_icge, w_icgt, w_icle, w_ret, w_iret, w_aret, w_max, w_sld, w_slen, w_new, w_newa, w_newq, w_obj, w_getf, w_putf, w_iald, w_iast, w_alen, w_aald, w_aast, w_copy, List.getElem?_cons_zero, List.getElem?_cons_succ, List.set_cons_zero, List.set_cons_succ, List.length_cons, List.length_nil, List.cons_append, List.nil_append, Option.some.injEq, exists_eq_left', true_and, and_true, Option.toList, Value.category, l_0, l_1, l_2, l_3, l_4, l_8, l_9, l_10, l_12, l_13, l_15, l_26, l_32, l_40, l_41, l_42, l_43, l_45, l_46, l_48, l_49, l_50, l_51, l_59, l_60, l_61, l_62, l_63, l_65, l_90, l_91, l_93, l_94, l_96, l_97, l_100, l_122, l_123, l_124, l_125, l_126, l_161, l_1000, l_67108863, q_nb0, q_nb1, q_ni, q_fi, q_fb0, q_fb1, hL, H2.1, q_add]
    exact ⟨by decide, A2, va_up x 4 (x 4 + 1), vR_obj (x' := va_up x 4 (x 4 + 1)) H2, hE2, hf2.p ⟨by omega, by omega⟩, hA2, fun k k4 => va_up_ne _ _ k4⟩
  by_cases e : x 4 < 3
  · have e' : ¬ 3 ≤ x 4 := by omega
    simp only [fX1_addSegment_0, fX1_addSegment_8, w_const, w_iload, w_aload, w_iinc, w_istore, w_astore, w_iadd, w_isub, w_imul, w_iand, w_ior, w_ixor, w_ishl, w_ishr, w_ineg, w_i2c, w_dup, w_pop, w_dup_x1, w_dup_x2, w_dup2, w_ifeq, w_ifne, w_iflt, w_ifge, w_ifgt, w_ifle, w_iceq, w_icne, w_iclt, w_icge, w_icgt, w_icle, w_ret, w_iret, w_aret, w_max, w_sld, w_slen, w_new, w_newa, w_newq, w_obj, w_getf, w_putf, w_iald, w_iast, w_alen, w_aald, w_aast, w_copy, List.getElem?_cons_zero, List.getElem?_cons_succ, List.set_cons_zero, List.set_cons_succ, List.length_cons, List.length_nil, List.cons_append, List.nil_append, Option.some.injEq, exists_eq_left', true_and, and_true, Option.toList, Value.category, l_0, l_1, l_2, l_3, l_4, l_8, l_9, l_10, l_12, l_13, l_15, l_26, l_32, l_40, l_41, l_42, l_43, l_45, l_46, l_48, l_49, l_50, l_51, l_59, l_60, l_61, l_62, l_63, l_65, l_90, l_91, l_93, l_94, l_96, l_97, l_100, l_122, l_123, l_124, l_125, l_126, l_161, l_1000, l_67108863, q_nb0, q_nb1, q_ni, q_fi, q_fb0, q_fb1, H.1, H.2.2.2.2.1, q_le (show 3 < 2147483648 by decide) hx, e', if_false, q_le (show 0 < 2147483648 by decide) hx, q_clamp hx, Nat.zero_le, e]
    have H2 := vR_a3 (f := upd (A 3) (x 4) (nI p)) H
    have hf2 : kv_fr (inR b) h (kv_p h (b + 4) (.inl (0, 3, .inl (upd (A 3) (x 4) (nI p))))) := kv_fr.rf.p ⟨by omega, by omega⟩
    generalize kv_p h (b + 4) (.inl (0, 3, .inl (upd (A 3) (x 4) (nI p)))) = h2 at H2 hf2 ⊢
    simp only [w_const, w_iload, w_aload, w_iinc, w_istore, w_astore, w_iadd, w_isub, w_imul, w_iand, w_ior, w_ixor, w_ishl, w_ishr, w_ineg, w_i2c, w_dup, w_pop, w_dup_x1, w_dup_x2, w_dup2, w_ifeq, w_ifne, w_iflt, w_ifge, w_ifgt, w_ifle, w_iceq, w_icne, w_iclt, w_icge, w_icgt, w_icle, w_ret, w_iret, w_aret, w_max, w_sld, w_slen, w_new, w_newa, w_newq, w_obj, w_getf, w_putf, w_iald, w_iast, w_alen, w_aald, w_aast, w_copy, List.getElem?_cons_zero, List.getElem?_cons_succ, List.set_cons_zero, List.set_cons_succ, List.length_cons, List.length_nil, List.cons_append, List.nil_append, Option.some.injEq, exists_eq_left', true_and, and_true, Option.toList, Value.category, l_0, l_1, l_2, l_3, l_4, l_8, l_9, l_10, l_12, l_13, l_15, l_26, l_32, l_40, l_41, l_42, l_43, l_45, l_46, l_48, l_49, l_50, l_51, l_59, l_60, l_61, l_62, l_63, l_65, l_90, l_91, l_93, l_94, l_96, l_97, l_100, l_122, l_123, l_124, l_125, l_126, l_161, l_1000, l_67108863, q_nb0, q_nb1, q_ni, q_fi, q_fb0, q_fb1, H2.1, H2.2.2.2.2.2.1, q_le (show 0 < 2147483648 by decide) hx, q_clamp hx, Nat.zero_le, e]
    have H3 := vR_a4 (f := upd (A 4) (x 4) (nI (x 0))) H2
    refine last _ _ _ rfl H3 (hf2.p ⟨by omega, by omega⟩) (fun k k3 k4 => ?_) (rG_push hG ?_ (fun i hi hne => ⟨?_, ?_⟩) (fun _ => ⟨?_, ?_⟩))
    · rw [va_up_ne _ _ k4, va_up_ne _ _ k3]
    · rw [va_up_self]
    · show upd (A 3) (x 4) (nI p) i = A 3 i
      simp [upd, hne]
    · show upd (A 4) (x 4) (nI (x 0)) i = A 4 i
      simp [upd, hne]
    · show upd (A 3) (x 4) (nI p) (x 4) = nI p
      simp [upd]
    · show upd (A 4) (x 4) (nI (x 0)) (x 4) = nI (x 0)
      simp [upd]
  · have e' : 3 ≤ x 4 := by omega
    simp only [fX1_addSegment_0, w_const, w_iload, w_aload, w_iinc, w_istore, w_astore, w_iadd, w_isub, w_imul, w_iand, w_ior, w_ixor, w_ishl, w_ishr, w_ineg, w_i2c, w_dup, w_pop, w_dup_x1, w_dup_x2, w_dup2, w_ifeq, w_ifne, w_iflt, w_ifge, w_ifgt, w_ifle, w_iceq, w_icne, w_iclt, w_icge, w_icgt, w_icle, w_ret, w_iret, w_aret, w_max, w_sld, w_slen, w_new, w_newa, w_newq, w_obj, w_getf, w_putf, w_iald, w_iast, w_alen, w_aald, w_aast, w_copy, List.getElem?_cons_zero, List.getElem?_cons_succ, List.set_cons_zero, List.set_cons_succ, List.length_cons, List.length_nil, List.cons_append, List.nil_append, Option.some.injEq, exists_eq_left', true_and, and_true, Option.toList, Value.category, l_0, l_1, l_2, l_3, l_4, l_8, l_9, l_10, l_12, l_13, l_15, l_26, l_32, l_40, l_41, l_42, l_43, l_45, l_46, l_48, l_49, l_50, l_51, l_59, l_60, l_61, l_62, l_63, l_65, l_90, l_91, l_93, l_94, l_96, l_97, l_100, l_122, l_123, l_124, l_125, l_126, l_161, l_1000, l_67108863, q_nb0, q_nb1, q_ni, q_fi, q_fb0, q_fb1, H.1, q_le (show 3 < 2147483648 by decide) hx, e', if_true]
    refine last h A _ rfl H kv_fr.rf (fun _ _ _ => rfl) (rG_push hG ?_ (fun i hi hne => ⟨rfl, rfl⟩) (fun hh => by omega))
    rw [va_up_self]
/-- the pieces of a replacement -/
def gdg (m c : Nat) : Nat := if sml c = true then m else max m (c - 48)
def rP (A : Nat → Nat → Int32) (x : Nat → Nat) (ps : List Nat) : Prop := x 5 = ps.length ∧ x 6 = ps.foldl gdg 0 ∧ ∀ (i c : Nat), i < 12 → ps[i]? = some c → A 5 i = nI c
theorem rP_push {A A' : Nat → Nat → Int32} {x x' : Nat → Nat} {ps : List Nat} {c : Nat} (h : rP A x ps) (h0 : x' 5 = x 5 + 1) (h6 : x' 6 = gdg (x 6) c) (hk : ∀ i, i < 12 → i ≠ x 5 → A' 5 i = A 5 i) (hn : x 5 < 12 → A' 5 (x 5) = nI c) : rP A' x' (ps ++ [c]) := by
  obtain ⟨r0, r6, r⟩ := h
  refine ⟨by rw [h0, r0]; simp, by rw [h6, r6]; simp [List.foldl_append], fun i e hi he => ?_⟩
  by_cases hl : i < ps.length
  · rw [List.getElem?_append_left hl] at he
    rw [hk i hi (by omega)]
    exact r i e hi he
  · rw [List.getElem?_append_right (by omega)] at he
    have hz : i - ps.length < 1 := (List.getElem?_eq_some_iff.mp he).1
    have hi2 : i = x 5 := by omega
    rw [show i - ps.length = 0 by omega] at he
    cases he
    subst hi2
    exact hn hi
theorem p_addPiece {h : kv_H} {b c : Nat} {A : Nat → Nat → Int32} {x : Nat → Nat} {ps : List Nat} (H : vR h b A x) (hP : rP A x ps) (hl : ps.length < 1000) (hc : 48 ≤ c) (hc2 : c < 128) (hg : x 6 < 128) : wm mX1_addPiece [.ref b, .int (nI c)] h (fun v h' => v = none ∧ ∃ A' x', vR h' b A' x' ∧ rP A' x' (ps ++ [c]) ∧ kv_fr (inR b) h h' ∧ (∀ k, k ≠ 5 → A' k = A k) ∧ ∀ k, k ≠ 5 → k ≠ 6 → x' k = x k) := by
  refine iX1_addPiece rfl rfl ?_
  have r0 := hP.1
  have hx : x 5 < 2147483648 := by omega
  have last : ∀ (h2 : kv_H) (A2 : Nat → Nat → Int32), vR h2 b A2 x → kv_fr (inR b) h h2 → (∀ k, k ≠ 5 → A2 k = A k) → rP A2 (va_up (va_up x 5 (x 5 + 1)) 6 (gdg (x 6) c)) (ps ++ [c]) → wp fX1_addPiece_19 [some (.ref b), some (.int (nI c))] [] h2 (fun v h' => v = none ∧ ∃ A' x', vR h' b A' x' ∧ rP A' x' (ps ++ [c]) ∧ kv_fr (inR b) h h' ∧ (∀ k, k ≠ 5 → A' k = A k) ∧ ∀ k, k ≠ 5 → k ≠ 6 → x' k = x k) := by
    intro h2 A2 H2 hf2 hA2 hP2
    simp only [fX1_addPiece_19, w_const, w_iload, w_aload, w_iinc, w_istore, w_astore, w_iadd, w_isub, w_imul, w_iand, w_ior, w_ixor, w_ishl, w_ishr, w_ineg, w_i2c, w_dup, w_pop, w_dup_x1, w_dup_x2, w_dup2, w_ifeq, w_ifne, w_iflt, w_ifge, w_ifgt, w_ifle, w_iceq, w_icne, w_iclt, w_icge, w_icgt, w_icle, w_ret, w_iret, w_aret, w_max, w_sld, w_slen, w_new, w_newa, w_newq, w_obj, w_getf, w_putf, w_iald, w_iast, w_alen, w_aald, w_aast, w_copy, List.getElem?_cons_zero, List.getElem?_cons_succ, List.set_cons_zero, List.set_cons_succ, List.length_cons, List.length_nil, List.cons_append, List.nil_append, Option.some.injEq, exists_eq_left', true_and, and_true, Option.toList, Value.category, l_0, l_1, l_2, l_3, l_4, l_8, l_9, l_10, l_12, l_13, l_15, l_26, l_32, l_40, l_41, l_42, l_43, l_45, l_46, l_48, l_49, l_50, l_51, l_59, l_60, l_61, l_62, l_63, l_65, l_90, l_91, l_93, l_94, l_96, l_97, l_100, l_122, l_123, l_124, l_125, l_126, l_161, l_1000, l_67108863, q_nb0, q_nb1, q_ni, q_fi, q_fb0, q_fb1, H2.1, q_add]
    refine ⟨by decide, ?_⟩
    have H3 : vR _ b A2 (va_up x 5 (x 5 + 1)) := vR_obj (x' := va_up x 5 (x 5 + 1)) H2
    have hf3 : kv_fr (inR b) h (kv_p h2 b (ob b (va_up x 5 (x 5 + 1)))) := hf2.p ⟨by omega, by omega⟩
    refine w_callS1 (r := []) (p_sml (by omega) _) (by decide) ?_
    rintro v1 h3 ⟨rfl, rfl⟩
    simp only [w_const, w_iload, w_aload, w_iinc, w_istore, w_astore, w_iadd, w_isub, w_imul, w_iand, w_ior, w_ixor, w_ishl, w_ishr, w_ineg, w_i2c, w_dup, w_pop, w_dup_x1, w_dup_x2, w_dup2, w_ifeq, w_ifne, w_iflt, w_ifge, w_ifgt, w_ifle, w_iceq, w_icne, w_iclt, w_icge, w_icgt, w_icle, w_ret, w_iret, w_aret, w_max, w_sld, w_slen, w_new, w_newa, w_newq, w_obj, w_getf, w_putf, w_iald, w_iast, w_alen, w_aald, w_aast, w_copy, List.getElem?_cons_zero, List.getElem?_cons_succ, List.set_cons_zero, List.set_cons_succ, List.length_cons, List.length_nil, List.cons_append, List.nil_append, Option.some.injEq, exists_eq_left', true_and, and_true, Option.toList, Value.category, l_0, l_1, l_2, l_3, l_4, l_8, l_9, l_10, l_12, l_13, l_15, l_26, l_32, l_40, l_41, l_42, l_43, l_45, l_46, l_48, l_49, l_50, l_51, l_59, l_60, l_61, l_62, l_63, l_65, l_90, l_91, l_93, l_94, l_96, l_97, l_100, l_122, l_123, l_124, l_125, l_126, l_161, l_1000, l_67108863, q_nb0, q_nb1, q_ni, q_fi, q_fb0, q_fb1, q_b]
    by_cases e1 : sml c = true
    · simp only [e1, Bool.true_eq_false, not_false_eq_true, if_true]
      simp only [fX1_addPiece_51, w_const, w_iload, w_aload, w_iinc, w_istore, w_astore, w_iadd, w_isub, w_imul, w_iand, w_ior, w_ixor, w_ishl, w_ishr, w_ineg, w_i2c, w_dup, w_pop, w_dup_x1, w_dup_x2, w_dup2, w_ifeq, w_ifne, w_iflt, w_ifge, w_ifgt, w_ifle, w_iceq, w_icne, w_iclt, w_icge, w_icgt, w_icle, w_ret, w_iret, w_aret, w_max, w_sld, w_slen, w_new, w_newa, w_newq, w_obj, w_getf, w_putf, w_iald, w_iast, w_alen, w_aald, w_aast, w_copy, List.getElem?_cons_zero, List.getElem?_cons_succ, List.set_cons_zero, List.set_cons_succ, List.length_cons, List.length_nil, List.cons_append, List.nil_append, Option.some.injEq, exists_eq_left', true_and, and_true, Option.toList, Value.category, l_0, l_1, l_2, l_3, l_4, l_8, l_9, l_10, l_12, l_13, l_15, l_26, l_32, l_40, l_41, l_42, l_43, l_45, l_46, l_48, l_49, l_50, l_51, l_59, l_60, l_61, l_62, l_63, l_65, l_90, l_91, l_93, l_94, l_96, l_97, l_100, l_122, l_123, l_124, l_125, l_126, l_161, l_1000, l_67108863, q_nb0, q_nb1, q_ni, q_fi, q_fb0, q_fb1]
      have e2 : gdg (x 6) c = x 6 := by simp [gdg, e1]
      have e3 : va_up (va_up x 5 (x 5 + 1)) 6 (gdg (x 6) c) = va_up x 5 (x 5 + 1) := by
        funext k
        rw [e2]
        by_cases k6 : k = 6
        · subst k6
          rfl
        · rw [va_up_ne _ _ k6]
      rw [e3] at hP2
      exact ⟨A2, va_up x 5 (x 5 + 1), H3, hP2, hf3, hA2, fun k k5 _ => va_up_ne _ _ k5⟩
    · have e1' : sml c = false := by simpa using e1
      simp only [e1', not_true, if_false]
      have G2 : ∀ e, kv_g (kv_p h2 b e) b = some e := fun e => kv_gp_self H2.1
      have hm : (if nI (x 6) < nI (c - 48) then nI (c - 48) else nI (x 6)) = nI (gdg (x 6) c) := by
        simp only [q_lt (show x 6 < 2147483648 by omega) (show c - 48 < 2147483648 by omega)]
        unfold gdg
        simp only [e1', Bool.false_eq_true, if_false]
        by_cases q : x 6 < c - 48
        · rw [if_pos q, Nat.max_eq_right (by omega)]
        · rw [if_neg q, Nat.max_eq_left (by omega)]
      simp only [fX1_addPiece_36, fX1_addPiece_51, w_const, w_iload, w_aload, w_iinc, w_istore, w_astore, w_iadd, w_isub, w_imul, w_iand, w_ior, w_ixor, w_ishl, w_ishr, w_ineg, w_i2c, w_dup, w_pop, w_dup_x1, w_dup_x2, w_dup2, w_ifeq, w_ifne, w_iflt, w_ifge, w_ifgt, w_ifle, w_iceq, w_icne, w_iclt, w_icge, w_icgt, w_icle, w_ret, w_iret, w_aret, w_max, w_sld, w_slen, w_new, w_newa, w_newq, w_obj, w_getf, w_putf, w_iald, w_iast, w_alen, w_aald, w_aast, w_copy, List.getElem?_cons_zero, List.getElem?_cons_succ, List.set_cons_zero, List.set_cons_succ, List.length_cons, List.length_nil, List.cons_append, List.nil_append, Option.some.injEq, exists_eq_left', true_and, and_true, Option.toList, Value.category, l_0, l_1, l_2, l_3, l_4, l_8, l_9, l_10, l_12, l_13, l_15, l_26, l_32, l_40, l_41, l_42, l_43, l_45, l_46, l_48, l_49, l_50, l_51, l_59, l_60, l_61, l_62, l_63, l_65, l_90, l_91, l_93, l_94, l_96, l_97, l_100, l_122, l_123, l_124, l_125, l_126, l_161, l_1000, l_67108863, q_nb0, q_nb1, q_ni, q_fi, q_fb0, q_fb1, G2, kv_pp, q_sub hc, hm]
      refine ⟨Nat.le_of_ble_eq_true rfl, by decide, A2, _, vR_obj (x' := va_up (va_up x 5 (x 5 + 1)) 6 (gdg (x 6) c)) H2, hP2, hf2.p ⟨by omega, by omega⟩, hA2, fun k k5 k6 => ?_⟩
      rw [va_up_ne _ _ k6, va_up_ne _ _ k5]
  by_cases e : x 5 < 12
  · have e' : ¬ 12 ≤ x 5 := by omega
    simp only [fX1_addPiece_0, fX1_addPiece_9, w_const, w_iload, w_aload, w_iinc, w_istore, w_astore, w_iadd, w_isub, w_imul, w_iand, w_ior, w_ixor, w_ishl, w_ishr, w_ineg, w_i2c, w_dup, w_pop, w_dup_x1, w_dup_x2, w_dup2, w_ifeq, w_ifne, w_iflt, w_ifge, w_ifgt, w_ifle, w_iceq, w_icne, w_iclt, w_icge, w_icgt, w_icle, w_ret, w_iret, w_aret, w_max, w_sld, w_slen, w_new, w_newa, w_newq, w_obj, w_getf, w_putf, w_iald, w_iast, w_alen, w_aald, w_aast, w_copy, List.getElem?_cons_zero, List.getElem?_cons_succ, List.set_cons_zero, List.set_cons_succ, List.length_cons, List.length_nil, List.cons_append, List.nil_append, Option.some.injEq, exists_eq_left', true_and, and_true, Option.toList, Value.category, l_0, l_1, l_2, l_3, l_4, l_8, l_9, l_10, l_12, l_13, l_15, l_26, l_32, l_40, l_41, l_42, l_43, l_45, l_46, l_48, l_49, l_50, l_51, l_59, l_60, l_61, l_62, l_63, l_65, l_90, l_91, l_93, l_94, l_96, l_97, l_100, l_122, l_123, l_124, l_125, l_126, l_161, l_1000, l_67108863, q_nb0, q_nb1, q_ni, q_fi, q_fb0, q_fb1, H.1, H.2.2.2.2.2.2, q_le (show 12 < 2147483648 by decide) hx, e', if_false, q_le (show 0 < 2147483648 by decide) hx, q_clamp hx, Nat.zero_le, e, q_nar (show c < 65536 by omega)]
    refine last _ _ (vR_a5 (f := upd (A 5) (x 5) (nI c)) H) (kv_fr.rf.p ⟨by omega, by omega⟩) (fun k k5 => va_up_ne _ _ k5) (rP_push hP rfl rfl (fun i hi hne => ?_) (fun _ => ?_))
    · show upd (A 5) (x 5) (nI c) i = A 5 i
      simp [upd, hne]
    · show upd (A 5) (x 5) (nI c) (x 5) = nI c
      simp [upd]
  · have e' : 12 ≤ x 5 := by omega
    simp only [fX1_addPiece_0, w_const, w_iload, w_aload, w_iinc, w_istore, w_astore, w_iadd, w_isub, w_imul, w_iand, w_ior, w_ixor, w_ishl, w_ishr, w_ineg, w_i2c, w_dup, w_pop, w_dup_x1, w_dup_x2, w_dup2, w_ifeq, w_ifne, w_iflt, w_ifge, w_ifgt, w_ifle, w_iceq, w_icne, w_iclt, w_icge, w_icgt, w_icle, w_ret, w_iret, w_aret, w_max, w_sld, w_slen, w_new, w_newa, w_newq, w_obj, w_getf, w_putf, w_iald, w_iast, w_alen, w_aald, w_aast, w_copy, List.getElem?_cons_zero, List.getElem?_cons_succ, List.set_cons_zero, List.set_cons_succ, List.length_cons, List.length_nil, List.cons_append, List.nil_append, Option.some.injEq, exists_eq_left', true_and, and_true, Option.toList, Value.category, l_0, l_1, l_2, l_3, l_4, l_8, l_9, l_10, l_12, l_13, l_15, l_26, l_32, l_40, l_41, l_42, l_43, l_45, l_46, l_48, l_49, l_50, l_51, l_59, l_60, l_61, l_62, l_63, l_65, l_90, l_91, l_93, l_94, l_96, l_97, l_100, l_122, l_123, l_124, l_125, l_126, l_161, l_1000, l_67108863, q_nb0, q_nb1, q_ni, q_fi, q_fb0, q_fb1, H.1, q_le (show 12 < 2147483648 by decide) hx, e', if_true]
    exact last h A H kv_fr.rf (fun _ _ => rfl) (rP_push hP rfl rfl (fun i hi hne => rfl) (fun hh => by omega))
theorem p_tooLarge {h : kv_H} {b : Nat} {A : Nat → Nat → Int32} {x : Nat → Nat} (H : vR h b A x) (h0 : x 0 < 1000) (h4 : x 4 < 1000) (h5 : x 5 < 1000) : wm mX1_isTooLarge [.ref b] h (fun v h' => v = some (.int (nI (decide (12 < x 0 ∨ 3 < x 4 ∨ 12 < x 5)).toNat)) ∧ h' = h) := by
  refine iX1_isTooLarge rfl ?_
  have g0 := q_lt (show 12 < 2147483648 by decide) (show x 0 < 2147483648 by omega)
  have g4 := q_lt (show 3 < 2147483648 by decide) (show x 4 < 2147483648 by omega)
  have g5 := q_le (show x 5 < 2147483648 by omega) (show 12 < 2147483648 by decide)
  by_cases e0 : 12 < x 0
  · simp only [fX1_isTooLarge_0, fX1_isTooLarge_26, fX1_isTooLarge_31, w_const, w_iload, w_aload, w_iinc, w_istore, w_astore, w_iadd, w_isub, w_imul, w_iand, w_ior, w_ixor, w_ishl, w_ishr, w_ineg, w_i2c, w_dup, w_pop, w_dup_x1, w_dup_x2, w_dup2, w_ifeq, w_ifne, w_iflt, w_ifge, w_ifgt, w_ifle, w_iceq, w_icne, w_iclt, w_icge, w_icgt, w_icle, w_ret, w_iret, w_aret, w_max, w_sld, w_slen, w_new, w_newa, w_newq, w_obj, w_getf, w_putf, w_iald, w_iast, w_alen, w_aald, w_aast, w_copy, List.getElem?_cons_zero, List.getElem?_cons_succ, List.set_cons_zero, List.set_cons_succ, List.length_cons, List.length_nil, List.cons_append, List.nil_append, Option.some.injEq, exists_eq_left', true_and, and_true, Option.toList, Value.category, l_0, l_1, l_2, l_3, l_4, l_8, l_9, l_10, l_12, l_13, l_15, l_26, l_32, l_40, l_41, l_42, l_43, l_45, l_46, l_48, l_49, l_50, l_51, l_59, l_60, l_61, l_62, l_63, l_65, l_90, l_91, l_93, l_94, l_96, l_97, l_100, l_122, l_123, l_124, l_125, l_126, l_161, l_1000, l_67108863, q_nb0, q_nb1, q_ni, q_fi, q_fb0, q_fb1, H.1, g0, e0, if_true]
    simp [e0]
  · by_cases e4 : 3 < x 4
    · simp only [fX1_isTooLarge_0, fX1_isTooLarge_9, fX1_isTooLarge_26, fX1_isTooLarge_31, w_const, w_iload, w_aload, w_iinc, w_istore, w_astore, w_iadd, w_isub, w_imul, w_iand, w_ior, w_ixor, w_ishl, w_ishr, w_ineg, w_i2c, w_dup, w_pop, w_dup_x1, w_dup_x2, w_dup2, w_ifeq, w_ifne, w_iflt, w_ifge, w_ifgt, w_ifle, w_iceq, w_icne, w_iclt, w_icge, w_icgt, w_icle, w_ret, w_iret, w_aret, w_max, w_sld, w_slen, w_new, w_newa, w_newq, w_obj, w_getf, w_putf, w_iald, w_iast, w_alen, w_aald, w_aast, w_copy, List.getElem?_cons_zero, List.getElem?_cons_succ, List.set_cons_zero, List.set_cons_succ, List.length_cons, List.length_nil, List.cons_append, List.nil_append, Option.some.injEq, exists_eq_left', true_and, and_true, Option.toList, Value.category, l_0, l_1, l_2, l_3, l_4, l_8, l_9, l_10, l_12, l_13, l_15, l_26, l_32, l_40, l_41, l_42, l_43, l_45, l_46, l_48, l_49, l_50, l_51, l_59, l_60, l_61, l_62, l_63, l_65, l_90, l_91, l_93, l_94, l_96, l_97, l_100, l_122, l_123, l_124, l_125, l_126, l_161, l_1000, l_67108863, q_nb0, q_nb1, q_ni, q_fi, q_fb0, q_fb1, H.1, g0, g4, e0, e4, if_true, if_false]
      simp [e4]
    · by_cases e5 : x 5 ≤ 12
      · simp only [fX1_isTooLarge_0, fX1_isTooLarge_9, fX1_isTooLarge_17, fX1_isTooLarge_30, fX1_isTooLarge_31, w_const, w_iload, w_aload, w_iinc, w_istore, w_astore, w_iadd, w_isub, w_imul, w_iand, w_ior, w_ixor, w_ishl, w_ishr, w_ineg, w_i2c, w_dup, w_pop, w_dup_x1, w_dup_x2, w_dup2, w_ifeq, w_ifne, w_iflt, w_ifge, w_ifgt, w_ifle, w_iceq, w_icne, w_iclt, w_icge, w_icgt, w_icle, w_ret, w_iret, w_aret, w_max, w_sld, w_slen, w_new, w_newa, w_newq, w_obj, w_getf, w_putf, w_iald, w_iast, w_alen, w_aald, w_aast, w_copy, List.getElem?_cons_zero, List.getElem?_cons_succ, List.set_cons_zero, List.set_cons_succ, List.length_cons, List.length_nil, List.cons_append, List.nil_append, Option.some.injEq, exists_eq_left', true_and, and_true, Option.toList, Value.category, l_0, l_1, l_2, l_3, l_4, l_8, l_9, l_10, l_12, l_13, l_15, l_26, l_32, l_40, l_41, l_42, l_43, l_45, l_46, l_48, l_49, l_50, l_51, l_59, l_60, l_61, l_62, l_63, l_65, l_90, l_91, l_93, l_94, l_96, l_97, l_100, l_122, l_123, l_124, l_125, l_126, l_161, l_1000, l_67108863, q_nb0, q_nb1, q_ni, q_fi, q_fb0, q_fb1, H.1, g0, g4, g5, e0, e4, e5, if_true, if_false]
        simp [e0, e4, show ¬ 12 < x 5 by omega]
      · simp only [fX1_isTooLarge_0, fX1_isTooLarge_9, fX1_isTooLarge_17, fX1_isTooLarge_26, fX1_isTooLarge_31, w_const, w_iload, w_aload, w_iinc, w_istore, w_astore, w_iadd, w_isub, w_imul, w_iand, w_ior, w_ixor, w_ishl, w_ishr, w_ineg, w_i2c, w_dup, w_pop, w_dup_x1, w_dup_x2, w_dup2, w_ifeq, w_ifne, w_iflt, w_ifge, w_ifgt, w_ifle, w_iceq, w_icne, w_iclt, w_icge, w_icgt, w_icle, w_ret, w_iret, w_aret, w_max, w_sld, w_slen, w_new, w_newa, w_newq, w_obj, w_getf, w_putf, w_iald, w_iast, w_alen, w_aald, w_aast, w_copy, List.getElem?_cons_zero, List.getElem?_cons_succ, List.set_cons_zero, List.set_cons_succ, List.length_cons, List.length_nil, List.cons_append, List.nil_append, Option.some.injEq, exists_eq_left', true_and, and_true, Option.toList, Value.category, l_0, l_1, l_2, l_3, l_4, l_8, l_9, l_10, l_12, l_13, l_15, l_26, l_32, l_40, l_41, l_42, l_43, l_45, l_46, l_48, l_49, l_50, l_51, l_59, l_60, l_61, l_62, l_63, l_65, l_90, l_91, l_93, l_94, l_96, l_97, l_100, l_122, l_123, l_124, l_125, l_126, l_161, l_1000, l_67108863, q_nb0, q_nb1, q_ni, q_fi, q_fb0, q_fb1, H.1, g0, g4, g5, e0, e4, e5, if_true, if_false]
        simp [show 12 < x 5 by omega]
