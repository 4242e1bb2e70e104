/-! work's loop, settle, finish: the reference -/
section RWL
variable {t : Nat → Nat} {n : Nat} {mn : Nat → Int32} {rs : List Rl}
theorem r_wk_loop {last : Bool} {ap0 : Nat} {h0 : kv_H} (hl : rs.length ≤ 8) (hw : ∀ r ∈ rs, wfK r) : ∀ (f : Nat) (s : Ws) (h : kv_H) (x3 x4 : Option Value), vQ h t n mn rs s.2.2.1 s.2.2.2.1 s.2.2.2.2 s.1 s.2.1 → okW s → s.2.2.2.2 = 0 → ap0 ≤ s.2.2.1 → 161 ≤ f + (s.2.1 + s.2.2.1) → kv_fr inYw h0 h → wp (kv_lim bX5_work 2) [some (.ref 74), some (.int (nI last.toNat)), some (.int (nI (s.2.2.1 - ap0))), x3, x4] [] h (fun v h' => v = some (.int (nI ((wRun rs last f s).2.2.1 - ap0))) ∧ vQ h' t n mn rs (wRun rs last f s).2.2.1 (wRun rs last f s).2.2.2.1 (wRun rs last f s).2.2.2.2 (wRun rs last f s).1 (wRun rs last f s).2.1 ∧ kv_fr inYw h0 h') := by
  have hwC : ∀ r ∈ rs, wfC r := fun r hr => (hw r hr).1
  intro f
  induction f with
  | zero =>
    intro s h x3 x4 V o hk ha hf _
    obtain ⟨o1, o2, o3, o4, o5⟩ := o
    omega
  | succ f ih =>
    intro s h x3 x4 V o hk ha hfu hf
    have o' := o
    obtain ⟨tx, pl, ap, lat, sk⟩ := s
    obtain ⟨o1, o2, o3, o4, o5⟩ := o
    dsimp only at V o1 o2 o3 o4 o5 hk ha hfu ⊢
    subst hk
    obtain ⟨y, B, H, q0, q1, q2, q5, qR, q6, qT, q7, q8, q9, q10⟩ := id V
    refine tX5_work_2 ?_
    simp only [fX5_work_2, w_const, w_iload, w_aload, w_iinc, w_istore, w_astore, w_iadd, w_isub, w_imul, w_iand, w_ior, w_ixor, w_ishl, w_ishr, w_ineg, w_i2c, w_dup, w_pop, w_dup_x1, w_dup_x2, w_dup2, w_ifeq, w_ifne, w_iflt, w_ifge, w_ifgt, w_ifle, w_iceq, w_icne, w_iclt, w_icge, w_icgt, w_icle, w_ret, w_iret, w_aret, w_max, w_sld, w_slen, w_new, w_newa, w_newq, w_obj, w_getf, w_putf, w_iald, w_iast, w_alen, w_aald, w_aast, w_copy, List.getElem?_cons_zero, List.getElem?_cons_succ, List.set_cons_zero, List.set_cons_succ, List.length_cons, List.length_nil, List.cons_append, List.nil_append, Option.some.injEq, exists_eq_left', true_and, and_true, Option.toList, Value.category, l_0, l_1, l_2, l_3, l_4, l_8, l_9, l_10, l_12, l_13, l_15, l_26, l_32, l_40, l_41, l_42, l_43, l_45, l_46, l_48, l_49, l_50, l_51, l_59, l_60, l_61, l_62, l_63, l_65, l_90, l_91, l_93, l_94, l_96, l_97, l_100, l_122, l_123, l_124, l_125, l_126, l_161, l_1000, l_67108863, q_nb0, q_nb1, q_ni, q_fi, q_fb0, q_fb1, vY_74 H, q6, q7, q_le (show tx.length < 2147483648 by omega) (show pl < 2147483648 by omega)]
    by_cases e : tx.length ≤ pl
    · have er : wRun rs last (f + 1) (tx, pl, ap, lat, 0) = (tx, pl, ap, lat, 0) := by
        unfold wRun
        exact if_neg (by dsimp only; omega)
      rw [if_pos e, er]
      simp only [fX5_work_102, w_const, w_iload, w_aload, w_iinc, w_istore, w_astore, w_iadd, w_isub, w_imul, w_iand, w_ior, w_ixor, w_ishl, w_ishr, w_ineg, w_i2c, w_dup, w_pop, w_dup_x1, w_dup_x2, w_dup2, w_ifeq, w_ifne, w_iflt, w_ifge, w_ifgt, w_ifle, w_iceq, w_icne, w_iclt, w_icge, w_icgt, w_icle, w_ret, w_iret, w_aret, w_max, w_sld, w_slen, w_new, w_newa, w_newq, w_obj, w_getf, w_putf, w_iald, w_iast, w_alen, w_aald, w_aast, w_copy, List.getElem?_cons_zero, List.getElem?_cons_succ, List.set_cons_zero, List.set_cons_succ, List.length_cons, List.length_nil, List.cons_append, List.nil_append, Option.some.injEq, exists_eq_left', true_and, and_true, Option.toList, Value.category, l_0, l_1, l_2, l_3, l_4, l_8, l_9, l_10, l_12, l_13, l_15, l_26, l_32, l_40, l_41, l_42, l_43, l_45, l_46, l_48, l_49, l_50, l_51, l_59, l_60, l_61, l_62, l_63, l_65, l_90, l_91, l_93, l_94, l_96, l_97, l_100, l_122, l_123, l_124, l_125, l_126, l_161, l_1000, l_67108863, q_nb0, q_nb1, q_ni, q_fi, q_fb0, q_fb1]
      exact ⟨V, hf⟩
    rw [if_neg e]
    have elt : pl < tx.length := by omega
    have er : wRun rs last (f + 1) (tx, pl, ap, lat, 0) = if (wStep rs last (tx, pl, ap, lat, 0)).2 = true then wRun rs last f (wStep rs last (tx, pl, ap, lat, 0)).1 else (wStep rs last (tx, pl, ap, lat, 0)).1 := by
      conv => lhs; unfold wRun
      exact if_pos elt
    rw [er]
    have ok := wStep_ok (last := last) hwC o' elt rfl
    simp only [fX5_work_13, fX5_work_20, w_const, w_iload, w_aload, w_iinc, w_istore, w_astore, w_iadd, w_isub, w_imul, w_iand, w_ior, w_ixor, w_ishl, w_ishr, w_ineg, w_i2c, w_dup, w_pop, w_dup_x1, w_dup_x2, w_dup2, w_ifeq, w_ifne, w_iflt, w_ifge, w_ifgt, w_ifle, w_iceq, w_icne, w_iclt, w_icge, w_icgt, w_icle, w_ret, w_iret, w_aret, w_max, w_sld, w_slen, w_new, w_newa, w_newq, w_obj, w_getf, w_putf, w_iald, w_iast, w_alen, w_aald, w_aast, w_copy, List.getElem?_cons_zero, List.getElem?_cons_succ, List.set_cons_zero, List.set_cons_succ, List.length_cons, List.length_nil, List.cons_append, List.nil_append, Option.some.injEq, exists_eq_left', true_and, and_true, Option.toList, Value.category, l_0, l_1, l_2, l_3, l_4, l_8, l_9, l_10, l_12, l_13, l_15, l_26, l_32, l_40, l_41, l_42, l_43, l_45, l_46, l_48, l_49, l_50, l_51, l_59, l_60, l_61, l_62, l_63, l_65, l_90, l_91, l_93, l_94, l_96, l_97, l_100, l_122, l_123, l_124, l_125, l_126, l_161, l_1000, l_67108863, q_nb0, q_nb1, q_ni, q_fi, q_fb0, q_fb1, vY_74 H, q10, not_true, if_false]
    refine r_scan (h0 := h0) (last := last) hl hw o1 o2 o3 ?_ ?_ rs.length 0 h (by omega) V hf (by rw [List.drop_zero])
    · intro h' V' hf' hn
      have es : wStep rs last (tx, pl, ap, lat, 0) = ((tx, pl + 1, ap, lat, 0), true) := by unfold wStep; dsimp only; rw [hn]
      rw [es] at ok ⊢
      obtain ⟨y', B', H', q0', q1', q2', q5', qR', q6', qT', q7', q8', q9', q10'⟩ := id V'
      simp only [fX5_work_62, fX5_work_70, fX5_work_75, w_const, w_iload, w_aload, w_iinc, w_istore, w_astore, w_iadd, w_isub, w_imul, w_iand, w_ior, w_ixor, w_ishl, w_ishr, w_ineg, w_i2c, w_dup, w_pop, w_dup_x1, w_dup_x2, w_dup2, w_ifeq, w_ifne, w_iflt, w_ifge, w_ifgt, w_ifle, w_iceq, w_icne, w_iclt, w_icge, w_icgt, w_icle, w_ret, w_iret, w_aret, w_max, w_sld, w_slen, w_new, w_newa, w_newq, w_obj, w_getf, w_putf, w_iald, w_iast, w_alen, w_aald, w_aast, w_copy, List.getElem?_cons_zero, List.getElem?_cons_succ, List.set_cons_zero, List.set_cons_succ, List.length_cons, List.length_nil, List.cons_append, List.nil_append, Option.some.injEq, exists_eq_left', true_and, and_true, Option.toList, Value.category, l_0, l_1, l_2, l_3, l_4, l_8, l_9, l_10, l_12, l_13, l_15, l_26, l_32, l_40, l_41, l_42, l_43, l_45, l_46, l_48, l_49, l_50, l_51, l_59, l_60, l_61, l_62, l_63, l_65, l_90, l_91, l_93, l_94, l_96, l_97, l_100, l_122, l_123, l_124, l_125, l_126, l_161, l_1000, l_67108863, q_nb0, q_nb1, q_ni, q_fi, q_fb0, q_fb1, q_eq (show 0 < 2147483648 by decide) (show 2 < 2147483648 by decide), show ¬ (0 : Nat) = 2 by decide, not_false_eq_true, if_true, not_true, if_false, vY_74 H', q7', q_add]
      refine ⟨by decide, ?_⟩
      have H1 : vY (kv_p h' 74 (yo (va_up y' 7 (nI (pl + 1))))) (va_up y' 7 (nI (pl + 1))) B' := vY_o H'
      have f1 : kv_fr inYw h0 (kv_p h' 74 (yo (va_up y' 7 (nI (pl + 1))))) := hf'.p (by unfold inYw; decide)
      have eg1 : kv_p h' 74 (yo (va_up y' 7 (nI (pl + 1)))) = kv_p h' 74 (.inr (5, [.int (y' 0), .ref 75, .ref 76, .int (y' 1), .ref 77, .ref 78, .ref 79, .ref 80, .int (y' 2), .int (y' 3), .int (y' 4), .int (y' 5), .ref 81, .ref 82, .ref 83, .ref 84, .ref 85, .ref 86, .ref 87, .ref 88, .ref 89, .ref 90, .int (y' 6), .ref 91, .ref 92, .int (nI (pl + 1)), .int (y' 8), .int (y' 9), .int (y' 10), .int (y' 11), .ref 93, .ref 94])) := rfl
      rw [← eg1]
      have u1 : va_up y' 7 (nI (pl + 1)) 7 = nI (pl + 1) := rfl
      have v1 : ∀ k, k ≠ 7 → va_up y' 7 (nI (pl + 1)) k = y' k := fun k hk => va_up_ne _ _ hk
      generalize kv_p h' 74 (yo (va_up y' 7 (nI (pl + 1)))) = k1 at H1 f1 ⊢
      generalize va_up y' 7 (nI (pl + 1)) = y1 at H1 u1 v1
      simp only [fX5_work_99]
      exact ih (tx, pl + 1, ap, lat, 0) k1 _ _ ⟨y1, B', H1, (v1 0 (by decide)).trans q0', q1', q2', (v1 5 (by decide)).trans q5', qR', (v1 6 (by decide)).trans q6', qT', u1, (v1 8 (by decide)).trans q8', (v1 9 (by decide)).trans q9', (v1 10 (by decide)).trans q10'⟩ ok.1 rfl ha (by dsimp only; omega) f1
    · intro h' i r c hr hsc hc V' hf' hA
      have le2 : c ≤ 2 := by rw [hc]; exact cMt_le o2
      obtain ⟨-, r', hr', -, hc0⟩ := cSc_some _ _ _ _ hsc
      obtain ⟨y', B', H', q0', q1', q2', q5', -⟩ := id V'
      simp only [fX5_work_62, w_const, w_iload, w_aload, w_iinc, w_istore, w_astore, w_iadd, w_isub, w_imul, w_iand, w_ior, w_ixor, w_ishl, w_ishr, w_ineg, w_i2c, w_dup, w_pop, w_dup_x1, w_dup_x2, w_dup2, w_ifeq, w_ifne, w_iflt, w_ifge, w_ifgt, w_ifle, w_iceq, w_icne, w_iclt, w_icge, w_icgt, w_icle, w_ret, w_iret, w_aret, w_max, w_sld, w_slen, w_new, w_newa, w_newq, w_obj, w_getf, w_putf, w_iald, w_iast, w_alen, w_aald, w_aast, w_copy, List.getElem?_cons_zero, List.getElem?_cons_succ, List.set_cons_zero, List.set_cons_succ, List.length_cons, List.length_nil, List.cons_append, List.nil_append, Option.some.injEq, exists_eq_left', true_and, and_true, Option.toList, Value.category, l_0, l_1, l_2, l_3, l_4, l_8, l_9, l_10, l_12, l_13, l_15, l_26, l_32, l_40, l_41, l_42, l_43, l_45, l_46, l_48, l_49, l_50, l_51, l_59, l_60, l_61, l_62, l_63, l_65, l_90, l_91, l_93, l_94, l_96, l_97, l_100, l_122, l_123, l_124, l_125, l_126, l_161, l_1000, l_67108863, q_nb0, q_nb1, q_ni, q_fi, q_fb0, q_fb1, q_eq (show c < 2147483648 by omega) (show 2 < 2147483648 by decide)]
      by_cases e2 : c = 2
      · have es : wStep rs last (tx, pl, ap, lat, 0) = ((tx, pl, ap, lat, 0), false) := by
          unfold wStep
          dsimp only
          rw [hsc]
          dsimp only
          rw [if_pos e2]
        simp only [e2, not_true, if_false, fX5_work_68, w_const, w_iload, w_aload, w_iinc, w_istore, w_astore, w_iadd, w_isub, w_imul, w_iand, w_ior, w_ixor, w_ishl, w_ishr, w_ineg, w_i2c, w_dup, w_pop, w_dup_x1, w_dup_x2, w_dup2, w_ifeq, w_ifne, w_iflt, w_ifge, w_ifgt, w_ifle, w_iceq, w_icne, w_iclt, w_icge, w_icgt, w_icle, w_ret, w_iret, w_aret, w_max, w_sld, w_slen, w_new, w_newa, w_newq, w_obj, w_getf, w_putf, w_iald, w_iast, w_alen, w_aald, w_aast, w_copy, List.getElem?_cons_zero, List.getElem?_cons_succ, List.set_cons_zero, List.set_cons_succ, List.length_cons, List.length_nil, List.cons_append, List.nil_append, Option.some.injEq, exists_eq_left', true_and, and_true, Option.toList, Value.category, l_0, l_1, l_2, l_3, l_4, l_8, l_9, l_10, l_12, l_13, l_15, l_26, l_32, l_40, l_41, l_42, l_43, l_45, l_46, l_48, l_49, l_50, l_51, l_59, l_60, l_61, l_62, l_63, l_65, l_90, l_91, l_93, l_94, l_96, l_97, l_100, l_122, l_123, l_124, l_125, l_126, l_161, l_1000, l_67108863, q_nb0, q_nb1, q_ni, q_fi, q_fb0, q_fb1, es, Bool.false_eq_true]
        exact ⟨V', hf'⟩
      · have e1 : c = 1 := by omega
        subst e1
        simp only [show ¬ (1 : Nat) = 2 by decide, not_false_eq_true, if_true, fX5_work_70, fX5_work_88, w_const, w_iload, w_aload, w_iinc, w_istore, w_astore, w_iadd, w_isub, w_imul, w_iand, w_ior, w_ixor, w_ishl, w_ishr, w_ineg, w_i2c, w_dup, w_pop, w_dup_x1, w_dup_x2, w_dup2, w_ifeq, w_ifne, w_iflt, w_ifge, w_ifgt, w_ifle, w_iceq, w_icne, w_iclt, w_icge, w_icgt, w_icle, w_ret, w_iret, w_aret, w_max, w_sld, w_slen, w_new, w_newa, w_newq, w_obj, w_getf, w_putf, w_iald, w_iast, w_alen, w_aald, w_aast, w_copy, List.getElem?_cons_zero, List.getElem?_cons_succ, List.set_cons_zero, List.set_cons_succ, List.length_cons, List.length_nil, List.cons_append, List.nil_append, Option.some.injEq, exists_eq_left', true_and, and_true, Option.toList, Value.category, l_0, l_1, l_2, l_3, l_4, l_8, l_9, l_10, l_12, l_13, l_15, l_26, l_32, l_40, l_41, l_42, l_43, l_45, l_46, l_48, l_49, l_50, l_51, l_59, l_60, l_61, l_62, l_63, l_65, l_90, l_91, l_93, l_94, l_96, l_97, l_100, l_122, l_123, l_124, l_125, l_126, l_161, l_1000, l_67108863, q_nb0, q_nb1, q_ni, q_fi, q_fb0, q_fb1, n01]
        obtain ⟨y2, B2, H2, p0, p1, p2, p5, pR, p9, p10, a⟩ := hA rfl
        have hil := (List.getElem?_eq_some_iff.mp hr).1
        have wr := (hw r (List.mem_of_getElem? hr)).1
        refine w_callV1 (r := []) (vY_74 H2) (r_apply H2 a wr (by omega) o1 o2 o4) (by decide) ?_
        rintro v1 h3 ⟨y3, B3, H3, f3, kB, ky, hq⟩
        have hf3 : kv_fr inYw h0 h3 := hf'.tr (f3.mono (fun a q => by unfold inYp at q; unfold inYw; omega))
        have es0 : wStep rs last (tx, pl, ap, lat, 0) = if 100 ≤ ap ∨ 60 < nSz r (gt tx) tx.length pl then ((tx, pl, ap, lat, 1), false) else ((nTx r (gt tx) tx.length pl, nPl r (gt tx) tx.length pl, ap + 1, nI i, 0), true) := by
          unfold wStep
          dsimp only
          rw [hsc]
          dsimp only
          rw [if_neg e2, hr]
        have R3 : ∀ j r, rs[j]? = some r → yR B3 j r := fun j r hr => yR_6 (pR j r hr) (fun k h1 h2 => kB k (by omega) (by omega))
        have z0 := (ky 0 (by decide)).trans p0
        have z5 := (ky 5 (by decide)).trans p5
        have c0 := (kB 0 (by decide) (by decide)).trans p1
        have c1 := (kB 1 (by decide) (by decide)).trans p2
        rcases hq with ⟨c9, rfl, eB, ey⟩ | ⟨c9, rfl, hF, z6, z7, z8, z9, z10⟩
        · rw [if_pos c9] at es0
          simp only [w_const, w_iload, w_aload, w_iinc, w_istore, w_astore, w_iadd, w_isub, w_imul, w_iand, w_ior, w_ixor, w_ishl, w_ishr, w_ineg, w_i2c, w_dup, w_pop, w_dup_x1, w_dup_x2, w_dup2, w_ifeq, w_ifne, w_iflt, w_ifge, w_ifgt, w_ifle, w_iceq, w_icne, w_iclt, w_icge, w_icgt, w_icle, w_ret, w_iret, w_aret, w_max, w_sld, w_slen, w_new, w_newa, w_newq, w_obj, w_getf, w_putf, w_iald, w_iast, w_alen, w_aald, w_aast, w_copy, List.getElem?_cons_zero, List.getElem?_cons_succ, List.set_cons_zero, List.set_cons_succ, List.length_cons, List.length_nil, List.cons_append, List.nil_append, Option.some.injEq, exists_eq_left', true_and, and_true, Option.toList, Value.category, l_0, l_1, l_2, l_3, l_4, l_8, l_9, l_10, l_12, l_13, l_15, l_26, l_32, l_40, l_41, l_42, l_43, l_45, l_46, l_48, l_49, l_50, l_51, l_59, l_60, l_61, l_62, l_63, l_65, l_90, l_91, l_93, l_94, l_96, l_97, l_100, l_122, l_123, l_124, l_125, l_126, l_161, l_1000, l_67108863, q_nb0, q_nb1, q_ni, q_fi, q_fb0, q_fb1, if_true, fX5_work_99, es0, Bool.false_eq_true, if_false]
          refine tX5_work_2 ?_
          subst eB
          subst ey
          have a6 : va_up y2 10 (nI 1) 6 = nI tx.length := a.2.1
          have a7 : va_up y2 10 (nI 1) 7 = nI pl := a.2.2.1
          have a8 : va_up y2 10 (nI 1) 8 = nI ap := a.2.2.2.1
          have a9 : va_up y2 10 (nI 1) 9 = lat := p9
          have a10 : va_up y2 10 (nI 1) 10 = nI 1 := rfl
          simp only [fX5_work_2, fX5_work_13, fX5_work_102, w_const, w_iload, w_aload, w_iinc, w_istore, w_astore, w_iadd, w_isub, w_imul, w_iand, w_ior, w_ixor, w_ishl, w_ishr, w_ineg, w_i2c, w_dup, w_pop, w_dup_x1, w_dup_x2, w_dup2, w_ifeq, w_ifne, w_iflt, w_ifge, w_ifgt, w_ifle, w_iceq, w_icne, w_iclt, w_icge, w_icgt, w_icle, w_ret, w_iret, w_aret, w_max, w_sld, w_slen, w_new, w_newa, w_newq, w_obj, w_getf, w_putf, w_iald, w_iast, w_alen, w_aald, w_aast, w_copy, List.getElem?_cons_zero, List.getElem?_cons_succ, List.set_cons_zero, List.set_cons_succ, List.length_cons, List.length_nil, List.cons_append, List.nil_append, Option.some.injEq, exists_eq_left', true_and, and_true, Option.toList, Value.category, l_0, l_1, l_2, l_3, l_4, l_8, l_9, l_10, l_12, l_13, l_15, l_26, l_32, l_40, l_41, l_42, l_43, l_45, l_46, l_48, l_49, l_50, l_51, l_59, l_60, l_61, l_62, l_63, l_65, l_90, l_91, l_93, l_94, l_96, l_97, l_100, l_122, l_123, l_124, l_125, l_126, l_161, l_1000, l_67108863, q_nb0, q_nb1, q_ni, q_fi, q_fb0, q_fb1, vY_74 H3, a6, a7, a10, q_le (show tx.length < 2147483648 by omega) (show pl < 2147483648 by omega), e, if_false, n01, not_false_eq_true, if_true]
          obtain ⟨yv, Bv, Hv, -, -, -, -, -, -, qTv, -⟩ := id V'
          have eB3 : Bv 16 = B3 16 := by
            have g1 := vY_91 Hv
            have g2 := vY_91 H2
            rw [g1] at g2
            simpa using g2
          exact ⟨⟨_, B3, H3, z0, c0, c1, z5, R3, a6, by rw [← eB3]; exact qTv, a7, a8, a9, a10⟩, hf3⟩
        · rw [if_neg c9] at es0
          rw [es0] at ok ⊢
          have hn : nI (ap + 1 - ap0) = nI (ap - ap0 + 1) := by rw [show ap + 1 - ap0 = ap - ap0 + 1 by omega]
          simp only [w_const, w_iload, w_aload, w_iinc, w_istore, w_astore, w_iadd, w_isub, w_imul, w_iand, w_ior, w_ixor, w_ishl, w_ishr, w_ineg, w_i2c, w_dup, w_pop, w_dup_x1, w_dup_x2, w_dup2, w_ifeq, w_ifne, w_iflt, w_ifge, w_ifgt, w_ifle, w_iceq, w_icne, w_iclt, w_icge, w_icgt, w_icle, w_ret, w_iret, w_aret, w_max, w_sld, w_slen, w_new, w_newa, w_newq, w_obj, w_getf, w_putf, w_iald, w_iast, w_alen, w_aald, w_aast, w_copy, List.getElem?_cons_zero, List.getElem?_cons_succ, List.set_cons_zero, List.set_cons_succ, List.length_cons, List.length_nil, List.cons_append, List.nil_append, Option.some.injEq, exists_eq_left', true_and, and_true, Option.toList, Value.category, l_0, l_1, l_2, l_3, l_4, l_8, l_9, l_10, l_12, l_13, l_15, l_26, l_32, l_40, l_41, l_42, l_43, l_45, l_46, l_48, l_49, l_50, l_51, l_59, l_60, l_61, l_62, l_63, l_65, l_90, l_91, l_93, l_94, l_96, l_97, l_100, l_122, l_123, l_124, l_125, l_126, l_161, l_1000, l_67108863, q_nb0, q_nb1, q_ni, q_fi, q_fb0, q_fb1, n01, if_false, if_true, fX5_work_96, fX5_work_99, q_add, ← hn]
          have nl := nTx_len (r := r) (lt := gt tx) o2
          exact ih (nTx r (gt tx) tx.length pl, nPl r (gt tx) tx.length pl, ap + 1, nI i, 0) h3 _ _ ⟨y3, B3, H3, z0, c0, c1, z5, R3, by rw [nl]; exact z6, hF, z7, z8, z9, z10.trans p10⟩ ok.1 rfl (by dsimp only; omega) (by have := (ok.2.2.1 rfl).2; dsimp only at this ⊢; omega) hf3
theorem r_work {last : Bool} {s : Ws} {h : kv_H} (hl : rs.length ≤ 8) (hw : ∀ r ∈ rs, wfK r) (V : vQ h t n mn rs s.2.2.1 s.2.2.2.1 s.2.2.2.2 s.1 s.2.1) (o : okW s) : wm mX5_work [.ref 74, .int (nI last.toNat)] h (fun v h' => v = some (.int (nI ((wAll rs last s).2.2.1 - s.2.2.1))) ∧ vQ h' t n mn rs (wAll rs last s).2.2.1 (wAll rs last s).2.2.2.1 (wAll rs last s).2.2.2.2 (wAll rs last s).1 (wAll rs last s).2.1 ∧ kv_fr inYw h h') := by
  refine iX5_work rfl rfl ?_
  simp only [fX5_work_0, w_const, w_iload, w_aload, w_iinc, w_istore, w_astore, w_iadd, w_isub, w_imul, w_iand, w_ior, w_ixor, w_ishl, w_ishr, w_ineg, w_i2c, w_dup, w_pop, w_dup_x1, w_dup_x2, w_dup2, w_ifeq, w_ifne, w_iflt, w_ifge, w_ifgt, w_ifle, w_iceq, w_icne, w_iclt, w_icge, w_icgt, w_icle, w_ret, w_iret, w_aret, w_max, w_sld, w_slen, w_new, w_newa, w_newq, w_obj, w_getf, w_putf, w_iald, w_iast, w_alen, w_aald, w_aast, w_copy, List.getElem?_cons_zero, List.getElem?_cons_succ, List.set_cons_zero, List.set_cons_succ, List.length_cons, List.length_nil, List.cons_append, List.nil_append, Option.some.injEq, exists_eq_left', true_and, and_true, Option.toList, Value.category, l_0, l_1, l_2, l_3, l_4, l_8, l_9, l_10, l_12, l_13, l_15, l_26, l_32, l_40, l_41, l_42, l_43, l_45, l_46, l_48, l_49, l_50, l_51, l_59, l_60, l_61, l_62, l_63, l_65, l_90, l_91, l_93, l_94, l_96, l_97, l_100, l_122, l_123, l_124, l_125, l_126, l_161, l_1000, l_67108863, q_nb0, q_nb1, q_ni, q_fi, q_fb0, q_fb1]
  unfold wAll
  by_cases e : s.2.2.2.2 = 0
  · rw [if_pos e]
    have w9 := r_wk_loop (last := last) (ap0 := s.2.2.1) (h0 := h) hl hw 161 s h none none V o e (Nat.le_refl _) (by omega) kv_fr.rf
    rw [Nat.sub_self] at w9
    exact w9
  · rw [if_neg e]
    obtain ⟨y, B, H, q0, q1, q2, q5, qR, q6, qT, q7, q8, q9, q10⟩ := id V
    have o5 := o.2.2.2.2
    have e1 : s.2.2.2.2 = 1 := by omega
    refine tX5_work_2 ?_
    have o1 := o.1
    have o2 := o.2.1
    rw [e1] at q10
    simp only [fX5_work_2, fX5_work_13, fX5_work_102, w_const, w_iload, w_aload, w_iinc, w_istore, w_astore, w_iadd, w_isub, w_imul, w_iand, w_ior, w_ixor, w_ishl, w_ishr, w_ineg, w_i2c, w_dup, w_pop, w_dup_x1, w_dup_x2, w_dup2, w_ifeq, w_ifne, w_iflt, w_ifge, w_ifgt, w_ifle, w_iceq, w_icne, w_iclt, w_icge, w_icgt, w_icle, w_ret, w_iret, w_aret, w_max, w_sld, w_slen, w_new, w_newa, w_newq, w_obj, w_getf, w_putf, w_iald, w_iast, w_alen, w_aald, w_aast, w_copy, List.getElem?_cons_zero, List.getElem?_cons_succ, List.set_cons_zero, List.set_cons_succ, List.length_cons, List.length_nil, List.cons_append, List.nil_append, Option.some.injEq, exists_eq_left', true_and, and_true, Option.toList, Value.category, l_0, l_1, l_2, l_3, l_4, l_8, l_9, l_10, l_12, l_13, l_15, l_26, l_32, l_40, l_41, l_42, l_43, l_45, l_46, l_48, l_49, l_50, l_51, l_59, l_60, l_61, l_62, l_63, l_65, l_90, l_91, l_93, l_94, l_96, l_97, l_100, l_122, l_123, l_124, l_125, l_126, l_161, l_1000, l_67108863, q_nb0, q_nb1, q_ni, q_fi, q_fb0, q_fb1, vY_74 H, q6, q7, q10, q_le (show s.1.length < 2147483648 by omega) (show s.2.1 < 2147483648 by omega), n01, not_false_eq_true, if_true, Nat.sub_self, ite_self]
    exact ⟨V, kv_fr.rf⟩
theorem r_settle {s : Ws} {h : kv_H} (hl : rs.length ≤ 8) (hw : ∀ r ∈ rs, wfK r) (V : vQ h t n mn rs s.2.2.1 s.2.2.2.1 s.2.2.2.2 s.1 s.2.1) (o : okW s) : wm mX5_settle [.ref 74] h (fun v h' => v = some (.int (nI ((wAll rs false s).2.2.1 - s.2.2.1))) ∧ vQ h' t n mn rs (wAll rs false s).2.2.1 (wAll rs false s).2.2.2.1 (wAll rs false s).2.2.2.2 (wAll rs false s).1 (wAll rs false s).2.1 ∧ kv_fr inYw h h') := by
  obtain ⟨y, B, H, -⟩ := id V
  refine iX5_settle rfl ?_
  simp only [fX5_settle_0, w_const, w_iload, w_aload, w_iinc, w_istore, w_astore, w_iadd, w_isub, w_imul, w_iand, w_ior, w_ixor, w_ishl, w_ishr, w_ineg, w_i2c, w_dup, w_pop, w_dup_x1, w_dup_x2, w_dup2, w_ifeq, w_ifne, w_iflt, w_ifge, w_ifgt, w_ifle, w_iceq, w_icne, w_iclt, w_icge, w_icgt, w_icle, w_ret, w_iret, w_aret, w_max, w_sld, w_slen, w_new, w_newa, w_newq, w_obj, w_getf, w_putf, w_iald, w_iast, w_alen, w_aald, w_aast, w_copy, List.getElem?_cons_zero, List.getElem?_cons_succ, List.set_cons_zero, List.set_cons_succ, List.length_cons, List.length_nil, List.cons_append, List.nil_append, Option.some.injEq, exists_eq_left', true_and, and_true, Option.toList, Value.category, l_0, l_1, l_2, l_3, l_4, l_8, l_9, l_10, l_12, l_13, l_15, l_26, l_32, l_40, l_41, l_42, l_43, l_45, l_46, l_48, l_49, l_50, l_51, l_59, l_60, l_61, l_62, l_63, l_65, l_90, l_91, l_93, l_94, l_96, l_97, l_100, l_122, l_123, l_124, l_125, l_126, l_161, l_1000, l_67108863, q_nb0, q_nb1, q_ni, q_fi, q_fb0, q_fb1]
  refine w_callV1 (r := []) (vY_74 H) (r_work (last := false) hl hw V o) (by decide) ?_
  rintro v1 h2 ⟨rfl, q⟩
  simp only [w_const, w_iload, w_aload, w_iinc, w_istore, w_astore, w_iadd, w_isub, w_imul, w_iand, w_ior, w_ixor, w_ishl, w_ishr, w_ineg, w_i2c, w_dup, w_pop, w_dup_x1, w_dup_x2, w_dup2, w_ifeq, w_ifne, w_iflt, w_ifge, w_ifgt, w_ifle, w_iceq, w_icne, w_iclt, w_icge, w_icgt, w_icle, w_ret, w_iret, w_aret, w_max, w_sld, w_slen, w_new, w_newa, w_newq, w_obj, w_getf, w_putf, w_iald, w_iast, w_alen, w_aald, w_aast, w_copy, List.getElem?_cons_zero, List.getElem?_cons_succ, List.set_cons_zero, List.set_cons_succ, List.length_cons, List.length_nil, List.cons_append, List.nil_append, Option.some.injEq, exists_eq_left', true_and, and_true, Option.toList, Value.category, l_0, l_1, l_2, l_3, l_4, l_8, l_9, l_10, l_12, l_13, l_15, l_26, l_32, l_40, l_41, l_42, l_43, l_45, l_46, l_48, l_49, l_50, l_51, l_59, l_60, l_61, l_62, l_63, l_65, l_90, l_91, l_93, l_94, l_96, l_97, l_100, l_122, l_123, l_124, l_125, l_126, l_161, l_1000, l_67108863, q_nb0, q_nb1, q_ni, q_fi, q_fb0, q_fb1]
  exact q
theorem r_finish {s : Ws} {h : kv_H} (hl : rs.length ≤ 8) (hw : ∀ r ∈ rs, wfK r) (V : vQ h t n mn rs s.2.2.1 s.2.2.2.1 s.2.2.2.2 s.1 s.2.1) (o : okW s) : wm mX5_finish [.ref 74] h (fun v h' => v = some (.int (nI ((wAll rs true s).2.2.1 - s.2.2.1))) ∧ vQ h' t n mn rs (wAll rs true s).2.2.1 (wAll rs true s).2.2.2.1 (wAll rs true s).2.2.2.2 (wAll rs true s).1 (wAll rs true s).2.1 ∧ kv_fr inYw h h') := by
  obtain ⟨y, B, H, -⟩ := id V
  refine iX5_finish rfl ?_
  simp only [fX5_finish_0, w_const, w_iload, w_aload, w_iinc, w_istore, w_astore, w_iadd, w_isub, w_imul, w_iand, w_ior, w_ixor, w_ishl, w_ishr, w_ineg, w_i2c, w_dup, w_pop, w_dup_x1, w_dup_x2, w_dup2, w_ifeq, w_ifne, w_iflt, w_ifge, w_ifgt, w_ifle, w_iceq, w_icne, w_iclt, w_icge, w_icgt, w_icle, w_ret, w_iret, w_aret, w_max, w_sld, w_slen, w_new, w_newa, w_newq, w_obj, w_getf, w_putf, w_iald, w_iast, w_alen, w_aald, w_aast, w_copy, List.getElem?_cons_zero, List.getElem?_cons_succ, List.set_cons_zero, List.set_cons_succ, List.length_cons, List.length_nil, List.cons_append, List.nil_append, Option.some.injEq, exists_eq_left', true_and, and_true, Option.toList, Value.category, l_0, l_1, l_2, l_3, l_4, l_8, l_9, l_10, l_12, l_13, l_15, l_26, l_32, l_40, l_41, l_42, l_43, l_45, l_46, l_48, l_49, l_50, l_51, l_59, l_60, l_61, l_62, l_63, l_65, l_90, l_91, l_93, l_94, l_96, l_97, l_100, l_122, l_123, l_124, l_125, l_126, l_161, l_1000, l_67108863, q_nb0, q_nb1, q_ni, q_fi, q_fb0, q_fb1]
  refine w_callV1 (r := []) (vY_74 H) (r_work (last := true) hl hw V o) (by decide) ?_
  rintro v1 h2 ⟨rfl, q⟩
  simp only [w_const, w_iload, w_aload, w_iinc, w_istore, w_astore, w_iadd, w_isub, w_imul, w_iand, w_ior, w_ixor, w_ishl, w_ishr, w_ineg, w_i2c, w_dup, w_pop, w_dup_x1, w_dup_x2, w_dup2, w_ifeq, w_ifne, w_iflt, w_ifge, w_ifgt, w_ifle, w_iceq, w_icne, w_iclt, w_icge, w_icgt, w_icle, w_ret, w_iret, w_aret, w_max, w_sld, w_slen, w_new, w_newa, w_newq, w_obj, w_getf, w_putf, w_iald, w_iast, w_alen, w_aald, w_aast, w_copy, List.getElem?_cons_zero, List.getElem?_cons_succ, List.set_cons_zero, List.set_cons_succ, List.length_cons, List.length_nil, List.cons_append, List.nil_append, Option.some.injEq, exists_eq_left', true_and, and_true, Option.toList, Value.category, l_0, l_1, l_2, l_3, l_4, l_8, l_9, l_10, l_12, l_13, l_15, l_26, l_32, l_40, l_41, l_42, l_43, l_45, l_46, l_48, l_49, l_50, l_51, l_59, l_60, l_61, l_62, l_63, l_65, l_90, l_91, l_93, l_94, l_96, l_97, l_100, l_122, l_123, l_124, l_125, l_126, l_161, l_1000, l_67108863, q_nb0, q_nb1, q_ni, q_fi, q_fb0, q_fb1]
  exact q
end RWL
