/-! enter, whole; the reference -/
section RS
variable {t : Nat → Nat} {y : Nat → Int32}
theorem sGv_len (t : Nat → Nat) : ∀ (f k : Nat) (mk : Option Nat) (ps : List Nat), (sGv t f k mk ps).1.length + cnt t 124 k f = ps.length + f ∧ ∀ x, (sGv t f k mk ps).2 = some x → mk = some x ∨ x ≤ (sGv t f k mk ps).1.length := by
  intro f
  induction f with
  | zero => intro k mk ps; exact ⟨rfl, fun x q => Or.inl q⟩
  | succ f ih =>
    intro k mk ps
    unfold sGv cnt
    by_cases e : t k = 124
    · simp only [e, if_true]
      obtain ⟨h1, h2⟩ := ih (k + 1) (some ps.length) ps
      have hc := cnt_le t 124 f (k + 1)
      refine ⟨by omega, fun x q => Or.inr ?_⟩
      rcases h2 x q with q2 | q2
      · cases q2
        omega
      · exact q2
    · simp only [e, if_false]
      obtain ⟨h1, h2⟩ := ih (k + 1) mk (ps ++ [t k])
      rw [List.length_append] at h1
      simp only [List.length_cons, List.length_nil] at h1
      exact ⟨by omega, h2⟩
theorem r_enter {rs : List Rl} {B : Nat → Nat → Int32} {h : kv_H} {els : List (Int32 × Nat × Nat)} {n ks ke ar : Nat} {sg : List (Nat × Nat)} {u : Bool} (H : vY h y B) (ht : ∀ i, t i < 128) (hB : B 0 = fun i => nI (t i)) (hn : n ≤ 48) (hy0 : y 0 = nI n) (hm : rs.length < 8) (hy : y 5 = nI rs.length) (hR : ∀ j a, rs[j]? = some a → yR B j a) (hw : ∀ a ∈ rs, wfR a) (hE : yE y B els) (hl : els.length ≤ 12) (hks : ks ≤ els.length) (hke : ke ≤ els.length) (har : ar < n) (hg : n - (ar + 1) ≤ 12 + cnt t 124 (ar + 1) (n - (ar + 1))) : wm mX5_enter [.ref 74, .int (nI ks), .int (nI ke), .int (nI ar)] h (pEn y B h rs (els, ks, ke, sg, u, (sGv t (n - (ar + 1)) (ar + 1) none []).1, (sGv t (n - (ar + 1)) (ar + 1) none []).2.getD (sGv t (n - (ar + 1)) (ar + 1) none []).1.length)) := by
  have gm : rs.length < 2147483648 := by omega
  refine iX5_enter rfl rfl rfl rfl ?_
  simp only [fX5_enter_0, w_const, w_iload, w_aload, w_iinc, w_istore, w_astore, w_iadd, w_isub, w_imul, w_iand, w_ior, w_ixor, w_ishl, w_ishr, w_ineg, w_i2c, w_dup, w_pop, w_dup_x1, w_dup_x2, w_dup2, w_ifeq, w_ifne, w_iflt, w_ifge, w_ifgt, w_ifle, w_iceq, w_icne, w_iclt, w_icge, w_icgt, w_icle, w_ret, w_iret, w_aret, w_max, w_sld, w_slen, w_new, w_newa, w_newq, w_obj, w_getf, w_putf, w_iald, w_iast, w_alen, w_aald, w_aast, w_copy, List.getElem?_cons_zero, List.getElem?_cons_succ, List.set_cons_zero, List.set_cons_succ, List.length_cons, List.length_nil, List.cons_append, List.nil_append, Option.some.injEq, exists_eq_left', true_and, and_true, Option.toList, Value.category, l_0, l_1, l_2, l_3, l_4, l_8, l_9, l_10, l_12, l_13, l_15, l_26, l_32, l_40, l_41, l_42, l_43, l_45, l_46, l_48, l_49, l_50, l_51, l_59, l_60, l_61, l_62, l_63, l_65, l_90, l_91, l_93, l_94, l_96, l_97, l_100, l_122, l_123, l_124, l_125, l_126, l_161, l_1000, l_67108863, q_nb0, q_nb1, q_ni, q_fi, q_fb0, q_fb1, vY_74 H, vY_81 H, hy, q_le (show 0 < 2147483648 by decide) gm, q_clamp gm, Nat.zero_le, hm]
  have H1 := vY_a6 (f := upd (B 6) rs.length (nI ks)) H
  have o1 : offR rs.length B (va_up B 6 (upd (B 6) rs.length (nI ks))) := offR_upd (by decide) (fun _ => rfl) (fun q => by cases q)
  have f1 : kv_fr inYe h (kv_p h 81 (.inl (0, 8, .inl (upd (B 6) rs.length (nI ks))))) := kv_fr.rf.p (Or.inr (by decide))
  generalize kv_p h 81 (.inl (0, 8, .inl (upd (B 6) rs.length (nI ks)))) = k1 at H1 f1 ⊢
  generalize hB1 : va_up B 6 (upd (B 6) rs.length (nI ks)) = B1 at H1 o1
  simp only [w_const, w_iload, w_aload, w_iinc, w_istore, w_astore, w_iadd, w_isub, w_imul, w_iand, w_ior, w_ixor, w_ishl, w_ishr, w_ineg, w_i2c, w_dup, w_pop, w_dup_x1, w_dup_x2, w_dup2, w_ifeq, w_ifne, w_iflt, w_ifge, w_ifgt, w_ifle, w_iceq, w_icne, w_iclt, w_icge, w_icgt, w_icle, w_ret, w_iret, w_aret, w_max, w_sld, w_slen, w_new, w_newa, w_newq, w_obj, w_getf, w_putf, w_iald, w_iast, w_alen, w_aald, w_aast, w_copy, List.getElem?_cons_zero, List.getElem?_cons_succ, List.set_cons_zero, List.set_cons_succ, List.length_cons, List.length_nil, List.cons_append, List.nil_append, Option.some.injEq, exists_eq_left', true_and, and_true, Option.toList, Value.category, l_0, l_1, l_2, l_3, l_4, l_8, l_9, l_10, l_12, l_13, l_15, l_26, l_32, l_40, l_41, l_42, l_43, l_45, l_46, l_48, l_49, l_50, l_51, l_59, l_60, l_61, l_62, l_63, l_65, l_90, l_91, l_93, l_94, l_96, l_97, l_100, l_122, l_123, l_124, l_125, l_126, l_161, l_1000, l_67108863, q_nb0, q_nb1, q_ni, q_fi, q_fb0, q_fb1, vY_74 H1, vY_82 H1, hy, q_le (show 0 < 2147483648 by decide) gm, q_clamp gm, Nat.zero_le, hm]
  have H2 := vY_a7 (f := upd (B1 7) rs.length (nI ke)) H1
  have o2 : offR rs.length B (va_up B1 7 (upd (B1 7) rs.length (nI ke))) := o1.tr (offR_upd (by decide) (fun _ => rfl) (fun q => by cases q))
  have f2 : kv_fr inYe h (kv_p k1 82 (.inl (0, 8, .inl (upd (B1 7) rs.length (nI ke))))) := f1.p (Or.inr (by decide))
  generalize kv_p k1 82 (.inl (0, 8, .inl (upd (B1 7) rs.length (nI ke)))) = k2 at H2 f2 ⊢
  generalize hB2 : va_up B1 7 (upd (B1 7) rs.length (nI ke)) = B2 at H2 o2
  simp only [w_const, w_iload, w_aload, w_iinc, w_istore, w_astore, w_iadd, w_isub, w_imul, w_iand, w_ior, w_ixor, w_ishl, w_ishr, w_ineg, w_i2c, w_dup, w_pop, w_dup_x1, w_dup_x2, w_dup2, w_ifeq, w_ifne, w_iflt, w_ifge, w_ifgt, w_ifle, w_iceq, w_icne, w_iclt, w_icge, w_icgt, w_icle, w_ret, w_iret, w_aret, w_max, w_sld, w_slen, w_new, w_newa, w_newq, w_obj, w_getf, w_putf, w_iald, w_iast, w_alen, w_aald, w_aast, w_copy, List.getElem?_cons_zero, List.getElem?_cons_succ, List.set_cons_zero, List.set_cons_succ, List.length_cons, List.length_nil, List.cons_append, List.nil_append, Option.some.injEq, exists_eq_left', true_and, and_true, Option.toList, Value.category, l_0, l_1, l_2, l_3, l_4, l_8, l_9, l_10, l_12, l_13, l_15, l_26, l_32, l_40, l_41, l_42, l_43, l_45, l_46, l_48, l_49, l_50, l_51, l_59, l_60, l_61, l_62, l_63, l_65, l_90, l_91, l_93, l_94, l_96, l_97, l_100, l_122, l_123, l_124, l_125, l_126, l_161, l_1000, l_67108863, q_nb0, q_nb1, q_ni, q_fi, q_fb0, q_fb1, vY_74 H2, vY_83 H2, hy, q_le (show 0 < 2147483648 by decide) gm, q_clamp gm, Nat.zero_le, hm, show y 1 = nI els.length from hE.1]
  have H3 := vY_a8 (f := upd (B2 8) rs.length (nI els.length)) H2
  have o3 : offR rs.length B (va_up B2 8 (upd (B2 8) rs.length (nI els.length))) := o2.tr (offR_upd (by decide) (fun _ => rfl) (fun q => by cases q))
  have f3 : kv_fr inYe h (kv_p k2 83 (.inl (0, 8, .inl (upd (B2 8) rs.length (nI els.length))))) := f2.p (Or.inr (by decide))
  generalize kv_p k2 83 (.inl (0, 8, .inl (upd (B2 8) rs.length (nI els.length)))) = k3 at H3 f3 ⊢
  generalize hB3 : va_up B2 8 (upd (B2 8) rs.length (nI els.length)) = B3 at H3 o3
  have b3 : ∀ k, k < 6 ∨ 8 < k → B3 k = B k := by
    intro k hk
    rw [← hB3, va_up_ne _ _ (by omega), ← hB2, va_up_ne _ _ (by omega), ← hB1, va_up_ne _ _ (by omega)]
  have b36 : B3 6 rs.length = nI ks := by
    rw [← hB3, va_up_ne _ _ (by decide), ← hB2, va_up_ne _ _ (by decide), ← hB1, va_up_self]
    simp only [upd, if_true]
  have b37 : B3 7 rs.length = nI ke := by
    rw [← hB3, va_up_ne _ _ (by decide), ← hB2, va_up_self]
    simp only [upd, if_true]
  have b38 : B3 8 rs.length = nI els.length := by
    rw [← hB3, va_up_self]
    simp only [upd, if_true]
  have hE3 : yE y B3 els := ⟨hE.1, fun j e he => by rw [b3 2 (by decide), b3 3 (by decide), b3 4 (by decide), b3 5 (by decide)]; exact hE.2 j e he⟩
  refine r_ent1 hm hl hy els.length 0 B3 k3 none (by omega) H3 hE3 (fun i e hi _ => absurd hi (Nat.not_lt_zero i)) ?_
  intro B4 k4 H4 o4 b4 C4 f4
  simp only [fX5_enter_139, w_const, w_iload, w_aload, w_iinc, w_istore, w_astore, w_iadd, w_isub, w_imul, w_iand, w_ior, w_ixor, w_ishl, w_ishr, w_ineg, w_i2c, w_dup, w_pop, w_dup_x1, w_dup_x2, w_dup2, w_ifeq, w_ifne, w_iflt, w_ifge, w_ifgt, w_ifle, w_iceq, w_icne, w_iclt, w_icge, w_icgt, w_icle, w_ret, w_iret, w_aret, w_max, w_sld, w_slen, w_new, w_newa, w_newq, w_obj, w_getf, w_putf, w_iald, w_iast, w_alen, w_aald, w_aast, w_copy, List.getElem?_cons_zero, List.getElem?_cons_succ, List.set_cons_zero, List.set_cons_succ, List.length_cons, List.length_nil, List.cons_append, List.nil_append, Option.some.injEq, exists_eq_left', true_and, and_true, Option.toList, Value.category, l_0, l_1, l_2, l_3, l_4, l_8, l_9, l_10, l_12, l_13, l_15, l_26, l_32, l_40, l_41, l_42, l_43, l_45, l_46, l_48, l_49, l_50, l_51, l_59, l_60, l_61, l_62, l_63, l_65, l_90, l_91, l_93, l_94, l_96, l_97, l_100, l_122, l_123, l_124, l_125, l_126, l_161, l_1000, l_67108863, q_nb0, q_nb1, q_ni, q_fi, q_fb0, q_fb1, vY_74 H4, vY_89 H4, hy, q_le (show 0 < 2147483648 by decide) gm, q_clamp gm, Nat.zero_le, hm, q_add]
  have H5 := vY_a14 (f := upd (B4 14) rs.length (-nI 1)) H4
  have o5 : offR rs.length B (va_up B4 14 (upd (B4 14) rs.length (-nI 1))) := (o3.tr o4).tr (offR_upd (by decide) (fun _ => rfl) (fun q => by cases q))
  have f5 : kv_fr inYe h (kv_p k4 89 (.inl (0, 8, .inl (upd (B4 14) rs.length (-nI 1))))) := (f3.tr f4).p (Or.inr (by decide))
  generalize kv_p k4 89 (.inl (0, 8, .inl (upd (B4 14) rs.length (-nI 1)))) = k5 at H5 f5 ⊢
  have b5 : va_up B4 14 (upd (B4 14) rs.length (-nI 1)) 0 = fun i => nI (t i) := by
    rw [va_up_ne _ _ (by decide), b4 0 (by decide), b3 0 (by decide)]
    exact hB
  refine r_ent2 (t := t) (y := y) (ps := []) (mk := none) ht hm hn hy hy0 (n - (ar + 1)) (ar + 1) _ k5 (by omega) (by simpa using hg) H5 b5 (fun i c q => by cases q) (by simp [va_up, upd, stp]) ?_
  intro B6 k6 H6 o6 b6 C6 S6 f6
  have gl := sGv_len t (n - (ar + 1)) (ar + 1) none []
  generalize sGv t (n - (ar + 1)) (ar + 1) none [] = z at C6 S6 gl ⊢
  obtain ⟨ps, mk⟩ := z
  obtain ⟨gl1, gl2⟩ := gl
  dsimp only at C6 S6 gl1 gl2 ⊢
  have hps : ps.length ≤ 12 := by
    simp only [List.length_nil] at gl1
    omega
  simp only [fX5_enter_223, w_const, w_iload, w_aload, w_iinc, w_istore, w_astore, w_iadd, w_isub, w_imul, w_iand, w_ior, w_ixor, w_ishl, w_ishr, w_ineg, w_i2c, w_dup, w_pop, w_dup_x1, w_dup_x2, w_dup2, w_ifeq, w_ifne, w_iflt, w_ifge, w_ifgt, w_ifle, w_iceq, w_icne, w_iclt, w_icge, w_icgt, w_icle, w_ret, w_iret, w_aret, w_max, w_sld, w_slen, w_new, w_newa, w_newq, w_obj, w_getf, w_putf, w_iald, w_iast, w_alen, w_aald, w_aast, w_copy, List.getElem?_cons_zero, List.getElem?_cons_succ, List.set_cons_zero, List.set_cons_succ, List.length_cons, List.length_nil, List.cons_append, List.nil_append, Option.some.injEq, exists_eq_left', true_and, and_true, Option.toList, Value.category, l_0, l_1, l_2, l_3, l_4, l_8, l_9, l_10, l_12, l_13, l_15, l_26, l_32, l_40, l_41, l_42, l_43, l_45, l_46, l_48, l_49, l_50, l_51, l_59, l_60, l_61, l_62, l_63, l_65, l_90, l_91, l_93, l_94, l_96, l_97, l_100, l_122, l_123, l_124, l_125, l_126, l_161, l_1000, l_67108863, q_nb0, q_nb1, q_ni, q_fi, q_fb0, q_fb1, vY_74 H6, vY_88 H6, hy, q_le (show 0 < 2147483648 by decide) gm, q_clamp gm, Nat.zero_le, hm]
  have H7 := vY_a13 (f := upd (B6 13) rs.length (nI ps.length)) H6
  have o7 : offR rs.length B (va_up B6 13 (upd (B6 13) rs.length (nI ps.length))) := (o5.tr o6).tr (offR_upd (by decide) (fun _ => rfl) (fun q => by cases q))
  have f7 : kv_fr inYe h (kv_p k6 88 (.inl (0, 8, .inl (upd (B6 13) rs.length (nI ps.length))))) := (f5.tr f6).p (Or.inr (by decide))
  generalize kv_p k6 88 (.inl (0, 8, .inl (upd (B6 13) rs.length (nI ps.length)))) = k7 at H7 f7 ⊢
  have b7 : ∀ k, k ≠ 13 → va_up B6 13 (upd (B6 13) rs.length (nI ps.length)) k = B6 k := fun k hk => va_up_ne _ _ hk
  have b713 : va_up B6 13 (upd (B6 13) rs.length (nI ps.length)) 13 rs.length = nI ps.length := by rw [va_up_self]; simp only [upd, if_true]
  generalize va_up B6 13 (upd (B6 13) rs.length (nI ps.length)) = B7 at H7 o7 b7 b713
  have s7 : B7 14 rs.length = stp mk := by rw [b7 14 (by decide)]; exact S6
  have at268 : wp (fX5_enter_268 (kv_lim bX5_enter)) [some (.ref 74), some (.int (nI ks)), some (.int (nI ke)), some (.int (nI ar)), some (.int (nI ps.length)), some (.int (nI n))] [.int (nI (mk.getD ps.length)), .int (nI rs.length), .ref 89] k7 (pEn y B h rs (els, ks, ke, sg, u, ps, mk.getD ps.length)) := by
    simp only [fX5_enter_268, w_const, w_iload, w_aload, w_iinc, w_istore, w_astore, w_iadd, w_isub, w_imul, w_iand, w_ior, w_ixor, w_ishl, w_ishr, w_ineg, w_i2c, w_dup, w_pop, w_dup_x1, w_dup_x2, w_dup2, w_ifeq, w_ifne, w_iflt, w_ifge, w_ifgt, w_ifle, w_iceq, w_icne, w_iclt, w_icge, w_icgt, w_icle, w_ret, w_iret, w_aret, w_max, w_sld, w_slen, w_new, w_newa, w_newq, w_obj, w_getf, w_putf, w_iald, w_iast, w_alen, w_aald, w_aast, w_copy, List.getElem?_cons_zero, List.getElem?_cons_succ, List.set_cons_zero, List.set_cons_succ, List.length_cons, List.length_nil, List.cons_append, List.nil_append, Option.some.injEq, exists_eq_left', true_and, and_true, Option.toList, Value.category, l_0, l_1, l_2, l_3, l_4, l_8, l_9, l_10, l_12, l_13, l_15, l_26, l_32, l_40, l_41, l_42, l_43, l_45, l_46, l_48, l_49, l_50, l_51, l_59, l_60, l_61, l_62, l_63, l_65, l_90, l_91, l_93, l_94, l_96, l_97, l_100, l_122, l_123, l_124, l_125, l_126, l_161, l_1000, l_67108863, q_nb0, q_nb1, q_ni, q_fi, q_fb0, q_fb1, vY_89 H7, q_le (show 0 < 2147483648 by decide) gm, q_clamp gm, Nat.zero_le, hm]
    have H8 := vY_a14 (f := upd (B7 14) rs.length (nI (mk.getD ps.length))) H7
    have o8 : offR rs.length B (va_up B7 14 (upd (B7 14) rs.length (nI (mk.getD ps.length)))) := o7.tr (offR_upd (by decide) (fun _ => rfl) (fun q => by cases q))
    have f8 : kv_fr inYe h (kv_p k7 89 (.inl (0, 8, .inl (upd (B7 14) rs.length (nI (mk.getD ps.length)))))) := f7.p (Or.inr (by decide))
    generalize kv_p k7 89 (.inl (0, 8, .inl (upd (B7 14) rs.length (nI (mk.getD ps.length))))) = k8 at H8 f8 ⊢
    have b8 : ∀ k, k ≠ 14 → va_up B7 14 (upd (B7 14) rs.length (nI (mk.getD ps.length))) k = B7 k := fun k hk => va_up_ne _ _ hk
    have b814 : va_up B7 14 (upd (B7 14) rs.length (nI (mk.getD ps.length))) 14 rs.length = nI (mk.getD ps.length) := by rw [va_up_self]; simp only [upd, if_true]
    generalize va_up B7 14 (upd (B7 14) rs.length (nI (mk.getD ps.length))) = B8 at H8 o8 b8 b814
    have c8 : ∀ k, k < 13 → B8 k = B4 k := fun k hk => by
      rw [b8 k (by omega), b7 k (by omega), b6 k (by omega) (by omega), va_up_ne _ _ (by omega)]
    refine r_ent4 H8 hm hy (fun j a hja => ?_) hw ?_ hl hks o8 f8 rs.length 0 (by omega) (fun j a hj _ => absurd hj (Nat.not_lt_zero j))
    · have hjl := (List.getElem?_eq_some_iff.mp hja).1
      have wa := hw a (List.mem_of_getElem? hja)
      exact yR_off (hR j a hja) o8 (by omega) wa.1 wa.2.2.2.2
    · refine ⟨?_, ?_, ?_, ?_, b814, fun i e he => ?_, fun i c hc => ?_⟩
      · rw [c8 6 (by decide), b4 6 (by decide)]
        exact b36
      · rw [c8 7 (by decide), b4 7 (by decide)]
        exact b37
      · rw [c8 8 (by decide), b4 8 (by decide)]
        exact b38
      · rw [b8 13 (by decide)]
        exact b713
      · rw [c8 9 (by decide), c8 10 (by decide), c8 11 (by decide), c8 12 (by decide)]
        exact C4 i e (List.getElem?_eq_some_iff.mp he).1 he
      · rw [b8 15 (by decide), b7 15 (by decide)]
        exact C6 i c hc
  simp only [w_const, w_iload, w_aload, w_iinc, w_istore, w_astore, w_iadd, w_isub, w_imul, w_iand, w_ior, w_ixor, w_ishl, w_ishr, w_ineg, w_i2c, w_dup, w_pop, w_dup_x1, w_dup_x2, w_dup2, w_ifeq, w_ifne, w_iflt, w_ifge, w_ifgt, w_ifle, w_iceq, w_icne, w_iclt, w_icge, w_icgt, w_icle, w_ret, w_iret, w_aret, w_max, w_sld, w_slen, w_new, w_newa, w_newq, w_obj, w_getf, w_putf, w_iald, w_iast, w_alen, w_aald, w_aast, w_copy, List.getElem?_cons_zero, List.getElem?_cons_succ, List.set_cons_zero, List.set_cons_succ, List.length_cons, List.length_nil, List.cons_append, List.nil_append, Option.some.injEq, exists_eq_left', true_and, and_true, Option.toList, Value.category, l_0, l_1, l_2, l_3, l_4, l_8, l_9, l_10, l_12, l_13, l_15, l_26, l_32, l_40, l_41, l_42, l_43, l_45, l_46, l_48, l_49, l_50, l_51, l_59, l_60, l_61, l_62, l_63, l_65, l_90, l_91, l_93, l_94, l_96, l_97, l_100, l_122, l_123, l_124, l_125, l_126, l_161, l_1000, l_67108863, q_nb0, q_nb1, q_ni, q_fi, q_fb0, q_fb1, vY_74 H7, vY_89 H7, hy, q_le (show 0 < 2147483648 by decide) gm, q_clamp gm, Nat.zero_le, hm, s7]
  cases mk with
  | none =>
    simp only [stp, show ¬ nI 0 ≤ -nI 1 by decide +kernel, if_false, fX5_enter_254, w_const, w_iload, w_aload, w_iinc, w_istore, w_astore, w_iadd, w_isub, w_imul, w_iand, w_ior, w_ixor, w_ishl, w_ishr, w_ineg, w_i2c, w_dup, w_pop, w_dup_x1, w_dup_x2, w_dup2, w_ifeq, w_ifne, w_iflt, w_ifge, w_ifgt, w_ifle, w_iceq, w_icne, w_iclt, w_icge, w_icgt, w_icle, w_ret, w_iret, w_aret, w_max, w_sld, w_slen, w_new, w_newa, w_newq, w_obj, w_getf, w_putf, w_iald, w_iast, w_alen, w_aald, w_aast, w_copy, List.getElem?_cons_zero, List.getElem?_cons_succ, List.set_cons_zero, List.set_cons_succ, List.length_cons, List.length_nil, List.cons_append, List.nil_append, Option.some.injEq, exists_eq_left', true_and, and_true, Option.toList, Value.category, l_0, l_1, l_2, l_3, l_4, l_8, l_9, l_10, l_12, l_13, l_15, l_26, l_32, l_40, l_41, l_42, l_43, l_45, l_46, l_48, l_49, l_50, l_51, l_59, l_60, l_61, l_62, l_63, l_65, l_90, l_91, l_93, l_94, l_96, l_97, l_100, l_122, l_123, l_124, l_125, l_126, l_161, l_1000, l_67108863, q_nb0, q_nb1, q_ni, q_fi, q_fb0, q_fb1]
    exact at268
  | some x =>
    have hx : x ≤ ps.length := by
      rcases gl2 x rfl with q | q
      · cases q
      · exact q
    simp only [stp, q_le (show 0 < 2147483648 by decide) (show x < 2147483648 by omega), Nat.zero_le, if_true, fX5_enter_259, w_const, w_iload, w_aload, w_iinc, w_istore, w_astore, w_iadd, w_isub, w_imul, w_iand, w_ior, w_ixor, w_ishl, w_ishr, w_ineg, w_i2c, w_dup, w_pop, w_dup_x1, w_dup_x2, w_dup2, w_ifeq, w_ifne, w_iflt, w_ifge, w_ifgt, w_ifle, w_iceq, w_icne, w_iclt, w_icge, w_icgt, w_icle, w_ret, w_iret, w_aret, w_max, w_sld, w_slen, w_new, w_newa, w_newq, w_obj, w_getf, w_putf, w_iald, w_iast, w_alen, w_aald, w_aast, w_copy, List.getElem?_cons_zero, List.getElem?_cons_succ, List.set_cons_zero, List.set_cons_succ, List.length_cons, List.length_nil, List.cons_append, List.nil_append, Option.some.injEq, exists_eq_left', true_and, and_true, Option.toList, Value.category, l_0, l_1, l_2, l_3, l_4, l_8, l_9, l_10, l_12, l_13, l_15, l_26, l_32, l_40, l_41, l_42, l_43, l_45, l_46, l_48, l_49, l_50, l_51, l_59, l_60, l_61, l_62, l_63, l_65, l_90, l_91, l_93, l_94, l_96, l_97, l_100, l_122, l_123, l_124, l_125, l_126, l_161, l_1000, l_67108863, q_nb0, q_nb1, q_ni, q_fi, q_fb0, q_fb1, vY_74 H7, vY_89 H7, hy, q_le (show 0 < 2147483648 by decide) gm, q_clamp gm, hm, s7]
    exact at268
end RS
