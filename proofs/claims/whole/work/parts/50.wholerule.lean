abbrev Rl : Type := List (Int32 × Nat × Nat) × Nat × Nat × List (Nat × Nat) × Bool × List Nat × Nat
def cR4 (t : Nat → Nat) (n ks ke : Nat) (sg : List (Nat × Nat)) (p : Nat) (els : List (Int32 × Nat × Nat)) (u : Bool) : Option Rl := if sAt t n p = 62 then (match sRep t n n (p + 1) none [] with
  | none => none
  | some (ps, mk) => some (els, ks, ke, sg, u, ps, mk.getD ps.length)) else none
def cR3 (t : Nat → Nat) (n : Nat) (mn : Nat → Int32) (ks : Nat) (sg : List (Nat × Nat)) (p : Nat) (els : List (Int32 × Nat × Nat)) (u : Bool) : Option Rl := match (if sAt t n p = 125 then sCtx t n mn n n (p + 1) els u else some (p, els, u)) with
  | none => none
  | some (p3, els3, u3) => cR4 t n ks els.length sg p3 els3 u3
def cR2 (t : Nat → Nat) (n : Nat) (mn : Nat → Int32) (p : Nat) (els : List (Int32 × Nat × Nat)) (u : Bool) : Option Rl := match sKey t n mn n n p els u false els.length [] with
  | none => none
  | some (p2, els2, u2, ins, sg) => if ins = false ∧ els.length < els2.length then cR3 t n mn els.length sg p2 els2 u2 else none
def cRule (t : Nat → Nat) (n : Nat) (mn : Nat → Int32) : Option Rl := if (∃ j, j < n ∧ t j = 123) then (match sCtx t n mn n n 0 [] false with
  | none => none
  | some (p, els, u) => if sAt t n p = 123 then cR2 t n mn (p + 1) els u else none) else cR2 t n mn 0 [] false
def pRu (t : Nat → Nat) (n : Nat) (mn : Nat → Int32) (b : Nat) (h0 : kv_H) (q : Option Rl) (v : Option Value) (h' : kv_H) : Prop := ∃ a' set' saw' A' x', vS h' t n a' mn set' saw' ∧ saw' < 2 ∧ vR h' b A' x' ∧ kv_fr (inSR b) h0 h' ∧ match q with
  | none => v = some (.int (nI 0))
  | some (els, ks, ke, sg, u, ps, mk) => v = some (.int (nI 1)) ∧ saw' = u.toNat ∧ rE A' x' els ∧ rG A' x' sg ∧ rP A' x' ps ∧ x' 1 = ks ∧ x' 2 = ke ∧ x' 7 = mk
section RR
variable {t : Nat → Nat} {n b : Nat} {mn : Nat → Int32} {h0 : kv_H}
theorem p_rr4 (hn : n ≤ 48) (ht : ∀ i, t i < 128) (hb : 5 < b) {p : Nat} {set : Int32} {u : Bool} {A : Nat → Nat → Int32} {x : Nat → Nat} {els : List (Int32 × Nat × Nat)} {sg : List (Nat × Nat)} {h : kv_H} (H : vS h t n p mn set u.toNat) (HR : vR h b A x) (hE : rE A x els) (hG : rG A x sg) (hP : rP A x []) (hf : kv_fr (inSR b) h0 h) (hp : p ≤ n) : wp fX2_readRule_81 [some (.ref 2), some (.ref b)] [] h (pRu t n mn b h0 (cR4 t n (x 1) (x 2) sg p els u)) := by
  simp only [fX2_readRule_81, w_const, w_iload, w_aload, w_iinc, w_istore, w_astore, w_iadd, w_isub, w_imul, w_iand, w_ior, w_ixor, w_ishl, w_ishr, w_ineg, w_i2c, w_dup, w_pop, w_dup_x1, w_dup_x2, w_dup2, w_ifeq, w_ifne, w_iflt, w_ifge, w_ifgt, w_ifle, w_iceq, w_icne, w_iclt, w_icge, w_icgt, w_icle, w_ret, w_iret, w_aret, w_max, w_sld, w_slen, w_new, w_newa, w_newq, w_obj, w_getf, w_putf, w_iald, w_iast, w_alen, w_aald, w_aast, w_copy, List.getElem?_cons_zero, List.getElem?_cons_succ, List.set_cons_zero, List.set_cons_succ, List.length_cons, List.length_nil, List.cons_append, List.nil_append, Option.some.injEq, exists_eq_left', true_and, and_true, Option.toList, Value.category, l_0, l_1, l_2, l_3, l_4, l_8, l_9, l_10, l_12, l_13, l_15, l_26, l_32, l_40, l_41, l_42, l_43, l_45, l_46, l_48, l_49, l_50, l_51, l_59, l_60, l_61, l_62, l_63, l_65, l_90, l_91, l_93, l_94, l_96, l_97, l_100, l_122, l_123, l_124, l_125, l_126, l_161, l_1000, l_67108863, q_nb0, q_nb1, q_ni, q_fi, q_fb0, q_fb1]
  refine w_callV1 (r := []) H.1 (p_skip H hn (by omega) ht (show 62 < 128 by decide) (by decide)) (by decide) ?_
  rintro v1 h1 ⟨rfl, H1, hf1⟩
  have HR1 := vR_s hb HR hf1
  unfold cR4
  by_cases e : sAt t n p = 62
  · have hpl := sAt_ne e (by decide)
    simp only [e, if_true] at H1
    simp only [w_const, w_iload, w_aload, w_iinc, w_istore, w_astore, w_iadd, w_isub, w_imul, w_iand, w_ior, w_ixor, w_ishl, w_ishr, w_ineg, w_i2c, w_dup, w_pop, w_dup_x1, w_dup_x2, w_dup2, w_ifeq, w_ifne, w_iflt, w_ifge, w_ifgt, w_ifle, w_iceq, w_icne, w_iclt, w_icge, w_icgt, w_icle, w_ret, w_iret, w_aret, w_max, w_sld, w_slen, w_new, w_newa, w_newq, w_obj, w_getf, w_putf, w_iald, w_iast, w_alen, w_aald, w_aast, w_copy, List.getElem?_cons_zero, List.getElem?_cons_succ, List.set_cons_zero, List.set_cons_succ, List.length_cons, List.length_nil, List.cons_append, List.nil_append, Option.some.injEq, exists_eq_left', true_and, and_true, Option.toList, Value.category, l_0, l_1, l_2, l_3, l_4, l_8, l_9, l_10, l_12, l_13, l_15, l_26, l_32, l_40, l_41, l_42, l_43, l_45, l_46, l_48, l_49, l_50, l_51, l_59, l_60, l_61, l_62, l_63, l_65, l_90, l_91, l_93, l_94, l_96, l_97, l_100, l_122, l_123, l_124, l_125, l_126, l_161, l_1000, l_67108863, q_nb0, q_nb1, q_ni, q_fi, q_fb0, q_fb1, e, if_true, n01, if_false, fX2_readRule_90]
    refine w_callV1 (r := []) H1.1 (p_replacement H1 HR1 hP hn ht hb (by omega)) (by decide) ?_
    rintro v1 h2 ⟨a', set', A', x', H2, HR2, hf2, hq⟩
    cases hr : sRep t n n (p + 1) none [] with
    | none =>
      rw [hr] at hq
      dsimp only at hq
      subst hq
      simp only [w_const, w_iload, w_aload, w_iinc, w_istore, w_astore, w_iadd, w_isub, w_imul, w_iand, w_ior, w_ixor, w_ishl, w_ishr, w_ineg, w_i2c, w_dup, w_pop, w_dup_x1, w_dup_x2, w_dup2, w_ifeq, w_ifne, w_iflt, w_ifge, w_ifgt, w_ifle, w_iceq, w_icne, w_iclt, w_icge, w_icgt, w_icle, w_ret, w_iret, w_aret, w_max, w_sld, w_slen, w_new, w_newa, w_newq, w_obj, w_getf, w_putf, w_iald, w_iast, w_alen, w_aald, w_aast, w_copy, List.getElem?_cons_zero, List.getElem?_cons_succ, List.set_cons_zero, List.set_cons_succ, List.length_cons, List.length_nil, List.cons_append, List.nil_append, Option.some.injEq, exists_eq_left', true_and, and_true, Option.toList, Value.category, l_0, l_1, l_2, l_3, l_4, l_8, l_9, l_10, l_12, l_13, l_15, l_26, l_32, l_40, l_41, l_42, l_43, l_45, l_46, l_48, l_49, l_50, l_51, l_59, l_60, l_61, l_62, l_63, l_65, l_90, l_91, l_93, l_94, l_96, l_97, l_100, l_122, l_123, l_124, l_125, l_126, l_161, l_1000, l_67108863, q_nb0, q_nb1, q_ni, q_fi, q_fb0, q_fb1, if_true, fX2_readRule_102, fX2_readRule_103]
      exact ⟨a', set', u.toNat, A', x', H2, tn_lt u, HR2, (hf.tr (fr_s hf1)).tr hf2, rfl⟩
    | some q =>
      obtain ⟨ps, mk⟩ := q
      rw [hr] at hq
      obtain ⟨rfl, hP2, h7, hA2, hx2⟩ := hq
      simp only [w_const, w_iload, w_aload, w_iinc, w_istore, w_astore, w_iadd, w_isub, w_imul, w_iand, w_ior, w_ixor, w_ishl, w_ishr, w_ineg, w_i2c, w_dup, w_pop, w_dup_x1, w_dup_x2, w_dup2, w_ifeq, w_ifne, w_iflt, w_ifge, w_ifgt, w_ifle, w_iceq, w_icne, w_iclt, w_icge, w_icgt, w_icle, w_ret, w_iret, w_aret, w_max, w_sld, w_slen, w_new, w_newa, w_newq, w_obj, w_getf, w_putf, w_iald, w_iast, w_alen, w_aald, w_aast, w_copy, List.getElem?_cons_zero, List.getElem?_cons_succ, List.set_cons_zero, List.set_cons_succ, List.length_cons, List.length_nil, List.cons_append, List.nil_append, Option.some.injEq, exists_eq_left', true_and, and_true, Option.toList, Value.category, l_0, l_1, l_2, l_3, l_4, l_8, l_9, l_10, l_12, l_13, l_15, l_26, l_32, l_40, l_41, l_42, l_43, l_45, l_46, l_48, l_49, l_50, l_51, l_59, l_60, l_61, l_62, l_63, l_65, l_90, l_91, l_93, l_94, l_96, l_97, l_100, l_122, l_123, l_124, l_125, l_126, l_161, l_1000, l_67108863, q_nb0, q_nb1, q_ni, q_fi, q_fb0, q_fb1, n01, if_false, fX2_readRule_98, fX2_readRule_103]
      exact ⟨a', set', u.toNat, A', x', H2, tn_lt u, HR2, (hf.tr (fr_s hf1)).tr hf2, rfl, rfl, rE_eq hE (hA2 0 (by decide)) (hA2 1 (by decide)) (hA2 2 (by decide)) (hx2 0 (by decide) (by decide) (by decide)) (hx2 3 (by decide) (by decide) (by decide)), rG_eq hG (hA2 3 (by decide)) (hA2 4 (by decide)) (hx2 4 (by decide) (by decide) (by decide)), hP2, hx2 1 (by decide) (by decide) (by decide), hx2 2 (by decide) (by decide) (by decide), h7⟩
  · simp only [e, if_false] at H1
    simp only [w_const, w_iload, w_aload, w_iinc, w_istore, w_astore, w_iadd, w_isub, w_imul, w_iand, w_ior, w_ixor, w_ishl, w_ishr, w_ineg, w_i2c, w_dup, w_pop, w_dup_x1, w_dup_x2, w_dup2, w_ifeq, w_ifne, w_iflt, w_ifge, w_ifgt, w_ifle, w_iceq, w_icne, w_iclt, w_icge, w_icgt, w_icle, w_ret, w_iret, w_aret, w_max, w_sld, w_slen, w_new, w_newa, w_newq, w_obj, w_getf, w_putf, w_iald, w_iast, w_alen, w_aald, w_aast, w_copy, List.getElem?_cons_zero, List.getElem?_cons_succ, List.set_cons_zero, List.set_cons_succ, List.length_cons, List.length_nil, List.cons_append, List.nil_append, Option.some.injEq, exists_eq_left', true_and, and_true, Option.toList, Value.category, l_0, l_1, l_2, l_3, l_4, l_8, l_9, l_10, l_12, l_13, l_15, l_26, l_32, l_40, l_41, l_42, l_43, l_45, l_46, l_48, l_49, l_50, l_51, l_59, l_60, l_61, l_62, l_63, l_65, l_90, l_91, l_93, l_94, l_96, l_97, l_100, l_122, l_123, l_124, l_125, l_126, l_161, l_1000, l_67108863, q_nb0, q_nb1, q_ni, q_fi, q_fb0, q_fb1, e, if_false, if_true, fX2_readRule_102, fX2_readRule_103]
    exact ⟨p, set, u.toNat, A, x, H1, tn_lt u, HR1, hf.tr (fr_s hf1), rfl⟩
theorem p_rr3 (hn : n ≤ 48) (ht : ∀ i, t i < 128) (hb : 5 < b) {p : Nat} {set : Int32} {u : Bool} {A : Nat → Nat → Int32} {x : Nat → Nat} {els : List (Int32 × Nat × Nat)} {sg : List (Nat × Nat)} {h : kv_H} (H : vS h t n p mn set u.toNat) (HR : vR h b A x) (hE : rE A x els) (hG : rG A x sg) (hP : rP A x []) (hf : kv_fr (inSR b) h0 h) (hp : p ≤ n) (hl : els.length ≤ p) : wp fX2_readRule_54 [some (.ref 2), some (.ref b)] [] h (pRu t n mn b h0 (cR3 t n mn (x 1) sg p els u)) := by
  simp only [fX2_readRule_54, w_const, w_iload, w_aload, w_iinc, w_istore, w_astore, w_iadd, w_isub, w_imul, w_iand, w_ior, w_ixor, w_ishl, w_ishr, w_ineg, w_i2c, w_dup, w_pop, w_dup_x1, w_dup_x2, w_dup2, w_ifeq, w_ifne, w_iflt, w_ifge, w_ifgt, w_ifle, w_iceq, w_icne, w_iclt, w_icge, w_icgt, w_icle, w_ret, w_iret, w_aret, w_max, w_sld, w_slen, w_new, w_newa, w_newq, w_obj, w_getf, w_putf, w_iald, w_iast, w_alen, w_aald, w_aast, w_copy, List.getElem?_cons_zero, List.getElem?_cons_succ, List.set_cons_zero, List.set_cons_succ, List.length_cons, List.length_nil, List.cons_append, List.nil_append, Option.some.injEq, exists_eq_left', true_and, and_true, Option.toList, Value.category, l_0, l_1, l_2, l_3, l_4, l_8, l_9, l_10, l_12, l_13, l_15, l_26, l_32, l_40, l_41, l_42, l_43, l_45, l_46, l_48, l_49, l_50, l_51, l_59, l_60, l_61, l_62, l_63, l_65, l_90, l_91, l_93, l_94, l_96, l_97, l_100, l_122, l_123, l_124, l_125, l_126, l_161, l_1000, l_67108863, q_nb0, q_nb1, q_ni, q_fi, q_fb0, q_fb1, HR.1]
  refine ⟨by decide, ?_⟩
  have HR0 : vR _ b A (va_up x 2 (x 0)) := vR_obj (x' := va_up x 2 (x 0)) HR
  have fr0 : kv_fr (inR b) h (kv_p h b (ob b (va_up x 2 (x 0)))) := kv_fr.rf.p ⟨by omega, by omega⟩
  have H0 := vS_r hb H fr0
  have hE0 : rE A (va_up x 2 (x 0)) els := rE_eq hE rfl rfl rfl rfl rfl
  have hG0 : rG A (va_up x 2 (x 0)) sg := rG_eq hG rfl rfl rfl
  have hP0 : rP A (va_up x 2 (x 0)) [] := rP_eq hP rfl rfl rfl
  have hec := hE.1
  have hf0 := hf.tr (fr_r fr0)
  have k1 : va_up x 2 (x 0) 1 = x 1 := rfl
  have k2 : va_up x 2 (x 0) 2 = els.length := hec
  refine w_callV1 (r := []) H0.1 (p_skip H0 hn (by omega) ht (show 125 < 128 by decide) (by decide)) (by decide) ?_
  rintro v1 h1 ⟨rfl, H1, hf1⟩
  have HR1 := vR_s hb HR0 hf1
  unfold cR3
  by_cases e : sAt t n p = 125
  · have hpl := sAt_ne e (by decide)
    simp only [e, if_true] at H1
    simp only [w_const, w_iload, w_aload, w_iinc, w_istore, w_astore, w_iadd, w_isub, w_imul, w_iand, w_ior, w_ixor, w_ishl, w_ishr, w_ineg, w_i2c, w_dup, w_pop, w_dup_x1, w_dup_x2, w_dup2, w_ifeq, w_ifne, w_iflt, w_ifge, w_ifgt, w_ifle, w_iceq, w_icne, w_iclt, w_icge, w_icgt, w_icle, w_ret, w_iret, w_aret, w_max, w_sld, w_slen, w_new, w_newa, w_newq, w_obj, w_getf, w_putf, w_iald, w_iast, w_alen, w_aald, w_aast, w_copy, List.getElem?_cons_zero, List.getElem?_cons_succ, List.set_cons_zero, List.set_cons_succ, List.length_cons, List.length_nil, List.cons_append, List.nil_append, Option.some.injEq, exists_eq_left', true_and, and_true, Option.toList, Value.category, l_0, l_1, l_2, l_3, l_4, l_8, l_9, l_10, l_12, l_13, l_15, l_26, l_32, l_40, l_41, l_42, l_43, l_45, l_46, l_48, l_49, l_50, l_51, l_59, l_60, l_61, l_62, l_63, l_65, l_90, l_91, l_93, l_94, l_96, l_97, l_100, l_122, l_123, l_124, l_125, l_126, l_161, l_1000, l_67108863, q_nb0, q_nb1, q_ni, q_fi, q_fb0, q_fb1, e, if_true, n01, if_false, fX2_readRule_71]
    refine w_callV1 (r := []) H1.1 (p_context H1 HR1 hE0 hn ht hb (by omega) (by omega)) (by decide) ?_
    rintro v1 h2 ⟨a', set', saw', A', x', H2, hs2, HR2, hf2, hq⟩
    cases hr : sCtx t n mn n n (p + 1) els u with
    | none =>
      rw [hr] at hq
      dsimp only at hq
      subst hq
      simp only [w_const, w_iload, w_aload, w_iinc, w_istore, w_astore, w_iadd, w_isub, w_imul, w_iand, w_ior, w_ixor, w_ishl, w_ishr, w_ineg, w_i2c, w_dup, w_pop, w_dup_x1, w_dup_x2, w_dup2, w_ifeq, w_ifne, w_iflt, w_ifge, w_ifgt, w_ifle, w_iceq, w_icne, w_iclt, w_icge, w_icgt, w_icle, w_ret, w_iret, w_aret, w_max, w_sld, w_slen, w_new, w_newa, w_newq, w_obj, w_getf, w_putf, w_iald, w_iast, w_alen, w_aald, w_aast, w_copy, List.getElem?_cons_zero, List.getElem?_cons_succ, List.set_cons_zero, List.set_cons_succ, List.length_cons, List.length_nil, List.cons_append, List.nil_append, Option.some.injEq, exists_eq_left', true_and, and_true, Option.toList, Value.category, l_0, l_1, l_2, l_3, l_4, l_8, l_9, l_10, l_12, l_13, l_15, l_26, l_32, l_40, l_41, l_42, l_43, l_45, l_46, l_48, l_49, l_50, l_51, l_59, l_60, l_61, l_62, l_63, l_65, l_90, l_91, l_93, l_94, l_96, l_97, l_100, l_122, l_123, l_124, l_125, l_126, l_161, l_1000, l_67108863, q_nb0, q_nb1, q_ni, q_fi, q_fb0, q_fb1, not_true, if_false, fX2_readRule_79]
      exact ⟨a', set', saw', A', x', H2, hs2, HR2, (hf0.tr (fr_s hf1)).tr hf2, rfl⟩
    | some q =>
      obtain ⟨p3, els3, u3⟩ := q
      rw [hr] at hq
      obtain ⟨rfl, rfl, rfl, hE2, hA2, hx2⟩ := hq
      have hle := sCtx_le _ _ _ _ _ _ _ hr (by omega) (by omega)
      simp only [w_const, w_iload, w_aload, w_iinc, w_istore, w_astore, w_iadd, w_isub, w_imul, w_iand, w_ior, w_ixor, w_ishl, w_ishr, w_ineg, w_i2c, w_dup, w_pop, w_dup_x1, w_dup_x2, w_dup2, w_ifeq, w_ifne, w_iflt, w_ifge, w_ifgt, w_ifle, w_iceq, w_icne, w_iclt, w_icge, w_icgt, w_icle, w_ret, w_iret, w_aret, w_max, w_sld, w_slen, w_new, w_newa, w_newq, w_obj, w_getf, w_putf, w_iald, w_iast, w_alen, w_aald, w_aast, w_copy, List.getElem?_cons_zero, List.getElem?_cons_succ, List.set_cons_zero, List.set_cons_succ, List.length_cons, List.length_nil, List.cons_append, List.nil_append, Option.some.injEq, exists_eq_left', true_and, and_true, Option.toList, Value.category, l_0, l_1, l_2, l_3, l_4, l_8, l_9, l_10, l_12, l_13, l_15, l_26, l_32, l_40, l_41, l_42, l_43, l_45, l_46, l_48, l_49, l_50, l_51, l_59, l_60, l_61, l_62, l_63, l_65, l_90, l_91, l_93, l_94, l_96, l_97, l_100, l_122, l_123, l_124, l_125, l_126, l_161, l_1000, l_67108863, q_nb0, q_nb1, q_ni, q_fi, q_fb0, q_fb1, n01, not_false_eq_true, if_true]
      have w9 := p_rr4 (h0 := h0) hn ht hb H2 HR2 hE2 (rG_eq hG0 (hA2 3 (by decide)) (hA2 4 (by decide)) (hx2 4 (by decide) (by decide))) (rP_eq hP0 (hA2 5 (by decide)) (hx2 5 (by decide) (by decide)) (hx2 6 (by decide) (by decide))) ((hf0.tr (fr_s hf1)).tr hf2) hle.2.1
      rw [hx2 1 (by decide) (by decide), hx2 2 (by decide) (by decide), k1, k2] at w9
      exact w9
  · simp only [e, if_false] at H1
    simp only [w_const, w_iload, w_aload, w_iinc, w_istore, w_astore, w_iadd, w_isub, w_imul, w_iand, w_ior, w_ixor, w_ishl, w_ishr, w_ineg, w_i2c, w_dup, w_pop, w_dup_x1, w_dup_x2, w_dup2, w_ifeq, w_ifne, w_iflt, w_ifge, w_ifgt, w_ifle, w_iceq, w_icne, w_iclt, w_icge, w_icgt, w_icle, w_ret, w_iret, w_aret, w_max, w_sld, w_slen, w_new, w_newa, w_newq, w_obj, w_getf, w_putf, w_iald, w_iast, w_alen, w_aald, w_aast, w_copy, List.getElem?_cons_zero, List.getElem?_cons_succ, List.set_cons_zero, List.set_cons_succ, List.length_cons, List.length_nil, List.cons_append, List.nil_append, Option.some.injEq, exists_eq_left', true_and, and_true, Option.toList, Value.category, l_0, l_1, l_2, l_3, l_4, l_8, l_9, l_10, l_12, l_13, l_15, l_26, l_32, l_40, l_41, l_42, l_43, l_45, l_46, l_48, l_49, l_50, l_51, l_59, l_60, l_61, l_62, l_63, l_65, l_90, l_91, l_93, l_94, l_96, l_97, l_100, l_122, l_123, l_124, l_125, l_126, l_161, l_1000, l_67108863, q_nb0, q_nb1, q_ni, q_fi, q_fb0, q_fb1, e, if_false, if_true]
    have w9 := p_rr4 (h0 := h0) hn ht hb H1 HR1 hE0 hG0 hP0 (hf0.tr (fr_s hf1)) hp
    rw [k1, k2] at w9
    exact w9
theorem p_rr2 (hn : n ≤ 48) (ht : ∀ i, t i < 128) (hb : 5 < b) {p : Nat} {set : Int32} {u : Bool} {A : Nat → Nat → Int32} {x : Nat → Nat} {els : List (Int32 × Nat × Nat)} {h : kv_H} (H : vS h t n p mn set u.toNat) (HR : vR h b A x) (hE : rE A x els) (hG : rG A x []) (hP : rP A x []) (hf : kv_fr (inSR b) h0 h) (hp : p ≤ n) (hl : els.length ≤ p) : wp fX2_readRule_36 [some (.ref 2), some (.ref b)] [] h (pRu t n mn b h0 (cR2 t n mn p els u)) := by
  simp only [fX2_readRule_36, w_const, w_iload, w_aload, w_iinc, w_istore, w_astore, w_iadd, w_isub, w_imul, w_iand, w_ior, w_ixor, w_ishl, w_ishr, w_ineg, w_i2c, w_dup, w_pop, w_dup_x1, w_dup_x2, w_dup2, w_ifeq, w_ifne, w_iflt, w_ifge, w_ifgt, w_ifle, w_iceq, w_icne, w_iclt, w_icge, w_icgt, w_icle, w_ret, w_iret, w_aret, w_max, w_sld, w_slen, w_new, w_newa, w_newq, w_obj, w_getf, w_putf, w_iald, w_iast, w_alen, w_aald, w_aast, w_copy, List.getElem?_cons_zero, List.getElem?_cons_succ, List.set_cons_zero, List.set_cons_succ, List.length_cons, List.length_nil, List.cons_append, List.nil_append, Option.some.injEq, exists_eq_left', true_and, and_true, Option.toList, Value.category, l_0, l_1, l_2, l_3, l_4, l_8, l_9, l_10, l_12, l_13, l_15, l_26, l_32, l_40, l_41, l_42, l_43, l_45, l_46, l_48, l_49, l_50, l_51, l_59, l_60, l_61, l_62, l_63, l_65, l_90, l_91, l_93, l_94, l_96, l_97, l_100, l_122, l_123, l_124, l_125, l_126, l_161, l_1000, l_67108863, q_nb0, q_nb1, q_ni, q_fi, q_fb0, q_fb1, HR.1]
  refine ⟨by decide, ?_⟩
  have HR0 : vR _ b A (va_up x 1 (x 0)) := vR_obj (x' := va_up x 1 (x 0)) HR
  have fr0 : kv_fr (inR b) h (kv_p h b (ob b (va_up x 1 (x 0)))) := kv_fr.rf.p ⟨by omega, by omega⟩
  have H0 := vS_r hb H fr0
  have hE0 : rE A (va_up x 1 (x 0)) els := rE_eq hE rfl rfl rfl rfl rfl
  have hG0 : rG A (va_up x 1 (x 0)) [] := rG_eq hG rfl rfl rfl
  have hP0 : rP A (va_up x 1 (x 0)) [] := rP_eq hP rfl rfl rfl
  have hec := hE.1
  have hf0 := hf.tr (fr_r fr0)
  have k1 : va_up x 1 (x 0) 1 = els.length := hec
  refine w_callV1 (r := []) H0.1 (p_key H0 HR0 hE0 hG0 hn ht hb (by rw [k1]; omega) hp hl (Nat.zero_le _)) (by decide) ?_
  rintro v1 h2 ⟨a', set', saw', A', x', H2, hs2, HR2, hf2, hq⟩
  unfold cR2
  cases hr : sKey t n mn n n p els u false els.length [] with
  | none =>
    rw [hr] at hq
    dsimp only at hq
    subst hq
    simp only [w_const, w_iload, w_aload, w_iinc, w_istore, w_astore, w_iadd, w_isub, w_imul, w_iand, w_ior, w_ixor, w_ishl, w_ishr, w_ineg, w_i2c, w_dup, w_pop, w_dup_x1, w_dup_x2, w_dup2, w_ifeq, w_ifne, w_iflt, w_ifge, w_ifgt, w_ifle, w_iceq, w_icne, w_iclt, w_icge, w_icgt, w_icle, w_ret, w_iret, w_aret, w_max, w_sld, w_slen, w_new, w_newa, w_newq, w_obj, w_getf, w_putf, w_iald, w_iast, w_alen, w_aald, w_aast, w_copy, List.getElem?_cons_zero, List.getElem?_cons_succ, List.set_cons_zero, List.set_cons_succ, List.length_cons, List.length_nil, List.cons_append, List.nil_append, Option.some.injEq, exists_eq_left', true_and, and_true, Option.toList, Value.category, l_0, l_1, l_2, l_3, l_4, l_8, l_9, l_10, l_12, l_13, l_15, l_26, l_32, l_40, l_41, l_42, l_43, l_45, l_46, l_48, l_49, l_50, l_51, l_59, l_60, l_61, l_62, l_63, l_65, l_90, l_91, l_93, l_94, l_96, l_97, l_100, l_122, l_123, l_124, l_125, l_126, l_161, l_1000, l_67108863, q_nb0, q_nb1, q_ni, q_fi, q_fb0, q_fb1, not_true, if_false, fX2_readRule_52]
    exact ⟨a', set', saw', A', x', H2, hs2, HR2, hf0.tr hf2, rfl⟩
  | some q =>
    obtain ⟨p2, els2, u2, ins, sg⟩ := q
    rw [hr, k1] at hq
    obtain ⟨rfl, rfl, rfl, hE2, hG2, hA2, hx2⟩ := hq
    have hle := sKey_le _ _ _ _ _ _ _ _ _ _ _ _ hr (by omega) (by omega) (Nat.zero_le _)
    by_cases e : ins = false ∧ els.length < els2.length
    · simp only [w_const, w_iload, w_aload, w_iinc, w_istore, w_astore, w_iadd, w_isub, w_imul, w_iand, w_ior, w_ixor, w_ishl, w_ishr, w_ineg, w_i2c, w_dup, w_pop, w_dup_x1, w_dup_x2, w_dup2, w_ifeq, w_ifne, w_iflt, w_ifge, w_ifgt, w_ifle, w_iceq, w_icne, w_iclt, w_icge, w_icgt, w_icle, w_ret, w_iret, w_aret, w_max, w_sld, w_slen, w_new, w_newa, w_newq, w_obj, w_getf, w_putf, w_iald, w_iast, w_alen, w_aald, w_aast, w_copy, List.getElem?_cons_zero, List.getElem?_cons_succ, List.set_cons_zero, List.set_cons_succ, List.length_cons, List.length_nil, List.cons_append, List.nil_append, Option.some.injEq, exists_eq_left', true_and, and_true, Option.toList, Value.category, l_0, l_1, l_2, l_3, l_4, l_8, l_9, l_10, l_12, l_13, l_15, l_26, l_32, l_40, l_41, l_42, l_43, l_45, l_46, l_48, l_49, l_50, l_51, l_59, l_60, l_61, l_62, l_63, l_65, l_90, l_91, l_93, l_94, l_96, l_97, l_100, l_122, l_123, l_124, l_125, l_126, l_161, l_1000, l_67108863, q_nb0, q_nb1, q_ni, q_fi, q_fb0, q_fb1, e, and_self, decide_true, Bool.toNat_true, n01, not_false_eq_true, if_true]
      have w9 := p_rr3 (h0 := h0) hn ht hb H2 HR2 hE2 hG2 (rP_eq hP0 hA2 (hx2 5 (by decide) (by decide) (by decide)) (hx2 6 (by decide) (by decide) (by decide))) (hf0.tr hf2) hle.2.1 hle.2.2.1
      rw [hx2 1 (by decide) (by decide) (by decide), k1] at w9
      exact w9
    · simp only [w_const, w_iload, w_aload, w_iinc, w_istore, w_astore, w_iadd, w_isub, w_imul, w_iand, w_ior, w_ixor, w_ishl, w_ishr, w_ineg, w_i2c, w_dup, w_pop, w_dup_x1, w_dup_x2, w_dup2, w_ifeq, w_ifne, w_iflt, w_ifge, w_ifgt, w_ifle, w_iceq, w_icne, w_iclt, w_icge, w_icgt, w_icle, w_ret, w_iret, w_aret, w_max, w_sld, w_slen, w_new, w_newa, w_newq, w_obj, w_getf, w_putf, w_iald, w_iast, w_alen, w_aald, w_aast, w_copy, List.getElem?_cons_zero, List.getElem?_cons_succ, List.set_cons_zero, List.set_cons_succ, List.length_cons, List.length_nil, List.cons_append, List.nil_append, Option.some.injEq, exists_eq_left', true_and, and_true, Option.toList, Value.category, l_0, l_1, l_2, l_3, l_4, l_8, l_9, l_10, l_12, l_13, l_15, l_26, l_32, l_40, l_41, l_42, l_43, l_45, l_46, l_48, l_49, l_50, l_51, l_59, l_60, l_61, l_62, l_63, l_65, l_90, l_91, l_93, l_94, l_96, l_97, l_100, l_122, l_123, l_124, l_125, l_126, l_161, l_1000, l_67108863, q_nb0, q_nb1, q_ni, q_fi, q_fb0, q_fb1, e, decide_false, Bool.toNat_false, not_true, if_false, fX2_readRule_52]
      exact ⟨a', set', u2.toNat, A', x', H2, hs2, HR2, hf0.tr hf2, rfl⟩
theorem p_readRule (hn : n ≤ 48) (ht : ∀ i, t i < 128) (hb : 5 < b) {a saw : Nat} {set : Int32} {A : Nat → Nat → Int32} {h : kv_H} (H : vS h t n a mn set saw) (HR : vR h b A (fun _ => 0)) : wm mX2_readRule [.ref 2, .ref b] h (pRu t n mn b h (cRule t n mn)) := by
  refine iX2_readRule rfl rfl ?_
  have G2 : ∀ e, kv_g (kv_p h 2 e) 2 = some e := fun e => kv_gp_self H.1
  simp only [fX2_readRule_0, w_const, w_iload, w_aload, w_iinc, w_istore, w_astore, w_iadd, w_isub, w_imul, w_iand, w_ior, w_ixor, w_ishl, w_ishr, w_ineg, w_i2c, w_dup, w_pop, w_dup_x1, w_dup_x2, w_dup2, w_ifeq, w_ifne, w_iflt, w_ifge, w_ifgt, w_ifle, w_iceq, w_icne, w_iclt, w_icge, w_icgt, w_icle, w_ret, w_iret, w_aret, w_max, w_sld, w_slen, w_new, w_newa, w_newq, w_obj, w_getf, w_putf, w_iald, w_iast, w_alen, w_aald, w_aast, w_copy, List.getElem?_cons_zero, List.getElem?_cons_succ, List.set_cons_zero, List.set_cons_succ, List.length_cons, List.length_nil, List.cons_append, List.nil_append, Option.some.injEq, exists_eq_left', true_and, and_true, Option.toList, Value.category, l_0, l_1, l_2, l_3, l_4, l_8, l_9, l_10, l_12, l_13, l_15, l_26, l_32, l_40, l_41, l_42, l_43, l_45, l_46, l_48, l_49, l_50, l_51, l_59, l_60, l_61, l_62, l_63, l_65, l_90, l_91, l_93, l_94, l_96, l_97, l_100, l_122, l_123, l_124, l_125, l_126, l_161, l_1000, l_67108863, q_nb0, q_nb1, q_ni, q_fi, q_fb0, q_fb1, H.1, G2, kv_pp]
  refine ⟨by decide, by decide, ?_⟩
  have H0 : vS _ t n 0 mn set 0 := vS_p H
  have fr0 : kv_fr (fun x => x = 2) h _ := kv_fr.rf.p (a := 2) (e := .inr (2, [.ref 3, .int (nI n), .int (nI 0), .ref 4, .int set, .int (nI 0)])) rfl
  have HR0 := vR_s hb HR fr0
  have hE : rE A (fun _ => 0) [] := ⟨rfl, rfl, fun i e hi he => by simp at he⟩
  have hG : rG A (fun _ => 0) [] := ⟨rfl, fun i e hi he => by simp at he⟩
  have hP : rP A (fun _ => 0) [] := ⟨rfl, rfl, fun i e hi he => by simp at he⟩
  refine w_callV0 (r := []) H0.1 (p_brace H0 hn ht) (by decide) ?_
  rintro v1 h1 ⟨rfl, hq⟩
  unfold cRule
  rcases hq with ⟨rfl, hj⟩ | ⟨rfl, hj⟩
  · simp only [w_const, w_iload, w_aload, w_iinc, w_istore, w_astore, w_iadd, w_isub, w_imul, w_iand, w_ior, w_ixor, w_ishl, w_ishr, w_ineg, w_i2c, w_dup, w_pop, w_dup_x1, w_dup_x2, w_dup2, w_ifeq, w_ifne, w_iflt, w_ifge, w_ifgt, w_ifle, w_iceq, w_icne, w_iclt, w_icge, w_icgt, w_icle, w_ret, w_iret, w_aret, w_max, w_sld, w_slen, w_new, w_newa, w_newq, w_obj, w_getf, w_putf, w_iald, w_iast, w_alen, w_aald, w_aast, w_copy, List.getElem?_cons_zero, List.getElem?_cons_succ, List.set_cons_zero, List.set_cons_succ, List.length_cons, List.length_nil, List.cons_append, List.nil_append, Option.some.injEq, exists_eq_left', true_and, and_true, Option.toList, Value.category, l_0, l_1, l_2, l_3, l_4, l_8, l_9, l_10, l_12, l_13, l_15, l_26, l_32, l_40, l_41, l_42, l_43, l_45, l_46, l_48, l_49, l_50, l_51, l_59, l_60, l_61, l_62, l_63, l_65, l_90, l_91, l_93, l_94, l_96, l_97, l_100, l_122, l_123, l_124, l_125, l_126, l_161, l_1000, l_67108863, q_nb0, q_nb1, q_ni, q_fi, q_fb0, q_fb1, n01, if_false, fX2_readRule_17]
    rw [if_pos hj]
    refine w_callV1 (r := []) H0.1 (p_context (u := false) H0 HR0 hE hn ht hb (Nat.zero_le _) (Nat.zero_le _)) (by decide) ?_
    rintro v1 h2 ⟨a', set', saw', A', x', H2, hs2, HR2, hf2, hq⟩
    cases hr : sCtx t n mn n n 0 [] false with
    | none =>
      rw [hr] at hq
      dsimp only at hq
      subst hq
      simp only [w_const, w_iload, w_aload, w_iinc, w_istore, w_astore, w_iadd, w_isub, w_imul, w_iand, w_ior, w_ixor, w_ishl, w_ishr, w_ineg, w_i2c, w_dup, w_pop, w_dup_x1, w_dup_x2, w_dup2, w_ifeq, w_ifne, w_iflt, w_ifge, w_ifgt, w_ifle, w_iceq, w_icne, w_iclt, w_icge, w_icgt, w_icle, w_ret, w_iret, w_aret, w_max, w_sld, w_slen, w_new, w_newa, w_newq, w_obj, w_getf, w_putf, w_iald, w_iast, w_alen, w_aald, w_aast, w_copy, List.getElem?_cons_zero, List.getElem?_cons_succ, List.set_cons_zero, List.set_cons_succ, List.length_cons, List.length_nil, List.cons_append, List.nil_append, Option.some.injEq, exists_eq_left', true_and, and_true, Option.toList, Value.category, l_0, l_1, l_2, l_3, l_4, l_8, l_9, l_10, l_12, l_13, l_15, l_26, l_32, l_40, l_41, l_42, l_43, l_45, l_46, l_48, l_49, l_50, l_51, l_59, l_60, l_61, l_62, l_63, l_65, l_90, l_91, l_93, l_94, l_96, l_97, l_100, l_122, l_123, l_124, l_125, l_126, l_161, l_1000, l_67108863, q_nb0, q_nb1, q_ni, q_fi, q_fb0, q_fb1, if_true, fX2_readRule_34]
      exact ⟨a', set', saw', A', x', H2, hs2, HR2, (fr_s fr0).tr hf2, rfl⟩
    | some q =>
      obtain ⟨p, els, u⟩ := q
      rw [hr] at hq
      obtain ⟨rfl, rfl, rfl, hE2, hA2, hx2⟩ := hq
      have hle := sCtx_le _ _ _ _ _ _ _ hr (Nat.zero_le _) (Nat.zero_le _)
      simp only [w_const, w_iload, w_aload, w_iinc, w_istore, w_astore, w_iadd, w_isub, w_imul, w_iand, w_ior, w_ixor, w_ishl, w_ishr, w_ineg, w_i2c, w_dup, w_pop, w_dup_x1, w_dup_x2, w_dup2, w_ifeq, w_ifne, w_iflt, w_ifge, w_ifgt, w_ifle, w_iceq, w_icne, w_iclt, w_icge, w_icgt, w_icle, w_ret, w_iret, w_aret, w_max, w_sld, w_slen, w_new, w_newa, w_newq, w_obj, w_getf, w_putf, w_iald, w_iast, w_alen, w_aald, w_aast, w_copy, List.getElem?_cons_zero, List.getElem?_cons_succ, List.set_cons_zero, List.set_cons_succ, List.length_cons, List.length_nil, List.cons_append, List.nil_append, Option.some.injEq, exists_eq_left', true_and, and_true, Option.toList, Value.category, l_0, l_1, l_2, l_3, l_4, l_8, l_9, l_10, l_12, l_13, l_15, l_26, l_32, l_40, l_41, l_42, l_43, l_45, l_46, l_48, l_49, l_50, l_51, l_59, l_60, l_61, l_62, l_63, l_65, l_90, l_91, l_93, l_94, l_96, l_97, l_100, l_122, l_123, l_124, l_125, l_126, l_161, l_1000, l_67108863, q_nb0, q_nb1, q_ni, q_fi, q_fb0, q_fb1, n01, if_false, fX2_readRule_25]
      refine w_callV1 (r := []) H2.1 (p_skip H2 hn (by omega) ht (show 123 < 128 by decide) (by decide)) (by decide) ?_
      rintro v1 h3 ⟨rfl, H3, hf3⟩
      have HR3 := vR_s hb HR2 hf3
      by_cases e : sAt t n a' = 123
      · have hpl := sAt_ne e (by decide)
        simp only [e, if_true] at H3
        simp only [w_const, w_iload, w_aload, w_iinc, w_istore, w_astore, w_iadd, w_isub, w_imul, w_iand, w_ior, w_ixor, w_ishl, w_ishr, w_ineg, w_i2c, w_dup, w_pop, w_dup_x1, w_dup_x2, w_dup2, w_ifeq, w_ifne, w_iflt, w_ifge, w_ifgt, w_ifle, w_iceq, w_icne, w_iclt, w_icge, w_icgt, w_icle, w_ret, w_iret, w_aret, w_max, w_sld, w_slen, w_new, w_newa, w_newq, w_obj, w_getf, w_putf, w_iald, w_iast, w_alen, w_aald, w_aast, w_copy, List.getElem?_cons_zero, List.getElem?_cons_succ, List.set_cons_zero, List.set_cons_succ, List.length_cons, List.length_nil, List.cons_append, List.nil_append, Option.some.injEq, exists_eq_left', true_and, and_true, Option.toList, Value.category, l_0, l_1, l_2, l_3, l_4, l_8, l_9, l_10, l_12, l_13, l_15, l_26, l_32, l_40, l_41, l_42, l_43, l_45, l_46, l_48, l_49, l_50, l_51, l_59, l_60, l_61, l_62, l_63, l_65, l_90, l_91, l_93, l_94, l_96, l_97, l_100, l_122, l_123, l_124, l_125, l_126, l_161, l_1000, l_67108863, q_nb0, q_nb1, q_ni, q_fi, q_fb0, q_fb1, e, if_true, n01, not_false_eq_true]
        exact p_rr2 hn ht hb H3 HR3 hE2 (rG_eq hG (hA2 3 (by decide)) (hA2 4 (by decide)) (hx2 4 (by decide) (by decide))) (rP_eq hP (hA2 5 (by decide)) (hx2 5 (by decide) (by decide)) (hx2 6 (by decide) (by decide))) (((fr_s fr0).tr hf2).tr (fr_s hf3)) (by omega) (by omega)
      · simp only [e, if_false] at H3
        simp only [w_const, w_iload, w_aload, w_iinc, w_istore, w_astore, w_iadd, w_isub, w_imul, w_iand, w_ior, w_ixor, w_ishl, w_ishr, w_ineg, w_i2c, w_dup, w_pop, w_dup_x1, w_dup_x2, w_dup2, w_ifeq, w_ifne, w_iflt, w_ifge, w_ifgt, w_ifle, w_iceq, w_icne, w_iclt, w_icge, w_icgt, w_icle, w_ret, w_iret, w_aret, w_max, w_sld, w_slen, w_new, w_newa, w_newq, w_obj, w_getf, w_putf, w_iald, w_iast, w_alen, w_aald, w_aast, w_copy, List.getElem?_cons_zero, List.getElem?_cons_succ, List.set_cons_zero, List.set_cons_succ, List.length_cons, List.length_nil, List.cons_append, List.nil_append, Option.some.injEq, exists_eq_left', true_and, and_true, Option.toList, Value.category, l_0, l_1, l_2, l_3, l_4, l_8, l_9, l_10, l_12, l_13, l_15, l_26, l_32, l_40, l_41, l_42, l_43, l_45, l_46, l_48, l_49, l_50, l_51, l_59, l_60, l_61, l_62, l_63, l_65, l_90, l_91, l_93, l_94, l_96, l_97, l_100, l_122, l_123, l_124, l_125, l_126, l_161, l_1000, l_67108863, q_nb0, q_nb1, q_ni, q_fi, q_fb0, q_fb1, e, if_false, not_true, fX2_readRule_34]
        exact ⟨a', set', u.toNat, A', x', H3, hs2, HR3, ((fr_s fr0).tr hf2).tr (fr_s hf3), rfl⟩
  · simp only [w_const, w_iload, w_aload, w_iinc, w_istore, w_astore, w_iadd, w_isub, w_imul, w_iand, w_ior, w_ixor, w_ishl, w_ishr, w_ineg, w_i2c, w_dup, w_pop, w_dup_x1, w_dup_x2, w_dup2, w_ifeq, w_ifne, w_iflt, w_ifge, w_ifgt, w_ifle, w_iceq, w_icne, w_iclt, w_icge, w_icgt, w_icle, w_ret, w_iret, w_aret, w_max, w_sld, w_slen, w_new, w_newa, w_newq, w_obj, w_getf, w_putf, w_iald, w_iast, w_alen, w_aald, w_aast, w_copy, List.getElem?_cons_zero, List.getElem?_cons_succ, List.set_cons_zero, List.set_cons_succ, List.length_cons, List.length_nil, List.cons_append, List.nil_append, Option.some.injEq, exists_eq_left', true_and, and_true, Option.toList, Value.category, l_0, l_1, l_2, l_3, l_4, l_8, l_9, l_10, l_12, l_13, l_15, l_26, l_32, l_40, l_41, l_42, l_43, l_45, l_46, l_48, l_49, l_50, l_51, l_59, l_60, l_61, l_62, l_63, l_65, l_90, l_91, l_93, l_94, l_96, l_97, l_100, l_122, l_123, l_124, l_125, l_126, l_161, l_1000, l_67108863, q_nb0, q_nb1, q_ni, q_fi, q_fb0, q_fb1, if_true]
    rw [if_neg (fun q => by obtain ⟨j, j1, j2⟩ := q; exact hj j j1 j2)]
    exact p_rr2 (u := false) hn ht hb H0 HR0 hE hG hP (fr_s fr0) (Nat.zero_le _) (Nat.zero_le _)
end RR
