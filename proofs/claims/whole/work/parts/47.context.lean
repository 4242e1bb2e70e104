/-! rows of elements: the class -/
theorem vS_fr {P : Nat → Prop} {h h' : kv_H} {t : Nat → Nat} {n a saw : Nat} {mn : Nat → Int32} {set : Int32} (H : vS h t n a mn set saw) (f : kv_fr P h h') (h2 : ¬ P 2) (h3 : ¬ P 3) (h4 : ¬ P 4) : vS h' t n a mn set saw := ⟨f.at H.1 h2, f.at H.2.1 h3, f.at H.2.2 h4⟩
def inSR (b : Nat) : Nat → Prop := fun a => a = 2 ∨ inR b a
theorem fr_s {b : Nat} {h h' : kv_H} (f : kv_fr (fun x => x = 2) h h') : kv_fr (inSR b) h h' := f.mono (fun _ q => Or.inl q)
theorem fr_r {b : Nat} {h h' : kv_H} (f : kv_fr (inR b) h h') : kv_fr (inSR b) h h' := f.mono (fun _ q => Or.inr q)
theorem vS_r {b : Nat} {h h' : kv_H} {t : Nat → Nat} {n a saw : Nat} {mn : Nat → Int32} {set : Int32} (hb : 5 < b) (H : vS h t n a mn set saw) (f : kv_fr (inR b) h h') : vS h' t n a mn set saw := vS_fr H f (fun q => by have := q.1; omega) (fun q => by have := q.1; omega) (fun q => by have := q.1; omega)
theorem vR_s {b : Nat} {h h' : kv_H} {A : Nat → Nat → Int32} {x : Nat → Nat} (hb : 5 < b) (H : vR h b A x) (f : kv_fr (fun x => x = 2) h h') : vR h' b A x := vR_fr H f (fun a q r => by have := r.1; omega)
theorem sBr_le {t : Nat → Nat} {e : Nat} : ∀ (f k : Nat) (l : Int32) (k' : Nat) (l' : Int32), sBr t e f k l = some (k', l') → k ≤ k' := by
  intro f
  induction f with
  | zero =>
    intro k l k' l' h
    simp only [sBr, Option.some.injEq, Prod.mk.injEq] at h
    omega
  | succ f ih =>
    intro k l k' l' h
    unfold sBr at h
    split at h
    · split at h
      · split at h
        · have := ih _ _ _ _ h
          omega
        · cases h
      · have := ih _ _ _ _ h
        omega
    · simp only [Option.some.injEq, Prod.mk.injEq] at h
      omega
theorem sAt_ne {t : Nat → Nat} {e p c : Nat} (h : sAt t e p = c) (hc : 0 < c) : p < e := by
  unfold sAt at h
  split at h
  · assumption
  · omega
theorem sBe_le {t : Nat → Nat} {e k0 : Nat} {o : Bool} {f : Nat} {l : Int32} {x : Nat} {s : Int32} (h : sBe t e o (sBr t e f k0 l) = some (x, s)) : k0 < x ∧ x ≤ e := by
  unfold sBe at h
  split at h
  · cases h
  · rename_i k l' hq
    split at h
    · rename_i hc
      simp only [Option.some.injEq, Prod.mk.injEq] at h
      have h1 := sBr_le _ _ _ _ _ hq
      have h2 := sAt_ne hc.2 (by decide)
      omega
    · cases h
theorem sEl_le {t : Nat → Nat} {e : Nat} {mn : Nat → Int32} {N p x : Nat} {s : Int32} {u : Bool} (h : sEl t e mn N p = some (x, s, u)) : p < e ∧ p < x ∧ x ≤ e := by
  unfold sEl at h
  split at h
  · rename_i q
    have := (sAt_pos q).1
    simp only [Option.some.injEq, Prod.mk.injEq] at h
    omega
  · split at h
    · rename_i q
      have := sAt_ne q (by decide)
      simp only [Option.some.injEq, Prod.mk.injEq] at h
      omega
    · split at h
      · rename_i q
        have := sAt_ne (c := sAt t e p) rfl (by have := (cap_le q).1; omega)
        simp only [Option.some.injEq, Prod.mk.injEq] at h
        omega
      · split at h
        · rename_i q
          have q2 := sAt_ne q (by decide)
          split at h
          · cases h
          · rename_i x' s' hb
            have hb2 := sBe_le hb
            simp only [Option.some.injEq, Prod.mk.injEq] at h
            have : p + 1 ≤ (if sAt t e (p + 1) = 94 then p + 1 + 1 else p + 1) := by split <;> omega
            omega
        · cases h
def sCtx (t : Nat → Nat) (e : Nat) (mn : Nat → Int32) (N : Nat) : Nat → Nat → List (Int32 × Nat × Nat) → Bool → Option (Nat × List (Int32 × Nat × Nat) × Bool)
  | 0, p, els, u => some (p, els, u)
  | f + 1, p, els, u => if bgn (sAt t e p) = true then (match sEl t e mn N p with
      | none => none
      | some (x, s, w) => sCtx t e mn N f (if qnt (sAt t e x) = true then x + 1 else x) (els ++ [(s, if qnt (sAt t e x) = true then sAt t e x else 0, 0)]) (u || w))
    else some (p, els, u)
theorem qnt_ne {t : Nat → Nat} {e p : Nat} (h : qnt (sAt t e p) = true) : p < e := by
  refine sAt_ne (c := sAt t e p) rfl ?_
  unfold qnt at h
  simp only [Bool.or_eq_true, decide_eq_true_eq] at h
  omega
theorem nx_le {t : Nat → Nat} {e p x : Nat} (h : p < x ∧ x ≤ e) : p < (if qnt (sAt t e x) = true then x + 1 else x) ∧ (if qnt (sAt t e x) = true then x + 1 else x) ≤ e := by
  split
  · rename_i q
    have := qnt_ne q
    omega
  · omega
theorem sCtx_le {t : Nat → Nat} {e : Nat} {mn : Nat → Int32} {N : Nat} : ∀ (f p : Nat) (els : List (Int32 × Nat × Nat)) (u : Bool) (p' : Nat) (els' : List (Int32 × Nat × Nat)) (u' : Bool), sCtx t e mn N f p els u = some (p', els', u') → p ≤ e → els.length ≤ p → p ≤ p' ∧ p' ≤ e ∧ els'.length ≤ p' := by
  intro f
  induction f with
  | zero =>
    intro p els u p' els' u' h h1 h2
    simp only [sCtx, Option.some.injEq, Prod.mk.injEq] at h
    obtain ⟨rfl, rfl, rfl⟩ := h
    omega
  | succ f ih =>
    intro p els u p' els' u' h h1 h2
    unfold sCtx at h
    split at h
    · split at h
      · cases h
      · rename_i x s w hE
        have hx := sEl_le hE
        have hn := nx_le (t := t) hx.2
        have := ih _ _ _ _ _ _ h hn.2 (by simp; omega)
        omega
    · simp only [Option.some.injEq, Prod.mk.injEq] at h
      obtain ⟨rfl, rfl, rfl⟩ := h
      omega
def pCx (t : Nat → Nat) (n : Nat) (mn : Nat → Int32) (b : Nat) (A : Nat → Nat → Int32) (x : Nat → Nat) (h0 : kv_H) (q : Option (Nat × List (Int32 × Nat × Nat) × Bool)) (v : Option Value) (h' : kv_H) : Prop := ∃ a' set' saw' A' x', vS h' t n a' mn set' saw' ∧ saw' < 2 ∧ vR h' b A' x' ∧ kv_fr (inSR b) h0 h' ∧ match q with
  | none => v = some (.int (nI 0))
  | some (p, els, u) => v = some (.int (nI 1)) ∧ a' = p ∧ saw' = u.toNat ∧ rE A' x' els ∧ (∀ k, 3 ≤ k → A' k = A k) ∧ ∀ k, k ≠ 0 → k ≠ 3 → x' k = x k
theorem tn_lt (u : Bool) : u.toNat < 2 := by cases u <;> decide
theorem tn_or (u w : Bool) : (if w = true then 1 else u.toNat) = (u || w).toNat := by cases u <;> cases w <;> rfl
theorem p_ctx_loop {t : Nat → Nat} {n b : Nat} {mn : Nat → Int32} {h0 : kv_H} {A0 : Nat → Nat → Int32} {x0 : Nat → Nat} (hn : n ≤ 48) (ht : ∀ i, t i < 128) (hb : 5 < b) : ∀ (f i a : Nat) (els : List (Int32 × Nat × Nat)) (u : Bool) (set : Int32) (A : Nat → Nat → Int32) (x : Nat → Nat) (h : kv_H), i + f = n → a ≤ n → els.length ≤ a → vS h t n a mn set u.toNat → vR h b A x → rE A x els → kv_fr (inSR b) h0 h → (∀ k, 3 ≤ k → A k = A0 k) → (∀ k, k ≠ 0 → k ≠ 3 → x k = x0 k) → wp (kv_lim bX2_readContext 2) [some (.ref 2), some (.ref b), some (.int (nI i))] [] h (pCx t n mn b A0 x0 h0 (sCtx t n mn n f a els u)) := by
  intro f
  induction f with
  | zero =>
    intro i a els u set A x h hi ha hl H HR hE hf hA hx
    refine tX2_readContext_2 ?_
    have e : n ≤ i := by omega
    simp only [fX2_readContext_2, fX2_readContext_47, w_const, w_iload, w_aload, w_iinc, w_istore, w_astore, w_iadd, w_isub, w_imul, w_iand, w_ior, w_ixor, w_ishl, w_ishr, w_ineg, w_i2c, w_dup, w_pop, w_dup_x1, w_dup_x2, w_dup2, w_ifeq, w_ifne, w_iflt, w_ifge, w_ifgt, w_ifle, w_iceq, w_icne, w_iclt, w_icge, w_icgt, w_icle, w_ret, w_iret, w_aret, w_max, w_sld, w_slen, w_new, w_newa, w_newq, w_obj, w_getf, w_putf, w_iald, w_iast, w_alen, w_aald, w_aast, w_copy, List.getElem?_cons_zero, List.getElem?_cons_succ, List.set_cons_zero, List.set_cons_succ, List.length_cons, List.length_nil, List.cons_append, List.nil_append, Option.some.injEq, exists_eq_left', true_and, and_true, Option.toList, Value.category, l_0, l_1, l_2, l_3, l_4, l_8, l_9, l_10, l_12, l_13, l_15, l_26, l_32, l_40, l_41, l_42, l_43, l_45, l_46, l_48, l_49, l_50, l_51, l_59, l_60, l_61, l_62, l_63, l_65, l_90, l_91, l_93, l_94, l_96, l_97, l_100, l_122, l_123, l_124, l_125, l_126, l_161, l_1000, l_67108863, q_nb0, q_nb1, q_ni, q_fi, q_fb0, q_fb1, H.1, q_le (show n < 2147483648 by omega) (show i < 2147483648 by omega), e, if_true]
    exact ⟨a, set, u.toNat, A, x, H, tn_lt u, HR, hf, rfl, rfl, rfl, hE, hA, hx⟩
  | succ f ih =>
    intro i a els u set A x h hi ha hl H HR hE hf hA hx
    refine tX2_readContext_2 ?_
    have e : ¬ n ≤ i := by omega
    have hc := sAt_lt (n := n) (a := a) ht
    simp only [fX2_readContext_2, fX2_readContext_10, w_const, w_iload, w_aload, w_iinc, w_istore, w_astore, w_iadd, w_isub, w_imul, w_iand, w_ior, w_ixor, w_ishl, w_ishr, w_ineg, w_i2c, w_dup, w_pop, w_dup_x1, w_dup_x2, w_dup2, w_ifeq, w_ifne, w_iflt, w_ifge, w_ifgt, w_ifle, w_iceq, w_icne, w_iclt, w_icge, w_icgt, w_icle, w_ret, w_iret, w_aret, w_max, w_sld, w_slen, w_new, w_newa, w_newq, w_obj, w_getf, w_putf, w_iald, w_iast, w_alen, w_aald, w_aast, w_copy, List.getElem?_cons_zero, List.getElem?_cons_succ, List.set_cons_zero, List.set_cons_succ, List.length_cons, List.length_nil, List.cons_append, List.nil_append, Option.some.injEq, exists_eq_left', true_and, and_true, Option.toList, Value.category, l_0, l_1, l_2, l_3, l_4, l_8, l_9, l_10, l_12, l_13, l_15, l_26, l_32, l_40, l_41, l_42, l_43, l_45, l_46, l_48, l_49, l_50, l_51, l_59, l_60, l_61, l_62, l_63, l_65, l_90, l_91, l_93, l_94, l_96, l_97, l_100, l_122, l_123, l_124, l_125, l_126, l_161, l_1000, l_67108863, q_nb0, q_nb1, q_ni, q_fi, q_fb0, q_fb1, H.1, q_le (show n < 2147483648 by omega) (show i < 2147483648 by omega), e, if_false]
    refine w_callV0 (r := []) H.1 (p_next H hn (by omega) ht) (by decide) ?_
    rintro v1 h1 ⟨rfl, rfl⟩
    simp only [w_const, w_iload, w_aload, w_iinc, w_istore, w_astore, w_iadd, w_isub, w_imul, w_iand, w_ior, w_ixor, w_ishl, w_ishr, w_ineg, w_i2c, w_dup, w_pop, w_dup_x1, w_dup_x2, w_dup2, w_ifeq, w_ifne, w_iflt, w_ifge, w_ifgt, w_ifle, w_iceq, w_icne, w_iclt, w_icge, w_icgt, w_icle, w_ret, w_iret, w_aret, w_max, w_sld, w_slen, w_new, w_newa, w_newq, w_obj, w_getf, w_putf, w_iald, w_iast, w_alen, w_aald, w_aast, w_copy, List.getElem?_cons_zero, List.getElem?_cons_succ, List.set_cons_zero, List.set_cons_succ, List.length_cons, List.length_nil, List.cons_append, List.nil_append, Option.some.injEq, exists_eq_left', true_and, and_true, Option.toList, Value.category, l_0, l_1, l_2, l_3, l_4, l_8, l_9, l_10, l_12, l_13, l_15, l_26, l_32, l_40, l_41, l_42, l_43, l_45, l_46, l_48, l_49, l_50, l_51, l_59, l_60, l_61, l_62, l_63, l_65, l_90, l_91, l_93, l_94, l_96, l_97, l_100, l_122, l_123, l_124, l_125, l_126, l_161, l_1000, l_67108863, q_nb0, q_nb1, q_ni, q_fi, q_fb0, q_fb1]
    refine w_callS1 (r := []) (p_bgn (by omega) h1) (by decide) ?_
    rintro v1 h2 ⟨rfl, rfl⟩
    simp only [w_const, w_iload, w_aload, w_iinc, w_istore, w_astore, w_iadd, w_isub, w_imul, w_iand, w_ior, w_ixor, w_ishl, w_ishr, w_ineg, w_i2c, w_dup, w_pop, w_dup_x1, w_dup_x2, w_dup2, w_ifeq, w_ifne, w_iflt, w_ifge, w_ifgt, w_ifle, w_iceq, w_icne, w_iclt, w_icge, w_icgt, w_icle, w_ret, w_iret, w_aret, w_max, w_sld, w_slen, w_new, w_newa, w_newq, w_obj, w_getf, w_putf, w_iald, w_iast, w_alen, w_aald, w_aast, w_copy, List.getElem?_cons_zero, List.getElem?_cons_succ, List.set_cons_zero, List.set_cons_succ, List.length_cons, List.length_nil, List.cons_append, List.nil_append, Option.some.injEq, exists_eq_left', true_and, and_true, Option.toList, Value.category, l_0, l_1, l_2, l_3, l_4, l_8, l_9, l_10, l_12, l_13, l_15, l_26, l_32, l_40, l_41, l_42, l_43, l_45, l_46, l_48, l_49, l_50, l_51, l_59, l_60, l_61, l_62, l_63, l_65, l_90, l_91, l_93, l_94, l_96, l_97, l_100, l_122, l_123, l_124, l_125, l_126, l_161, l_1000, l_67108863, q_nb0, q_nb1, q_ni, q_fi, q_fb0, q_fb1, q_b]
    unfold sCtx
    by_cases e1 : bgn (sAt t n a) = true
    · simp only [e1, Bool.true_eq_false, if_false, if_true]
      simp only [fX2_readContext_20, w_const, w_iload, w_aload, w_iinc, w_istore, w_astore, w_iadd, w_isub, w_imul, w_iand, w_ior, w_ixor, w_ishl, w_ishr, w_ineg, w_i2c, w_dup, w_pop, w_dup_x1, w_dup_x2, w_dup2, w_ifeq, w_ifne, w_iflt, w_ifge, w_ifgt, w_ifle, w_iceq, w_icne, w_iclt, w_icge, w_icgt, w_icle, w_ret, w_iret, w_aret, w_max, w_sld, w_slen, w_new, w_newa, w_newq, w_obj, w_getf, w_putf, w_iald, w_iast, w_alen, w_aald, w_aast, w_copy, List.getElem?_cons_zero, List.getElem?_cons_succ, List.set_cons_zero, List.set_cons_succ, List.length_cons, List.length_nil, List.cons_append, List.nil_append, Option.some.injEq, exists_eq_left', true_and, and_true, Option.toList, Value.category, l_0, l_1, l_2, l_3, l_4, l_8, l_9, l_10, l_12, l_13, l_15, l_26, l_32, l_40, l_41, l_42, l_43, l_45, l_46, l_48, l_49, l_50, l_51, l_59, l_60, l_61, l_62, l_63, l_65, l_90, l_91, l_93, l_94, l_96, l_97, l_100, l_122, l_123, l_124, l_125, l_126, l_161, l_1000, l_67108863, q_nb0, q_nb1, q_ni, q_fi, q_fb0, q_fb1]
      refine w_callV0 (r := []) H.1 (p_element H hn (by omega) ht (tn_lt u)) (by decide) ?_
      rintro v1 h3 ⟨a', set', saw', H3, hs3, hf3, hq⟩
      have HR3 := vR_s hb HR hf3
      cases hEl : sEl t n mn n a with
      | none =>
        rw [hEl] at hq
        dsimp only at hq
        subst hq
        simp only [fX2_readContext_27, w_const, w_iload, w_aload, w_iinc, w_istore, w_astore, w_iadd, w_isub, w_imul, w_iand, w_ior, w_ixor, w_ishl, w_ishr, w_ineg, w_i2c, w_dup, w_pop, w_dup_x1, w_dup_x2, w_dup2, w_ifeq, w_ifne, w_iflt, w_ifge, w_ifgt, w_ifle, w_iceq, w_icne, w_iclt, w_icge, w_icgt, w_icle, w_ret, w_iret, w_aret, w_max, w_sld, w_slen, w_new, w_newa, w_newq, w_obj, w_getf, w_putf, w_iald, w_iast, w_alen, w_aald, w_aast, w_copy, List.getElem?_cons_zero, List.getElem?_cons_succ, List.set_cons_zero, List.set_cons_succ, List.length_cons, List.length_nil, List.cons_append, List.nil_append, Option.some.injEq, exists_eq_left', true_and, and_true, Option.toList, Value.category, l_0, l_1, l_2, l_3, l_4, l_8, l_9, l_10, l_12, l_13, l_15, l_26, l_32, l_40, l_41, l_42, l_43, l_45, l_46, l_48, l_49, l_50, l_51, l_59, l_60, l_61, l_62, l_63, l_65, l_90, l_91, l_93, l_94, l_96, l_97, l_100, l_122, l_123, l_124, l_125, l_126, l_161, l_1000, l_67108863, q_nb0, q_nb1, q_ni, q_fi, q_fb0, q_fb1, not_true, if_false]
        exact ⟨a', set', saw', A, x, H3, hs3, HR3, hf.tr (fr_s hf3), rfl⟩
      | some q =>
        obtain ⟨y, s, w⟩ := q
        rw [hEl] at hq
        obtain ⟨rfl, rfl, rfl, rfl⟩ := hq
        have hle := sEl_le hEl
        have hnx := nx_le (t := t) hle.2
        simp only [fX2_readContext_29, w_const, w_iload, w_aload, w_iinc, w_istore, w_astore, w_iadd, w_isub, w_imul, w_iand, w_ior, w_ixor, w_ishl, w_ishr, w_ineg, w_i2c, w_dup, w_pop, w_dup_x1, w_dup_x2, w_dup2, w_ifeq, w_ifne, w_iflt, w_ifge, w_ifgt, w_ifle, w_iceq, w_icne, w_iclt, w_icge, w_icgt, w_icle, w_ret, w_iret, w_aret, w_max, w_sld, w_slen, w_new, w_newa, w_newq, w_obj, w_getf, w_putf, w_iald, w_iast, w_alen, w_aald, w_aast, w_copy, List.getElem?_cons_zero, List.getElem?_cons_succ, List.set_cons_zero, List.set_cons_succ, List.length_cons, List.length_nil, List.cons_append, List.nil_append, Option.some.injEq, exists_eq_left', true_and, and_true, Option.toList, Value.category, l_0, l_1, l_2, l_3, l_4, l_8, l_9, l_10, l_12, l_13, l_15, l_26, l_32, l_40, l_41, l_42, l_43, l_45, l_46, l_48, l_49, l_50, l_51, l_59, l_60, l_61, l_62, l_63, l_65, l_90, l_91, l_93, l_94, l_96, l_97, l_100, l_122, l_123, l_124, l_125, l_126, l_161, l_1000, l_67108863, q_nb0, q_nb1, q_ni, q_fi, q_fb0, q_fb1, n01, not_false_eq_true, if_true, H3.1]
        rw [tn_or] at H3
        refine w_callV0 (r := [.int set', .ref b]) H3.1 (p_quant H3 hn (by omega) ht) (Nat.le_of_ble_eq_true rfl) ?_
        rintro v1 h4 ⟨rfl, H4, hf4⟩
        have HR4 := vR_s hb HR3 hf4
        simp only [w_const, w_iload, w_aload, w_iinc, w_istore, w_astore, w_iadd, w_isub, w_imul, w_iand, w_ior, w_ixor, w_ishl, w_ishr, w_ineg, w_i2c, w_dup, w_pop, w_dup_x1, w_dup_x2, w_dup2, w_ifeq, w_ifne, w_iflt, w_ifge, w_ifgt, w_ifle, w_iceq, w_icne, w_iclt, w_icge, w_icgt, w_icle, w_ret, w_iret, w_aret, w_max, w_sld, w_slen, w_new, w_newa, w_newq, w_obj, w_getf, w_putf, w_iald, w_iast, w_alen, w_aald, w_aast, w_copy, List.getElem?_cons_zero, List.getElem?_cons_succ, List.set_cons_zero, List.set_cons_succ, List.length_cons, List.length_nil, List.cons_append, List.nil_append, Option.some.injEq, exists_eq_left', true_and, and_true, Option.toList, Value.category, l_0, l_1, l_2, l_3, l_4, l_8, l_9, l_10, l_12, l_13, l_15, l_26, l_32, l_40, l_41, l_42, l_43, l_45, l_46, l_48, l_49, l_50, l_51, l_59, l_60, l_61, l_62, l_63, l_65, l_90, l_91, l_93, l_94, l_96, l_97, l_100, l_122, l_123, l_124, l_125, l_126, l_161, l_1000, l_67108863, q_nb0, q_nb1, q_ni, q_fi, q_fb0, q_fb1]
        have hq2 : (if qnt (sAt t n a') = true then sAt t n a' else 0) < 128 := by
          have := sAt_lt (n := n) (a := a') ht
          split <;> omega
        refine w_callV2 (r := []) HR4.1 (p_addElement (g := 0) HR4 hE hq2 (by omega)) (by decide) ?_
        rintro v1 h5 ⟨rfl, A5, x5, HR5, hE5, hf5, hA5, hx5⟩
        simp only [w_const, w_iload, w_aload, w_iinc, w_istore, w_astore, w_iadd, w_isub, w_imul, w_iand, w_ior, w_ixor, w_ishl, w_ishr, w_ineg, w_i2c, w_dup, w_pop, w_dup_x1, w_dup_x2, w_dup2, w_ifeq, w_ifne, w_iflt, w_ifge, w_ifgt, w_ifle, w_iceq, w_icne, w_iclt, w_icge, w_icgt, w_icle, w_ret, w_iret, w_aret, w_max, w_sld, w_slen, w_new, w_newa, w_newq, w_obj, w_getf, w_putf, w_iald, w_iast, w_alen, w_aald, w_aast, w_copy, List.getElem?_cons_zero, List.getElem?_cons_succ, List.set_cons_zero, List.set_cons_succ, List.length_cons, List.length_nil, List.cons_append, List.nil_append, Option.some.injEq, exists_eq_left', true_and, and_true, Option.toList, Value.category, l_0, l_1, l_2, l_3, l_4, l_8, l_9, l_10, l_12, l_13, l_15, l_26, l_32, l_40, l_41, l_42, l_43, l_45, l_46, l_48, l_49, l_50, l_51, l_59, l_60, l_61, l_62, l_63, l_65, l_90, l_91, l_93, l_94, l_96, l_97, l_100, l_122, l_123, l_124, l_125, l_126, l_161, l_1000, l_67108863, q_nb0, q_nb1, q_ni, q_fi, q_fb0, q_fb1, q_add]
        refine ih (i + 1) _ _ _ set' A5 x5 h5 (by omega) hnx.2 (by simp; omega) (vS_r hb H4 hf5) HR5 hE5 (((hf.tr (fr_s hf3)).tr (fr_s hf4)).tr (fr_r hf5)) (fun k hk => (hA5 k hk).trans (hA k hk)) (fun k k0 k3 => (hx5 k k0 k3).trans (hx k k0 k3))
    · have e1' : bgn (sAt t n a) = false := by simpa using e1
      simp only [e1', if_true, Bool.false_eq_true, if_false]
      simp only [fX2_readContext_47, w_const, w_iload, w_aload, w_iinc, w_istore, w_astore, w_iadd, w_isub, w_imul, w_iand, w_ior, w_ixor, w_ishl, w_ishr, w_ineg, w_i2c, w_dup, w_pop, w_dup_x1, w_dup_x2, w_dup2, w_ifeq, w_ifne, w_iflt, w_ifge, w_ifgt, w_ifle, w_iceq, w_icne, w_iclt, w_icge, w_icgt, w_icle, w_ret, w_iret, w_aret, w_max, w_sld, w_slen, w_new, w_newa, w_newq, w_obj, w_getf, w_putf, w_iald, w_iast, w_alen, w_aald, w_aast, w_copy, List.getElem?_cons_zero, List.getElem?_cons_succ, List.set_cons_zero, List.set_cons_succ, List.length_cons, List.length_nil, List.cons_append, List.nil_append, Option.some.injEq, exists_eq_left', true_and, and_true, Option.toList, Value.category, l_0, l_1, l_2, l_3, l_4, l_8, l_9, l_10, l_12, l_13, l_15, l_26, l_32, l_40, l_41, l_42, l_43, l_45, l_46, l_48, l_49, l_50, l_51, l_59, l_60, l_61, l_62, l_63, l_65, l_90, l_91, l_93, l_94, l_96, l_97, l_100, l_122, l_123, l_124, l_125, l_126, l_161, l_1000, l_67108863, q_nb0, q_nb1, q_ni, q_fi, q_fb0, q_fb1]
      exact ⟨a, set, u.toNat, A, x, H, tn_lt u, HR, hf, rfl, rfl, rfl, hE, hA, hx⟩
theorem p_context {t : Nat → Nat} {n a b : Nat} {mn : Nat → Int32} {set : Int32} {u : Bool} {h : kv_H} {A : Nat → Nat → Int32} {x : Nat → Nat} {els : List (Int32 × Nat × Nat)} (H : vS h t n a mn set u.toNat) (HR : vR h b A x) (hE : rE A x els) (hn : n ≤ 48) (ht : ∀ i, t i < 128) (hb : 5 < b) (ha : a ≤ n) (hl : els.length ≤ a) : wm mX2_readContext [.ref 2, .ref b] h (pCx t n mn b A x h (sCtx t n mn n n a els u)) := by
  refine iX2_readContext rfl rfl ?_
  simp only [fX2_readContext_0, w_const, w_iload, w_aload, w_iinc, w_istore, w_astore, w_iadd, w_isub, w_imul, w_iand, w_ior, w_ixor, w_ishl, w_ishr, w_ineg, w_i2c, w_dup, w_pop, w_dup_x1, w_dup_x2, w_dup2, w_ifeq, w_ifne, w_iflt, w_ifge, w_ifgt, w_ifle, w_iceq, w_icne, w_iclt, w_icge, w_icgt, w_icle, w_ret, w_iret, w_aret, w_max, w_sld, w_slen, w_new, w_newa, w_newq, w_obj, w_getf, w_putf, w_iald, w_iast, w_alen, w_aald, w_aast, w_copy, List.getElem?_cons_zero, List.getElem?_cons_succ, List.set_cons_zero, List.set_cons_succ, List.length_cons, List.length_nil, List.cons_append, List.nil_append, Option.some.injEq, exists_eq_left', true_and, and_true, Option.toList, Value.category, l_0, l_1, l_2, l_3, l_4, l_8, l_9, l_10, l_12, l_13, l_15, l_26, l_32, l_40, l_41, l_42, l_43, l_45, l_46, l_48, l_49, l_50, l_51, l_59, l_60, l_61, l_62, l_63, l_65, l_90, l_91, l_93, l_94, l_96, l_97, l_100, l_122, l_123, l_124, l_125, l_126, l_161, l_1000, l_67108863, q_nb0, q_nb1, q_ni, q_fi, q_fb0, q_fb1]
  exact p_ctx_loop hn ht hb n 0 a els u set A x h (by omega) ha hl H HR hE kv_fr.rf (fun _ _ => rfl) (fun _ _ _ => rfl)
