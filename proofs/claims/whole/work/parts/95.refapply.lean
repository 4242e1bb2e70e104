/-! apply: the reference -/
def fY (l : List Nat) (f : Nat → Int32) : Prop := ∀ (i c : Nat), l[i]? = some c → f i = nI c
theorem fY_push {l : List Nat} {f : Nat → Int32} (h : fY l f) (c : Nat) : fY (l ++ [c]) (upd f l.length (nI c)) := by
  intro i d hd
  unfold upd
  by_cases q : i = l.length
  · subst q
    rw [if_pos rfl]
    simp at hd
    rw [hd]
  · rw [if_neg q]
    by_cases q2 : i < l.length
    · rw [List.getElem?_append_left q2] at hd
      exact h i d hd
    · have := (List.getElem?_eq_some_iff.mp hd).1
      simp at this
      omega
theorem fY_lt {l : List Nat} {f : Nat → Int32} (h : fY l f) {i : Nat} (hi : i < l.length) : f i = nI (gt l i) := by
  refine h i _ ?_
  unfold gt
  rw [List.getD_eq_getElem?_getD, List.getElem?_eq_getElem hi]
  rfl
def aY (y : Nat → Int32) (B : Nat → Nat → Int32) (j : Nat) (r : Rl) (lt : Nat → Nat) (sz pl ap : Nat) : Prop := yR B j r ∧ y 6 = nI sz ∧ y 7 = nI pl ∧ y 8 = nI ap ∧ y 11 = nI (bgp r lt sz pl r.2.2.1) ∧ (∀ i, i < sz → B 16 i = nI (lt i)) ∧ ∀ c, c ∈ r.2.2.2.2.2.1 → sml c = false → B 18 (c - 48) = nI (bgp r lt sz pl (sSr r (c - 49))) ∧ B 19 (c - 48) = nI (bgp r lt sz pl (sEr r (c - 49)))
section RAP
variable {j : Nat} {r : Rl} {lt : Nat → Nat} {sz pl ap : Nat}
theorem aY_17 {y : Nat → Int32} {B B' : Nat → Nat → Int32} (a : aY y B j r lt sz pl ap) (e : ∀ k, k ≠ 17 → B' k = B k) : aY y B' j r lt sz pl ap := by
  obtain ⟨a1, a2, a3, a4, a5, a6, a7⟩ := a
  refine ⟨?_, a2, a3, a4, a5, by rw [e 16 (by decide)]; exact a6, by rw [e 18 (by decide), e 19 (by decide)]; exact a7⟩
  unfold yR at *
  rw [e 6 (by decide), e 7 (by decide), e 8 (by decide), e 9 (by decide), e 10 (by decide), e 11 (by decide), e 12 (by decide), e 13 (by decide), e 14 (by decide), e 15 (by decide)]
  exact a1
theorem aY_pc {y : Nat → Int32} {B : Nat → Nat → Int32} (a : aY y B j r lt sz pl ap) {k : Nat} (hk : k < r.2.2.2.2.2.1.length) : B 15 (12 * j + k) = nI (pcr r k) := by
  refine a.1.2.2.2.2.2.2 k _ ?_
  unfold pcr
  rw [List.getD_eq_getElem?_getD, List.getElem?_eq_getElem hk]
  rfl
theorem pcr_lt (w : wfC r) {k : Nat} (hk : k < r.2.2.2.2.2.1.length) : pcr r k < 128 := by
  rcases w.1.2.2.2.2.2.2.1 _ (pcr_mem hk) with q | q
  · have := sml_le q
    omega
  · omega
theorem r_given {h : kv_H} {y : Nat → Int32} {B : Nat → Nat → Int32} (H : vY h y B) (a : aY y B j r lt sz pl ap) (w : wfC r) (hj : j < 8) (hs : sz ≤ 60) (hp : pl ≤ sz) {k : Nat} (hk : k < r.2.2.2.2.2.1.length) : wm mX5_given [.ref 74, .int (nI j), .int (nI k)] h (fun v h' => v = some (.int (nI (wdt (bgp r lt sz pl) (sSr r) (sEr r) (pcr r k)))) ∧ h' = h) := by
  have h12 := w.2.2.2.1
  have gk : 12 * j + k < 2147483648 := by omega
  have pk := pcr_lt w hk
  refine iX5_given rfl rfl rfl ?_
  simp only [fX5_given_0, w_const, w_iload, w_aload, w_iinc, w_istore, w_astore, w_iadd, w_isub, w_imul, w_iand, w_ior, w_ixor, w_ishl, w_ishr, w_ineg, w_i2c, w_dup, w_pop, w_dup_x1, w_dup_x2, w_dup2, w_ifeq, w_ifne, w_iflt, w_ifge, w_ifgt, w_ifle, w_iceq, w_icne, w_iclt, w_icge, w_icgt, w_icle, w_ret, w_iret, w_aret, w_max, w_sld, w_slen, w_new, w_newa, w_newq, w_obj, w_getf, w_putf, w_iald, w_iast, w_alen, w_aald, w_aast, w_copy, List.getElem?_cons_zero, List.getElem?_cons_succ, List.set_cons_zero, List.set_cons_succ, List.length_cons, List.length_nil, List.cons_append, List.nil_append, Option.some.injEq, exists_eq_left', true_and, and_true, Option.toList, Value.category, l_0, l_1, l_2, l_3, l_4, l_8, l_9, l_10, l_12, l_13, l_15, l_26, l_32, l_40, l_41, l_42, l_43, l_45, l_46, l_48, l_49, l_50, l_51, l_59, l_60, l_61, l_62, l_63, l_65, l_90, l_91, l_93, l_94, l_96, l_97, l_100, l_122, l_123, l_124, l_125, l_126, l_161, l_1000, l_67108863, q_nb0, q_nb1, q_ni, q_fi, q_fb0, q_fb1, vY_74 H, vY_90 H, q_mul, q_add, q_le (show 0 < 2147483648 by decide) gk, q_clamp gk, Nat.zero_le, show 12 * j + k < 96 by omega, aY_pc a hk]
  refine w_callS1 (r := []) (r_small (show pcr r k < 65536 by omega) h) (by decide) ?_
  rintro v1 h1 ⟨rfl, rfl⟩
  simp only [w_const, w_iload, w_aload, w_iinc, w_istore, w_astore, w_iadd, w_isub, w_imul, w_iand, w_ior, w_ixor, w_ishl, w_ishr, w_ineg, w_i2c, w_dup, w_pop, w_dup_x1, w_dup_x2, w_dup2, w_ifeq, w_ifne, w_iflt, w_ifge, w_ifgt, w_ifle, w_iceq, w_icne, w_iclt, w_icge, w_icgt, w_icle, w_ret, w_iret, w_aret, w_max, w_sld, w_slen, w_new, w_newa, w_newq, w_obj, w_getf, w_putf, w_iald, w_iast, w_alen, w_aald, w_aast, w_copy, List.getElem?_cons_zero, List.getElem?_cons_succ, List.set_cons_zero, List.set_cons_succ, List.length_cons, List.length_nil, List.cons_append, List.nil_append, Option.some.injEq, exists_eq_left', true_and, and_true, Option.toList, Value.category, l_0, l_1, l_2, l_3, l_4, l_8, l_9, l_10, l_12, l_13, l_15, l_26, l_32, l_40, l_41, l_42, l_43, l_45, l_46, l_48, l_49, l_50, l_51, l_59, l_60, l_61, l_62, l_63, l_65, l_90, l_91, l_93, l_94, l_96, l_97, l_100, l_122, l_123, l_124, l_125, l_126, l_161, l_1000, l_67108863, q_nb0, q_nb1, q_ni, q_fi, q_fb0, q_fb1, q_b]
  by_cases e : sml (pcr r k) = false
  · rw [if_pos e]
    obtain ⟨q1, q2, q3, q4, q5, q6⟩ := sg_at w (pcr_mem hk) e
    obtain ⟨b1, b2⟩ := a.2.2.2.2.2.2 _ (pcr_mem hk) e
    have mo := bgp_mono (r := r) (lt := lt) hp (show sSr r (pcr r k - 49) ≤ sEr r (pcr r k - 49) by omega)
    have g1 : pcr r k - 48 < 2147483648 := by omega
    simp only [fX5_given_23, fX5_given_42, w_const, w_iload, w_aload, w_iinc, w_istore, w_astore, w_iadd, w_isub, w_imul, w_iand, w_ior, w_ixor, w_ishl, w_ishr, w_ineg, w_i2c, w_dup, w_pop, w_dup_x1, w_dup_x2, w_dup2, w_ifeq, w_ifne, w_iflt, w_ifge, w_ifgt, w_ifle, w_iceq, w_icne, w_iclt, w_icge, w_icgt, w_icle, w_ret, w_iret, w_aret, w_max, w_sld, w_slen, w_new, w_newa, w_newq, w_obj, w_getf, w_putf, w_iald, w_iast, w_alen, w_aald, w_aast, w_copy, List.getElem?_cons_zero, List.getElem?_cons_succ, List.set_cons_zero, List.set_cons_succ, List.length_cons, List.length_nil, List.cons_append, List.nil_append, Option.some.injEq, exists_eq_left', true_and, and_true, Option.toList, Value.category, l_0, l_1, l_2, l_3, l_4, l_8, l_9, l_10, l_12, l_13, l_15, l_26, l_32, l_40, l_41, l_42, l_43, l_45, l_46, l_48, l_49, l_50, l_51, l_59, l_60, l_61, l_62, l_63, l_65, l_90, l_91, l_93, l_94, l_96, l_97, l_100, l_122, l_123, l_124, l_125, l_126, l_161, l_1000, l_67108863, q_nb0, q_nb1, q_ni, q_fi, q_fb0, q_fb1, vY_74 H, vY_93 H, vY_94 H, q_sub (show 48 ≤ pcr r k by omega), q_le (show 0 < 2147483648 by decide) g1, q_clamp g1, Nat.zero_le, show pcr r k - 48 < 4 by omega, b1, b2, q_sub mo.1]
    unfold wdt
    rw [e]
    simp
  · rw [if_neg e]
    simp only [fX5_given_19, fX5_given_42, w_const, w_iload, w_aload, w_iinc, w_istore, w_astore, w_iadd, w_isub, w_imul, w_iand, w_ior, w_ixor, w_ishl, w_ishr, w_ineg, w_i2c, w_dup, w_pop, w_dup_x1, w_dup_x2, w_dup2, w_ifeq, w_ifne, w_iflt, w_ifge, w_ifgt, w_ifle, w_iceq, w_icne, w_iclt, w_icge, w_icgt, w_icle, w_ret, w_iret, w_aret, w_max, w_sld, w_slen, w_new, w_newa, w_newq, w_obj, w_getf, w_putf, w_iald, w_iast, w_alen, w_aald, w_aast, w_copy, List.getElem?_cons_zero, List.getElem?_cons_succ, List.set_cons_zero, List.set_cons_succ, List.length_cons, List.length_nil, List.cons_append, List.nil_append, Option.some.injEq, exists_eq_left', true_and, and_true, Option.toList, Value.category, l_0, l_1, l_2, l_3, l_4, l_8, l_9, l_10, l_12, l_13, l_15, l_26, l_32, l_40, l_41, l_42, l_43, l_45, l_46, l_48, l_49, l_50, l_51, l_59, l_60, l_61, l_62, l_63, l_65, l_90, l_91, l_93, l_94, l_96, l_97, l_100, l_122, l_123, l_124, l_125, l_126, l_161, l_1000, l_67108863, q_nb0, q_nb1, q_ni, q_fi, q_fb0, q_fb1]
    unfold wdt
    rw [if_pos (by simpa using e)]
def inYp : Nat → Prop := fun a => a = 74 ∨ a = 91 ∨ a = 92
/-- what apply leaves -/
def aQ (y : Nat → Int32) (B : Nat → Nat → Int32) (h0 : kv_H) (j : Nat) (r : Rl) (lt : Nat → Nat) (sz pl ap : Nat) (v : Option Value) (h' : kv_H) : Prop := ∃ y' B', vY h' y' B' ∧ kv_fr inYp h0 h' ∧ (∀ k, k ≠ 16 → k ≠ 17 → B' k = B k) ∧ (∀ k, k < 6 ∨ 10 < k → y' k = y k) ∧ (((100 ≤ ap ∨ 60 < nSz r lt sz pl) ∧ v = some (.int (nI 0)) ∧ B' = B ∧ y' = va_up y 10 (nI 1)) ∨ (¬ (100 ≤ ap ∨ 60 < nSz r lt sz pl) ∧ v = some (.int (nI 1)) ∧ fY (nTx r lt sz pl) (B' 16) ∧ y' 6 = nI (nSz r lt sz pl) ∧ y' 7 = nI (nPl r lt sz pl) ∧ y' 8 = nI (ap + 1) ∧ y' 9 = nI j ∧ y' 10 = y 10))
theorem r_ap5 {h0 : kv_H} {y : Nat → Int32} {B0 : Nat → Nat → Int32} {x2 x6 x7 : Option Value} (hp : pl ≤ sz) (hc : ¬ (100 ≤ ap ∨ 60 < nSz r lt sz pl)) (h8 : y 8 = nI ap) : ∀ (f i : Nat) (B : Nat → Nat → Int32) (h : kv_H), i + f = nSz r lt sz pl → vY h y B → kv_fr inYp h0 h → (∀ k, k ≠ 16 → k ≠ 17 → B k = B0 k) → fY (nTx r lt sz pl) (B 17) → (∀ q, q < i → B 16 q = B 17 q) → wp (kv_lim bX5_apply 263) [some (.ref 74), some (.int (nI j)), x2, some (.int (nI (nSz r lt sz pl))), some (.int (nI (nPl r lt sz pl))), some (.int (nI i)), x6, x7] [] h (aQ y B0 h0 j r lt sz pl ap) := by
  have l1 := nTx_len (r := r) (lt := lt) hp
  intro f
  induction f with
  | zero =>
    intro i B h hi H hf kB hF hq
    refine tX5_apply_263 ?_
    simp only [fX5_apply_263, fX5_apply_289, w_const, w_iload, w_aload, w_iinc, w_istore, w_astore, w_iadd, w_isub, w_imul, w_iand, w_ior, w_ixor, w_ishl, w_ishr, w_ineg, w_i2c, w_dup, w_pop, w_dup_x1, w_dup_x2, w_dup2, w_ifeq, w_ifne, w_iflt, w_ifge, w_ifgt, w_ifle, w_iceq, w_icne, w_iclt, w_icge, w_icgt, w_icle, w_ret, w_iret, w_aret, w_max, w_sld, w_slen, w_new, w_newa, w_newq, w_obj, w_getf, w_putf, w_iald, w_iast, w_alen, w_aald, w_aast, w_copy, List.getElem?_cons_zero, List.getElem?_cons_succ, List.set_cons_zero, List.set_cons_succ, List.length_cons, List.length_nil, List.cons_append, List.nil_append, Option.some.injEq, exists_eq_left', true_and, and_true, Option.toList, Value.category, l_0, l_1, l_2, l_3, l_4, l_8, l_9, l_10, l_12, l_13, l_15, l_26, l_32, l_40, l_41, l_42, l_43, l_45, l_46, l_48, l_49, l_50, l_51, l_59, l_60, l_61, l_62, l_63, l_65, l_90, l_91, l_93, l_94, l_96, l_97, l_100, l_122, l_123, l_124, l_125, l_126, l_161, l_1000, l_67108863, q_nb0, q_nb1, q_ni, q_fi, q_fb0, q_fb1, vY_74 H, q_le (show nSz r lt sz pl < 2147483648 by omega) (show i < 2147483648 by omega), show nSz r lt sz pl ≤ i by omega, if_true]
    refine ⟨by decide, ?_⟩
    have H1 : vY (kv_p h 74 (yo (va_up y 6 (nI (nSz r lt sz pl))))) (va_up y 6 (nI (nSz r lt sz pl))) B := vY_o H
    have f1 : kv_fr inYp h0 (kv_p h 74 (yo (va_up y 6 (nI (nSz r lt sz pl))))) := hf.p (by unfold inYp; decide)
    have eg1 : kv_p h 74 (yo (va_up y 6 (nI (nSz r lt sz pl)))) = kv_p h 74 (.inr (5, [.int (y 0), .ref 75, .ref 76, .int (y 1), .ref 77, .ref 78, .ref 79, .ref 80, .int (y 2), .int (y 3), .int (y 4), .int (y 5), .ref 81, .ref 82, .ref 83, .ref 84, .ref 85, .ref 86, .ref 87, .ref 88, .ref 89, .ref 90, .int (nI (nSz r lt sz pl)), .ref 91, .ref 92, .int (y 7), .int (y 8), .int (y 9), .int (y 10), .int (y 11), .ref 93, .ref 94])) := rfl
    rw [← eg1]
    have u1 : va_up y 6 (nI (nSz r lt sz pl)) 6 = nI (nSz r lt sz pl) := rfl
    have v1 : ∀ k, k ≠ 6 → va_up y 6 (nI (nSz r lt sz pl)) k = y k := fun k hk => va_up_ne _ _ hk
    generalize kv_p h 74 (yo (va_up y 6 (nI (nSz r lt sz pl)))) = k1 at H1 f1 ⊢
    generalize va_up y 6 (nI (nSz r lt sz pl)) = y1 at H1 u1 v1
    simp only [w_const, w_iload, w_aload, w_iinc, w_istore, w_astore, w_iadd, w_isub, w_imul, w_iand, w_ior, w_ixor, w_ishl, w_ishr, w_ineg, w_i2c, w_dup, w_pop, w_dup_x1, w_dup_x2, w_dup2, w_ifeq, w_ifne, w_iflt, w_ifge, w_ifgt, w_ifle, w_iceq, w_icne, w_iclt, w_icge, w_icgt, w_icle, w_ret, w_iret, w_aret, w_max, w_sld, w_slen, w_new, w_newa, w_newq, w_obj, w_getf, w_putf, w_iald, w_iast, w_alen, w_aald, w_aast, w_copy, List.getElem?_cons_zero, List.getElem?_cons_succ, List.set_cons_zero, List.set_cons_succ, List.length_cons, List.length_nil, List.cons_append, List.nil_append, Option.some.injEq, exists_eq_left', true_and, and_true, Option.toList, Value.category, l_0, l_1, l_2, l_3, l_4, l_8, l_9, l_10, l_12, l_13, l_15, l_26, l_32, l_40, l_41, l_42, l_43, l_45, l_46, l_48, l_49, l_50, l_51, l_59, l_60, l_61, l_62, l_63, l_65, l_90, l_91, l_93, l_94, l_96, l_97, l_100, l_122, l_123, l_124, l_125, l_126, l_161, l_1000, l_67108863, q_nb0, q_nb1, q_ni, q_fi, q_fb0, q_fb1, vY_74 H1]
    refine ⟨by decide, ?_⟩
    have H2 : vY (kv_p k1 74 (yo (va_up y1 7 (nI (nPl r lt sz pl))))) (va_up y1 7 (nI (nPl r lt sz pl))) B := vY_o H1
    have f2 : kv_fr inYp h0 (kv_p k1 74 (yo (va_up y1 7 (nI (nPl r lt sz pl))))) := f1.p (by unfold inYp; decide)
    have eg2 : kv_p k1 74 (yo (va_up y1 7 (nI (nPl r lt sz pl)))) = kv_p k1 74 (.inr (5, [.int (y1 0), .ref 75, .ref 76, .int (y1 1), .ref 77, .ref 78, .ref 79, .ref 80, .int (y1 2), .int (y1 3), .int (y1 4), .int (y1 5), .ref 81, .ref 82, .ref 83, .ref 84, .ref 85, .ref 86, .ref 87, .ref 88, .ref 89, .ref 90, .int (y1 6), .ref 91, .ref 92, .int (nI (nPl r lt sz pl)), .int (y1 8), .int (y1 9), .int (y1 10), .int (y1 11), .ref 93, .ref 94])) := rfl
    rw [← eg2]
    have u2 : va_up y1 7 (nI (nPl r lt sz pl)) 7 = nI (nPl r lt sz pl) := rfl
    have v2 : ∀ k, k ≠ 7 → va_up y1 7 (nI (nPl r lt sz pl)) k = y1 k := fun k hk => va_up_ne _ _ hk
    generalize kv_p k1 74 (yo (va_up y1 7 (nI (nPl r lt sz pl)))) = k2 at H2 f2 ⊢
    generalize va_up y1 7 (nI (nPl r lt sz pl)) = y2 at H2 u2 v2
    have e8 : y2 8 = nI ap := (v2 8 (by decide)).trans ((v1 8 (by decide)).trans h8)
    simp only [w_const, w_iload, w_aload, w_iinc, w_istore, w_astore, w_iadd, w_isub, w_imul, w_iand, w_ior, w_ixor, w_ishl, w_ishr, w_ineg, w_i2c, w_dup, w_pop, w_dup_x1, w_dup_x2, w_dup2, w_ifeq, w_ifne, w_iflt, w_ifge, w_ifgt, w_ifle, w_iceq, w_icne, w_iclt, w_icge, w_icgt, w_icle, w_ret, w_iret, w_aret, w_max, w_sld, w_slen, w_new, w_newa, w_newq, w_obj, w_getf, w_putf, w_iald, w_iast, w_alen, w_aald, w_aast, w_copy, List.getElem?_cons_zero, List.getElem?_cons_succ, List.set_cons_zero, List.set_cons_succ, List.length_cons, List.length_nil, List.cons_append, List.nil_append, Option.some.injEq, exists_eq_left', true_and, and_true, Option.toList, Value.category, l_0, l_1, l_2, l_3, l_4, l_8, l_9, l_10, l_12, l_13, l_15, l_26, l_32, l_40, l_41, l_42, l_43, l_45, l_46, l_48, l_49, l_50, l_51, l_59, l_60, l_61, l_62, l_63, l_65, l_90, l_91, l_93, l_94, l_96, l_97, l_100, l_122, l_123, l_124, l_125, l_126, l_161, l_1000, l_67108863, q_nb0, q_nb1, q_ni, q_fi, q_fb0, q_fb1, vY_74 H2, e8, q_add]
    refine ⟨by decide, ?_⟩
    have H3 : vY (kv_p k2 74 (yo (va_up y2 8 (nI (ap + 1))))) (va_up y2 8 (nI (ap + 1))) B := vY_o H2
    have f3 : kv_fr inYp h0 (kv_p k2 74 (yo (va_up y2 8 (nI (ap + 1))))) := f2.p (by unfold inYp; decide)
    have eg3 : kv_p k2 74 (yo (va_up y2 8 (nI (ap + 1)))) = kv_p k2 74 (.inr (5, [.int (y2 0), .ref 75, .ref 76, .int (y2 1), .ref 77, .ref 78, .ref 79, .ref 80, .int (y2 2), .int (y2 3), .int (y2 4), .int (y2 5), .ref 81, .ref 82, .ref 83, .ref 84, .ref 85, .ref 86, .ref 87, .ref 88, .ref 89, .ref 90, .int (y2 6), .ref 91, .ref 92, .int (y2 7), .int (nI (ap + 1)), .int (y2 9), .int (y2 10), .int (y2 11), .ref 93, .ref 94])) := rfl
    rw [← eg3]
    have u3 : va_up y2 8 (nI (ap + 1)) 8 = nI (ap + 1) := rfl
    have v3 : ∀ k, k ≠ 8 → va_up y2 8 (nI (ap + 1)) k = y2 k := fun k hk => va_up_ne _ _ hk
    generalize kv_p k2 74 (yo (va_up y2 8 (nI (ap + 1)))) = k3 at H3 f3 ⊢
    generalize va_up y2 8 (nI (ap + 1)) = y3 at H3 u3 v3
    simp only [w_const, w_iload, w_aload, w_iinc, w_istore, w_astore, w_iadd, w_isub, w_imul, w_iand, w_ior, w_ixor, w_ishl, w_ishr, w_ineg, w_i2c, w_dup, w_pop, w_dup_x1, w_dup_x2, w_dup2, w_ifeq, w_ifne, w_iflt, w_ifge, w_ifgt, w_ifle, w_iceq, w_icne, w_iclt, w_icge, w_icgt, w_icle, w_ret, w_iret, w_aret, w_max, w_sld, w_slen, w_new, w_newa, w_newq, w_obj, w_getf, w_putf, w_iald, w_iast, w_alen, w_aald, w_aast, w_copy, List.getElem?_cons_zero, List.getElem?_cons_succ, List.set_cons_zero, List.set_cons_succ, List.length_cons, List.length_nil, List.cons_append, List.nil_append, Option.some.injEq, exists_eq_left', true_and, and_true, Option.toList, Value.category, l_0, l_1, l_2, l_3, l_4, l_8, l_9, l_10, l_12, l_13, l_15, l_26, l_32, l_40, l_41, l_42, l_43, l_45, l_46, l_48, l_49, l_50, l_51, l_59, l_60, l_61, l_62, l_63, l_65, l_90, l_91, l_93, l_94, l_96, l_97, l_100, l_122, l_123, l_124, l_125, l_126, l_161, l_1000, l_67108863, q_nb0, q_nb1, q_ni, q_fi, q_fb0, q_fb1, vY_74 H3]
    refine ⟨by decide, ?_⟩
    have H4 : vY (kv_p k3 74 (yo (va_up y3 9 (nI j)))) (va_up y3 9 (nI j)) B := vY_o H3
    have f4 : kv_fr inYp h0 (kv_p k3 74 (yo (va_up y3 9 (nI j)))) := f3.p (by unfold inYp; decide)
    have eg4 : kv_p k3 74 (yo (va_up y3 9 (nI j))) = kv_p k3 74 (.inr (5, [.int (y3 0), .ref 75, .ref 76, .int (y3 1), .ref 77, .ref 78, .ref 79, .ref 80, .int (y3 2), .int (y3 3), .int (y3 4), .int (y3 5), .ref 81, .ref 82, .ref 83, .ref 84, .ref 85, .ref 86, .ref 87, .ref 88, .ref 89, .ref 90, .int (y3 6), .ref 91, .ref 92, .int (y3 7), .int (y3 8), .int (nI j), .int (y3 10), .int (y3 11), .ref 93, .ref 94])) := rfl
    rw [← eg4]
    have u4 : va_up y3 9 (nI j) 9 = nI j := rfl
    have v4 : ∀ k, k ≠ 9 → va_up y3 9 (nI j) k = y3 k := fun k hk => va_up_ne _ _ hk
    generalize kv_p k3 74 (yo (va_up y3 9 (nI j))) = k4 at H4 f4 ⊢
    generalize va_up y3 9 (nI j) = y4 at H4 u4 v4
    refine ⟨y4, B, H4, f4, kB, fun k hk => (v4 k (by omega)).trans ((v3 k (by omega)).trans ((v2 k (by omega)).trans (v1 k (by omega)))), Or.inr ⟨hc, rfl, fun q c hqc => ?_, ?_, ?_, ?_, u4, ?_⟩⟩
    · have hl := (List.getElem?_eq_some_iff.mp hqc).1
      rw [hq q (by omega)]
      exact hF q c hqc
    · exact (v4 6 (by decide)).trans ((v3 6 (by decide)).trans ((v2 6 (by decide)).trans u1))
    · exact (v4 7 (by decide)).trans ((v3 7 (by decide)).trans u2)
    · exact (v4 8 (by decide)).trans u3
    · exact (v4 10 (by decide)).trans ((v3 10 (by decide)).trans ((v2 10 (by decide)).trans (v1 10 (by decide))))
  | succ f ih =>
    intro i B h hi H hf kB hF hq
    refine tX5_apply_263 ?_
    have g1 : i < 2147483648 := by omega
    simp only [fX5_apply_263, fX5_apply_269, w_const, w_iload, w_aload, w_iinc, w_istore, w_astore, w_iadd, w_isub, w_imul, w_iand, w_ior, w_ixor, w_ishl, w_ishr, w_ineg, w_i2c, w_dup, w_pop, w_dup_x1, w_dup_x2, w_dup2, w_ifeq, w_ifne, w_iflt, w_ifge, w_ifgt, w_ifle, w_iceq, w_icne, w_iclt, w_icge, w_icgt, w_icle, w_ret, w_iret, w_aret, w_max, w_sld, w_slen, w_new, w_newa, w_newq, w_obj, w_getf, w_putf, w_iald, w_iast, w_alen, w_aald, w_aast, w_copy, List.getElem?_cons_zero, List.getElem?_cons_succ, List.set_cons_zero, List.set_cons_succ, List.length_cons, List.length_nil, List.cons_append, List.nil_append, Option.some.injEq, exists_eq_left', true_and, and_true, Option.toList, Value.category, l_0, l_1, l_2, l_3, l_4, l_8, l_9, l_10, l_12, l_13, l_15, l_26, l_32, l_40, l_41, l_42, l_43, l_45, l_46, l_48, l_49, l_50, l_51, l_59, l_60, l_61, l_62, l_63, l_65, l_90, l_91, l_93, l_94, l_96, l_97, l_100, l_122, l_123, l_124, l_125, l_126, l_161, l_1000, l_67108863, q_nb0, q_nb1, q_ni, q_fi, q_fb0, q_fb1, vY_74 H, vY_91 H, vY_92 H, q_le (show nSz r lt sz pl < 2147483648 by omega) g1, show ¬ nSz r lt sz pl ≤ i by omega, if_false, q_le (show 0 < 2147483648 by decide) g1, q_clamp g1, Nat.zero_le, show i < 60 by omega, q_add]
    have H1 := vY_a16 (f := upd (B 16) i (B 17 i)) H
    have f1 : kv_fr inYp h0 (kv_p h 91 (.inl (0, 60, .inl (upd (B 16) i (B 17 i))))) := hf.p (by unfold inYp; decide)
    have e17 : va_up B 16 (upd (B 16) i (B 17 i)) 17 = B 17 := va_up_ne _ _ (by decide)
    refine ih (i + 1) _ _ (by omega) H1 f1 (fun k h1 h2 => (va_up_ne _ _ h1).trans (kB k h1 h2)) (by rw [e17]; exact hF) (fun q hq2 => ?_)
    rw [e17, va_up_self]
    unfold upd
    split
    · rename_i z
      rw [z]
    · exact hq q (by omega)
end RAP
