/-! replacing: the class -/
def wdt (bg sS sE : Nat → Nat) (c : Nat) : Nat := if sml c = true then 1 else bg (sE (c - 49)) - bg (sS (c - 49))
def sWid (w : Nat → Nat) : Nat → Nat
  | 0 => 0
  | k + 1 => sWid w k + w k
/-- pieces and segments of a rule, and what a match says of them -/
def rQ (A : Nat → Nat → Int32) (x : Nat → Nat) (pc sS sE bg : Nat → Nat) (sz : Nat) : Prop := x 5 ≤ 12 ∧ x 7 ≤ x 5 ∧ ∀ i, i < x 5 → A 5 i = nI (pc i) ∧ pc i < 128 ∧ (sml (pc i) = false → (49 ≤ pc i ∧ pc i ≤ 51) ∧ A 3 (pc i - 49) = nI (sS (pc i - 49)) ∧ A 4 (pc i - 49) = nI (sE (pc i - 49)) ∧ sS (pc i - 49) ≤ 12 ∧ sE (pc i - 49) ≤ 12 ∧ bg (sS (pc i - 49)) ≤ bg (sE (pc i - 49)) ∧ bg (sE (pc i - 49)) ≤ sz)
section TX
variable {b tl ts sz pl : Nat} {A : Nat → Nat → Int32} {x : Nat → Nat} {pc sS sE bg : Nat → Nat} {lt sp : Nat → Nat}
theorem wdt_le (hq : rQ A x pc sS sE bg sz) (hs : sz ≤ 60) {i : Nat} (hi : i < x 5) : wdt bg sS sE (pc i) ≤ 60 := by
  obtain ⟨_, _, r⟩ := hq
  obtain ⟨-, -, r2⟩ := r i hi
  unfold wdt
  split
  · omega
  · rename_i q
    have := r2 (by simpa using q)
    omega
theorem sWid_le (hq : rQ A x pc sS sE bg sz) (hs : sz ≤ 60) : ∀ (k : Nat), k ≤ x 5 → sWid (fun i => wdt bg sS sE (pc i)) k ≤ 60 * k := by
  intro k
  induction k with
  | zero => intro _; simp [sWid]
  | succ k ih =>
    intro hk
    have h1 := ih (by omega)
    have h2 := wdt_le hq hs (show k < x 5 by omega)
    unfold sWid
    omega
theorem p_segWidth {h : kv_H} (HR : vR h b A x) (HM : vM h bg) (hq : rQ A x pc sS sE bg sz) (hs : sz ≤ 60) {i : Nat} (hi : i < x 5) (hm : sml (pc i) = false) : wm mX0_segmentWidth [.ref 72, .ref b, .int (nI (pc i))] h (fun v h' => v = some (.int (nI (wdt bg sS sE (pc i)))) ∧ h' = h) := by
  obtain ⟨_, _, r⟩ := hq
  obtain ⟨-, -, r2⟩ := r i hi
  obtain ⟨r3, r4, r5, r6, r7, r8, r9⟩ := r2 hm
  refine iX0_segmentWidth rfl rfl rfl ?_
  have g1 : pc i - 49 < 2147483648 := by omega
  have g2 : sS (pc i - 49) < 2147483648 := by omega
  have g3 : sE (pc i - 49) < 2147483648 := by omega
  simp only [fX0_segmentWidth_0, w_const, w_iload, w_aload, w_iinc, w_istore, w_astore, w_iadd, w_isub, w_imul, w_iand, w_ior, w_ixor, w_ishl, w_ishr, w_ineg, w_i2c, w_dup, w_pop, w_dup_x1, w_dup_x2, w_dup2, w_ifeq, w_ifne, w_iflt, w_ifge, w_ifgt, w_ifle, w_iceq, w_icne, w_iclt, w_icge, w_icgt, w_icle, w_ret, w_iret, w_aret, w_max, w_sld, w_slen, w_new, w_newa, w_newq, w_obj, w_getf, w_putf, w_iald, w_iast, w_alen, w_aald, w_aast, w_copy, List.getElem?_cons_zero, List.getElem?_cons_succ, List.set_cons_zero, List.set_cons_succ, List.length_cons, List.length_nil, List.cons_append, List.nil_append, Option.some.injEq, exists_eq_left', true_and, and_true, Option.toList, Value.category, l_0, l_1, l_2, l_3, l_4, l_8, l_9, l_10, l_12, l_13, l_15, l_26, l_32, l_40, l_41, l_42, l_43, l_45, l_46, l_48, l_49, l_50, l_51, l_59, l_60, l_61, l_62, l_63, l_65, l_90, l_91, l_93, l_94, l_96, l_97, l_100, l_122, l_123, l_124, l_125, l_126, l_161, l_1000, l_67108863, q_nb0, q_nb1, q_ni, q_fi, q_fb0, q_fb1, q_sub r3.1, HM.1, HM.2, HR.1, HR.2.2.2.2.1, HR.2.2.2.2.2.1, q_le (show 0 < 2147483648 by decide) g1, q_clamp g1, q_le (show 0 < 2147483648 by decide) g2, q_clamp g2, q_le (show 0 < 2147483648 by decide) g3, q_clamp g3, Nat.zero_le, show pc i - 49 < 3 by omega, show sS (pc i - 49) < 13 by omega, show sE (pc i - 49) < 13 by omega, r4, r5, q_sub r8]
  unfold wdt
  simp [hm]
theorem p_segBegin {h : kv_H} (HR : vR h b A x) (HM : vM h bg) (hq : rQ A x pc sS sE bg sz) {i : Nat} (hi : i < x 5) (hm : sml (pc i) = false) : wm mX0_segmentBegin [.ref 72, .ref b, .int (nI (pc i))] h (fun v h' => v = some (.int (nI (bg (sS (pc i - 49))))) ∧ h' = h) := by
  obtain ⟨_, _, r⟩ := hq
  obtain ⟨-, -, r2⟩ := r i hi
  obtain ⟨r3, r4, r5, r6, r7, r8, r9⟩ := r2 hm
  refine iX0_segmentBegin rfl rfl rfl ?_
  have g1 : pc i - 49 < 2147483648 := by omega
  have g2 : sS (pc i - 49) < 2147483648 := by omega
  simp only [fX0_segmentBegin_0, w_const, w_iload, w_aload, w_iinc, w_istore, w_astore, w_iadd, w_isub, w_imul, w_iand, w_ior, w_ixor, w_ishl, w_ishr, w_ineg, w_i2c, w_dup, w_pop, w_dup_x1, w_dup_x2, w_dup2, w_ifeq, w_ifne, w_iflt, w_ifge, w_ifgt, w_ifle, w_iceq, w_icne, w_iclt, w_icge, w_icgt, w_icle, w_ret, w_iret, w_aret, w_max, w_sld, w_slen, w_new, w_newa, w_newq, w_obj, w_getf, w_putf, w_iald, w_iast, w_alen, w_aald, w_aast, w_copy, List.getElem?_cons_zero, List.getElem?_cons_succ, List.set_cons_zero, List.set_cons_succ, List.length_cons, List.length_nil, List.cons_append, List.nil_append, Option.some.injEq, exists_eq_left', true_and, and_true, Option.toList, Value.category, l_0, l_1, l_2, l_3, l_4, l_8, l_9, l_10, l_12, l_13, l_15, l_26, l_32, l_40, l_41, l_42, l_43, l_45, l_46, l_48, l_49, l_50, l_51, l_59, l_60, l_61, l_62, l_63, l_65, l_90, l_91, l_93, l_94, l_96, l_97, l_100, l_122, l_123, l_124, l_125, l_126, l_161, l_1000, l_67108863, q_nb0, q_nb1, q_ni, q_fi, q_fb0, q_fb1, q_sub r3.1, HM.1, HM.2, HR.1, HR.2.2.2.2.1, q_le (show 0 < 2147483648 by decide) g1, q_clamp g1, q_le (show 0 < 2147483648 by decide) g2, q_clamp g2, Nat.zero_le, show pc i - 49 < 3 by omega, show sS (pc i - 49) < 13 by omega, r4]
theorem p_width_loop {h : kv_H} (HR : vR h b A x) (HM : vM h bg) (hq : rQ A x pc sS sE bg sz) (hs : sz ≤ 60) (n : Nat) (hn : n ≤ x 5) : ∀ (f i : Nat) (x5 : Option Value), i + f = n → wp (kv_lim bX3_widthOf 5) [some (.ref b), some (.ref 72), some (.int (nI n)), some (.int (nI (sWid (fun i => wdt bg sS sE (pc i)) i))), some (.int (nI i)), x5] [] h (fun v h' => v = some (.int (nI (sWid (fun i => wdt bg sS sE (pc i)) n))) ∧ h' = h) := by
  have hx := hq.1
  intro f
  induction f with
  | zero =>
    intro i x5 hi
    refine tX3_widthOf_5 ?_
    have e : i = n := by omega
    subst e
    simp only [fX3_widthOf_5, fX3_widthOf_48, w_const, w_iload, w_aload, w_iinc, w_istore, w_astore, w_iadd, w_isub, w_imul, w_iand, w_ior, w_ixor, w_ishl, w_ishr, w_ineg, w_i2c, w_dup, w_pop, w_dup_x1, w_dup_x2, w_dup2, w_ifeq, w_ifne, w_iflt, w_ifge, w_ifgt, w_ifle, w_iceq, w_icne, w_iclt, w_icge, w_icgt, w_icle, w_ret, w_iret, w_aret, w_max, w_sld, w_slen, w_new, w_newa, w_newq, w_obj, w_getf, w_putf, w_iald, w_iast, w_alen, w_aald, w_aast, w_copy, List.getElem?_cons_zero, List.getElem?_cons_succ, List.set_cons_zero, List.set_cons_succ, List.length_cons, List.length_nil, List.cons_append, List.nil_append, Option.some.injEq, exists_eq_left', true_and, and_true, Option.toList, Value.category, l_0, l_1, l_2, l_3, l_4, l_8, l_9, l_10, l_12, l_13, l_15, l_26, l_32, l_40, l_41, l_42, l_43, l_45, l_46, l_48, l_49, l_50, l_51, l_59, l_60, l_61, l_62, l_63, l_65, l_90, l_91, l_93, l_94, l_96, l_97, l_100, l_122, l_123, l_124, l_125, l_126, l_161, l_1000, l_67108863, q_nb0, q_nb1, q_ni, q_fi, q_fb0, q_fb1, q_le (show i < 2147483648 by omega) (show i < 2147483648 by omega), Nat.le_refl, if_true]
  | succ f ih =>
    intro i x5 hi
    refine tX3_widthOf_5 ?_
    have g1 : i < 2147483648 := by omega
    obtain ⟨r0, r1, r2⟩ := hq.2.2 i (by omega)
    simp only [fX3_widthOf_5, fX3_widthOf_11, w_const, w_iload, w_aload, w_iinc, w_istore, w_astore, w_iadd, w_isub, w_imul, w_iand, w_ior, w_ixor, w_ishl, w_ishr, w_ineg, w_i2c, w_dup, w_pop, w_dup_x1, w_dup_x2, w_dup2, w_ifeq, w_ifne, w_iflt, w_ifge, w_ifgt, w_ifle, w_iceq, w_icne, w_iclt, w_icge, w_icgt, w_icle, w_ret, w_iret, w_aret, w_max, w_sld, w_slen, w_new, w_newa, w_newq, w_obj, w_getf, w_putf, w_iald, w_iast, w_alen, w_aald, w_aast, w_copy, List.getElem?_cons_zero, List.getElem?_cons_succ, List.set_cons_zero, List.set_cons_succ, List.length_cons, List.length_nil, List.cons_append, List.nil_append, Option.some.injEq, exists_eq_left', true_and, and_true, Option.toList, Value.category, l_0, l_1, l_2, l_3, l_4, l_8, l_9, l_10, l_12, l_13, l_15, l_26, l_32, l_40, l_41, l_42, l_43, l_45, l_46, l_48, l_49, l_50, l_51, l_59, l_60, l_61, l_62, l_63, l_65, l_90, l_91, l_93, l_94, l_96, l_97, l_100, l_122, l_123, l_124, l_125, l_126, l_161, l_1000, l_67108863, q_nb0, q_nb1, q_ni, q_fi, q_fb0, q_fb1, q_le (show n < 2147483648 by omega) g1, show ¬ n ≤ i by omega, if_false, HR.1, HR.2.2.2.2.2.2, q_le (show 0 < 2147483648 by decide) g1, q_clamp g1, Nat.zero_le, show i < 12 by omega, r0]
    refine w_callS1 (p_sml (by omega) h) (Nat.le_of_ble_eq_true rfl) ?_
    rintro v1 h2 ⟨rfl, rfl⟩
    simp only [w_const, w_iload, w_aload, w_iinc, w_istore, w_astore, w_iadd, w_isub, w_imul, w_iand, w_ior, w_ixor, w_ishl, w_ishr, w_ineg, w_i2c, w_dup, w_pop, w_dup_x1, w_dup_x2, w_dup2, w_ifeq, w_ifne, w_iflt, w_ifge, w_ifgt, w_ifle, w_iceq, w_icne, w_iclt, w_icge, w_icgt, w_icle, w_ret, w_iret, w_aret, w_max, w_sld, w_slen, w_new, w_newa, w_newq, w_obj, w_getf, w_putf, w_iald, w_iast, w_alen, w_aald, w_aast, w_copy, List.getElem?_cons_zero, List.getElem?_cons_succ, List.set_cons_zero, List.set_cons_succ, List.length_cons, List.length_nil, List.cons_append, List.nil_append, Option.some.injEq, exists_eq_left', true_and, and_true, Option.toList, Value.category, l_0, l_1, l_2, l_3, l_4, l_8, l_9, l_10, l_12, l_13, l_15, l_26, l_32, l_40, l_41, l_42, l_43, l_45, l_46, l_48, l_49, l_50, l_51, l_59, l_60, l_61, l_62, l_63, l_65, l_90, l_91, l_93, l_94, l_96, l_97, l_100, l_122, l_123, l_124, l_125, l_126, l_161, l_1000, l_67108863, q_nb0, q_nb1, q_ni, q_fi, q_fb0, q_fb1, q_b]
    have next : ∀ y, wdt bg sS sE (pc i) = y → wp (fX3_widthOf_40 (kv_lim bX3_widthOf)) [some (.ref b), some (.ref 72), some (.int (nI n)), some (.int (nI (sWid (fun i => wdt bg sS sE (pc i)) i))), some (.int (nI i)), some (.int (nI (pc i)))] [.int (nI y), .int (nI (sWid (fun i => wdt bg sS sE (pc i)) i))] h2 (fun v h' => v = some (.int (nI (sWid (fun i => wdt bg sS sE (pc i)) n))) ∧ h' = h2) := by
      intro y hy
      simp only [fX3_widthOf_40, w_const, w_iload, w_aload, w_iinc, w_istore, w_astore, w_iadd, w_isub, w_imul, w_iand, w_ior, w_ixor, w_ishl, w_ishr, w_ineg, w_i2c, w_dup, w_pop, w_dup_x1, w_dup_x2, w_dup2, w_ifeq, w_ifne, w_iflt, w_ifge, w_ifgt, w_ifle, w_iceq, w_icne, w_iclt, w_icge, w_icgt, w_icle, w_ret, w_iret, w_aret, w_max, w_sld, w_slen, w_new, w_newa, w_newq, w_obj, w_getf, w_putf, w_iald, w_iast, w_alen, w_aald, w_aast, w_copy, List.getElem?_cons_zero, List.getElem?_cons_succ, List.set_cons_zero, List.set_cons_succ, List.length_cons, List.length_nil, List.cons_append, List.nil_append, Option.some.injEq, exists_eq_left', true_and, and_true, Option.toList, Value.category, l_0, l_1, l_2, l_3, l_4, l_8, l_9, l_10, l_12, l_13, l_15, l_26, l_32, l_40, l_41, l_42, l_43, l_45, l_46, l_48, l_49, l_50, l_51, l_59, l_60, l_61, l_62, l_63, l_65, l_90, l_91, l_93, l_94, l_96, l_97, l_100, l_122, l_123, l_124, l_125, l_126, l_161, l_1000, l_67108863, q_nb0, q_nb1, q_ni, q_fi, q_fb0, q_fb1, q_add]
      have w9 := ih (i + 1) (some (.int (nI (pc i)))) (by omega)
      have e : sWid (fun i => wdt bg sS sE (pc i)) (i + 1) = sWid (fun i => wdt bg sS sE (pc i)) i + y := by rw [← hy]; rfl
      rw [e] at w9
      exact w9
    by_cases e1 : sml (pc i) = true
    · simp only [e1, Bool.true_eq_false, if_false, fX3_widthOf_29, w_const, w_iload, w_aload, w_iinc, w_istore, w_astore, w_iadd, w_isub, w_imul, w_iand, w_ior, w_ixor, w_ishl, w_ishr, w_ineg, w_i2c, w_dup, w_pop, w_dup_x1, w_dup_x2, w_dup2, w_ifeq, w_ifne, w_iflt, w_ifge, w_ifgt, w_ifle, w_iceq, w_icne, w_iclt, w_icge, w_icgt, w_icle, w_ret, w_iret, w_aret, w_max, w_sld, w_slen, w_new, w_newa, w_newq, w_obj, w_getf, w_putf, w_iald, w_iast, w_alen, w_aald, w_aast, w_copy, List.getElem?_cons_zero, List.getElem?_cons_succ, List.set_cons_zero, List.set_cons_succ, List.length_cons, List.length_nil, List.cons_append, List.nil_append, Option.some.injEq, exists_eq_left', true_and, and_true, Option.toList, Value.category, l_0, l_1, l_2, l_3, l_4, l_8, l_9, l_10, l_12, l_13, l_15, l_26, l_32, l_40, l_41, l_42, l_43, l_45, l_46, l_48, l_49, l_50, l_51, l_59, l_60, l_61, l_62, l_63, l_65, l_90, l_91, l_93, l_94, l_96, l_97, l_100, l_122, l_123, l_124, l_125, l_126, l_161, l_1000, l_67108863, q_nb0, q_nb1, q_ni, q_fi, q_fb0, q_fb1]
      exact next 1 (by simp [wdt, e1])
    · have e1' : sml (pc i) = false := by simpa using e1
      simp only [e1', if_true, fX3_widthOf_33, w_const, w_iload, w_aload, w_iinc, w_istore, w_astore, w_iadd, w_isub, w_imul, w_iand, w_ior, w_ixor, w_ishl, w_ishr, w_ineg, w_i2c, w_dup, w_pop, w_dup_x1, w_dup_x2, w_dup2, w_ifeq, w_ifne, w_iflt, w_ifge, w_ifgt, w_ifle, w_iceq, w_icne, w_iclt, w_icge, w_icgt, w_icle, w_ret, w_iret, w_aret, w_max, w_sld, w_slen, w_new, w_newa, w_newq, w_obj, w_getf, w_putf, w_iald, w_iast, w_alen, w_aald, w_aast, w_copy, List.getElem?_cons_zero, List.getElem?_cons_succ, List.set_cons_zero, List.set_cons_succ, List.length_cons, List.length_nil, List.cons_append, List.nil_append, Option.some.injEq, exists_eq_left', true_and, and_true, Option.toList, Value.category, l_0, l_1, l_2, l_3, l_4, l_8, l_9, l_10, l_12, l_13, l_15, l_26, l_32, l_40, l_41, l_42, l_43, l_45, l_46, l_48, l_49, l_50, l_51, l_59, l_60, l_61, l_62, l_63, l_65, l_90, l_91, l_93, l_94, l_96, l_97, l_100, l_122, l_123, l_124, l_125, l_126, l_161, l_1000, l_67108863, q_nb0, q_nb1, q_ni, q_fi, q_fb0, q_fb1]
      refine w_callV2 HM.1 (p_segWidth HR HM hq hs (by omega) e1') (Nat.le_of_ble_eq_true rfl) ?_
      rintro v1 h3 ⟨rfl, rfl⟩
      simp only [w_const, w_iload, w_aload, w_iinc, w_istore, w_astore, w_iadd, w_isub, w_imul, w_iand, w_ior, w_ixor, w_ishl, w_ishr, w_ineg, w_i2c, w_dup, w_pop, w_dup_x1, w_dup_x2, w_dup2, w_ifeq, w_ifne, w_iflt, w_ifge, w_ifgt, w_ifle, w_iceq, w_icne, w_iclt, w_icge, w_icgt, w_icle, w_ret, w_iret, w_aret, w_max, w_sld, w_slen, w_new, w_newa, w_newq, w_obj, w_getf, w_putf, w_iald, w_iast, w_alen, w_aald, w_aast, w_copy, List.getElem?_cons_zero, List.getElem?_cons_succ, List.set_cons_zero, List.set_cons_succ, List.length_cons, List.length_nil, List.cons_append, List.nil_append, Option.some.injEq, exists_eq_left', true_and, and_true, Option.toList, Value.category, l_0, l_1, l_2, l_3, l_4, l_8, l_9, l_10, l_12, l_13, l_15, l_26, l_32, l_40, l_41, l_42, l_43, l_45, l_46, l_48, l_49, l_50, l_51, l_59, l_60, l_61, l_62, l_63, l_65, l_90, l_91, l_93, l_94, l_96, l_97, l_100, l_122, l_123, l_124, l_125, l_126, l_161, l_1000, l_67108863, q_nb0, q_nb1, q_ni, q_fi, q_fb0, q_fb1]
      exact next _ rfl
theorem p_widthOf {h : kv_H} (HR : vR h b A x) (HM : vM h bg) (hq : rQ A x pc sS sE bg sz) (hs : sz ≤ 60) (n : Nat) (hn : n ≤ x 5) : wm mX3_widthOf [.ref b, .ref 72, .int (nI n)] h (fun v h' => v = some (.int (nI (sWid (fun i => wdt bg sS sE (pc i)) n))) ∧ h' = h) := by
  refine iX3_widthOf rfl rfl rfl ?_
  simp only [fX3_widthOf_0, w_const, w_iload, w_aload, w_iinc, w_istore, w_astore, w_iadd, w_isub, w_imul, w_iand, w_ior, w_ixor, w_ishl, w_ishr, w_ineg, w_i2c, w_dup, w_pop, w_dup_x1, w_dup_x2, w_dup2, w_ifeq, w_ifne, w_iflt, w_ifge, w_ifgt, w_ifle, w_iceq, w_icne, w_iclt, w_icge, w_icgt, w_icle, w_ret, w_iret, w_aret, w_max, w_sld, w_slen, w_new, w_newa, w_newq, w_obj, w_getf, w_putf, w_iald, w_iast, w_alen, w_aald, w_aast, w_copy, List.getElem?_cons_zero, List.getElem?_cons_succ, List.set_cons_zero, List.set_cons_succ, List.length_cons, List.length_nil, List.cons_append, List.nil_append, Option.some.injEq, exists_eq_left', true_and, and_true, Option.toList, Value.category, l_0, l_1, l_2, l_3, l_4, l_8, l_9, l_10, l_12, l_13, l_15, l_26, l_32, l_40, l_41, l_42, l_43, l_45, l_46, l_48, l_49, l_50, l_51, l_59, l_60, l_61, l_62, l_63, l_65, l_90, l_91, l_93, l_94, l_96, l_97, l_100, l_122, l_123, l_124, l_125, l_126, l_161, l_1000, l_67108863, q_nb0, q_nb1, q_ni, q_fi, q_fb0, q_fb1]
  exact p_width_loop HR HM hq hs n hn n 0 none (by omega)
theorem p_sizeAfter {h : kv_H} (H : vT h tl ts lt sp sz pl) (HR : vR h b A x) (HM : vM h bg) (hq : rQ A x pc sS sE bg sz) (hs : sz ≤ 60) (h2 : x 2 ≤ 12) (hk : pl ≤ bg (x 2)) (hk2 : bg (x 2) ≤ sz) : wm mX3_sizeAfter [.ref 69, .ref b, .ref 72] h (fun v h' => v = some (.int (nI (sz - (bg (x 2) - pl) + sWid (fun i => wdt bg sS sE (pc i)) (x 5)))) ∧ h' = h) := by
  refine iX3_sizeAfter rfl rfl rfl ?_
  have g1 : x 2 < 2147483648 := by omega
  simp only [fX3_sizeAfter_0, w_const, w_iload, w_aload, w_iinc, w_istore, w_astore, w_iadd, w_isub, w_imul, w_iand, w_ior, w_ixor, w_ishl, w_ishr, w_ineg, w_i2c, w_dup, w_pop, w_dup_x1, w_dup_x2, w_dup2, w_ifeq, w_ifne, w_iflt, w_ifge, w_ifgt, w_ifle, w_iceq, w_icne, w_iclt, w_icge, w_icgt, w_icle, w_ret, w_iret, w_aret, w_max, w_sld, w_slen, w_new, w_newa, w_newq, w_obj, w_getf, w_putf, w_iald, w_iast, w_alen, w_aald, w_aast, w_copy, List.getElem?_cons_zero, List.getElem?_cons_succ, List.set_cons_zero, List.set_cons_succ, List.length_cons, List.length_nil, List.cons_append, List.nil_append, Option.some.injEq, exists_eq_left', true_and, and_true, Option.toList, Value.category, l_0, l_1, l_2, l_3, l_4, l_8, l_9, l_10, l_12, l_13, l_15, l_26, l_32, l_40, l_41, l_42, l_43, l_45, l_46, l_48, l_49, l_50, l_51, l_59, l_60, l_61, l_62, l_63, l_65, l_90, l_91, l_93, l_94, l_96, l_97, l_100, l_122, l_123, l_124, l_125, l_126, l_161, l_1000, l_67108863, q_nb0, q_nb1, q_ni, q_fi, q_fb0, q_fb1, HM.1, HM.2, HR.1, H.1, q_le (show 0 < 2147483648 by decide) g1, q_clamp g1, Nat.zero_le, show x 2 < 13 by omega, q_sub hk, q_sub (show bg (x 2) - pl ≤ sz by omega)]
  refine w_callS3 (p_widthOf HR HM hq hs (x 5) (Nat.le_refl _)) (Nat.le_of_ble_eq_true rfl) ?_
  rintro v1 h3 ⟨rfl, rfl⟩
  simp only [w_const, w_iload, w_aload, w_iinc, w_istore, w_astore, w_iadd, w_isub, w_imul, w_iand, w_ior, w_ixor, w_ishl, w_ishr, w_ineg, w_i2c, w_dup, w_pop, w_dup_x1, w_dup_x2, w_dup2, w_ifeq, w_ifne, w_iflt, w_ifge, w_ifgt, w_ifle, w_iceq, w_icne, w_iclt, w_icge, w_icgt, w_icle, w_ret, w_iret, w_aret, w_max, w_sld, w_slen, w_new, w_newa, w_newq, w_obj, w_getf, w_putf, w_iald, w_iast, w_alen, w_aald, w_aast, w_copy, List.getElem?_cons_zero, List.getElem?_cons_succ, List.set_cons_zero, List.set_cons_succ, List.length_cons, List.length_nil, List.cons_append, List.nil_append, Option.some.injEq, exists_eq_left', true_and, and_true, Option.toList, Value.category, l_0, l_1, l_2, l_3, l_4, l_8, l_9, l_10, l_12, l_13, l_15, l_26, l_32, l_40, l_41, l_42, l_43, l_45, l_46, l_48, l_49, l_50, l_51, l_59, l_60, l_61, l_62, l_63, l_65, l_90, l_91, l_93, l_94, l_96, l_97, l_100, l_122, l_123, l_124, l_125, l_126, l_161, l_1000, l_67108863, q_nb0, q_nb1, q_ni, q_fi, q_fb0, q_fb1, q_add]
theorem q_cpy (f g : Nat → Nat) (a d n : Nat) : va_cpy (fun i => nI (f i)) (fun i => nI (g i)) a d n = fun i => nI (va_cpy f g a d n i) := by
  funext i
  unfold va_cpy
  split <;> rfl
/-- a list as the first places of a row -/
def ct (l : List Nat) (f : Nat → Nat) : Prop := ∀ i, i < l.length → l[i]? = some (f i)
theorem ct_range (f : Nat → Nat) (n a : Nat) : ct ((List.range n).map (fun i => f (a + i))) (fun i => f (a + i)) := by
  intro i hi
  simp only [List.length_map, List.length_range] at hi
  rw [List.getElem?_map, List.getElem?_range hi]
  rfl
theorem ct_app {l l2 : List Nat} {f g : Nat → Nat} (h : ct l f) (h1 : ∀ i, i < l.length → g i = f i) (h2 : ∀ i, i < l2.length → l2[i]? = some (g (l.length + i))) : ct (l ++ l2) g := by
  intro i hi
  by_cases q : i < l.length
  · rw [List.getElem?_append_left q, h1 i q]
    exact h i q
  · rw [List.getElem?_append_right (by omega), h2 (i - l.length) (by simp at hi; omega)]
    congr 2
    omega
def xpd (lt bg sS sE : Nat → Nat) (c : Nat) : List Nat := if sml c = true then [c] else (List.range (wdt bg sS sE c)).map (fun q => lt (bg (sS (c - 49)) + q))
theorem xpd_len {c : Nat} : (xpd lt bg sS sE c).length = wdt bg sS sE c := by
  unfold xpd
  split
  · rename_i q
    simp [wdt, q]
  · simp
def inT : Nat → Prop := fun a => a = 69 ∨ a = 70 ∨ a = 71
theorem ap_ne {tl ts : Nat} (h : (tl = 70 ∧ ts = 71) ∨ (tl = 71 ∧ ts = 70)) : ts ≠ 69 ∧ tl ≠ 69 ∧ ts ≠ tl ∧ inT ts ∧ inT tl := by unfold inT; omega
theorem vT_ts {h : kv_H} {sp' : Nat → Nat} (H : vT h tl ts lt sp sz pl) : vT (kv_p h ts (.inl (1, 60, .inl (fun i => nI (sp' i))))) tl ts lt sp' sz pl := by
  obtain ⟨a, b, c, d⟩ := H
  have e := ap_ne d
  exact ⟨(kv_gp_ne (fun q => e.1 q.symm)).trans a, (kv_gp_ne (fun q => e.2.2.1 q.symm)).trans b, kv_gp_self c, d⟩
theorem p_putPiece {h : kv_H} (hb : 5 < b ∧ b < 69 - 6) (H : vT h tl ts lt sp sz pl) (HR : vR h b A x) (HM : vM h bg) (hq : rQ A x pc sS sE bg sz) (hs : sz ≤ 60) (hlt : ∀ i, i < sz → lt i < 128) {i fl : Nat} (hi : i < x 5) (l : List Nat) (hl : ct l sp) (hfl : fl = l.length) (hroom : fl + wdt bg sS sE (pc i) ≤ 60) : wm mX3_putPiece [.ref 69, .ref b, .ref 72, .int (nI i), .int (nI fl)] h (fun v h' => v = some (.int (nI (fl + wdt bg sS sE (pc i)))) ∧ ∃ sp', vT h' tl ts lt sp' sz pl ∧ ct (l ++ xpd lt bg sS sE (pc i)) sp' ∧ kv_fr inT h h') := by
  have hx := hq.1
  have g1 : i < 2147483648 := by omega
  have g2 : fl < 2147483648 := by omega
  obtain ⟨r0, r1, r2⟩ := hq.2.2 i hi
  have ap := ap_ne H.2.2.2
  refine iX3_putPiece rfl rfl rfl rfl rfl ?_
  simp only [fX3_putPiece_0, w_const, w_iload, w_aload, w_iinc, w_istore, w_astore, w_iadd, w_isub, w_imul, w_iand, w_ior, w_ixor, w_ishl, w_ishr, w_ineg, w_i2c, w_dup, w_pop, w_dup_x1, w_dup_x2, w_dup2, w_ifeq, w_ifne, w_iflt, w_ifge, w_ifgt, w_ifle, w_iceq, w_icne, w_iclt, w_icge, w_icgt, w_icle, w_ret, w_iret, w_aret, w_max, w_sld, w_slen, w_new, w_newa, w_newq, w_obj, w_getf, w_putf, w_iald, w_iast, w_alen, w_aald, w_aast, w_copy, List.getElem?_cons_zero, List.getElem?_cons_succ, List.set_cons_zero, List.set_cons_succ, List.length_cons, List.length_nil, List.cons_append, List.nil_append, Option.some.injEq, exists_eq_left', true_and, and_true, Option.toList, Value.category, l_0, l_1, l_2, l_3, l_4, l_8, l_9, l_10, l_12, l_13, l_15, l_26, l_32, l_40, l_41, l_42, l_43, l_45, l_46, l_48, l_49, l_50, l_51, l_59, l_60, l_61, l_62, l_63, l_65, l_90, l_91, l_93, l_94, l_96, l_97, l_100, l_122, l_123, l_124, l_125, l_126, l_161, l_1000, l_67108863, q_nb0, q_nb1, q_ni, q_fi, q_fb0, q_fb1, HR.1, HR.2.2.2.2.2.2, q_le (show 0 < 2147483648 by decide) g1, q_clamp g1, Nat.zero_le, show i < 12 by omega, r0]
  refine w_callS1 (r := []) (p_sml (by omega) h) (by decide) ?_
  rintro v1 h2 ⟨rfl, rfl⟩
  simp only [w_const, w_iload, w_aload, w_iinc, w_istore, w_astore, w_iadd, w_isub, w_imul, w_iand, w_ior, w_ixor, w_ishl, w_ishr, w_ineg, w_i2c, w_dup, w_pop, w_dup_x1, w_dup_x2, w_dup2, w_ifeq, w_ifne, w_iflt, w_ifge, w_ifgt, w_ifle, w_iceq, w_icne, w_iclt, w_icge, w_icgt, w_icle, w_ret, w_iret, w_aret, w_max, w_sld, w_slen, w_new, w_newa, w_newq, w_obj, w_getf, w_putf, w_iald, w_iast, w_alen, w_aald, w_aast, w_copy, List.getElem?_cons_zero, List.getElem?_cons_succ, List.set_cons_zero, List.set_cons_succ, List.length_cons, List.length_nil, List.cons_append, List.nil_append, Option.some.injEq, exists_eq_left', true_and, and_true, Option.toList, Value.category, l_0, l_1, l_2, l_3, l_4, l_8, l_9, l_10, l_12, l_13, l_15, l_26, l_32, l_40, l_41, l_42, l_43, l_45, l_46, l_48, l_49, l_50, l_51, l_59, l_60, l_61, l_62, l_63, l_65, l_90, l_91, l_93, l_94, l_96, l_97, l_100, l_122, l_123, l_124, l_125, l_126, l_161, l_1000, l_67108863, q_nb0, q_nb1, q_ni, q_fi, q_fb0, q_fb1, q_b]
  by_cases e1 : sml (pc i) = true
  · have ew : wdt bg sS sE (pc i) = 1 := by simp [wdt, e1]
    have ex : xpd lt bg sS sE (pc i) = [pc i] := by simp [xpd, e1]
    rw [ew] at hroom
    simp only [e1, Bool.true_eq_false, if_false, fX3_putPiece_16, w_const, w_iload, w_aload, w_iinc, w_istore, w_astore, w_iadd, w_isub, w_imul, w_iand, w_ior, w_ixor, w_ishl, w_ishr, w_ineg, w_i2c, w_dup, w_pop, w_dup_x1, w_dup_x2, w_dup2, w_ifeq, w_ifne, w_iflt, w_ifge, w_ifgt, w_ifle, w_iceq, w_icne, w_iclt, w_icge, w_icgt, w_icle, w_ret, w_iret, w_aret, w_max, w_sld, w_slen, w_new, w_newa, w_newq, w_obj, w_getf, w_putf, w_iald, w_iast, w_alen, w_aald, w_aast, w_copy, List.getElem?_cons_zero, List.getElem?_cons_succ, List.set_cons_zero, List.set_cons_succ, List.length_cons, List.length_nil, List.cons_append, List.nil_append, Option.some.injEq, exists_eq_left', true_and, and_true, Option.toList, Value.category, l_0, l_1, l_2, l_3, l_4, l_8, l_9, l_10, l_12, l_13, l_15, l_26, l_32, l_40, l_41, l_42, l_43, l_45, l_46, l_48, l_49, l_50, l_51, l_59, l_60, l_61, l_62, l_63, l_65, l_90, l_91, l_93, l_94, l_96, l_97, l_100, l_122, l_123, l_124, l_125, l_126, l_161, l_1000, l_67108863, q_nb0, q_nb1, q_ni, q_fi, q_fb0, q_fb1, H.1, H.2.2.1, q_le (show 0 < 2147483648 by decide) g2, q_clamp g2, Nat.zero_le, show fl < 60 by omega, q_nar (show pc i < 65536 by omega), q_upd, q_add, ew, ex]
    refine ⟨_, vT_ts H, ct_app hl (fun j hj => va_up_ne _ _ (by omega)) (fun j hj => ?_), kv_fr.rf.p ap.2.2.2.1⟩
    have e0 : j = 0 := by simp at hj; omega
    subst e0
    rw [← hfl, Nat.add_zero, va_up_self]
    rfl
  · have e1' : sml (pc i) = false := by simpa using e1
    obtain ⟨r3, r4, r5, r6, r7, r8, r9⟩ := r2 e1'
    have ew : wdt bg sS sE (pc i) = bg (sE (pc i - 49)) - bg (sS (pc i - 49)) := by simp [wdt, e1']
    simp only [e1', if_true, fX3_putPiece_30, w_const, w_iload, w_aload, w_iinc, w_istore, w_astore, w_iadd, w_isub, w_imul, w_iand, w_ior, w_ixor, w_ishl, w_ishr, w_ineg, w_i2c, w_dup, w_pop, w_dup_x1, w_dup_x2, w_dup2, w_ifeq, w_ifne, w_iflt, w_ifge, w_ifgt, w_ifle, w_iceq, w_icne, w_iclt, w_icge, w_icgt, w_icle, w_ret, w_iret, w_aret, w_max, w_sld, w_slen, w_new, w_newa, w_newq, w_obj, w_getf, w_putf, w_iald, w_iast, w_alen, w_aald, w_aast, w_copy, List.getElem?_cons_zero, List.getElem?_cons_succ, List.set_cons_zero, List.set_cons_succ, List.length_cons, List.length_nil, List.cons_append, List.nil_append, Option.some.injEq, exists_eq_left', true_and, and_true, Option.toList, Value.category, l_0, l_1, l_2, l_3, l_4, l_8, l_9, l_10, l_12, l_13, l_15, l_26, l_32, l_40, l_41, l_42, l_43, l_45, l_46, l_48, l_49, l_50, l_51, l_59, l_60, l_61, l_62, l_63, l_65, l_90, l_91, l_93, l_94, l_96, l_97, l_100, l_122, l_123, l_124, l_125, l_126, l_161, l_1000, l_67108863, q_nb0, q_nb1, q_ni, q_fi, q_fb0, q_fb1]
    refine w_callV2 (r := []) HM.1 (p_segWidth HR HM hq hs hi e1') (by decide) ?_
    rintro v1 h3 ⟨rfl, rfl⟩
    simp only [w_const, w_iload, w_aload, w_iinc, w_istore, w_astore, w_iadd, w_isub, w_imul, w_iand, w_ior, w_ixor, w_ishl, w_ishr, w_ineg, w_i2c, w_dup, w_pop, w_dup_x1, w_dup_x2, w_dup2, w_ifeq, w_ifne, w_iflt, w_ifge, w_ifgt, w_ifle, w_iceq, w_icne, w_iclt, w_icge, w_icgt, w_icle, w_ret, w_iret, w_aret, w_max, w_sld, w_slen, w_new, w_newa, w_newq, w_obj, w_getf, w_putf, w_iald, w_iast, w_alen, w_aald, w_aast, w_copy, List.getElem?_cons_zero, List.getElem?_cons_succ, List.set_cons_zero, List.set_cons_succ, List.length_cons, List.length_nil, List.cons_append, List.nil_append, Option.some.injEq, exists_eq_left', true_and, and_true, Option.toList, Value.category, l_0, l_1, l_2, l_3, l_4, l_8, l_9, l_10, l_12, l_13, l_15, l_26, l_32, l_40, l_41, l_42, l_43, l_45, l_46, l_48, l_49, l_50, l_51, l_59, l_60, l_61, l_62, l_63, l_65, l_90, l_91, l_93, l_94, l_96, l_97, l_100, l_122, l_123, l_124, l_125, l_126, l_161, l_1000, l_67108863, q_nb0, q_nb1, q_ni, q_fi, q_fb0, q_fb1, H.1]
    refine w_callV2 (r := [.ref tl]) HM.1 (p_segBegin HR HM hq hi e1') (Nat.le_of_ble_eq_true rfl) ?_
    rintro v1 h4 ⟨rfl, rfl⟩
    have g3 : bg (sS (pc i - 49)) < 2147483648 := by omega
    have g4 : wdt bg sS sE (pc i) < 2147483648 := by omega
    simp only [w_const, w_iload, w_aload, w_iinc, w_istore, w_astore, w_iadd, w_isub, w_imul, w_iand, w_ior, w_ixor, w_ishl, w_ishr, w_ineg, w_i2c, w_dup, w_pop, w_dup_x1, w_dup_x2, w_dup2, w_ifeq, w_ifne, w_iflt, w_ifge, w_ifgt, w_ifle, w_iceq, w_icne, w_iclt, w_icge, w_icgt, w_icle, w_ret, w_iret, w_aret, w_max, w_sld, w_slen, w_new, w_newa, w_newq, w_obj, w_getf, w_putf, w_iald, w_iast, w_alen, w_aald, w_aast, w_copy, List.getElem?_cons_zero, List.getElem?_cons_succ, List.set_cons_zero, List.set_cons_succ, List.length_cons, List.length_nil, List.cons_append, List.nil_append, Option.some.injEq, exists_eq_left', true_and, and_true, Option.toList, Value.category, l_0, l_1, l_2, l_3, l_4, l_8, l_9, l_10, l_12, l_13, l_15, l_26, l_32, l_40, l_41, l_42, l_43, l_45, l_46, l_48, l_49, l_50, l_51, l_59, l_60, l_61, l_62, l_63, l_65, l_90, l_91, l_93, l_94, l_96, l_97, l_100, l_122, l_123, l_124, l_125, l_126, l_161, l_1000, l_67108863, q_nb0, q_nb1, q_ni, q_fi, q_fb0, q_fb1, H.1, H.2.1, H.2.2.1, q_le (show 0 < 2147483648 by decide) g2, q_clamp g2, q_le (show 0 < 2147483648 by decide) g3, q_clamp g3, q_le (show 0 < 2147483648 by decide) g4, q_clamp g4, Nat.zero_le, q_cpy, q_add]
    refine ⟨⟨by omega, hroom, fun j hj => q_fc (by have := hlt (bg (sS (pc i - 49)) + j) (by omega); omega), by decide⟩, _, vT_ts H, ct_app hl (fun j hj => ?_) (fun j hj => ?_), kv_fr.rf.p ap.2.2.2.1⟩
    · unfold va_cpy
      rw [if_neg (by omega)]
    · rw [xpd_len] at hj
      unfold xpd
      simp only [e1', Bool.false_eq_true, if_false]
      rw [List.getElem?_map, List.getElem?_range hj]
      unfold va_cpy
      rw [if_pos (by omega)]
      simp only [Option.map_some]
      congr 2
      omega
end TX
