/-! the constructors: the class -/
theorem kv_gn {h : kv_H} {e : va_E} {z a : Nat} : kv_g (kv_n h e z) a = if a = h.2.1 + 1 then some e else kv_g h a := by
  by_cases q : a = h.2.1 + 1
  · rw [if_pos q, q]
    exact kv_gn_self
  · rw [if_neg q]
    unfold kv_g kv_n
    dsimp only
    rw [va_up_ne _ _ q]
    by_cases q2 : 1 ≤ a ∧ a ≤ h.2.1
    · rw [if_pos q2, if_pos (by omega)]
    · rw [if_neg q2, if_neg (by omega)]
theorem kv_n1 {h : kv_H} {e : va_E} {z : Nat} : (kv_n h e z).2.1 = h.2.1 + 1 := rfl
theorem kv_n2 {h : kv_H} {e : va_E} {z : Nat} : (kv_n h e z).2.2 = h.2.2 + z := rfl
theorem kv_p1 {h : kv_H} {a : Nat} {e : va_E} : (kv_p h a e).2 = h.2 := rfl
theorem w_newL {F : kv_D} {L : List (Option Value)} {r : List Value} {h : kv_H} {P : Option Value → kv_H → Prop} {t k : Nat} {ty : FieldType} (hk : k < 1000) : wp (o_newa t ty F) L (.int (nI k) :: r) h P = (k * componentBytes ty ≤ 536870912 ∧ wp F L (.ref (h.2.1 + 1) :: r) (kv_n h (.inl (t, k, .inl (fun _ => nI 0))) k) P) := by
  rw [w_newa, nI_clamp (show k < 2 ^ 31 by omega)]
  have : (0 : Int32) ≤ nI k := nI_pos' (by omega)
  exact propext ⟨fun q => ⟨q.1.2, q.2⟩, fun q => ⟨⟨this, q.1⟩, q.2⟩⟩
/-- a step of a constructor: the object at b gets new fields, a new cell may come -/
def grows (b : Nat) (h h' : kv_H) : Prop := h.2.1 ≤ h'.2.1 ∧ ∀ a, a ≠ b → a ≤ h.2.1 → kv_g h' a = kv_g h a
theorem grows.rf {b : Nat} {h : kv_H} : grows b h h := ⟨Nat.le_refl _, fun _ _ _ => rfl⟩
theorem grows.p {b : Nat} {h h1 : kv_H} {e : va_E} (g : grows b h h1) : grows b h (kv_p h1 b e) := ⟨g.1, fun a h1 h2 => (kv_gp_ne h1).trans (g.2 a h1 h2)⟩
theorem grows.n {b : Nat} {h h1 : kv_H} {e : va_E} {z : Nat} (g : grows b h h1) : grows b h (kv_n h1 e z) := by
  refine ⟨Nat.le_trans g.1 (by show h1.2.1 ≤ h1.2.1 + 1; omega), fun a q1 q2 => ?_⟩
  have := g.1
  rw [kv_gn, if_neg (by omega)]
  exact g.2 a q1 q2
theorem q_nq {a : Nat} {ty : FieldType} : (narrow (.array ty) (.ref a) = .ref a) = True := eq_true rfl
theorem q_fq {a : Nat} {ty : FieldType} : (fits (.array ty) (.ref a) = true) = True := eq_true rfl
theorem q_no {a : Nat} {C : String} : (narrow (.object C) (.ref a) = .ref a) = True := eq_true rfl
theorem q_fo {a : Nat} {C : String} : (fits (.object C) (.ref a) = true) = True := eq_true rfl
theorem p_init0 {h : kv_H} {b : Nat} (hb : kv_g h b = some (.inr (0, [.null]))) (hn : h.2.1 = b) : wm mX0_init [.ref b] h (fun v h' => v = none ∧ kv_g h' b = some (.inr (0, [.ref (b + 1)])) ∧ kv_g h' (b + 1) = some (.inl (0, 13, .inl (fun _ => nI 0))) ∧ h'.2 = (b + 1, h.2.2 + 13) ∧ grows b h h') := by
  refine iX0_init rfl ?_
  have e1 : kv_g (kv_n h (.inl (0, 13, .inl (fun _ => nI 0))) 13) b = some (.inr (0, [.null])) := kv_gn_old hb
  simp only [fX0_init_0, w_const, w_iload, w_aload, w_iinc, w_istore, w_astore, w_iadd, w_isub, w_imul, w_iand, w_ior, w_ixor, w_ishl, w_ishr, w_ineg, w_i2c, w_dup, w_pop, w_dup_x1, w_dup_x2, w_dup2, w_ifeq, w_ifne, w_iflt, w_ifge, w_ifgt, w_ifle, w_iceq, w_icne, w_iclt, w_icge, w_icgt, w_icle, w_ret, w_iret, w_aret, w_max, w_sld, w_slen, w_new, w_newa, w_newq, w_obj, w_getf, w_putf, w_iald, w_iast, w_alen, w_aald, w_aast, w_copy, List.getElem?_cons_zero, List.getElem?_cons_succ, List.set_cons_zero, List.set_cons_succ, List.length_cons, List.length_nil, List.cons_append, List.nil_append, Option.some.injEq, exists_eq_left', true_and, and_true, Option.toList, Value.category, l_0, l_1, l_2, l_3, l_4, l_8, l_9, l_10, l_12, l_13, l_15, l_26, l_32, l_40, l_41, l_42, l_43, l_45, l_46, l_48, l_49, l_50, l_51, l_59, l_60, l_61, l_62, l_63, l_65, l_90, l_91, l_93, l_94, l_96, l_97, l_100, l_122, l_123, l_124, l_125, l_126, l_161, l_1000, l_67108863, q_nb0, q_nb1, q_ni, q_fi, q_fb0, q_fb1, w_newL (show 13 < 1000 by decide), hn, e1, q_nq, q_fq]
  refine ⟨by decide, by decide, by decide, kv_gp_self e1, ?_, ?_, grows.rf.n.p⟩
  · rw [kv_gp_ne (by omega), kv_gn, if_pos (by omega)]
  · show (h.2.1 + 1, h.2.2 + 13) = _
    rw [hn]
theorem p_init3 {h : kv_H} {b : Nat} (hb : kv_g h b = some (.inr (3, [.null, .null, .int 0, .int 0]))) (hn : h.2.1 = b) : wm mX3_init [.ref b] h (fun v h' => v = none ∧ kv_g h' b = some (.inr (3, [.ref (b + 1), .ref (b + 2), .int (nI 0), .int (nI 0)])) ∧ kv_g h' (b + 1) = some (.inl (1, 60, .inl (fun _ => nI 0))) ∧ kv_g h' (b + 2) = some (.inl (1, 60, .inl (fun _ => nI 0))) ∧ h'.2 = (b + 2, h.2.2 + 120) ∧ grows b h h') := by
  refine iX3_init rfl ?_
  simp only [l_0] at hb
  have e1 : kv_g (kv_n h (.inl (1, 60, .inl (fun _ => nI 0))) 60) b = some (.inr (3, [.null, .null, .int (nI 0), .int (nI 0)])) := kv_gn_old hb
  simp only [fX3_init_0, w_const, w_iload, w_aload, w_iinc, w_istore, w_astore, w_iadd, w_isub, w_imul, w_iand, w_ior, w_ixor, w_ishl, w_ishr, w_ineg, w_i2c, w_dup, w_pop, w_dup_x1, w_dup_x2, w_dup2, w_ifeq, w_ifne, w_iflt, w_ifge, w_ifgt, w_ifle, w_iceq, w_icne, w_iclt, w_icge, w_icgt, w_icle, w_ret, w_iret, w_aret, w_max, w_sld, w_slen, w_new, w_newa, w_newq, w_obj, w_getf, w_putf, w_iald, w_iast, w_alen, w_aald, w_aast, w_copy, List.getElem?_cons_zero, List.getElem?_cons_succ, List.set_cons_zero, List.set_cons_succ, List.length_cons, List.length_nil, List.cons_append, List.nil_append, Option.some.injEq, exists_eq_left', true_and, and_true, Option.toList, Value.category, l_0, l_1, l_2, l_3, l_4, l_8, l_9, l_10, l_12, l_13, l_15, l_26, l_32, l_40, l_41, l_42, l_43, l_45, l_46, l_48, l_49, l_50, l_51, l_59, l_60, l_61, l_62, l_63, l_65, l_90, l_91, l_93, l_94, l_96, l_97, l_100, l_122, l_123, l_124, l_125, l_126, l_161, l_1000, l_67108863, q_nb0, q_nb1, q_ni, q_fi, q_fb0, q_fb1, w_newL (show 60 < 1000 by decide), hn, e1, q_nq, q_fq]
  refine ⟨by decide, by decide, by decide, ?_⟩
  generalize hg : kv_p (kv_n h (.inl (1, 60, .inl (fun _ => nI 0))) 60) b (.inr (3, [.ref (b + 1), .null, .int (nI 0), .int (nI 0)])) = g1
  have g11 : kv_g g1 b = some (.inr (3, [.ref (b + 1), .null, .int (nI 0), .int (nI 0)])) := by rw [← hg]; exact kv_gp_self e1
  have g12 : kv_g g1 (b + 1) = some (.inl (1, 60, .inl (fun _ => nI 0))) := by rw [← hg, kv_gp_ne (by omega), kv_gn, if_pos (by omega)]
  have g13 : g1.2 = (b + 1, h.2.2 + 60) := by rw [← hg]; show (h.2.1 + 1, h.2.2 + 60) = _; rw [hn]
  have g14 : grows b h g1 := by rw [← hg]; exact grows.rf.n.p
  have e2 : kv_g (kv_n g1 (.inl (1, 60, .inl (fun _ => nI 0))) 60) b = some (.inr (3, [.ref (b + 1), .null, .int (nI 0), .int (nI 0)])) := kv_gn_old g11
  have G : ∀ e, kv_g (kv_p (kv_n g1 (.inl (1, 60, .inl (fun _ => nI 0))) 60) b e) b = some e := fun e => kv_gp_self e2
  simp only [w_const, w_iload, w_aload, w_iinc, w_istore, w_astore, w_iadd, w_isub, w_imul, w_iand, w_ior, w_ixor, w_ishl, w_ishr, w_ineg, w_i2c, w_dup, w_pop, w_dup_x1, w_dup_x2, w_dup2, w_ifeq, w_ifne, w_iflt, w_ifge, w_ifgt, w_ifle, w_iceq, w_icne, w_iclt, w_icge, w_icgt, w_icle, w_ret, w_iret, w_aret, w_max, w_sld, w_slen, w_new, w_newa, w_newq, w_obj, w_getf, w_putf, w_iald, w_iast, w_alen, w_aald, w_aast, w_copy, List.getElem?_cons_zero, List.getElem?_cons_succ, List.set_cons_zero, List.set_cons_succ, List.length_cons, List.length_nil, List.cons_append, List.nil_append, Option.some.injEq, exists_eq_left', true_and, and_true, Option.toList, Value.category, l_0, l_1, l_2, l_3, l_4, l_8, l_9, l_10, l_12, l_13, l_15, l_26, l_32, l_40, l_41, l_42, l_43, l_45, l_46, l_48, l_49, l_50, l_51, l_59, l_60, l_61, l_62, l_63, l_65, l_90, l_91, l_93, l_94, l_96, l_97, l_100, l_122, l_123, l_124, l_125, l_126, l_161, l_1000, l_67108863, q_nb0, q_nb1, q_ni, q_fi, q_fb0, q_fb1, g13, e2, q_nq, q_fq, G, kv_pp]
  refine ⟨by decide, by decide, by decide, by decide, ?_, ?_, ?_, g14.n.p⟩
  · rw [kv_gp_ne (by omega), kv_gn, g13, if_neg (by show ¬ b + 1 = b + 1 + 1; omega)]
    exact g12
  · rw [kv_gp_ne (by omega), kv_gn, g13, if_pos (by rfl)]
  · show (g1.2.1 + 1, g1.2.2 + 60) = _
    rw [g13]
section IN
variable {F : kv_D} {L : List (Option Value)} {h : kv_H} {P : Option Value → kv_H → Prop} {b ci kf : Nat} {fs : List Value} {m z : Nat}
theorem w_ob (hL : L[0]? = some (some (.ref b))) (k : wp F L [] h P) : wp (o_aload 0 (o_obj F)) L [] h P := by
  simp only [w_aload, hL, w_obj]
  exact ⟨by decide, k⟩
theorem w_na {t k : Nat} {c : Int32} {ty : FieldType} (hL : L[0]? = some (some (.ref b))) (hb : kv_g h b = some (.inr (ci, fs))) (hm : h.2 = (m, z)) (hc : c = nI k) (hk : k < 1000) (hty : k * componentBytes ty ≤ 536870912) (hf : kf < fs.length) (kk : ∀ h1, kv_g h1 b = some (.inr (ci, fs.set kf (.ref (m + 1)))) → (∀ a, a ≠ b → a ≤ m → kv_g h1 a = kv_g h a) → kv_g h1 (m + 1) = some (.inl (t, k, .inl (fun _ => nI 0))) → h1.2 = (m + 1, z + k) → wp F L [] h1 P) : wp (o_aload 0 (o_const c (o_newa t ty (o_putf ci kf (.array ty) F)))) L [] h P := by
  have e1 : kv_g (kv_n h (.inl (t, k, .inl (fun _ => nI 0))) k) b = some (.inr (ci, fs)) := kv_gn_old hb
  have hm1 : h.2.1 = m := by rw [hm]
  have hbl := (kv_g_le hb).2.1
  subst hc
  simp only [w_aload, hL, w_const, w_newL hk, w_putf, e1, q_nq, q_fq, and_true, true_and]
  refine ⟨hty, hf, kk _ (by rw [hm1]; exact kv_gp_self e1) (fun a q1 q2 => ?_) ?_ ?_⟩
  · rw [kv_gp_ne q1, kv_gn, if_neg (by omega)]
  · rw [kv_gp_ne (by omega), kv_gn, hm1, if_pos rfl]
  · show (h.2.1 + 1, h.2.2 + k) = _
    rw [hm]
theorem w_fi {c : Int32} {ty : FieldType} (hL : L[0]? = some (some (.ref b))) (hb : kv_g h b = some (.inr (ci, fs))) (hn : narrow ty (.int c) = .int c) (ht : fits ty (.int c) = true) (hf : kf < fs.length) (kk : ∀ h1, kv_g h1 b = some (.inr (ci, fs.set kf (.int c))) → (∀ a, a ≠ b → kv_g h1 a = kv_g h a) → h1.2 = h.2 → wp F L [] h1 P) : wp (o_aload 0 (o_const c (o_putf ci kf ty F))) L [] h P := by
  simp only [w_aload, hL, w_const, w_putf, hb, hn, ht, and_true, true_and]
  exact ⟨hf, kk _ (kv_gp_self hb) (fun a q => kv_gp_ne q) rfl⟩
end IN
set_option maxRecDepth 20000 in
theorem p_init1 {h : kv_H} {b z : Nat} (hb : kv_g h b = some (.inr (1, [.null, .null, .null, .int 0, .int 0, .int 0, .int 0, .null, .null, .int 0, .null, .int 0, .int 0, .int 0]))) (hm : h.2 = (b, z)) : wm mX1_init [.ref b] h (fun v h' => v = none ∧ vR h' b (fun _ _ => nI 0) (fun _ => 0) ∧ h'.2 = (b + 6, z + 54) ∧ ∀ a, a ≠ b → a ≤ b → kv_g h' a = kv_g h a) := by
  have hle := (kv_g_le hb).1
  refine iX1_init rfl ?_
  unfold fX1_init_0
  refine w_ob (b := b) rfl ?_
  refine w_na (t := 0) (k := 12) rfl hb hm rfl (by decide) (by decide) (Nat.le_of_ble_eq_true rfl) (fun g0 o0 f0 a0 m0 => ?_)
  refine w_na (t := 0) (k := 12) rfl o0 m0 rfl (by decide) (by decide) (Nat.le_of_ble_eq_true rfl) (fun g1 o1 f1 a1 m1 => ?_)
  have a0_1 := (f1 (b + 1) (by omega) (by omega)).trans a0
  refine w_na (t := 0) (k := 12) rfl o1 m1 rfl (by decide) (by decide) (Nat.le_of_ble_eq_true rfl) (fun g2 o2 f2 a2 m2 => ?_)
  have a0_1_2 := (f2 (b + 1) (by omega) (by omega)).trans a0_1
  have a1_2 := (f2 (b + 2) (by omega) (by omega)).trans a1
  refine w_fi rfl o2 (by rfl) (by rfl) (Nat.le_of_ble_eq_true rfl) (fun g3 o3 f3 m3 => ?_)
  have a0_1_2_3 := (f3 (b + 1) (by omega)).trans a0_1_2
  have a1_2_3 := (f3 (b + 2) (by omega)).trans a1_2
  have a2_3 := (f3 (b + 3) (by omega)).trans a2
  have m3 := m3.trans m2
  refine w_fi rfl o3 (by rfl) (by rfl) (Nat.le_of_ble_eq_true rfl) (fun g4 o4 f4 m4 => ?_)
  have a0_1_2_3_4 := (f4 (b + 1) (by omega)).trans a0_1_2_3
  have a1_2_3_4 := (f4 (b + 2) (by omega)).trans a1_2_3
  have a2_3_4 := (f4 (b + 3) (by omega)).trans a2_3
  have m4 := m4.trans m3
  refine w_fi rfl o4 (by rfl) (by rfl) (Nat.le_of_ble_eq_true rfl) (fun g5 o5 f5 m5 => ?_)
  have a0_1_2_3_4_5 := (f5 (b + 1) (by omega)).trans a0_1_2_3_4
  have a1_2_3_4_5 := (f5 (b + 2) (by omega)).trans a1_2_3_4
  have a2_3_4_5 := (f5 (b + 3) (by omega)).trans a2_3_4
  have m5 := m5.trans m4
  refine w_fi rfl o5 (by rfl) (by rfl) (Nat.le_of_ble_eq_true rfl) (fun g6 o6 f6 m6 => ?_)
  have a0_1_2_3_4_5_6 := (f6 (b + 1) (by omega)).trans a0_1_2_3_4_5
  have a1_2_3_4_5_6 := (f6 (b + 2) (by omega)).trans a1_2_3_4_5
  have a2_3_4_5_6 := (f6 (b + 3) (by omega)).trans a2_3_4_5
  have m6 := m6.trans m5
  refine w_na (t := 0) (k := 3) rfl o6 m6 rfl (by decide) (by decide) (Nat.le_of_ble_eq_true rfl) (fun g7 o7 f7 a7 m7 => ?_)
  have a0_1_2_3_4_5_6_7 := (f7 (b + 1) (by omega) (by omega)).trans a0_1_2_3_4_5_6
  have a1_2_3_4_5_6_7 := (f7 (b + 2) (by omega) (by omega)).trans a1_2_3_4_5_6
  have a2_3_4_5_6_7 := (f7 (b + 3) (by omega) (by omega)).trans a2_3_4_5_6
  refine w_na (t := 0) (k := 3) rfl o7 m7 rfl (by decide) (by decide) (Nat.le_of_ble_eq_true rfl) (fun g8 o8 f8 a8 m8 => ?_)
  have a0_1_2_3_4_5_6_7_8 := (f8 (b + 1) (by omega) (by omega)).trans a0_1_2_3_4_5_6_7
  have a1_2_3_4_5_6_7_8 := (f8 (b + 2) (by omega) (by omega)).trans a1_2_3_4_5_6_7
  have a2_3_4_5_6_7_8 := (f8 (b + 3) (by omega) (by omega)).trans a2_3_4_5_6_7
  have a7_8 := (f8 (b + 4) (by omega) (by omega)).trans a7
  refine w_fi rfl o8 (by rfl) (by rfl) (Nat.le_of_ble_eq_true rfl) (fun g9 o9 f9 m9 => ?_)
  have a0_1_2_3_4_5_6_7_8_9 := (f9 (b + 1) (by omega)).trans a0_1_2_3_4_5_6_7_8
  have a1_2_3_4_5_6_7_8_9 := (f9 (b + 2) (by omega)).trans a1_2_3_4_5_6_7_8
  have a2_3_4_5_6_7_8_9 := (f9 (b + 3) (by omega)).trans a2_3_4_5_6_7_8
  have a7_8_9 := (f9 (b + 4) (by omega)).trans a7_8
  have a8_9 := (f9 (b + 5) (by omega)).trans a8
  have m9 := m9.trans m8
  refine w_na (t := 1) (k := 12) rfl o9 m9 rfl (by decide) (by decide) (Nat.le_of_ble_eq_true rfl) (fun g10 o10 f10 a10 m10 => ?_)
  have a0_1_2_3_4_5_6_7_8_9_10 := (f10 (b + 1) (by omega) (by omega)).trans a0_1_2_3_4_5_6_7_8_9
  have a1_2_3_4_5_6_7_8_9_10 := (f10 (b + 2) (by omega) (by omega)).trans a1_2_3_4_5_6_7_8_9
  have a2_3_4_5_6_7_8_9_10 := (f10 (b + 3) (by omega) (by omega)).trans a2_3_4_5_6_7_8_9
  have a7_8_9_10 := (f10 (b + 4) (by omega) (by omega)).trans a7_8_9
  have a8_9_10 := (f10 (b + 5) (by omega) (by omega)).trans a8_9
  refine w_fi rfl o10 (by rfl) (by rfl) (Nat.le_of_ble_eq_true rfl) (fun g11 o11 f11 m11 => ?_)
  have a0_1_2_3_4_5_6_7_8_9_10_11 := (f11 (b + 1) (by omega)).trans a0_1_2_3_4_5_6_7_8_9_10
  have a1_2_3_4_5_6_7_8_9_10_11 := (f11 (b + 2) (by omega)).trans a1_2_3_4_5_6_7_8_9_10
  have a2_3_4_5_6_7_8_9_10_11 := (f11 (b + 3) (by omega)).trans a2_3_4_5_6_7_8_9_10
  have a7_8_9_10_11 := (f11 (b + 4) (by omega)).trans a7_8_9_10
  have a8_9_10_11 := (f11 (b + 5) (by omega)).trans a8_9_10
  have a10_11 := (f11 (b + 6) (by omega)).trans a10
  have m11 := m11.trans m10
  refine w_fi rfl o11 (by rfl) (by rfl) (Nat.le_of_ble_eq_true rfl) (fun g12 o12 f12 m12 => ?_)
  have a0_1_2_3_4_5_6_7_8_9_10_11_12 := (f12 (b + 1) (by omega)).trans a0_1_2_3_4_5_6_7_8_9_10_11
  have a1_2_3_4_5_6_7_8_9_10_11_12 := (f12 (b + 2) (by omega)).trans a1_2_3_4_5_6_7_8_9_10_11
  have a2_3_4_5_6_7_8_9_10_11_12 := (f12 (b + 3) (by omega)).trans a2_3_4_5_6_7_8_9_10_11
  have a7_8_9_10_11_12 := (f12 (b + 4) (by omega)).trans a7_8_9_10_11
  have a8_9_10_11_12 := (f12 (b + 5) (by omega)).trans a8_9_10_11
  have a10_11_12 := (f12 (b + 6) (by omega)).trans a10_11
  have m12 := m12.trans m11
  refine w_fi rfl o12 (by rfl) (by rfl) (Nat.le_of_ble_eq_true rfl) (fun g13 o13 f13 m13 => ?_)
  have a0_1_2_3_4_5_6_7_8_9_10_11_12_13 := (f13 (b + 1) (by omega)).trans a0_1_2_3_4_5_6_7_8_9_10_11_12
  have a1_2_3_4_5_6_7_8_9_10_11_12_13 := (f13 (b + 2) (by omega)).trans a1_2_3_4_5_6_7_8_9_10_11_12
  have a2_3_4_5_6_7_8_9_10_11_12_13 := (f13 (b + 3) (by omega)).trans a2_3_4_5_6_7_8_9_10_11_12
  have a7_8_9_10_11_12_13 := (f13 (b + 4) (by omega)).trans a7_8_9_10_11_12
  have a8_9_10_11_12_13 := (f13 (b + 5) (by omega)).trans a8_9_10_11_12
  have a10_11_12_13 := (f13 (b + 6) (by omega)).trans a10_11_12
  have m13 := m13.trans m12
  simp only [w_ret, true_and]
  refine ⟨⟨o13, a0_1_2_3_4_5_6_7_8_9_10_11_12_13, a1_2_3_4_5_6_7_8_9_10_11_12_13, a2_3_4_5_6_7_8_9_10_11_12_13, a7_8_9_10_11_12_13, a8_9_10_11_12_13, a10_11_12_13⟩, m13, fun a q1 q2 => ?_⟩
  rw [f13 a q1, f12 a q1, f11 a q1, f10 a q1 (by omega), f9 a q1, f8 a q1 (by omega), f7 a q1 (by omega), f6 a q1, f5 a q1, f4 a q1, f3 a q1, f2 a q1 (by omega), f1 a q1 (by omega), f0 a q1 (by omega)]
