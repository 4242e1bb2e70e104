/-! the constructors of Statement and CursorRewriter -/
theorem p_init2 {h : kv_H} {z : Nat} (hb : kv_g h 2 = some (.inr (2, [.null, .int 0, .int 0, .null, .int 0, .int 0]))) (hm : h.2 = (2, z)) : wm mX2_init [.ref 2] h (fun v h' => v = none ∧ (∃ mn', vS h' (fun _ => 0) 0 0 mn' (nI 0) 0 ∧ ∀ j, j < 26 → mn' j = -nI 1) ∧ h'.2 = (4, z + 74) ∧ kv_g h' 1 = kv_g h 1) := by
  refine iX2_init rfl ?_
  unfold fX2_init_0
  refine w_ob (b := 2) rfl ?_
  refine w_na (t := 1) (k := 48) rfl hb hm rfl (by decide) (by decide) (Nat.le_of_ble_eq_true rfl) (fun g0 o0 f0 a0 m0 => ?_)
  refine w_fi rfl o0 (by rfl) (by rfl) (Nat.le_of_ble_eq_true rfl) (fun g1 o1 f1 m1 => ?_)
  refine w_fi rfl o1 (by rfl) (by rfl) (Nat.le_of_ble_eq_true rfl) (fun g2 o2 f2 m2 => ?_)
  have a2 := (f2 3 (by decide)).trans ((f1 3 (by decide)).trans a0)
  have m2' := m2.trans (m1.trans m0)
  refine w_na (t := 0) (k := 26) rfl o2 m2' rfl (by decide) (by decide) (Nat.le_of_ble_eq_true rfl) (fun g3 o3 f3 a3 m3 => ?_)
  have a2' := (f3 3 (by decide) (by decide)).trans a2
  refine w_fi rfl o3 (by rfl) (by rfl) (Nat.le_of_ble_eq_true rfl) (fun g4 o4 f4 m4 => ?_)
  refine w_fi rfl o4 (by rfl) (by rfl) (Nat.le_of_ble_eq_true rfl) (fun g5 o5 f5 m5 => ?_)
  have b3 := (f5 3 (by decide)).trans ((f4 3 (by decide)).trans a2')
  have b4 := (f5 4 (by decide)).trans ((f4 4 (by decide)).trans a3)
  have m5' := m5.trans (m4.trans m3)
  have H : vS g5 (fun _ => 0) 0 0 (fun _ => nI 0) (nI 0) 0 := ⟨o5, b3, b4⟩
  have k1 : kv_g g5 1 = kv_g h 1 := (f5 1 (by decide)).trans ((f4 1 (by decide)).trans ((f3 1 (by decide) (by decide)).trans ((f2 1 (by decide)).trans ((f1 1 (by decide)).trans (f0 1 (by decide) (by decide))))))
  simp only [w_const, w_iload, w_aload, w_iinc, w_istore, w_astore, w_iadd, w_isub, w_imul, w_iand, w_ior, w_ixor, w_ishl, w_ishr, w_ineg, w_i2c, w_dup, w_pop, w_dup_x1, w_dup_x2, w_dup2, w_ifeq, w_ifne, w_iflt, w_ifge, w_ifgt, w_ifle, w_iceq, w_icne, w_iclt, w_icge, w_icgt, w_icle, w_ret, w_iret, w_aret, w_max, w_sld, w_slen, w_new, w_newa, w_newq, w_obj, w_getf, w_putf, w_iald, w_iast, w_alen, w_aald, w_aast, w_copy, List.getElem?_cons_zero, List.getElem?_cons_succ, List.set_cons_zero, List.set_cons_succ, List.length_cons, List.length_nil, List.cons_append, List.nil_append, Option.some.injEq, exists_eq_left', true_and, and_true, Option.toList, Value.category, l_0, l_1, l_2, l_3, l_4, l_8, l_9, l_10, l_12, l_13, l_15, l_26, l_32, l_40, l_41, l_42, l_43, l_45, l_46, l_48, l_49, l_50, l_51, l_59, l_60, l_61, l_62, l_63, l_65, l_90, l_91, l_93, l_94, l_96, l_97, l_100, l_122, l_123, l_124, l_125, l_126, l_161, l_1000, l_67108863, q_nb0, q_nb1, q_ni, q_fi, q_fb0, q_fb1]
  refine w_callV0 (r := []) H.1 (p_clm H) (by decide) ?_
  rintro v1 h6 ⟨rfl, mn', H6, hm6, hf6⟩
  simp only [w_const, w_iload, w_aload, w_iinc, w_istore, w_astore, w_iadd, w_isub, w_imul, w_iand, w_ior, w_ixor, w_ishl, w_ishr, w_ineg, w_i2c, w_dup, w_pop, w_dup_x1, w_dup_x2, w_dup2, w_ifeq, w_ifne, w_iflt, w_ifge, w_ifgt, w_ifle, w_iceq, w_icne, w_iclt, w_icge, w_icgt, w_icle, w_ret, w_iret, w_aret, w_max, w_sld, w_slen, w_new, w_newa, w_newq, w_obj, w_getf, w_putf, w_iald, w_iast, w_alen, w_aald, w_aast, w_copy, List.getElem?_cons_zero, List.getElem?_cons_succ, List.set_cons_zero, List.set_cons_succ, List.length_cons, List.length_nil, List.cons_append, List.nil_append, Option.some.injEq, exists_eq_left', true_and, and_true, Option.toList, Value.category, l_0, l_1, l_2, l_3, l_4, l_8, l_9, l_10, l_12, l_13, l_15, l_26, l_32, l_40, l_41, l_42, l_43, l_45, l_46, l_48, l_49, l_50, l_51, l_59, l_60, l_61, l_62, l_63, l_65, l_90, l_91, l_93, l_94, l_96, l_97, l_100, l_122, l_123, l_124, l_125, l_126, l_161, l_1000, l_67108863, q_nb0, q_nb1, q_ni, q_fi, q_fb0, q_fb1]
  exact ⟨⟨mn', H6, hm6⟩, hf6.1.trans m5', (hf6.2 1 (by decide)).trans k1⟩
theorem p_init4_end {h : kv_H} {z : Nat} {rr : Nat → Option Nat} {t : Nat → Nat} {mn : Nat → Int32} {set : Int32} {x1 : Option Value} (h1 : kv_g h 1 = some (.inr (4, [.ref 2, .ref 5, .int 0, .null, .null, .int 0, .int 0, .int 0]))) (h5 : kv_g h 5 = some (.inl (2, 9, .inr (.inr (.inr (.inr rr)))))) (hrr : ∀ j, j < 9 → rr j = some (6 + 7 * j)) (hS : vS h t 0 0 mn set 0) (hR : ∀ j, j < 9 → vR h (6 + 7 * j) (fun _ _ => nI 0) (fun _ => 0)) (hm : h.2 = (68, z)) : wp (fX4_init_51 (kv_lim bX4_init)) [some (.ref 1), x1] [] h (fun v h' => v = none ∧ vL h' t 0 mn [] 0 (-nI 1) 0 [] 0 ∧ h'.2 = (73, z + 138)) := by
  unfold fX4_init_51
  refine w_fi rfl h1 (by rfl) (by rfl) (Nat.le_of_ble_eq_true rfl) (fun g0 o0 f0 m0 => ?_)
  have m0' := m0.trans hm
  have m01 : g0.2.1 = 68 := by rw [m0']
  have c1 : kv_g (kv_n g0 (.inr (3, [.null, .null, .int 0, .int 0])) 4) 69 = some (.inr (3, [.null, .null, .int 0, .int 0])) := by rw [kv_gn, if_pos (by omega)]
  have c2 : (kv_n g0 (.inr (3, [.null, .null, .int 0, .int 0])) 4).2 = (69, z + 4) := by show (g0.2.1 + 1, g0.2.2 + 4) = _; rw [m0']
  have c3 : ∀ a, a ≤ 68 → kv_g (kv_n g0 (.inr (3, [.null, .null, .int 0, .int 0])) 4) a = kv_g g0 a := fun a ha => by rw [kv_gn, if_neg (by omega)]
  simp only [w_aload, List.getElem?_cons_zero, w_new, w_dup, Value.category, true_and, m01]
  generalize kv_n g0 (.inr (3, [.null, .null, .int 0, .int 0])) 4 = g1 at c1 c2 c3 ⊢
  refine w_callI0 (r := [.ref 69, .ref 1]) (p_init3 c1 (by rw [c2])) (Nat.le_of_ble_eq_true rfl) ?_
  rintro v1 g2 ⟨rfl, d1, d2, d3, d4, d5⟩
  have d4' : g2.2 = (71, z + 124) := by rw [d4, c2]
  have e1 : kv_g g2 1 = _ := (d5.2 1 (by decide) (by rw [c2]; show 1 ≤ 69; decide)).trans ((c3 1 (by decide)).trans o0)
  simp only [w_const, w_iload, w_aload, w_iinc, w_istore, w_astore, w_iadd, w_isub, w_imul, w_iand, w_ior, w_ixor, w_ishl, w_ishr, w_ineg, w_i2c, w_dup, w_pop, w_dup_x1, w_dup_x2, w_dup2, w_ifeq, w_ifne, w_iflt, w_ifge, w_ifgt, w_ifle, w_iceq, w_icne, w_iclt, w_icge, w_icgt, w_icle, w_ret, w_iret, w_aret, w_max, w_sld, w_slen, w_new, w_newa, w_newq, w_obj, w_getf, w_putf, w_iald, w_iast, w_alen, w_aald, w_aast, w_copy, List.getElem?_cons_zero, List.getElem?_cons_succ, List.set_cons_zero, List.set_cons_succ, List.length_cons, List.length_nil, List.cons_append, List.nil_append, Option.some.injEq, exists_eq_left', true_and, and_true, Option.toList, Value.category, l_0, l_1, l_2, l_3, l_4, l_8, l_9, l_10, l_12, l_13, l_15, l_26, l_32, l_40, l_41, l_42, l_43, l_45, l_46, l_48, l_49, l_50, l_51, l_59, l_60, l_61, l_62, l_63, l_65, l_90, l_91, l_93, l_94, l_96, l_97, l_100, l_122, l_123, l_124, l_125, l_126, l_161, l_1000, l_67108863, q_nb0, q_nb1, q_ni, q_fi, q_fb0, q_fb1, e1, q_no, q_fo, show ¬ (1 : Nat) = 69 by decide]
  refine ⟨by decide, ?_⟩
  have f1 : kv_fr (fun a => a = 1) g2 (kv_p g2 1 (.inr (4, [.ref 2, .ref 5, .int (nI 0), .ref 69, .null, .int (nI 0), .int (nI 0), .int (nI 0)]))) := kv_fr.rf.p rfl
  have e2 := kv_gp_self (e := .inr (4, [.ref 2, .ref 5, .int (nI 0), .ref 69, .null, .int (nI 0), .int (nI 0), .int (nI 0)])) e1
  generalize kv_p g2 1 (.inr (4, [.ref 2, .ref 5, .int (nI 0), .ref 69, .null, .int (nI 0), .int (nI 0), .int (nI 0)])) = g3 at f1 e2 ⊢
  have m3 : g3.2 = (71, z + 124) := f1.1.trans d4'
  have m31 : g3.2.1 = 71 := by rw [m3]
  have i1 : kv_g (kv_n g3 (.inr (0, [.null])) 1) 72 = some (.inr (0, [.null])) := by rw [kv_gn, if_pos (by omega)]
  have i2 : (kv_n g3 (.inr (0, [.null])) 1).2 = (72, z + 125) := by show (g3.2.1 + 1, g3.2.2 + 1) = _; rw [m3]
  have i3 : ∀ a, a ≤ 71 → kv_g (kv_n g3 (.inr (0, [.null])) 1) a = kv_g g3 a := fun a ha => by rw [kv_gn, if_neg (by omega)]
  simp only [m31]
  generalize kv_n g3 (.inr (0, [.null])) 1 = g4 at i1 i2 i3 ⊢
  refine w_callI0 (r := [.ref 72, .ref 1]) (p_init0 i1 (by rw [i2])) (Nat.le_of_ble_eq_true rfl) ?_
  rintro v1 g5 ⟨rfl, j1, j2, j3, j4⟩
  have j3' : g5.2 = (73, z + 138) := by rw [j3, i2]
  have e3 : kv_g g5 1 = _ := (j4.2 1 (by decide) (by rw [i2]; show 1 ≤ 72; decide)).trans ((i3 1 (by decide)).trans e2)
  have G : ∀ e, kv_g (kv_p g5 1 e) 1 = some e := fun e => kv_gp_self e3
  simp only [w_const, w_iload, w_aload, w_iinc, w_istore, w_astore, w_iadd, w_isub, w_imul, w_iand, w_ior, w_ixor, w_ishl, w_ishr, w_ineg, w_i2c, w_dup, w_pop, w_dup_x1, w_dup_x2, w_dup2, w_ifeq, w_ifne, w_iflt, w_ifge, w_ifgt, w_ifle, w_iceq, w_icne, w_iclt, w_icge, w_icgt, w_icle, w_ret, w_iret, w_aret, w_max, w_sld, w_slen, w_new, w_newa, w_newq, w_obj, w_getf, w_putf, w_iald, w_iast, w_alen, w_aald, w_aast, w_copy, List.getElem?_cons_zero, List.getElem?_cons_succ, List.set_cons_zero, List.set_cons_succ, List.length_cons, List.length_nil, List.cons_append, List.nil_append, Option.some.injEq, exists_eq_left', true_and, and_true, Option.toList, Value.category, l_0, l_1, l_2, l_3, l_4, l_8, l_9, l_10, l_12, l_13, l_15, l_26, l_32, l_40, l_41, l_42, l_43, l_45, l_46, l_48, l_49, l_50, l_51, l_59, l_60, l_61, l_62, l_63, l_65, l_90, l_91, l_93, l_94, l_96, l_97, l_100, l_122, l_123, l_124, l_125, l_126, l_161, l_1000, l_67108863, q_nb0, q_nb1, q_ni, q_fi, q_fb0, q_fb1, e3, q_no, q_fo, G, kv_pp]
  refine ⟨by decide, by decide, by decide, by decide, ?_, j3'⟩
  have all : ∀ a, a ≠ 1 → a ≤ 68 → ∀ e, kv_g (kv_p g5 1 e) a = kv_g h a := fun a q1 q2 e => (kv_gp_ne q1).trans ((j4.2 a (by omega) (by rw [i2]; show a ≤ 72; omega)).trans ((i3 a (by omega)).trans ((f1.2 a q1).trans ((d5.2 a (by omega) (by rw [c2]; show a ≤ 69; omega)).trans ((c3 a q2).trans (f0 a q1))))))
  have tx : ∀ a, 69 ≤ a → a ≤ 71 → ∀ e, kv_g (kv_p g5 1 e) a = kv_g g2 a := fun a q1 q2 e => (kv_gp_ne (by omega)).trans ((j4.2 a (by omega) (by rw [i2]; show a ≤ 72; omega)).trans ((i3 a (by omega)).trans (f1.2 a (by omega))))
  refine ⟨fun _ => 0, fun i hi => by simp at hi, G _, ⟨rr, (all 5 (by decide) (by decide) _).trans h5, hrr⟩, ⟨0, set, 0, ⟨(all 2 (by decide) (by decide) _).trans hS.1, (all 3 (by decide) (by decide) _).trans hS.2.1, (all 4 (by decide) (by decide) _).trans hS.2.2⟩, by decide⟩, ⟨fun _ _ _ => nI 0, fun _ _ => 0, fun i hi => ?_, fun i r hr => by simp at hr⟩, ⟨70, 71, fun _ => 0, (tx 69 (by decide) (by decide) _).trans d1, (tx 70 (by decide) (by decide) _).trans d2, (tx 71 (by decide) (by decide) _).trans d3, Or.inl ⟨rfl, rfl⟩⟩, fun _ => 0, (kv_gp_ne (by decide)).trans j1, (kv_gp_ne (by decide)).trans j2⟩
  obtain ⟨v0, v1, v2, v3, v4, v5, v6⟩ := hR i hi
  exact ⟨(all _ (by omega) (by omega) _).trans v0, (all _ (by omega) (by omega) _).trans v1, (all _ (by omega) (by omega) _).trans v2, (all _ (by omega) (by omega) _).trans v3, (all _ (by omega) (by omega) _).trans v4, (all _ (by omega) (by omega) _).trans v5, (all _ (by omega) (by omega) _).trans v6⟩
theorem p_init4 {h : kv_H} {z : Nat} (h1 : kv_g h 1 = some (.inr (4, [.null, .null, .int 0, .null, .null, .int 0, .int 0, .int 0]))) (hm : h.2 = (1, z)) : wm mX4_init [.ref 1] h (fun v h' => v = none ∧ (∃ mn', (∀ j, j < 26 → mn' j = -nI 1) ∧ vL h' (fun _ => 0) 0 mn' [] 0 (-nI 1) 0 [] 0) ∧ h'.2 = (73, z + 839)) := by
  refine iX4_init rfl ?_
  unfold fX4_init_0
  refine w_ob (b := 1) rfl ?_
  have m01 : h.2.1 = 1 := by rw [hm]
  have c1 : kv_g (kv_n h (.inr (2, [.null, .int 0, .int 0, .null, .int 0, .int 0])) 6) 2 = some (.inr (2, [.null, .int 0, .int 0, .null, .int 0, .int 0])) := by rw [kv_gn, if_pos (by omega)]
  have c2 : (kv_n h (.inr (2, [.null, .int 0, .int 0, .null, .int 0, .int 0])) 6).2 = (2, z + 6) := by show (h.2.1 + 1, h.2.2 + 6) = _; rw [hm]
  have c3 : kv_g (kv_n h (.inr (2, [.null, .int 0, .int 0, .null, .int 0, .int 0])) 6) 1 = kv_g h 1 := by rw [kv_gn, if_neg (by omega)]
  simp only [w_aload, List.getElem?_cons_zero, w_new, w_dup, Value.category, true_and, m01]
  generalize kv_n h (.inr (2, [.null, .int 0, .int 0, .null, .int 0, .int 0])) 6 = g1 at c1 c2 c3 ⊢
  refine w_callI0 (r := [.ref 2, .ref 1]) (p_init2 c1 c2) (Nat.le_of_ble_eq_true rfl) ?_
  rintro v1 g2 ⟨rfl, ⟨mn, hS, hmn⟩, d2, d3⟩
  have e1 : kv_g g2 1 = _ := d3.trans (c3.trans h1)
  have G : ∀ e, kv_g (kv_p g2 1 e) 1 = some e := fun e => kv_gp_self e1
  have q9 : (nI 9).toNatClampNeg = 9 := nI_clamp (by decide)
  have r9 : nI 0 ≤ nI 9 := nI_pos' (by decide)
  simp only [w_const, w_iload, w_aload, w_iinc, w_istore, w_astore, w_iadd, w_isub, w_imul, w_iand, w_ior, w_ixor, w_ishl, w_ishr, w_ineg, w_i2c, w_dup, w_pop, w_dup_x1, w_dup_x2, w_dup2, w_ifeq, w_ifne, w_iflt, w_ifge, w_ifgt, w_ifle, w_iceq, w_icne, w_iclt, w_icge, w_icgt, w_icle, w_ret, w_iret, w_aret, w_max, w_sld, w_slen, w_new, w_newa, w_newq, w_obj, w_getf, w_putf, w_iald, w_iast, w_alen, w_aald, w_aast, w_copy, List.getElem?_cons_zero, List.getElem?_cons_succ, List.set_cons_zero, List.set_cons_succ, List.length_cons, List.length_nil, List.cons_append, List.nil_append, Option.some.injEq, exists_eq_left', true_and, and_true, Option.toList, Value.category, l_0, l_1, l_2, l_3, l_4, l_8, l_9, l_10, l_12, l_13, l_15, l_26, l_32, l_40, l_41, l_42, l_43, l_45, l_46, l_48, l_49, l_50, l_51, l_59, l_60, l_61, l_62, l_63, l_65, l_90, l_91, l_93, l_94, l_96, l_97, l_100, l_122, l_123, l_124, l_125, l_126, l_161, l_1000, l_67108863, q_nb0, q_nb1, q_ni, q_fi, q_fb0, q_fb1, e1, q_no, q_fo, q9, r9]
  refine ⟨by decide, by decide, ?_⟩
  have f1 : kv_fr (fun a => a = 1) g2 (kv_p g2 1 (.inr (4, [.ref 2, .null, .int (nI 0), .null, .null, .int (nI 0), .int (nI 0), .int (nI 0)]))) := kv_fr.rf.p rfl
  have e2 := G (.inr (4, [.ref 2, .null, .int (nI 0), .null, .null, .int (nI 0), .int (nI 0), .int (nI 0)]))
  generalize kv_p g2 1 (.inr (4, [.ref 2, .null, .int (nI 0), .null, .null, .int (nI 0), .int (nI 0), .int (nI 0)])) = g3 at f1 e2 ⊢
  have m3 : g3.2 = (4, z + 80) := f1.1.trans (d2.trans (by simp))
  have m31 : g3.2.1 = 4 := by rw [m3]
  have i1 : kv_g (kv_n g3 (.inl (2, 9, .inr (.inr (.inr (.inr (fun _ => none)))))) 9) 5 = some (.inl (2, 9, .inr (.inr (.inr (.inr (fun _ => none)))))) := by rw [kv_gn, if_pos (by omega)]
  have i2 : (kv_n g3 (.inl (2, 9, .inr (.inr (.inr (.inr (fun _ => none)))))) 9).2 = (5, z + 89) := by show (g3.2.1 + 1, g3.2.2 + 9) = _; rw [m3]
  have i3 : ∀ a, a ≤ 4 → kv_g (kv_n g3 (.inl (2, 9, .inr (.inr (.inr (.inr (fun _ => none)))))) 9) a = kv_g g3 a := fun a ha => by rw [kv_gn, if_neg (by omega)]
  simp only [m31]
  generalize kv_n g3 (.inl (2, 9, .inr (.inr (.inr (.inr (fun _ => none)))))) 9 = g4 at i1 i2 i3 ⊢
  have e3 : kv_g g4 1 = _ := (i3 1 (by decide)).trans e2
  simp only [w_const, w_iload, w_aload, w_iinc, w_istore, w_astore, w_iadd, w_isub, w_imul, w_iand, w_ior, w_ixor, w_ishl, w_ishr, w_ineg, w_i2c, w_dup, w_pop, w_dup_x1, w_dup_x2, w_dup2, w_ifeq, w_ifne, w_iflt, w_ifge, w_ifgt, w_ifle, w_iceq, w_icne, w_iclt, w_icge, w_icgt, w_icle, w_ret, w_iret, w_aret, w_max, w_sld, w_slen, w_new, w_newa, w_newq, w_obj, w_getf, w_putf, w_iald, w_iast, w_alen, w_aald, w_aast, w_copy, List.getElem?_cons_zero, List.getElem?_cons_succ, List.set_cons_zero, List.set_cons_succ, List.length_cons, List.length_nil, List.cons_append, List.nil_append, Option.some.injEq, exists_eq_left', true_and, and_true, Option.toList, Value.category, l_0, l_1, l_2, l_3, l_4, l_8, l_9, l_10, l_12, l_13, l_15, l_26, l_32, l_40, l_41, l_42, l_43, l_45, l_46, l_48, l_49, l_50, l_51, l_59, l_60, l_61, l_62, l_63, l_65, l_90, l_91, l_93, l_94, l_96, l_97, l_100, l_122, l_123, l_124, l_125, l_126, l_161, l_1000, l_67108863, q_nb0, q_nb1, q_ni, q_fi, q_fb0, q_fb1, e3, q_nq, q_fq]
  refine ⟨by decide, ?_⟩
  have f5 : kv_fr (fun a => a = 1) g4 (kv_p g4 1 (.inr (4, [.ref 2, .ref 5, .int (nI 0), .null, .null, .int (nI 0), .int (nI 0), .int (nI 0)]))) := kv_fr.rf.p rfl
  have e5 := kv_gp_self (e := .inr (4, [.ref 2, .ref 5, .int (nI 0), .null, .null, .int (nI 0), .int (nI 0), .int (nI 0)])) e3
  generalize kv_p g4 1 (.inr (4, [.ref 2, .ref 5, .int (nI 0), .null, .null, .int (nI 0), .int (nI 0), .int (nI 0)])) = g5 at f5 e5 ⊢
  have s5 : vS g5 (fun _ => 0) 0 0 mn (nI 0) 0 := ⟨(f5.2 2 (by decide)).trans ((i3 2 (by decide)).trans ((f1.2 2 (by decide)).trans hS.1)), (f5.2 3 (by decide)).trans ((i3 3 (by decide)).trans ((f1.2 3 (by decide)).trans hS.2.1)), (f5.2 4 (by decide)).trans ((i3 4 (by decide)).trans ((f1.2 4 (by decide)).trans hS.2.2))⟩
  have loop : ∀ (f i : Nat) (g : kv_H) (rr : Nat → Option Nat), i + f = 9 → kv_g g 1 = some (.inr (4, [.ref 2, .ref 5, .int (nI 0), .null, .null, .int (nI 0), .int (nI 0), .int (nI 0)])) → kv_g g 5 = some (.inl (2, 9, .inr (.inr (.inr (.inr rr))))) → (∀ j, j < i → rr j = some (6 + 7 * j)) → vS g (fun _ => 0) 0 0 mn (nI 0) 0 → (∀ j, j < i → vR g (6 + 7 * j) (fun _ _ => nI 0) (fun _ => 0)) → g.2 = (5 + 7 * i, z + 89 + 68 * i) → wp (kv_lim bX4_init 26) [some (.ref 1), some (.int (nI i))] [] g (fun v h' => v = none ∧ (∃ mn', (∀ j, j < 26 → mn' j = -nI 1) ∧ vL h' (fun _ => 0) 0 mn' [] 0 (-nI 1) 0 [] 0) ∧ h'.2 = (73, z + 839)) := by
    intro f
    induction f with
    | zero =>
      intro i g rr hi p1 p5 prr pS pR pm
      refine tX4_init_26 ?_
      have ei : i = 9 := by omega
      subst ei
      simp only [fX4_init_26, w_const, w_iload, w_aload, w_iinc, w_istore, w_astore, w_iadd, w_isub, w_imul, w_iand, w_ior, w_ixor, w_ishl, w_ishr, w_ineg, w_i2c, w_dup, w_pop, w_dup_x1, w_dup_x2, w_dup2, w_ifeq, w_ifne, w_iflt, w_ifge, w_ifgt, w_ifle, w_iceq, w_icne, w_iclt, w_icge, w_icgt, w_icle, w_ret, w_iret, w_aret, w_max, w_sld, w_slen, w_new, w_newa, w_newq, w_obj, w_getf, w_putf, w_iald, w_iast, w_alen, w_aald, w_aast, w_copy, List.getElem?_cons_zero, List.getElem?_cons_succ, List.set_cons_zero, List.set_cons_succ, List.length_cons, List.length_nil, List.cons_append, List.nil_append, Option.some.injEq, exists_eq_left', true_and, and_true, Option.toList, Value.category, l_0, l_1, l_2, l_3, l_4, l_8, l_9, l_10, l_12, l_13, l_15, l_26, l_32, l_40, l_41, l_42, l_43, l_45, l_46, l_48, l_49, l_50, l_51, l_59, l_60, l_61, l_62, l_63, l_65, l_90, l_91, l_93, l_94, l_96, l_97, l_100, l_122, l_123, l_124, l_125, l_126, l_161, l_1000, l_67108863, q_nb0, q_nb1, q_ni, q_fi, q_fb0, q_fb1, q_lt (show 8 < 2147483648 by decide) (show 9 < 2147483648 by decide), show 8 < 9 by decide, if_true]
      refine wp_mono (p_init4_end (x1 := some (.int (nI 9))) p1 p5 prr pS pR pm) (fun v h' q => ⟨q.1, ⟨mn, hmn, q.2.1⟩, ?_⟩)
      rw [q.2.2]
    | succ f ih =>
      intro i g rr hi p1 p5 prr pS pR pm
      refine tX4_init_26 ?_
      have g1 : i < 2147483648 := by omega
      have pm1 : g.2.1 = 5 + 7 * i := by rw [pm]
      simp only [fX4_init_26, fX4_init_32, w_iload, w_const, w_icgt, w_aload, w_getf, w_new, w_dup, List.getElem?_cons_zero, List.getElem?_cons_succ, Value.category, true_and, l_8, q_lt (show 8 < 2147483648 by decide) g1, show ¬ 8 < i by omega, if_false, p1, Option.some.injEq, exists_eq_left']
      have c1 : kv_g (kv_n g (.inr (1, [.null, .null, .null, .int 0, .int 0, .int 0, .int 0, .null, .null, .int 0, .null, .int 0, .int 0, .int 0])) 14) (6 + 7 * i) = some (.inr (1, [.null, .null, .null, .int 0, .int 0, .int 0, .int 0, .null, .null, .int 0, .null, .int 0, .int 0, .int 0])) := by rw [kv_gn, if_pos (by omega)]
      have c2 : (kv_n g (.inr (1, [.null, .null, .null, .int 0, .int 0, .int 0, .int 0, .null, .null, .int 0, .null, .int 0, .int 0, .int 0])) 14).2 = (6 + 7 * i, z + 89 + 68 * i + 14) := by
        show (g.2.1 + 1, g.2.2 + 14) = _
        rw [pm]
        congr 1
        omega
      have c3 : ∀ a, a ≤ 5 + 7 * i → kv_g (kv_n g (.inr (1, [.null, .null, .null, .int 0, .int 0, .int 0, .int 0, .null, .null, .int 0, .null, .int 0, .int 0, .int 0])) 14) a = kv_g g a := fun a ha => by rw [kv_gn, if_neg (by omega)]
      have c4 : g.2.1 + 1 = 6 + 7 * i := by omega
      rw [c4]
      generalize kv_n g (.inr (1, [.null, .null, .null, .int 0, .int 0, .int 0, .int 0, .null, .null, .int 0, .null, .int 0, .int 0, .int 0])) 14 = g6 at c1 c2 c3 ⊢
      refine w_callI0 (r := [.ref (6 + 7 * i), .int (nI i), .ref 5]) (p_init1 c1 c2) (Nat.le_of_ble_eq_true rfl) ?_
      rintro v1 g7 ⟨rfl, vr, dm, df⟩
      have old : ∀ a, a ≤ 5 + 7 * i → kv_g g7 a = kv_g g a := fun a ha => (df a (by omega) (by omega)).trans (c3 a ha)
      have p57 := (old 5 (by omega)).trans p5
      simp only [w_const, w_iload, w_aload, w_iinc, w_istore, w_astore, w_iadd, w_isub, w_imul, w_iand, w_ior, w_ixor, w_ishl, w_ishr, w_ineg, w_i2c, w_dup, w_pop, w_dup_x1, w_dup_x2, w_dup2, w_ifeq, w_ifne, w_iflt, w_ifge, w_ifgt, w_ifle, w_iceq, w_icne, w_iclt, w_icge, w_icgt, w_icle, w_ret, w_iret, w_aret, w_max, w_sld, w_slen, w_new, w_newa, w_newq, w_obj, w_getf, w_putf, w_iald, w_iast, w_alen, w_aald, w_aast, w_copy, List.getElem?_cons_zero, List.getElem?_cons_succ, List.set_cons_zero, List.set_cons_succ, List.length_cons, List.length_nil, List.cons_append, List.nil_append, Option.some.injEq, exists_eq_left', true_and, and_true, Option.toList, Value.category, l_0, l_1, l_2, l_3, l_4, l_8, l_9, l_10, l_12, l_13, l_15, l_26, l_32, l_40, l_41, l_42, l_43, l_45, l_46, l_48, l_49, l_50, l_51, l_59, l_60, l_61, l_62, l_63, l_65, l_90, l_91, l_93, l_94, l_96, l_97, l_100, l_122, l_123, l_124, l_125, l_126, l_161, l_1000, l_67108863, q_nb0, q_nb1, q_ni, q_fi, q_fb0, q_fb1, p57, q_le (show 0 < 2147483648 by decide) g1, q_clamp g1, Nat.zero_le, show i < 9 by omega, q_add]
      refine ⟨⟨_, vr.1⟩, ?_⟩
      have f8 : kv_fr (fun a => a = 5) g7 (kv_p g7 5 (.inl (2, 9, .inr (.inr (.inr (.inr (va_up rr i (some (6 + 7 * i))))))))) := kv_fr.rf.p rfl
      refine ih (i + 1) _ (va_up rr i (some (6 + 7 * i))) (by omega) ((f8.2 1 (by decide)).trans ((old 1 (by omega)).trans p1)) (kv_gp_self p57) (fun j hj => ?_) (vS_fr ⟨(old 2 (by omega)).trans pS.1, (old 3 (by omega)).trans pS.2.1, (old 4 (by omega)).trans pS.2.2⟩ f8 (by decide) (by decide) (by decide)) (fun j hj => ?_) ?_
      · by_cases q : j = i
        · subst q
          exact va_up_self _ _ _
        · rw [va_up_ne _ _ q]
          exact prr j (by omega)
      · refine vR_fr ?_ f8 (fun a q1 q2 => by unfold inR at q2; omega)
        by_cases q : j = i
        · subst q
          exact vr
        · obtain ⟨u0, u1, u2, u3, u4, u5, u6⟩ := pR j (by omega)
          exact ⟨(old _ (by omega)).trans u0, (old _ (by omega)).trans u1, (old _ (by omega)).trans u2, (old _ (by omega)).trans u3, (old _ (by omega)).trans u4, (old _ (by omega)).trans u5, (old _ (by omega)).trans u6⟩
      · rw [f8.1, dm]
        congr 1 <;> omega
  exact loop 9 0 g5 (fun _ => none) (by omega) e5 ((f5.2 5 (by decide)).trans i1) (fun j hj => by omega) s5 (fun j hj => by omega) (f5.1.trans i2)
