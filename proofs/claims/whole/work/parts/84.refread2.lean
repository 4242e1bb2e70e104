/-! read, whole; the reference -/
section RV
variable {t : Nat → Nat}
theorem plc_at (t : Nat → Nat) (c : Nat) : ∀ (f i : Nat), plc t c f i < i + f → t (plc t c f i) = c := by
  intro f
  induction f with
  | zero => intro i h; exact absurd h (by unfold plc; omega)
  | succ f ih =>
    intro i h
    unfold plc at h ⊢
    by_cases e : t i = c
    · rw [if_pos e]
      exact e
    · rw [if_neg e] at h ⊢
      exact ih (i + 1) (by omega)
/-- what the reference does with a statement -/
def rdQ (t : Nat → Nat) (n : Nat) (mn : Nat → Int32) (rs : List Rl) (sg : List (Nat × Nat)) (a : Int32) (y' : Nat → Int32) (B' : Nat → Nat → Int32) : Prop :=
  if 2 < n ∧ cap (t 0) = true ∧ t 1 = 61 then cDef t n mn (sEl t n mn n 2) a (B' 1) ∧ y' 5 = nI rs.length
  else B' 1 = mn ∧ (if plc t 62 n 0 = n ∨ (plc t 123 n 0 < plc t 62 n 0 ∧ plc t 125 n 0 < plc t 123 n 0) ∨ (allR t (n - (plc t 62 n 0 + 1)) (plc t 62 n 0 + 1) && decide (cnt t 124 (plc t 62 n 0 + 1) (n - (plc t 62 n 0 + 1)) ≤ 1)) = false then a = -nI 1 ∧ y' 5 = nI rs.length
    else gdQ t n (plc t 62 n 0) rs sg (gd t mn n (plc t 62 n 0) (if plc t 123 n 0 < plc t 62 n 0 then plc t 123 n 0 else 0) (if plc t 123 n 0 < plc t 62 n 0 then plc t 123 n 0 + 1 else 0) (if plc t 125 n 0 < plc t 62 n 0 then plc t 125 n 0 else plc t 62 n 0)) a y' B')
def pRd (y0 : Nat → Int32) (B0 : Nat → Nat → Int32) (h0 : kv_H) (rs : List Rl) (Q : Int32 → (Nat → Int32) → (Nat → Nat → Int32) → Prop) (v : Option Value) (h' : kv_H) : Prop := ∃ a y' B', v = some (.int a) ∧ vY h' y' B' ∧ kv_fr inYr h0 h' ∧ (∀ k, k = 0 ∨ 5 < k → y' k = y0 k) ∧ (∀ k, k = 0 ∨ 15 < k → B' k = B0 k) ∧ (∀ j b, rs[j]? = some b → yR B' j b) ∧ Q a y' B'
theorem r_read {y : Nat → Int32} {B : Nat → Nat → Int32} {h : kv_H} {n : Nat} {rs : List Rl} {sg : List (Nat × Nat)} (H : vY h y B) (ht : ∀ i, t i < 128) (hB : B 0 = fun i => nI (t i)) (hM : okM (B 1)) (hn : n ≤ 48) (hy0 : y 0 = nI n) (hm : rs.length ≤ 8) (hy : y 5 = nI rs.length) (hR : ∀ j a, rs[j]? = some a → yR B j a) (hw : ∀ a ∈ rs, wfR a) : wm mX5_read [.ref 74] h (pRd y B h rs (rdQ t n (B 1) rs sg)) := by
  refine iX5_read rfl ?_
  simp only [fX5_read_0, w_const, w_iload, w_aload, w_iinc, w_istore, w_astore, w_iadd, w_isub, w_imul, w_iand, w_ior, w_ixor, w_ishl, w_ishr, w_ineg, w_i2c, w_dup, w_pop, w_dup_x1, w_dup_x2, w_dup2, w_ifeq, w_ifne, w_iflt, w_ifge, w_ifgt, w_ifle, w_iceq, w_icne, w_iclt, w_icge, w_icgt, w_icle, w_ret, w_iret, w_aret, w_max, w_sld, w_slen, w_new, w_newa, w_newq, w_obj, w_getf, w_putf, w_iald, w_iast, w_alen, w_aald, w_aast, w_copy, List.getElem?_cons_zero, List.getElem?_cons_succ, List.set_cons_zero, List.set_cons_succ, List.length_cons, List.length_nil, List.cons_append, List.nil_append, Option.some.injEq, exists_eq_left', true_and, and_true, Option.toList, Value.category, l_0, l_1, l_2, l_3, l_4, l_8, l_9, l_10, l_12, l_13, l_15, l_26, l_32, l_40, l_41, l_42, l_43, l_45, l_46, l_48, l_49, l_50, l_51, l_59, l_60, l_61, l_62, l_63, l_65, l_90, l_91, l_93, l_94, l_96, l_97, l_100, l_122, l_123, l_124, l_125, l_126, l_161, l_1000, l_67108863, q_nb0, q_nb1, q_ni, q_fi, q_fb0, q_fb1, vY_74 H]
  refine ⟨by decide, ?_⟩
  have H1 : vY (kv_p h 74 (yo (va_up y 1 (nI 0)))) (va_up y 1 (nI 0)) B := vY_o H
  have f1 : kv_fr inYr h (kv_p h 74 (yo (va_up y 1 (nI 0)))) := kv_fr.rf.p (by unfold inYr; decide)
  have eg1 : kv_p h 74 (yo (va_up y 1 (nI 0))) = kv_p h 74 (.inr (5, [.int (y 0), .ref 75, .ref 76, .int (nI 0), .ref 77, .ref 78, .ref 79, .ref 80, .int (y 2), .int (y 3), .int (y 4), .int (y 5), .ref 81, .ref 82, .ref 83, .ref 84, .ref 85, .ref 86, .ref 87, .ref 88, .ref 89, .ref 90, .int (y 6), .ref 91, .ref 92, .int (y 7), .int (y 8), .int (y 9), .int (y 10), .int (y 11), .ref 93, .ref 94])) := rfl
  rw [← eg1]
  have u1 : va_up y 1 (nI 0) 1 = nI 0 := rfl
  have v1 : ∀ k, k ≠ 1 → va_up y 1 (nI 0) k = y k := fun k hk => va_up_ne _ _ hk
  generalize kv_p h 74 (yo (va_up y 1 (nI 0))) = k1 at H1 f1 ⊢
  generalize va_up y 1 (nI 0) = y1 at H1 u1 v1
  simp only [w_const, w_iload, w_aload, w_iinc, w_istore, w_astore, w_iadd, w_isub, w_imul, w_iand, w_ior, w_ixor, w_ishl, w_ishr, w_ineg, w_i2c, w_dup, w_pop, w_dup_x1, w_dup_x2, w_dup2, w_ifeq, w_ifne, w_iflt, w_ifge, w_ifgt, w_ifle, w_iceq, w_icne, w_iclt, w_icge, w_icgt, w_icle, w_ret, w_iret, w_aret, w_max, w_sld, w_slen, w_new, w_newa, w_newq, w_obj, w_getf, w_putf, w_iald, w_iast, w_alen, w_aald, w_aast, w_copy, List.getElem?_cons_zero, List.getElem?_cons_succ, List.set_cons_zero, List.set_cons_succ, List.length_cons, List.length_nil, List.cons_append, List.nil_append, Option.some.injEq, exists_eq_left', true_and, and_true, Option.toList, Value.category, l_0, l_1, l_2, l_3, l_4, l_8, l_9, l_10, l_12, l_13, l_15, l_26, l_32, l_40, l_41, l_42, l_43, l_45, l_46, l_48, l_49, l_50, l_51, l_59, l_60, l_61, l_62, l_63, l_65, l_90, l_91, l_93, l_94, l_96, l_97, l_100, l_122, l_123, l_124, l_125, l_126, l_161, l_1000, l_67108863, q_nb0, q_nb1, q_ni, q_fi, q_fb0, q_fb1, vY_74 H1]
  refine ⟨by decide, ?_⟩
  have H2 : vY (kv_p k1 74 (yo (va_up y1 2 (nI 0)))) (va_up y1 2 (nI 0)) B := vY_o H1
  have f2 : kv_fr inYr h (kv_p k1 74 (yo (va_up y1 2 (nI 0)))) := f1.p (by unfold inYr; decide)
  have eg2 : kv_p k1 74 (yo (va_up y1 2 (nI 0))) = kv_p k1 74 (.inr (5, [.int (y1 0), .ref 75, .ref 76, .int (y1 1), .ref 77, .ref 78, .ref 79, .ref 80, .int (nI 0), .int (y1 3), .int (y1 4), .int (y1 5), .ref 81, .ref 82, .ref 83, .ref 84, .ref 85, .ref 86, .ref 87, .ref 88, .ref 89, .ref 90, .int (y1 6), .ref 91, .ref 92, .int (y1 7), .int (y1 8), .int (y1 9), .int (y1 10), .int (y1 11), .ref 93, .ref 94])) := rfl
  rw [← eg2]
  have u2 : va_up y1 2 (nI 0) 2 = nI 0 := rfl
  have v2 : ∀ k, k ≠ 2 → va_up y1 2 (nI 0) k = y1 k := fun k hk => va_up_ne _ _ hk
  generalize kv_p k1 74 (yo (va_up y1 2 (nI 0))) = k2 at H2 f2 ⊢
  generalize va_up y1 2 (nI 0) = y2 at H2 u2 v2
  simp only [w_const, w_iload, w_aload, w_iinc, w_istore, w_astore, w_iadd, w_isub, w_imul, w_iand, w_ior, w_ixor, w_ishl, w_ishr, w_ineg, w_i2c, w_dup, w_pop, w_dup_x1, w_dup_x2, w_dup2, w_ifeq, w_ifne, w_iflt, w_ifge, w_ifgt, w_ifle, w_iceq, w_icne, w_iclt, w_icge, w_icgt, w_icle, w_ret, w_iret, w_aret, w_max, w_sld, w_slen, w_new, w_newa, w_newq, w_obj, w_getf, w_putf, w_iald, w_iast, w_alen, w_aald, w_aast, w_copy, List.getElem?_cons_zero, List.getElem?_cons_succ, List.set_cons_zero, List.set_cons_succ, List.length_cons, List.length_nil, List.cons_append, List.nil_append, Option.some.injEq, exists_eq_left', true_and, and_true, Option.toList, Value.category, l_0, l_1, l_2, l_3, l_4, l_8, l_9, l_10, l_12, l_13, l_15, l_26, l_32, l_40, l_41, l_42, l_43, l_45, l_46, l_48, l_49, l_50, l_51, l_59, l_60, l_61, l_62, l_63, l_65, l_90, l_91, l_93, l_94, l_96, l_97, l_100, l_122, l_123, l_124, l_125, l_126, l_161, l_1000, l_67108863, q_nb0, q_nb1, q_ni, q_fi, q_fb0, q_fb1, vY_74 H2]
  refine ⟨by decide, ?_⟩
  have H3 : vY (kv_p k2 74 (yo (va_up y2 3 (nI 0)))) (va_up y2 3 (nI 0)) B := vY_o H2
  have f3 : kv_fr inYr h (kv_p k2 74 (yo (va_up y2 3 (nI 0)))) := f2.p (by unfold inYr; decide)
  have eg3 : kv_p k2 74 (yo (va_up y2 3 (nI 0))) = kv_p k2 74 (.inr (5, [.int (y2 0), .ref 75, .ref 76, .int (y2 1), .ref 77, .ref 78, .ref 79, .ref 80, .int (y2 2), .int (nI 0), .int (y2 4), .int (y2 5), .ref 81, .ref 82, .ref 83, .ref 84, .ref 85, .ref 86, .ref 87, .ref 88, .ref 89, .ref 90, .int (y2 6), .ref 91, .ref 92, .int (y2 7), .int (y2 8), .int (y2 9), .int (y2 10), .int (y2 11), .ref 93, .ref 94])) := rfl
  rw [← eg3]
  have u3 : va_up y2 3 (nI 0) 3 = nI 0 := rfl
  have v3 : ∀ k, k ≠ 3 → va_up y2 3 (nI 0) k = y2 k := fun k hk => va_up_ne _ _ hk
  generalize kv_p k2 74 (yo (va_up y2 3 (nI 0))) = k3 at H3 f3 ⊢
  generalize va_up y2 3 (nI 0) = y3 at H3 u3 v3
  have ky : ∀ k, k = 0 ∨ 3 < k → y3 k = y k := fun k hk => (v3 k (by omega)).trans ((v2 k (by omega)).trans (v1 k (by omega)))
  have z0 : y3 0 = nI n := (ky 0 (by decide)).trans hy0
  have z5 : y3 5 = nI rs.length := (ky 5 (by decide)).trans hy
  have z1 : yE y3 B [] := ⟨(v3 1 (by decide)).trans ((v2 1 (by decide)).trans u1), fun i e q => by cases q⟩
  have z2 : y3 2 = nI 0 := (v3 2 (by decide)).trans u2
  simp only [w_const, w_iload, w_aload, w_iinc, w_istore, w_astore, w_iadd, w_isub, w_imul, w_iand, w_ior, w_ixor, w_ishl, w_ishr, w_ineg, w_i2c, w_dup, w_pop, w_dup_x1, w_dup_x2, w_dup2, w_ifeq, w_ifne, w_iflt, w_ifge, w_ifgt, w_ifle, w_iceq, w_icne, w_iclt, w_icge, w_icgt, w_icle, w_ret, w_iret, w_aret, w_max, w_sld, w_slen, w_new, w_newa, w_newq, w_obj, w_getf, w_putf, w_iald, w_iast, w_alen, w_aald, w_aast, w_copy, List.getElem?_cons_zero, List.getElem?_cons_succ, List.set_cons_zero, List.set_cons_succ, List.length_cons, List.length_nil, List.cons_append, List.nil_append, Option.some.injEq, exists_eq_left', true_and, and_true, Option.toList, Value.category, l_0, l_1, l_2, l_3, l_4, l_8, l_9, l_10, l_12, l_13, l_15, l_26, l_32, l_40, l_41, l_42, l_43, l_45, l_46, l_48, l_49, l_50, l_51, l_59, l_60, l_61, l_62, l_63, l_65, l_90, l_91, l_93, l_94, l_96, l_97, l_100, l_122, l_123, l_124, l_125, l_126, l_161, l_1000, l_67108863, q_nb0, q_nb1, q_ni, q_fi, q_fb0, q_fb1, vY_74 H3, z0, q_le (show n < 2147483648 by omega) (show 2 < 2147483648 by decide)]
  have ok3 : ∀ (a : Int32), rdQ t n (B 1) rs sg a y3 B → pRd y B h rs (rdQ t n (B 1) rs sg) (some (.int a)) k3 := fun a q => ⟨a, y3, B, rfl, H3, f3, fun k hk => ky k (by omega), fun _ _ => rfl, hR, q⟩
  have at51 : ¬ (2 < n ∧ cap (t 0) = true ∧ t 1 = 61) → wp (fX5_read_51 (kv_lim bX5_read)) [some (.ref 74), none, none, none, none, none, none, none] [] k3 (pRd y B h rs (rdQ t n (B 1) rs sg)) := by
    intro hd
    have lA := plc_le t 62 n 0
    have lO := plc_le t 123 n 0
    have lC := plc_le t 125 n 0
    have tA := plc_at t 62 n 0
    have tO := plc_at t 123 n 0
    have tC := plc_at t 125 n 0
    have pA := r_place (c := 62) H3 hB ht z0 hn (by decide)
    have pO := r_place (c := 123) H3 hB ht z0 hn (by decide)
    have pC := r_place (c := 125) H3 hB ht z0 hn (by decide)
    have bad : (plc t 62 n 0 = n ∨ (plc t 123 n 0 < plc t 62 n 0 ∧ plc t 125 n 0 < plc t 123 n 0) ∨ (allR t (n - (plc t 62 n 0 + 1)) (plc t 62 n 0 + 1) && decide (cnt t 124 (plc t 62 n 0 + 1) (n - (plc t 62 n 0 + 1)) ≤ 1)) = false) → ∀ L, wp (fX5_read_123 (kv_lim bX5_read)) L [] k3 (pRd y B h rs (rdQ t n (B 1) rs sg)) := by
      intro q L
      simp only [fX5_read_123, w_const, w_iload, w_aload, w_iinc, w_istore, w_astore, w_iadd, w_isub, w_imul, w_iand, w_ior, w_ixor, w_ishl, w_ishr, w_ineg, w_i2c, w_dup, w_pop, w_dup_x1, w_dup_x2, w_dup2, w_ifeq, w_ifne, w_iflt, w_ifge, w_ifgt, w_ifle, w_iceq, w_icne, w_iclt, w_icge, w_icgt, w_icle, w_ret, w_iret, w_aret, w_max, w_sld, w_slen, w_new, w_newa, w_newq, w_obj, w_getf, w_putf, w_iald, w_iast, w_alen, w_aald, w_aast, w_copy, List.getElem?_cons_zero, List.getElem?_cons_succ, List.set_cons_zero, List.set_cons_succ, List.length_cons, List.length_nil, List.cons_append, List.nil_append, Option.some.injEq, exists_eq_left', true_and, and_true, Option.toList, Value.category, l_0, l_1, l_2, l_3, l_4, l_8, l_9, l_10, l_12, l_13, l_15, l_26, l_32, l_40, l_41, l_42, l_43, l_45, l_46, l_48, l_49, l_50, l_51, l_59, l_60, l_61, l_62, l_63, l_65, l_90, l_91, l_93, l_94, l_96, l_97, l_100, l_122, l_123, l_124, l_125, l_126, l_161, l_1000, l_67108863, q_nb0, q_nb1, q_ni, q_fi, q_fb0, q_fb1]
      exact ok3 _ (by unfold rdQ; rw [if_neg hd, if_pos q]; exact ⟨rfl, rfl, z5⟩)
    have go : ¬ (plc t 62 n 0 = n ∨ (plc t 123 n 0 < plc t 62 n 0 ∧ plc t 125 n 0 < plc t 123 n 0) ∨ (allR t (n - (plc t 62 n 0 + 1)) (plc t 62 n 0 + 1) && decide (cnt t 124 (plc t 62 n 0 + 1) (n - (plc t 62 n 0 + 1)) ≤ 1)) = false) → ∀ op, (plc t 123 n 0 < plc t 62 n 0 → op = nI (plc t 123 n 0)) → (¬ plc t 123 n 0 < plc t 62 n 0 → op = -nI 1) → wp (fX5_read_125 (kv_lim bX5_read)) [some (.ref 74), some (.int (nI (plc t 62 n 0))), some (.int op), some (.int (nI (if plc t 125 n 0 < plc t 62 n 0 then plc t 125 n 0 else plc t 62 n 0))), none, none, none, none] [] k3 (pRd y B h rs (rdQ t n (B 1) rs sg)) := by
      intro q op h1 h2
      have w9 := r_rows (y0 := y3) (B0 := B) (h0 := k3) (n := n) (A := plc t 62 n 0) (o0 := if plc t 123 n 0 < plc t 62 n 0 then plc t 123 n 0 else 0) (p2 := if plc t 123 n 0 < plc t 62 n 0 then plc t 123 n 0 + 1 else 0) (cl := if plc t 125 n 0 < plc t 62 n 0 then plc t 125 n 0 else plc t 62 n 0) (op := op) (rs := rs) (sg := sg) (x4 := none) (x5 := none) (x6 := none) (x7 := none) H3 ht hB hM hn z0 hm z5 hR hw z1 z2 u3 (by omega) ?_ ?_ ?_ kv_fr.rf (fun _ _ => rfl) (fun _ _ => rfl)
      · refine wp_mono w9 ?_
        rintro v h' ⟨a, y', B', rfl, H', f', e1, e2, e3, e4⟩
        refine ⟨a, y', B', rfl, H', f3.tr f', fun k hk => (e1 k hk).trans (ky k (by omega)), fun k hk => e2 k (by omega), e3, ?_⟩
        unfold rdQ
        rw [if_neg hd, if_neg q]
        exact ⟨e2 1 (by decide), e4⟩
      · by_cases e : plc t 123 n 0 < plc t 62 n 0
        · rw [if_pos e, if_pos e]
          exact Or.inl ⟨h1 e, rfl⟩
        · rw [if_neg e, if_neg e]
          exact Or.inr ⟨h2 e, rfl, rfl⟩
      · by_cases e : plc t 123 n 0 < plc t 62 n 0
        · rw [if_pos e]
          have e3 := tO (by omega)
          split
          · rename_i e4
            have e5 := tC (by omega)
            have ne : plc t 123 n 0 ≠ plc t 125 n 0 := fun z => by rw [z, e5] at e3; cases e3
            omega
          · omega
        · rw [if_neg e]
          exact Nat.zero_le _
      · split <;> omega
    generalize plc t 62 n 0 = A at *
    generalize plc t 123 n 0 = O at *
    generalize plc t 125 n 0 = C at *
    have gA : A < 2147483648 := by omega
    have gO : O < 2147483648 := by omega
    have gC : C < 2147483648 := by omega
    have at99 : ∀ op, (O < A → op = nI O) → (¬ O < A → op = -nI 1) → wp (fX5_read_99 (kv_lim bX5_read)) [some (.ref 74), some (.int (nI A)), some (.int op), none, none, none, none, none] [.int (nI (if C < A then C else A))] k3 (pRd y B h rs (rdQ t n (B 1) rs sg)) := by
      intro op h1 h2
      simp only [fX5_read_99, w_const, w_iload, w_aload, w_iinc, w_istore, w_astore, w_iadd, w_isub, w_imul, w_iand, w_ior, w_ixor, w_ishl, w_ishr, w_ineg, w_i2c, w_dup, w_pop, w_dup_x1, w_dup_x2, w_dup2, w_ifeq, w_ifne, w_iflt, w_ifge, w_ifgt, w_ifle, w_iceq, w_icne, w_iclt, w_icge, w_icgt, w_icle, w_ret, w_iret, w_aret, w_max, w_sld, w_slen, w_new, w_newa, w_newq, w_obj, w_getf, w_putf, w_iald, w_iast, w_alen, w_aald, w_aast, w_copy, List.getElem?_cons_zero, List.getElem?_cons_succ, List.set_cons_zero, List.set_cons_succ, List.length_cons, List.length_nil, List.cons_append, List.nil_append, Option.some.injEq, exists_eq_left', true_and, and_true, Option.toList, Value.category, l_0, l_1, l_2, l_3, l_4, l_8, l_9, l_10, l_12, l_13, l_15, l_26, l_32, l_40, l_41, l_42, l_43, l_45, l_46, l_48, l_49, l_50, l_51, l_59, l_60, l_61, l_62, l_63, l_65, l_90, l_91, l_93, l_94, l_96, l_97, l_100, l_122, l_123, l_124, l_125, l_126, l_161, l_1000, l_67108863, q_nb0, q_nb1, q_ni, q_fi, q_fb0, q_fb1, vY_74 H3, z0, q_eq gA (show n < 2147483648 by omega)]
      by_cases e1 : A = n
      · rw [if_pos e1]
        exact bad (Or.inl e1) _
      rw [if_neg e1]
      have gl : (if C < A then C else A) < 2147483648 := by split <;> omega
      have fin : ¬ (O < A ∧ C < O) → wp (fX5_read_113 (kv_lim bX5_read)) [some (.ref 74), some (.int (nI A)), some (.int op), some (.int (nI (if C < A then C else A))), none, none, none, none] [] k3 (pRd y B h rs (rdQ t n (B 1) rs sg)) := by
        intro e2
        simp only [fX5_read_113, w_const, w_iload, w_aload, w_iinc, w_istore, w_astore, w_iadd, w_isub, w_imul, w_iand, w_ior, w_ixor, w_ishl, w_ishr, w_ineg, w_i2c, w_dup, w_pop, w_dup_x1, w_dup_x2, w_dup2, w_ifeq, w_ifne, w_iflt, w_ifge, w_ifgt, w_ifle, w_iceq, w_icne, w_iclt, w_icge, w_icgt, w_icle, w_ret, w_iret, w_aret, w_max, w_sld, w_slen, w_new, w_newa, w_newq, w_obj, w_getf, w_putf, w_iald, w_iast, w_alen, w_aald, w_aast, w_copy, List.getElem?_cons_zero, List.getElem?_cons_succ, List.set_cons_zero, List.set_cons_succ, List.length_cons, List.length_nil, List.cons_append, List.nil_append, Option.some.injEq, exists_eq_left', true_and, and_true, Option.toList, Value.category, l_0, l_1, l_2, l_3, l_4, l_8, l_9, l_10, l_12, l_13, l_15, l_26, l_32, l_40, l_41, l_42, l_43, l_45, l_46, l_48, l_49, l_50, l_51, l_59, l_60, l_61, l_62, l_63, l_65, l_90, l_91, l_93, l_94, l_96, l_97, l_100, l_122, l_123, l_124, l_125, l_126, l_161, l_1000, l_67108863, q_nb0, q_nb1, q_ni, q_fi, q_fb0, q_fb1, q_add]
        refine w_callV1 (r := []) (vY_74 H3) (r_replacement H3 hB ht z0 hn (by omega)) (by decide) ?_
        rintro v1 g1 ⟨rfl, rfl⟩
        simp only [w_const, w_iload, w_aload, w_iinc, w_istore, w_astore, w_iadd, w_isub, w_imul, w_iand, w_ior, w_ixor, w_ishl, w_ishr, w_ineg, w_i2c, w_dup, w_pop, w_dup_x1, w_dup_x2, w_dup2, w_ifeq, w_ifne, w_iflt, w_ifge, w_ifgt, w_ifle, w_iceq, w_icne, w_iclt, w_icge, w_icgt, w_icle, w_ret, w_iret, w_aret, w_max, w_sld, w_slen, w_new, w_newa, w_newq, w_obj, w_getf, w_putf, w_iald, w_iast, w_alen, w_aald, w_aast, w_copy, List.getElem?_cons_zero, List.getElem?_cons_succ, List.set_cons_zero, List.set_cons_succ, List.length_cons, List.length_nil, List.cons_append, List.nil_append, Option.some.injEq, exists_eq_left', true_and, and_true, Option.toList, Value.category, l_0, l_1, l_2, l_3, l_4, l_8, l_9, l_10, l_12, l_13, l_15, l_26, l_32, l_40, l_41, l_42, l_43, l_45, l_46, l_48, l_49, l_50, l_51, l_59, l_60, l_61, l_62, l_63, l_65, l_90, l_91, l_93, l_94, l_96, l_97, l_100, l_122, l_123, l_124, l_125, l_126, l_161, l_1000, l_67108863, q_nb0, q_nb1, q_ni, q_fi, q_fb0, q_fb1, q_b]
        by_cases e3 : (allR t (n - (A + 1)) (A + 1) && decide (cnt t 124 (A + 1) (n - (A + 1)) ≤ 1)) = false
        · rw [if_neg (fun z => z e3)]
          exact bad (Or.inr (Or.inr e3)) _
        · rw [if_pos e3]
          exact go (fun z => by rcases z with z | z | z; exact e1 z; exact e2 z; exact e3 z) op h1 h2
      simp only [fX5_read_108, w_const, w_iload, w_aload, w_iinc, w_istore, w_astore, w_iadd, w_isub, w_imul, w_iand, w_ior, w_ixor, w_ishl, w_ishr, w_ineg, w_i2c, w_dup, w_pop, w_dup_x1, w_dup_x2, w_dup2, w_ifeq, w_ifne, w_iflt, w_ifge, w_ifgt, w_ifle, w_iceq, w_icne, w_iclt, w_icge, w_icgt, w_icle, w_ret, w_iret, w_aret, w_max, w_sld, w_slen, w_new, w_newa, w_newq, w_obj, w_getf, w_putf, w_iald, w_iast, w_alen, w_aald, w_aast, w_copy, List.getElem?_cons_zero, List.getElem?_cons_succ, List.set_cons_zero, List.set_cons_succ, List.length_cons, List.length_nil, List.cons_append, List.nil_append, Option.some.injEq, exists_eq_left', true_and, and_true, Option.toList, Value.category, l_0, l_1, l_2, l_3, l_4, l_8, l_9, l_10, l_12, l_13, l_15, l_26, l_32, l_40, l_41, l_42, l_43, l_45, l_46, l_48, l_49, l_50, l_51, l_59, l_60, l_61, l_62, l_63, l_65, l_90, l_91, l_93, l_94, l_96, l_97, l_100, l_122, l_123, l_124, l_125, l_126, l_161, l_1000, l_67108863, q_nb0, q_nb1, q_ni, q_fi, q_fb0, q_fb1]
      by_cases e0 : O < A
      · have eo := h1 e0
        subst eo
        simp only [q_lt gl gO]
        by_cases e2 : C < O
        · rw [if_pos (by rw [if_pos (show C < A by omega)]; exact e2)]
          exact bad (Or.inr (Or.inl ⟨e0, e2⟩)) _
        · rw [if_neg (by split <;> omega)]
          exact fin (fun z => e2 z.2)
      · have eo := h2 e0
        subst eo
        have ng : ¬ nI (if C < A then C else A) < -nI 1 := by
          rw [Int32.lt_iff_toInt_lt, nI_toInt gl, show (-nI 1).toInt = -1 by decide +kernel]
          omega
        rw [if_neg ng]
        exact fin (fun z => e0 z.1)
    have at78 : ∀ op, (O < A → op = nI O) → (¬ O < A → op = -nI 1) → wp (fX5_read_78 (kv_lim bX5_read)) [some (.ref 74), some (.int (nI A)), none, none, none, none, none, none] [.int op] k3 (pRd y B h rs (rdQ t n (B 1) rs sg)) := by
      intro op h1 h2
      have w9 := at99 op h1 h2
      simp only [fX5_read_78, w_const, w_iload, w_aload, w_iinc, w_istore, w_astore, w_iadd, w_isub, w_imul, w_iand, w_ior, w_ixor, w_ishl, w_ishr, w_ineg, w_i2c, w_dup, w_pop, w_dup_x1, w_dup_x2, w_dup2, w_ifeq, w_ifne, w_iflt, w_ifge, w_ifgt, w_ifle, w_iceq, w_icne, w_iclt, w_icge, w_icgt, w_icle, w_ret, w_iret, w_aret, w_max, w_sld, w_slen, w_new, w_newa, w_newq, w_obj, w_getf, w_putf, w_iald, w_iast, w_alen, w_aald, w_aast, w_copy, List.getElem?_cons_zero, List.getElem?_cons_succ, List.set_cons_zero, List.set_cons_succ, List.length_cons, List.length_nil, List.cons_append, List.nil_append, Option.some.injEq, exists_eq_left', true_and, and_true, Option.toList, Value.category, l_0, l_1, l_2, l_3, l_4, l_8, l_9, l_10, l_12, l_13, l_15, l_26, l_32, l_40, l_41, l_42, l_43, l_45, l_46, l_48, l_49, l_50, l_51, l_59, l_60, l_61, l_62, l_63, l_65, l_90, l_91, l_93, l_94, l_96, l_97, l_100, l_122, l_123, l_124, l_125, l_126, l_161, l_1000, l_67108863, q_nb0, q_nb1, q_ni, q_fi, q_fb0, q_fb1]
      refine w_callV1 (r := []) (vY_74 H3) pC (by decide) ?_
      rintro v1 g1 ⟨rfl, rfl⟩
      simp only [w_const, w_iload, w_aload, w_iinc, w_istore, w_astore, w_iadd, w_isub, w_imul, w_iand, w_ior, w_ixor, w_ishl, w_ishr, w_ineg, w_i2c, w_dup, w_pop, w_dup_x1, w_dup_x2, w_dup2, w_ifeq, w_ifne, w_iflt, w_ifge, w_ifgt, w_ifle, w_iceq, w_icne, w_iclt, w_icge, w_icgt, w_icle, w_ret, w_iret, w_aret, w_max, w_sld, w_slen, w_new, w_newa, w_newq, w_obj, w_getf, w_putf, w_iald, w_iast, w_alen, w_aald, w_aast, w_copy, List.getElem?_cons_zero, List.getElem?_cons_succ, List.set_cons_zero, List.set_cons_succ, List.length_cons, List.length_nil, List.cons_append, List.nil_append, Option.some.injEq, exists_eq_left', true_and, and_true, Option.toList, Value.category, l_0, l_1, l_2, l_3, l_4, l_8, l_9, l_10, l_12, l_13, l_15, l_26, l_32, l_40, l_41, l_42, l_43, l_45, l_46, l_48, l_49, l_50, l_51, l_59, l_60, l_61, l_62, l_63, l_65, l_90, l_91, l_93, l_94, l_96, l_97, l_100, l_122, l_123, l_124, l_125, l_126, l_161, l_1000, l_67108863, q_nb0, q_nb1, q_ni, q_fi, q_fb0, q_fb1, q_le gA gC]
      by_cases e : A ≤ C
      · rw [if_pos e]
        rw [if_neg (show ¬ C < A by omega)] at w9
        simp only [fX5_read_98, w_const, w_iload, w_aload, w_iinc, w_istore, w_astore, w_iadd, w_isub, w_imul, w_iand, w_ior, w_ixor, w_ishl, w_ishr, w_ineg, w_i2c, w_dup, w_pop, w_dup_x1, w_dup_x2, w_dup2, w_ifeq, w_ifne, w_iflt, w_ifge, w_ifgt, w_ifle, w_iceq, w_icne, w_iclt, w_icge, w_icgt, w_icle, w_ret, w_iret, w_aret, w_max, w_sld, w_slen, w_new, w_newa, w_newq, w_obj, w_getf, w_putf, w_iald, w_iast, w_alen, w_aald, w_aast, w_copy, List.getElem?_cons_zero, List.getElem?_cons_succ, List.set_cons_zero, List.set_cons_succ, List.length_cons, List.length_nil, List.cons_append, List.nil_append, Option.some.injEq, exists_eq_left', true_and, and_true, Option.toList, Value.category, l_0, l_1, l_2, l_3, l_4, l_8, l_9, l_10, l_12, l_13, l_15, l_26, l_32, l_40, l_41, l_42, l_43, l_45, l_46, l_48, l_49, l_50, l_51, l_59, l_60, l_61, l_62, l_63, l_65, l_90, l_91, l_93, l_94, l_96, l_97, l_100, l_122, l_123, l_124, l_125, l_126, l_161, l_1000, l_67108863, q_nb0, q_nb1, q_ni, q_fi, q_fb0, q_fb1]
        exact w9
      · rw [if_neg e]
        rw [if_pos (show C < A by omega)] at w9
        simp only [fX5_read_89, w_const, w_iload, w_aload, w_iinc, w_istore, w_astore, w_iadd, w_isub, w_imul, w_iand, w_ior, w_ixor, w_ishl, w_ishr, w_ineg, w_i2c, w_dup, w_pop, w_dup_x1, w_dup_x2, w_dup2, w_ifeq, w_ifne, w_iflt, w_ifge, w_ifgt, w_ifle, w_iceq, w_icne, w_iclt, w_icge, w_icgt, w_icle, w_ret, w_iret, w_aret, w_max, w_sld, w_slen, w_new, w_newa, w_newq, w_obj, w_getf, w_putf, w_iald, w_iast, w_alen, w_aald, w_aast, w_copy, List.getElem?_cons_zero, List.getElem?_cons_succ, List.set_cons_zero, List.set_cons_succ, List.length_cons, List.length_nil, List.cons_append, List.nil_append, Option.some.injEq, exists_eq_left', true_and, and_true, Option.toList, Value.category, l_0, l_1, l_2, l_3, l_4, l_8, l_9, l_10, l_12, l_13, l_15, l_26, l_32, l_40, l_41, l_42, l_43, l_45, l_46, l_48, l_49, l_50, l_51, l_59, l_60, l_61, l_62, l_63, l_65, l_90, l_91, l_93, l_94, l_96, l_97, l_100, l_122, l_123, l_124, l_125, l_126, l_161, l_1000, l_67108863, q_nb0, q_nb1, q_ni, q_fi, q_fb0, q_fb1]
        refine w_callV1 (r := []) (vY_74 H3) pC (by decide) ?_
        rintro v1 g2 ⟨rfl, rfl⟩
        exact w9
    simp only [fX5_read_51, w_const, w_iload, w_aload, w_iinc, w_istore, w_astore, w_iadd, w_isub, w_imul, w_iand, w_ior, w_ixor, w_ishl, w_ishr, w_ineg, w_i2c, w_dup, w_pop, w_dup_x1, w_dup_x2, w_dup2, w_ifeq, w_ifne, w_iflt, w_ifge, w_ifgt, w_ifle, w_iceq, w_icne, w_iclt, w_icge, w_icgt, w_icle, w_ret, w_iret, w_aret, w_max, w_sld, w_slen, w_new, w_newa, w_newq, w_obj, w_getf, w_putf, w_iald, w_iast, w_alen, w_aald, w_aast, w_copy, List.getElem?_cons_zero, List.getElem?_cons_succ, List.set_cons_zero, List.set_cons_succ, List.length_cons, List.length_nil, List.cons_append, List.nil_append, Option.some.injEq, exists_eq_left', true_and, and_true, Option.toList, Value.category, l_0, l_1, l_2, l_3, l_4, l_8, l_9, l_10, l_12, l_13, l_15, l_26, l_32, l_40, l_41, l_42, l_43, l_45, l_46, l_48, l_49, l_50, l_51, l_59, l_60, l_61, l_62, l_63, l_65, l_90, l_91, l_93, l_94, l_96, l_97, l_100, l_122, l_123, l_124, l_125, l_126, l_161, l_1000, l_67108863, q_nb0, q_nb1, q_ni, q_fi, q_fb0, q_fb1]
    refine w_callV1 (r := []) (vY_74 H3) pA (by decide) ?_
    rintro v1 g1 ⟨rfl, rfl⟩
    simp only [w_const, w_iload, w_aload, w_iinc, w_istore, w_astore, w_iadd, w_isub, w_imul, w_iand, w_ior, w_ixor, w_ishl, w_ishr, w_ineg, w_i2c, w_dup, w_pop, w_dup_x1, w_dup_x2, w_dup2, w_ifeq, w_ifne, w_iflt, w_ifge, w_ifgt, w_ifle, w_iceq, w_icne, w_iclt, w_icge, w_icgt, w_icle, w_ret, w_iret, w_aret, w_max, w_sld, w_slen, w_new, w_newa, w_newq, w_obj, w_getf, w_putf, w_iald, w_iast, w_alen, w_aald, w_aast, w_copy, List.getElem?_cons_zero, List.getElem?_cons_succ, List.set_cons_zero, List.set_cons_succ, List.length_cons, List.length_nil, List.cons_append, List.nil_append, Option.some.injEq, exists_eq_left', true_and, and_true, Option.toList, Value.category, l_0, l_1, l_2, l_3, l_4, l_8, l_9, l_10, l_12, l_13, l_15, l_26, l_32, l_40, l_41, l_42, l_43, l_45, l_46, l_48, l_49, l_50, l_51, l_59, l_60, l_61, l_62, l_63, l_65, l_90, l_91, l_93, l_94, l_96, l_97, l_100, l_122, l_123, l_124, l_125, l_126, l_161, l_1000, l_67108863, q_nb0, q_nb1, q_ni, q_fi, q_fb0, q_fb1]
    refine w_callV1 (r := []) (vY_74 H3) pO (by decide) ?_
    rintro v1 g2 ⟨rfl, rfl⟩
    simp only [w_const, w_iload, w_aload, w_iinc, w_istore, w_astore, w_iadd, w_isub, w_imul, w_iand, w_ior, w_ixor, w_ishl, w_ishr, w_ineg, w_i2c, w_dup, w_pop, w_dup_x1, w_dup_x2, w_dup2, w_ifeq, w_ifne, w_iflt, w_ifge, w_ifgt, w_ifle, w_iceq, w_icne, w_iclt, w_icge, w_icgt, w_icle, w_ret, w_iret, w_aret, w_max, w_sld, w_slen, w_new, w_newa, w_newq, w_obj, w_getf, w_putf, w_iald, w_iast, w_alen, w_aald, w_aast, w_copy, List.getElem?_cons_zero, List.getElem?_cons_succ, List.set_cons_zero, List.set_cons_succ, List.length_cons, List.length_nil, List.cons_append, List.nil_append, Option.some.injEq, exists_eq_left', true_and, and_true, Option.toList, Value.category, l_0, l_1, l_2, l_3, l_4, l_8, l_9, l_10, l_12, l_13, l_15, l_26, l_32, l_40, l_41, l_42, l_43, l_45, l_46, l_48, l_49, l_50, l_51, l_59, l_60, l_61, l_62, l_63, l_65, l_90, l_91, l_93, l_94, l_96, l_97, l_100, l_122, l_123, l_124, l_125, l_126, l_161, l_1000, l_67108863, q_nb0, q_nb1, q_ni, q_fi, q_fb0, q_fb1, q_le gA gO]
    by_cases e : A ≤ O
    · rw [if_pos e]
      simp only [fX5_read_77, w_const, w_iload, w_aload, w_iinc, w_istore, w_astore, w_iadd, w_isub, w_imul, w_iand, w_ior, w_ixor, w_ishl, w_ishr, w_ineg, w_i2c, w_dup, w_pop, w_dup_x1, w_dup_x2, w_dup2, w_ifeq, w_ifne, w_iflt, w_ifge, w_ifgt, w_ifle, w_iceq, w_icne, w_iclt, w_icge, w_icgt, w_icle, w_ret, w_iret, w_aret, w_max, w_sld, w_slen, w_new, w_newa, w_newq, w_obj, w_getf, w_putf, w_iald, w_iast, w_alen, w_aald, w_aast, w_copy, List.getElem?_cons_zero, List.getElem?_cons_succ, List.set_cons_zero, List.set_cons_succ, List.length_cons, List.length_nil, List.cons_append, List.nil_append, Option.some.injEq, exists_eq_left', true_and, and_true, Option.toList, Value.category, l_0, l_1, l_2, l_3, l_4, l_8, l_9, l_10, l_12, l_13, l_15, l_26, l_32, l_40, l_41, l_42, l_43, l_45, l_46, l_48, l_49, l_50, l_51, l_59, l_60, l_61, l_62, l_63, l_65, l_90, l_91, l_93, l_94, l_96, l_97, l_100, l_122, l_123, l_124, l_125, l_126, l_161, l_1000, l_67108863, q_nb0, q_nb1, q_ni, q_fi, q_fb0, q_fb1]
      exact at78 _ (fun z => absurd z (by omega)) (fun _ => rfl)
    · rw [if_neg e]
      simp only [fX5_read_68, w_const, w_iload, w_aload, w_iinc, w_istore, w_astore, w_iadd, w_isub, w_imul, w_iand, w_ior, w_ixor, w_ishl, w_ishr, w_ineg, w_i2c, w_dup, w_pop, w_dup_x1, w_dup_x2, w_dup2, w_ifeq, w_ifne, w_iflt, w_ifge, w_ifgt, w_ifle, w_iceq, w_icne, w_iclt, w_icge, w_icgt, w_icle, w_ret, w_iret, w_aret, w_max, w_sld, w_slen, w_new, w_newa, w_newq, w_obj, w_getf, w_putf, w_iald, w_iast, w_alen, w_aald, w_aast, w_copy, List.getElem?_cons_zero, List.getElem?_cons_succ, List.set_cons_zero, List.set_cons_succ, List.length_cons, List.length_nil, List.cons_append, List.nil_append, Option.some.injEq, exists_eq_left', true_and, and_true, Option.toList, Value.category, l_0, l_1, l_2, l_3, l_4, l_8, l_9, l_10, l_12, l_13, l_15, l_26, l_32, l_40, l_41, l_42, l_43, l_45, l_46, l_48, l_49, l_50, l_51, l_59, l_60, l_61, l_62, l_63, l_65, l_90, l_91, l_93, l_94, l_96, l_97, l_100, l_122, l_123, l_124, l_125, l_126, l_161, l_1000, l_67108863, q_nb0, q_nb1, q_ni, q_fi, q_fb0, q_fb1]
      refine w_callV1 (r := []) (vY_74 H3) pO (by decide) ?_
      rintro v1 g3 ⟨rfl, rfl⟩
      exact at78 _ (fun _ => rfl) (fun z => absurd (show O < A by omega) z)
  by_cases e1 : n ≤ 2
  · rw [if_pos e1]
    exact at51 (fun z => by omega)
  rw [if_neg e1]
  have ht0 := ht 0
  have ht1 := ht 1
  simp only [fX5_read_23, w_const, w_iload, w_aload, w_iinc, w_istore, w_astore, w_iadd, w_isub, w_imul, w_iand, w_ior, w_ixor, w_ishl, w_ishr, w_ineg, w_i2c, w_dup, w_pop, w_dup_x1, w_dup_x2, w_dup2, w_ifeq, w_ifne, w_iflt, w_ifge, w_ifgt, w_ifle, w_iceq, w_icne, w_iclt, w_icge, w_icgt, w_icle, w_ret, w_iret, w_aret, w_max, w_sld, w_slen, w_new, w_newa, w_newq, w_obj, w_getf, w_putf, w_iald, w_iast, w_alen, w_aald, w_aast, w_copy, List.getElem?_cons_zero, List.getElem?_cons_succ, List.set_cons_zero, List.set_cons_succ, List.length_cons, List.length_nil, List.cons_append, List.nil_append, Option.some.injEq, exists_eq_left', true_and, and_true, Option.toList, Value.category, l_0, l_1, l_2, l_3, l_4, l_8, l_9, l_10, l_12, l_13, l_15, l_26, l_32, l_40, l_41, l_42, l_43, l_45, l_46, l_48, l_49, l_50, l_51, l_59, l_60, l_61, l_62, l_63, l_65, l_90, l_91, l_93, l_94, l_96, l_97, l_100, l_122, l_123, l_124, l_125, l_126, l_161, l_1000, l_67108863, q_nb0, q_nb1, q_ni, q_fi, q_fb0, q_fb1, vY_74 H3, vY_75 H3, hB, q_le (show 0 < 2147483648 by decide) (show 0 < 2147483648 by decide), q_clamp (show 0 < 2147483648 by decide), Nat.zero_le, show 0 < 48 by decide]
  refine w_callS1 (r := []) (r_capital (by omega) k3) (by decide) ?_
  rintro v1 g1 ⟨rfl, rfl⟩
  simp only [w_const, w_iload, w_aload, w_iinc, w_istore, w_astore, w_iadd, w_isub, w_imul, w_iand, w_ior, w_ixor, w_ishl, w_ishr, w_ineg, w_i2c, w_dup, w_pop, w_dup_x1, w_dup_x2, w_dup2, w_ifeq, w_ifne, w_iflt, w_ifge, w_ifgt, w_ifle, w_iceq, w_icne, w_iclt, w_icge, w_icgt, w_icle, w_ret, w_iret, w_aret, w_max, w_sld, w_slen, w_new, w_newa, w_newq, w_obj, w_getf, w_putf, w_iald, w_iast, w_alen, w_aald, w_aast, w_copy, List.getElem?_cons_zero, List.getElem?_cons_succ, List.set_cons_zero, List.set_cons_succ, List.length_cons, List.length_nil, List.cons_append, List.nil_append, Option.some.injEq, exists_eq_left', true_and, and_true, Option.toList, Value.category, l_0, l_1, l_2, l_3, l_4, l_8, l_9, l_10, l_12, l_13, l_15, l_26, l_32, l_40, l_41, l_42, l_43, l_45, l_46, l_48, l_49, l_50, l_51, l_59, l_60, l_61, l_62, l_63, l_65, l_90, l_91, l_93, l_94, l_96, l_97, l_100, l_122, l_123, l_124, l_125, l_126, l_161, l_1000, l_67108863, q_nb0, q_nb1, q_ni, q_fi, q_fb0, q_fb1, q_b]
  by_cases e2 : cap (t 0) = false
  · rw [if_pos e2]
    exact at51 (fun z => by rw [e2] at z; exact absurd z.2.1 (by decide))
  rw [if_neg e2]
  have e2' : cap (t 0) = true := by simpa using e2
  simp only [fX5_read_35, w_const, w_iload, w_aload, w_iinc, w_istore, w_astore, w_iadd, w_isub, w_imul, w_iand, w_ior, w_ixor, w_ishl, w_ishr, w_ineg, w_i2c, w_dup, w_pop, w_dup_x1, w_dup_x2, w_dup2, w_ifeq, w_ifne, w_iflt, w_ifge, w_ifgt, w_ifle, w_iceq, w_icne, w_iclt, w_icge, w_icgt, w_icle, w_ret, w_iret, w_aret, w_max, w_sld, w_slen, w_new, w_newa, w_newq, w_obj, w_getf, w_putf, w_iald, w_iast, w_alen, w_aald, w_aast, w_copy, List.getElem?_cons_zero, List.getElem?_cons_succ, List.set_cons_zero, List.set_cons_succ, List.length_cons, List.length_nil, List.cons_append, List.nil_append, Option.some.injEq, exists_eq_left', true_and, and_true, Option.toList, Value.category, l_0, l_1, l_2, l_3, l_4, l_8, l_9, l_10, l_12, l_13, l_15, l_26, l_32, l_40, l_41, l_42, l_43, l_45, l_46, l_48, l_49, l_50, l_51, l_59, l_60, l_61, l_62, l_63, l_65, l_90, l_91, l_93, l_94, l_96, l_97, l_100, l_122, l_123, l_124, l_125, l_126, l_161, l_1000, l_67108863, q_nb0, q_nb1, q_ni, q_fi, q_fb0, q_fb1, vY_74 H3, vY_75 H3, hB, q_le (show 0 < 2147483648 by decide) (show 1 < 2147483648 by decide), q_clamp (show 1 < 2147483648 by decide), Nat.zero_le, show 1 < 48 by decide, q_eq (show t 1 < 2147483648 by omega) (show 61 < 2147483648 by decide)]
  by_cases e3 : ¬ t 1 = 61
  · rw [if_pos e3]
    exact at51 (fun z => e3 z.2.2)
  rw [if_neg e3]
  have e3' : t 1 = 61 := by omega
  simp only [fX5_read_46, w_const, w_iload, w_aload, w_iinc, w_istore, w_astore, w_iadd, w_isub, w_imul, w_iand, w_ior, w_ixor, w_ishl, w_ishr, w_ineg, w_i2c, w_dup, w_pop, w_dup_x1, w_dup_x2, w_dup2, w_ifeq, w_ifne, w_iflt, w_ifge, w_ifgt, w_ifle, w_iceq, w_icne, w_iclt, w_icge, w_icgt, w_icle, w_ret, w_iret, w_aret, w_max, w_sld, w_slen, w_new, w_newa, w_newq, w_obj, w_getf, w_putf, w_iald, w_iast, w_alen, w_aald, w_aast, w_copy, List.getElem?_cons_zero, List.getElem?_cons_succ, List.set_cons_zero, List.set_cons_succ, List.length_cons, List.length_nil, List.cons_append, List.nil_append, Option.some.injEq, exists_eq_left', true_and, and_true, Option.toList, Value.category, l_0, l_1, l_2, l_3, l_4, l_8, l_9, l_10, l_12, l_13, l_15, l_26, l_32, l_40, l_41, l_42, l_43, l_45, l_46, l_48, l_49, l_50, l_51, l_59, l_60, l_61, l_62, l_63, l_65, l_90, l_91, l_93, l_94, l_96, l_97, l_100, l_122, l_123, l_124, l_125, l_126, l_161, l_1000, l_67108863, q_nb0, q_nb1, q_ni, q_fi, q_fb0, q_fb1]
  refine w_callV0 (r := []) (vY_74 H3) (r_define H3 hB ht hM z0 u3 hn e2') (by decide) ?_
  rintro v1 g2 ⟨a, mn', y', rfl, hq, H', e4, f4⟩
  simp only [w_const, w_iload, w_aload, w_iinc, w_istore, w_astore, w_iadd, w_isub, w_imul, w_iand, w_ior, w_ixor, w_ishl, w_ishr, w_ineg, w_i2c, w_dup, w_pop, w_dup_x1, w_dup_x2, w_dup2, w_ifeq, w_ifne, w_iflt, w_ifge, w_ifgt, w_ifle, w_iceq, w_icne, w_iclt, w_icge, w_icgt, w_icle, w_ret, w_iret, w_aret, w_max, w_sld, w_slen, w_new, w_newa, w_newq, w_obj, w_getf, w_putf, w_iald, w_iast, w_alen, w_aald, w_aast, w_copy, List.getElem?_cons_zero, List.getElem?_cons_succ, List.set_cons_zero, List.set_cons_succ, List.length_cons, List.length_nil, List.cons_append, List.nil_append, Option.some.injEq, exists_eq_left', true_and, and_true, Option.toList, Value.category, l_0, l_1, l_2, l_3, l_4, l_8, l_9, l_10, l_12, l_13, l_15, l_26, l_32, l_40, l_41, l_42, l_43, l_45, l_46, l_48, l_49, l_50, l_51, l_59, l_60, l_61, l_62, l_63, l_65, l_90, l_91, l_93, l_94, l_96, l_97, l_100, l_122, l_123, l_124, l_125, l_126, l_161, l_1000, l_67108863, q_nb0, q_nb1, q_ni, q_fi, q_fb0, q_fb1]
  refine ⟨a, y', va_up B 1 mn', rfl, H', f3.tr (f4.mono (fun b z => by unfold inYd at z; unfold inYr; omega)), fun k hk => (e4 k (by omega) (by omega)).trans (ky k (by omega)), fun k hk => va_up_ne _ _ (by omega), fun j b hjb => yR_B (hR j b hjb) (fun k hk => va_up_ne _ _ (by omega)), ?_⟩
  unfold rdQ
  rw [if_pos ⟨by omega, e2', e3'⟩, va_up_self]
  exact ⟨hq, (e4 5 (by decide) (by decide)).trans z5⟩
end RV
