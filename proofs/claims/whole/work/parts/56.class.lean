/-! the whole object: the class -/
def eS (els : List (Int32 × Nat × Nat)) (i : Nat) : Int32 := (els.getD i (0, 0, 0)).1
def eQ (els : List (Int32 × Nat × Nat)) (i : Nat) : Nat := (els.getD i (0, 0, 0)).2.1
def hQ (els : List (Int32 × Nat × Nat)) : Bool := els.any (fun e => rep e.2.1 || mis e.2.1)
def mskL (e1 : List (Int32 × Nat × Nat)) (k1 : Nat) (e2 : List (Int32 × Nat × Nat)) (k2 : Nat) : Prop := hQ e1 = false ∧ hQ e2 = false ∧ k1 ≤ k2 ∧ e1.length + (k2 - k1) ≤ e2.length ∧ ∀ i, i < e1.length → (eS e2 (i + (k2 - k1)) &&& (eS e1 i ^^^ (-nI 1))) = nI 0
def sR (A : Nat → Nat → Int32) (x : Nat → Nat) (r : Rl) : Prop := rE A x r.1 ∧ rG A x r.2.2.2.1 ∧ rP A x r.2.2.2.2.2.1 ∧ x 1 = r.2.1 ∧ x 2 = r.2.2.1 ∧ x 7 = r.2.2.2.2.2.2
theorem rE_S {A : Nat → Nat → Int32} {x : Nat → Nat} {els : List (Int32 × Nat × Nat)} (h : rE A x els) {i : Nat} (h12 : i < 12) (hi : i < els.length) : A 0 i = eS els i ∧ A 1 i = nI (if mis (eQ els i) = true then 0 else 1) ∧ A 2 i = nI (if rep (eQ els i) = true then 1000 else 1) := by
  have h1 := h.2.2 i els[i] h12 (List.getElem?_eq_getElem hi)
  unfold eS eQ
  rw [List.getD_eq_getElem?_getD, List.getElem?_eq_getElem hi]
  exact h1
theorem tn_0 {u : Bool} : (u.toNat = 0) = (u = false) := by cases u <;> simp
theorem mskC_L {A1 A2 : Nat → Nat → Int32} {x1 x2 : Nat → Nat} {e1 e2 : List (Int32 × Nat × Nat)} (h1 : rE A1 x1 e1) (h2 : rE A2 x2 e2) (l1 : e1.length ≤ 12) (l2 : e2.length ≤ 12) : mskC A1 x1 A2 x2 ↔ mskL e1 (x1 1) e2 (x2 1) := by
  obtain ⟨a0, a3, -⟩ := id h1
  obtain ⟨b0, b3, -⟩ := id h2
  unfold mskC mskL hQ
  rw [a0, b0, a3, b3, tn_0, tn_0]
  constructor
  · rintro ⟨q1, q2, q3, q4, q5⟩
    refine ⟨q1, q2, q3, q4, fun i hi => ?_⟩
    have := q5 i hi
    rw [(rE_S h1 (by omega) hi).1, (rE_S h2 (by omega) (by omega)).1] at this
    exact this
  · rintro ⟨q1, q2, q3, q4, q5⟩
    refine ⟨q1, q2, q3, q4, fun i hi => ?_⟩
    rw [(rE_S h1 (by omega) hi).1, (rE_S h2 (by omega) (by omega)).1]
    exact q5 i hi
def vC (h : kv_H) (t : Nat → Nat) (n : Nat) (mn : Nat → Int32) (rs : List Rl) (ap : Nat) (lat : Int32) (sk : Nat) (lt : Nat → Nat) (sz pl : Nat) : Prop :=
  kv_g h 1 = some (.inr (4, [.ref 2, .ref 5, .int (nI rs.length), .ref 69, .ref 72, .int (nI ap), .int lat, .int (nI sk)])) ∧ (∃ rr, kv_g h 5 = some (.inl (2, 9, .inr (.inr (.inr (.inr rr))))) ∧ ∀ i, i < 9 → rr i = some (6 + 7 * i)) ∧ (∃ a set saw, vS h t n a mn set saw ∧ saw < 2) ∧ (∃ (RA : Nat → Nat → Nat → Int32) (Rx : Nat → Nat → Nat), (∀ i, i < 9 → vR h (6 + 7 * i) (RA i) (Rx i)) ∧ ∀ i r, rs[i]? = some r → sR (RA i) (Rx i) r) ∧ (∃ tl ts sp, vT h tl ts lt sp sz pl) ∧ ∃ bg, vM h bg
def inX : Nat → Prop := fun a => a ≤ 73
/-- a rule that counts -/
def wfR (r : Rl) : Prop := r.1.length ≤ 12 ∧ r.2.1 < r.2.2.1 ∧ r.2.2.1 ≤ r.1.length ∧ r.2.2.2.1.length ≤ 3 ∧ r.2.2.2.2.2.1.length ≤ 12
theorem p_isMasked {h : kv_H} {rs : List Rl} {ap sk : Nat} {lat : Int32} {rr : Nat → Option Nat} {RA : Nat → Nat → Nat → Int32} {Rx : Nat → Nat → Nat} {els : List (Int32 × Nat × Nat)} (h1 : kv_g h 1 = some (.inr (4, [.ref 2, .ref 5, .int (nI rs.length), .ref 69, .ref 72, .int (nI ap), .int lat, .int (nI sk)]))) (h5 : kv_g h 5 = some (.inl (2, 9, .inr (.inr (.inr (.inr rr)))))) (hrr : ∀ i, i < 9 → rr i = some (6 + 7 * i)) (hR : ∀ i, i < 9 → vR h (6 + 7 * i) (RA i) (Rx i)) (hs : ∀ i r, rs[i]? = some r → sR (RA i) (Rx i) r) (hw : ∀ r ∈ rs, wfR r) (hl : rs.length ≤ 8) (hE : rE (RA rs.length) (Rx rs.length) els) (le : els.length ≤ 12) (lk : Rx rs.length 1 ≤ 12) : wm mX4_isMasked [.ref 1, .ref (6 + 7 * rs.length)] h (fun v h' => h' = h ∧ ((v = some (.int (nI 1)) ∧ ∃ r, r ∈ rs ∧ mskL r.1 r.2.1 els (Rx rs.length 1)) ∨ (v = some (.int (nI 0)) ∧ ∀ r, r ∈ rs → ¬ mskL r.1 r.2.1 els (Rx rs.length 1)))) := by
  refine iX4_isMasked rfl rfl ?_
  simp only [fX4_isMasked_0, w_const, w_iload, w_aload, w_iinc, w_istore, w_astore, w_iadd, w_isub, w_imul, w_iand, w_ior, w_ixor, w_ishl, w_ishr, w_ineg, w_i2c, w_dup, w_pop, w_dup_x1, w_dup_x2, w_dup2, w_ifeq, w_ifne, w_iflt, w_ifge, w_ifgt, w_ifle, w_iceq, w_icne, w_iclt, w_icge, w_icgt, w_icle, w_ret, w_iret, w_aret, w_max, w_sld, w_slen, w_new, w_newa, w_newq, w_obj, w_getf, w_putf, w_iald, w_iast, w_alen, w_aald, w_aast, w_copy, List.getElem?_cons_zero, List.getElem?_cons_succ, List.set_cons_zero, List.set_cons_succ, List.length_cons, List.length_nil, List.cons_append, List.nil_append, Option.some.injEq, exists_eq_left', true_and, and_true, Option.toList, Value.category, l_0, l_1, l_2, l_3, l_4, l_8, l_9, l_10, l_12, l_13, l_15, l_26, l_32, l_40, l_41, l_42, l_43, l_45, l_46, l_48, l_49, l_50, l_51, l_59, l_60, l_61, l_62, l_63, l_65, l_90, l_91, l_93, l_94, l_96, l_97, l_100, l_122, l_123, l_124, l_125, l_126, l_161, l_1000, l_67108863, q_nb0, q_nb1, q_ni, q_fi, q_fb0, q_fb1]
  have loop : ∀ (f i : Nat), i + f = rs.length → (∀ j r, j < i → rs[j]? = some r → ¬ mskL r.1 r.2.1 els (Rx rs.length 1)) → wp (kv_lim bX4_isMasked 2) [some (.ref 1), some (.ref (6 + 7 * rs.length)), some (.int (nI i))] [] h (fun v h' => h' = h ∧ ((v = some (.int (nI 1)) ∧ ∃ r, r ∈ rs ∧ mskL r.1 r.2.1 els (Rx rs.length 1)) ∨ (v = some (.int (nI 0)) ∧ ∀ r, r ∈ rs → ¬ mskL r.1 r.2.1 els (Rx rs.length 1)))) := by
    intro f
    induction f with
    | zero =>
      intro i hi hj
      refine tX4_isMasked_2 ?_
      simp only [fX4_isMasked_2, fX4_isMasked_31, w_const, w_iload, w_aload, w_iinc, w_istore, w_astore, w_iadd, w_isub, w_imul, w_iand, w_ior, w_ixor, w_ishl, w_ishr, w_ineg, w_i2c, w_dup, w_pop, w_dup_x1, w_dup_x2, w_dup2, w_ifeq, w_ifne, w_iflt, w_ifge, w_ifgt, w_ifle, w_iceq, w_icne, w_iclt, w_icge, w_icgt, w_icle, w_ret, w_iret, w_aret, w_max, w_sld, w_slen, w_new, w_newa, w_newq, w_obj, w_getf, w_putf, w_iald, w_iast, w_alen, w_aald, w_aast, w_copy, List.getElem?_cons_zero, List.getElem?_cons_succ, List.set_cons_zero, List.set_cons_succ, List.length_cons, List.length_nil, List.cons_append, List.nil_append, Option.some.injEq, exists_eq_left', true_and, and_true, Option.toList, Value.category, l_0, l_1, l_2, l_3, l_4, l_8, l_9, l_10, l_12, l_13, l_15, l_26, l_32, l_40, l_41, l_42, l_43, l_45, l_46, l_48, l_49, l_50, l_51, l_59, l_60, l_61, l_62, l_63, l_65, l_90, l_91, l_93, l_94, l_96, l_97, l_100, l_122, l_123, l_124, l_125, l_126, l_161, l_1000, l_67108863, q_nb0, q_nb1, q_ni, q_fi, q_fb0, q_fb1, h1, q_le (show rs.length < 2147483648 by omega) (show i < 2147483648 by omega), show rs.length ≤ i by omega, if_true]
      refine Or.inr (fun r hr => ?_)
      obtain ⟨j, hj2⟩ := List.getElem?_of_mem hr
      have := (List.getElem?_eq_some_iff.mp hj2).1
      exact hj j r (by omega) hj2
    | succ f ih =>
      intro i hi hj
      refine tX4_isMasked_2 ?_
      have g1 : i < 2147483648 := by omega
      have hil : i < rs.length := by omega
      have hri := List.getElem?_eq_getElem hil
      obtain ⟨sE, sG, sP, sk1, sk2, sk7⟩ := hs i _ hri
      obtain ⟨w1, w2, w3, w4, w5⟩ := hw _ (List.getElem_mem hil)
      simp only [fX4_isMasked_2, fX4_isMasked_10, w_const, w_iload, w_aload, w_iinc, w_istore, w_astore, w_iadd, w_isub, w_imul, w_iand, w_ior, w_ixor, w_ishl, w_ishr, w_ineg, w_i2c, w_dup, w_pop, w_dup_x1, w_dup_x2, w_dup2, w_ifeq, w_ifne, w_iflt, w_ifge, w_ifgt, w_ifle, w_iceq, w_icne, w_iclt, w_icge, w_icgt, w_icle, w_ret, w_iret, w_aret, w_max, w_sld, w_slen, w_new, w_newa, w_newq, w_obj, w_getf, w_putf, w_iald, w_iast, w_alen, w_aald, w_aast, w_copy, List.getElem?_cons_zero, List.getElem?_cons_succ, List.set_cons_zero, List.set_cons_succ, List.length_cons, List.length_nil, List.cons_append, List.nil_append, Option.some.injEq, exists_eq_left', true_and, and_true, Option.toList, Value.category, l_0, l_1, l_2, l_3, l_4, l_8, l_9, l_10, l_12, l_13, l_15, l_26, l_32, l_40, l_41, l_42, l_43, l_45, l_46, l_48, l_49, l_50, l_51, l_59, l_60, l_61, l_62, l_63, l_65, l_90, l_91, l_93, l_94, l_96, l_97, l_100, l_122, l_123, l_124, l_125, l_126, l_161, l_1000, l_67108863, q_nb0, q_nb1, q_ni, q_fi, q_fb0, q_fb1, h1, h5, q_le (show rs.length < 2147483648 by omega) g1, show ¬ rs.length ≤ i by omega, if_false, q_le (show 0 < 2147483648 by decide) g1, q_clamp g1, Nat.zero_le, show i < 9 by omega, hrr i (by omega), va_rf]
      have x30 := sE.2.1
      have x31 := hE.2.1
      refine w_callV1 (r := []) (hR i (by omega)).1 (p_masks (hR i (by omega)) (hR rs.length (by omega)) (by rw [sE.1]; exact w1) (by rw [hE.1]; exact le) (by rw [sk1]; omega) lk (by rw [x30]; exact tn_lt _) (by rw [x31]; exact tn_lt _)) (by decide) ?_
      rintro v1 h2 ⟨rfl, hq⟩
      have hiff := mskC_L sE hE w1 le
      rw [sk1] at hiff
      rcases hq with ⟨rfl, hq⟩ | ⟨rfl, hq⟩
      · simp only [w_const, w_iload, w_aload, w_iinc, w_istore, w_astore, w_iadd, w_isub, w_imul, w_iand, w_ior, w_ixor, w_ishl, w_ishr, w_ineg, w_i2c, w_dup, w_pop, w_dup_x1, w_dup_x2, w_dup2, w_ifeq, w_ifne, w_iflt, w_ifge, w_ifgt, w_ifle, w_iceq, w_icne, w_iclt, w_icge, w_icgt, w_icle, w_ret, w_iret, w_aret, w_max, w_sld, w_slen, w_new, w_newa, w_newq, w_obj, w_getf, w_putf, w_iald, w_iast, w_alen, w_aald, w_aast, w_copy, List.getElem?_cons_zero, List.getElem?_cons_succ, List.set_cons_zero, List.set_cons_succ, List.length_cons, List.length_nil, List.cons_append, List.nil_append, Option.some.injEq, exists_eq_left', true_and, and_true, Option.toList, Value.category, l_0, l_1, l_2, l_3, l_4, l_8, l_9, l_10, l_12, l_13, l_15, l_26, l_32, l_40, l_41, l_42, l_43, l_45, l_46, l_48, l_49, l_50, l_51, l_59, l_60, l_61, l_62, l_63, l_65, l_90, l_91, l_93, l_94, l_96, l_97, l_100, l_122, l_123, l_124, l_125, l_126, l_161, l_1000, l_67108863, q_nb0, q_nb1, q_ni, q_fi, q_fb0, q_fb1, n01, if_false, fX4_isMasked_23]
        exact Or.inl ⟨_, List.getElem_mem hil, hiff.mp hq⟩
      · simp only [w_const, w_iload, w_aload, w_iinc, w_istore, w_astore, w_iadd, w_isub, w_imul, w_iand, w_ior, w_ixor, w_ishl, w_ishr, w_ineg, w_i2c, w_dup, w_pop, w_dup_x1, w_dup_x2, w_dup2, w_ifeq, w_ifne, w_iflt, w_ifge, w_ifgt, w_ifle, w_iceq, w_icne, w_iclt, w_icge, w_icgt, w_icle, w_ret, w_iret, w_aret, w_max, w_sld, w_slen, w_new, w_newa, w_newq, w_obj, w_getf, w_putf, w_iald, w_iast, w_alen, w_aald, w_aast, w_copy, List.getElem?_cons_zero, List.getElem?_cons_succ, List.set_cons_zero, List.set_cons_succ, List.length_cons, List.length_nil, List.cons_append, List.nil_append, Option.some.injEq, exists_eq_left', true_and, and_true, Option.toList, Value.category, l_0, l_1, l_2, l_3, l_4, l_8, l_9, l_10, l_12, l_13, l_15, l_26, l_32, l_40, l_41, l_42, l_43, l_45, l_46, l_48, l_49, l_50, l_51, l_59, l_60, l_61, l_62, l_63, l_65, l_90, l_91, l_93, l_94, l_96, l_97, l_100, l_122, l_123, l_124, l_125, l_126, l_161, l_1000, l_67108863, q_nb0, q_nb1, q_ni, q_fi, q_fb0, q_fb1, if_true, fX4_isMasked_25, q_add]
        refine ih (i + 1) (by omega) (fun j r hji hjr => ?_)
        by_cases q : j = i
        · subst q
          rw [hri] at hjr
          cases hjr
          exact fun z => hq (hiff.mpr z)
        · exact hj j r (by omega) hjr
  exact loop rs.length 0 (by omega) (fun j r hj => by omega)
def cEnd (t : Nat → Nat) (n : Nat) (mn : Nat → Int32) (rs : List Rl) (q : Option Rl) (a : Int32) (rs' : List Rl) : Prop := match q with
  | none => a = -nI 1 ∧ rs' = rs
  | some r => if r.2.2.2.2.1 = true then a = -nI 2 ∧ rs' = rs
    else if r.2.2.2.1.length < r.2.2.2.2.2.1.foldl gdg 0 then a = -nI 3 ∧ rs' = rs
    else if 8 ≤ rs.length ∨ 12 < r.1.length ∨ 3 < r.2.2.2.1.length ∨ 12 < r.2.2.2.2.2.1.length then a = -nI 4 ∧ rs' = rs
    else ((∃ r0, r0 ∈ rs ∧ mskL r0.1 r0.2.1 r.1 r.2.1) ∧ a = -5 ∧ rs' = rs) ∨ ((∀ r0, r0 ∈ rs → ¬ mskL r0.1 r0.2.1 r.1 r.2.1) ∧ a = nI (10 + rs.length) ∧ rs' = rs ++ [r])
