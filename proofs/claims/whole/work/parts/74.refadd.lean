/-! sets are not negative; add: the reference -/
def nng (x : Int32) : Prop := x.toBitVec.msb = false
theorem nng_le {x : Int32} (h : nng x) : nI 0 ≤ x := by
  rw [Int32.le_iff_toInt_le, nI_toInt (by decide)]
  show (0 : Int) ≤ x.toBitVec.toInt
  rw [BitVec.toInt_eq_toNat_of_msb h]
  omega
theorem nng_or {x z : Int32} (h : nng x) (h2 : nng z) : nng (x ||| z) := by
  unfold nng at *
  rw [Int32.toBitVec_or, BitVec.msb_or, h, h2]
  rfl
theorem nng_and {x z : Int32} (h : nng x) : nng (x &&& z) := by
  unfold nng at *
  rw [Int32.toBitVec_and, BitVec.msb_and, h]
  rfl
theorem nng_mkt : ∀ i, i < 26 → ∀ j, j < 26 → i ≤ j → (mk (97 + i) (97 + j)).toBitVec.msb = false := by decide +kernel
theorem nng_mk {a b : Nat} (ha : 97 ≤ a) (hb : b ≤ 122) (hab : a ≤ b) : nng (mk a b) := by
  have h := nng_mkt (a - 97) (by omega) (b - 97) (by omega) (by omega)
  rw [show 97 + (a - 97) = a by omega, show 97 + (b - 97) = b by omega] at h
  exact h
theorem nng_all : nng (nI 67108863) := by unfold nng; decide +kernel
theorem nng_0 : nng (nI 0) := by unfold nng; decide +kernel
theorem sBr_nng {t : Nat → Nat} {e : Nat} : ∀ (f k : Nat) (l : Int32) (k' : Nat) (l' : Int32), sBr t e f k l = some (k', l') → nng l → nng l' := by
  intro f
  induction f with
  | zero =>
    intro k l k' l' h hl
    simp only [sBr, Option.some.injEq, Prod.mk.injEq] at h
    rw [← h.2]
    exact hl
  | succ f ih =>
    intro k l k' l' h hl
    unfold sBr at h
    split at h
    · rename_i q1
      have b1 := sml_le q1
      split at h
      · split at h
        · rename_i q2
          have b2 := sml_le q2.1
          exact ih _ _ _ _ h (nng_or hl (nng_mk b1.1 b2.2 q2.2))
        · cases h
      · exact ih _ _ _ _ h (nng_or hl (nng_mk b1.1 b1.2 (Nat.le_refl _)))
    · simp only [Option.some.injEq, Prod.mk.injEq] at h
      rw [← h.2]
      exact hl
theorem sEl_nng {t : Nat → Nat} {e : Nat} {mn : Nat → Int32} {N p x : Nat} {s : Int32} {w : Bool} (hM : okM mn) (h : sEl t e mn N p = some (x, s, w)) : (w = true → s = -nI 1) ∧ (w = false → nI 0 ≤ s) := by
  unfold sEl at h
  split at h
  · rename_i q
    have b := sml_le q
    simp only [Option.some.injEq, Prod.mk.injEq] at h
    obtain ⟨-, rfl, rfl⟩ := h
    exact ⟨(fun z => by cases z), fun _ => nng_le (nng_mk b.1 b.2 (Nat.le_refl _))⟩
  · split at h
    · simp only [Option.some.injEq, Prod.mk.injEq] at h
      obtain ⟨-, rfl, rfl⟩ := h
      exact ⟨(fun z => by cases z), fun _ => nng_le nng_all⟩
    · split at h
      · rename_i q
        have b := cap_le q
        simp only [Option.some.injEq, Prod.mk.injEq] at h
        obtain ⟨-, rfl, rfl⟩ := h
        refine ⟨fun z => of_decide_eq_true z, fun z => ?_⟩
        rcases hM (sAt t e p - 65) (by omega) with r | r
        · rw [r] at z
          exact absurd z (by decide +kernel)
        · exact r
      · split at h
        · split at h
          · cases h
          · rename_i x' s' hb
            simp only [Option.some.injEq, Prod.mk.injEq] at h
            obtain ⟨-, rfl, rfl⟩ := h
            refine ⟨(fun z => by cases z), fun _ => nng_le ?_⟩
            unfold sBe at hb
            split at hb
            · cases hb
            · rename_i k l hq
              split at hb
              · simp only [Option.some.injEq, Prod.mk.injEq] at hb
                rw [← hb.2]
                split
                · exact nng_and nng_all
                · exact sBr_nng _ _ _ _ _ hq nng_0
              · cases hb
        · cases h
section RA
variable {y : Nat → Int32} {B : Nat → Nat → Int32}
/-- the elements as the reference's rows keep them while a rule is read -/
def yE (y : Nat → Int32) (B : Nat → Nat → Int32) (els : List (Int32 × Nat × Nat)) : Prop := y 1 = nI els.length ∧ ∀ (i : Nat) (e : Int32 × Nat × Nat), els[i]? = some e → B 2 i = (if e.1 = -nI 1 then nI 0 else e.1) ∧ B 3 i = nI (if mis e.2.1 = true then 0 else 1) ∧ B 4 i = nI (if rep e.2.1 = true then 100 else 1) ∧ B 5 i = nI e.2.2
def inYa : Nat → Prop := fun a => a = 74 ∨ (77 ≤ a ∧ a ≤ 80)
theorem r_add {h : kv_H} (H : vY h y B) {els : List (Int32 × Nat × Nat)} (hE : yE y B els) (hl : els.length < 48) {s : Int32} {w : Bool} (hs1 : w = true → s = -nI 1) (hs2 : w = false → nI 0 ≤ s) {q g : Nat} (hq : q < 128) : wm mX5_add [.ref 74, .int (if w = true then nI 0 else s), .int (nI q), .int (nI g)] h (fun v h' => v = some (.int (nI 1)) ∧ kv_fr inYa h h' ∧ ∃ y' B', vY h' y' B' ∧ yE y' B' (els ++ [(s, q, g)]) ∧ (∀ k, k ≠ 1 → y' k = y k) ∧ ∀ k, k < 2 ∨ 5 < k → B' k = B k) := by
  refine iX5_add rfl rfl rfl rfl ?_
  have hst : (if w = true then nI 0 else s) = (if s = -nI 1 then nI 0 else s) ∧ nI 0 ≤ (if w = true then nI 0 else s) := by
    cases w
    · have h2 := hs2 rfl
      have hne : ¬ s = -nI 1 := fun z => by rw [z] at h2; exact absurd h2 (by decide +kernel)
      simp only [Bool.false_eq_true, if_false, hne]
      exact ⟨trivial, h2⟩
    · simp only [if_true, hs1 rfl]
      exact ⟨trivial, by decide +kernel⟩
  generalize hss : (if w = true then nI 0 else s) = s1 at hst ⊢
  obtain ⟨r0, r⟩ := hE
  have g1 : els.length < 2147483648 := by omega
  have h42 := q_eq (show q < 2147483648 by omega) (show 42 < 2147483648 by decide)
  have h43 := q_eq (show q < 2147483648 by omega) (show 43 < 2147483648 by decide)
  have h63 := q_eq (show q < 2147483648 by omega) (show 63 < 2147483648 by decide)
  have rd := q_le (show 0 < 2147483648 by decide) g1
  have rc := q_clamp g1
  have H2 := vY_a2 (f := upd (B 2) els.length s1) H
  have f2 : kv_fr inYa h (kv_p h 77 (.inl (0, 48, .inl (upd (B 2) els.length s1)))) := kv_fr.rf.p (Or.inr (by decide))
  simp only [fX5_add_0, fX5_add_6, w_const, w_iload, w_aload, w_iinc, w_istore, w_astore, w_iadd, w_isub, w_imul, w_iand, w_ior, w_ixor, w_ishl, w_ishr, w_ineg, w_i2c, w_dup, w_pop, w_dup_x1, w_dup_x2, w_dup2, w_ifeq, w_ifne, w_iflt, w_ifge, w_ifgt, w_ifle, w_iceq, w_icne, w_iclt, w_icge, w_icgt, w_icle, w_ret, w_iret, w_aret, w_max, w_sld, w_slen, w_new, w_newa, w_newq, w_obj, w_getf, w_putf, w_iald, w_iast, w_alen, w_aald, w_aast, w_copy, List.getElem?_cons_zero, List.getElem?_cons_succ, List.set_cons_zero, List.set_cons_succ, List.length_cons, List.length_nil, List.cons_append, List.nil_append, Option.some.injEq, exists_eq_left', true_and, and_true, Option.toList, Value.category, l_0, l_1, l_2, l_3, l_4, l_8, l_9, l_10, l_12, l_13, l_15, l_26, l_32, l_40, l_41, l_42, l_43, l_45, l_46, l_48, l_49, l_50, l_51, l_59, l_60, l_61, l_62, l_63, l_65, l_90, l_91, l_93, l_94, l_96, l_97, l_100, l_122, l_123, l_124, l_125, l_126, l_161, l_1000, l_67108863, q_nb0, q_nb1, q_ni, q_fi, q_fb0, q_fb1, hst.2, if_true, vY_74 H, vY_77 H, r0, rd, rc, Nat.zero_le, hl]
  generalize kv_p h 77 (.inl (0, 48, .inl (upd (B 2) els.length s1))) = g2 at H2 f2 ⊢
  -- at 68: least and most are known
  have at68 : ∀ (z1 z2 : Nat), z1 = (if mis q = true then 0 else 1) → z2 = (if rep q = true then 100 else 1) → ∀ h3, vY h3 y (va_up (va_up B 2 (upd (B 2) els.length s1)) 3 (upd (B 3) els.length (nI z1))) → kv_fr inYa h h3 → wp fX5_add_68 [some (.ref 74), some (.int s1), some (.int (nI q)), some (.int (nI g))] [.int (nI z2), .int (nI els.length), .ref 79] h3 (fun v h' => v = some (.int (nI 1)) ∧ kv_fr inYa h h' ∧ ∃ y' B', vY h' y' B' ∧ yE y' B' (els ++ [(s, q, g)]) ∧ (∀ k, k ≠ 1 → y' k = y k) ∧ ∀ k, k < 2 ∨ 5 < k → B' k = B k) := by
    intro z1 z2 hz1 hz2 h3 H3 f3
    have H4 := vY_a4 (f := upd (B 4) els.length (nI z2)) H3
    have f4 : kv_fr inYa h (kv_p h3 79 (.inl (0, 48, .inl (upd (B 4) els.length (nI z2))))) := f3.p (Or.inr (by decide))
    have b4 : va_up (va_up B 2 (upd (B 2) els.length s1)) 3 (upd (B 3) els.length (nI z1)) 4 = B 4 := rfl
    have b5 : ∀ f, va_up (va_up (va_up B 2 (upd (B 2) els.length s1)) 3 (upd (B 3) els.length (nI z1))) 4 f 5 = B 5 := fun f => rfl
    simp only [fX5_add_68, w_const, w_iload, w_aload, w_iinc, w_istore, w_astore, w_iadd, w_isub, w_imul, w_iand, w_ior, w_ixor, w_ishl, w_ishr, w_ineg, w_i2c, w_dup, w_pop, w_dup_x1, w_dup_x2, w_dup2, w_ifeq, w_ifne, w_iflt, w_ifge, w_ifgt, w_ifle, w_iceq, w_icne, w_iclt, w_icge, w_icgt, w_icle, w_ret, w_iret, w_aret, w_max, w_sld, w_slen, w_new, w_newa, w_newq, w_obj, w_getf, w_putf, w_iald, w_iast, w_alen, w_aald, w_aast, w_copy, List.getElem?_cons_zero, List.getElem?_cons_succ, List.set_cons_zero, List.set_cons_succ, List.length_cons, List.length_nil, List.cons_append, List.nil_append, Option.some.injEq, exists_eq_left', true_and, and_true, Option.toList, Value.category, l_0, l_1, l_2, l_3, l_4, l_8, l_9, l_10, l_12, l_13, l_15, l_26, l_32, l_40, l_41, l_42, l_43, l_45, l_46, l_48, l_49, l_50, l_51, l_59, l_60, l_61, l_62, l_63, l_65, l_90, l_91, l_93, l_94, l_96, l_97, l_100, l_122, l_123, l_124, l_125, l_126, l_161, l_1000, l_67108863, q_nb0, q_nb1, q_ni, q_fi, q_fb0, q_fb1, vY_79 H3, rd, rc, Nat.zero_le, hl, b4]
    generalize kv_p h3 79 (.inl (0, 48, .inl (upd (B 4) els.length (nI z2)))) = g4 at H4 f4 ⊢
    have H5 := vY_a5 (f := upd (B 5) els.length (nI g)) H4
    have f5 : kv_fr inYa h (kv_p g4 80 (.inl (0, 48, .inl (upd (B 5) els.length (nI g))))) := f4.p (Or.inr (by decide))
    simp only [w_const, w_iload, w_aload, w_iinc, w_istore, w_astore, w_iadd, w_isub, w_imul, w_iand, w_ior, w_ixor, w_ishl, w_ishr, w_ineg, w_i2c, w_dup, w_pop, w_dup_x1, w_dup_x2, w_dup2, w_ifeq, w_ifne, w_iflt, w_ifge, w_ifgt, w_ifle, w_iceq, w_icne, w_iclt, w_icge, w_icgt, w_icle, w_ret, w_iret, w_aret, w_max, w_sld, w_slen, w_new, w_newa, w_newq, w_obj, w_getf, w_putf, w_iald, w_iast, w_alen, w_aald, w_aast, w_copy, List.getElem?_cons_zero, List.getElem?_cons_succ, List.set_cons_zero, List.set_cons_succ, List.length_cons, List.length_nil, List.cons_append, List.nil_append, Option.some.injEq, exists_eq_left', true_and, and_true, Option.toList, Value.category, l_0, l_1, l_2, l_3, l_4, l_8, l_9, l_10, l_12, l_13, l_15, l_26, l_32, l_40, l_41, l_42, l_43, l_45, l_46, l_48, l_49, l_50, l_51, l_59, l_60, l_61, l_62, l_63, l_65, l_90, l_91, l_93, l_94, l_96, l_97, l_100, l_122, l_123, l_124, l_125, l_126, l_161, l_1000, l_67108863, q_nb0, q_nb1, q_ni, q_fi, q_fb0, q_fb1, vY_74 H4, vY_80 H4, r0, rd, rc, Nat.zero_le, hl, b5]
    generalize kv_p g4 80 (.inl (0, 48, .inl (upd (B 5) els.length (nI g)))) = g5 at H5 f5 ⊢
    simp only [w_const, w_iload, w_aload, w_iinc, w_istore, w_astore, w_iadd, w_isub, w_imul, w_iand, w_ior, w_ixor, w_ishl, w_ishr, w_ineg, w_i2c, w_dup, w_pop, w_dup_x1, w_dup_x2, w_dup2, w_ifeq, w_ifne, w_iflt, w_ifge, w_ifgt, w_ifle, w_iceq, w_icne, w_iclt, w_icge, w_icgt, w_icle, w_ret, w_iret, w_aret, w_max, w_sld, w_slen, w_new, w_newa, w_newq, w_obj, w_getf, w_putf, w_iald, w_iast, w_alen, w_aald, w_aast, w_copy, List.getElem?_cons_zero, List.getElem?_cons_succ, List.set_cons_zero, List.set_cons_succ, List.length_cons, List.length_nil, List.cons_append, List.nil_append, Option.some.injEq, exists_eq_left', true_and, and_true, Option.toList, Value.category, l_0, l_1, l_2, l_3, l_4, l_8, l_9, l_10, l_12, l_13, l_15, l_26, l_32, l_40, l_41, l_42, l_43, l_45, l_46, l_48, l_49, l_50, l_51, l_59, l_60, l_61, l_62, l_63, l_65, l_90, l_91, l_93, l_94, l_96, l_97, l_100, l_122, l_123, l_124, l_125, l_126, l_161, l_1000, l_67108863, q_nb0, q_nb1, q_ni, q_fi, q_fb0, q_fb1, vY_74 H5, r0, q_add]
    refine ⟨by decide, f5.p (Or.inl rfl), va_up y 1 (nI (els.length + 1)), _, vY_o (y' := va_up y 1 (nI (els.length + 1))) H5, ⟨by rw [List.length_append]; rfl, fun i e he => ?_⟩, fun k k1 => va_up_ne _ _ k1, fun k hk => ?_⟩
    · by_cases hil : i < els.length
      · rw [List.getElem?_append_left hil] at he
        obtain ⟨q2, q3, q4, q5⟩ := r i e he
        have hne : i ≠ els.length := by omega
        refine ⟨?_, ?_, ?_, ?_⟩
        · show upd (B 2) els.length s1 i = _
          simp only [upd, hne, if_false]
          exact q2
        · show upd (B 3) els.length (nI z1) i = _
          simp only [upd, hne, if_false]
          exact q3
        · show upd (B 4) els.length (nI z2) i = _
          simp only [upd, hne, if_false]
          exact q4
        · show upd (B 5) els.length (nI g) i = _
          simp only [upd, hne, if_false]
          exact q5
      · rw [List.getElem?_append_right (by omega)] at he
        have hz : i - els.length < 1 := (List.getElem?_eq_some_iff.mp he).1
        have hi2 : i = els.length := by omega
        rw [show i - els.length = 0 by omega] at he
        cases he
        subst hi2
        refine ⟨?_, ?_, ?_, ?_⟩
        · show upd (B 2) els.length s1 els.length = _
          simp only [upd, if_true]
          exact hst.1
        · show upd (B 3) els.length (nI z1) els.length = _
          simp only [upd, if_true, hz1]
        · show upd (B 4) els.length (nI z2) els.length = _
          simp only [upd, if_true, hz2]
        · show upd (B 5) els.length (nI g) els.length = _
          simp only [upd, if_true]
    · rw [va_up_ne _ _ (by omega), va_up_ne _ _ (by omega), va_up_ne _ _ (by omega), va_up_ne _ _ (by omega)]
  have at41 : ∀ (z1 : Nat), z1 = (if mis q = true then 0 else 1) → wp fX5_add_41 [some (.ref 74), some (.int s1), some (.int (nI q)), some (.int (nI g))] [.int (nI z1), .int (nI els.length), .ref 78] g2 (fun v h' => v = some (.int (nI 1)) ∧ kv_fr inYa h h' ∧ ∃ y' B', vY h' y' B' ∧ yE y' B' (els ++ [(s, q, g)]) ∧ (∀ k, k ≠ 1 → y' k = y k) ∧ ∀ k, k < 2 ∨ 5 < k → B' k = B k) := by
    intro z1 hz1
    have H3 := vY_a3 (f := upd (B 3) els.length (nI z1)) H2
    have f3 : kv_fr inYa h (kv_p g2 78 (.inl (0, 48, .inl (upd (B 3) els.length (nI z1))))) := f2.p (Or.inr (by decide))
    have b3 : va_up B 2 (upd (B 2) els.length s1) 3 = B 3 := rfl
    simp only [fX5_add_41, w_const, w_iload, w_aload, w_iinc, w_istore, w_astore, w_iadd, w_isub, w_imul, w_iand, w_ior, w_ixor, w_ishl, w_ishr, w_ineg, w_i2c, w_dup, w_pop, w_dup_x1, w_dup_x2, w_dup2, w_ifeq, w_ifne, w_iflt, w_ifge, w_ifgt, w_ifle, w_iceq, w_icne, w_iclt, w_icge, w_icgt, w_icle, w_ret, w_iret, w_aret, w_max, w_sld, w_slen, w_new, w_newa, w_newq, w_obj, w_getf, w_putf, w_iald, w_iast, w_alen, w_aald, w_aast, w_copy, List.getElem?_cons_zero, List.getElem?_cons_succ, List.set_cons_zero, List.set_cons_succ, List.length_cons, List.length_nil, List.cons_append, List.nil_append, Option.some.injEq, exists_eq_left', true_and, and_true, Option.toList, Value.category, l_0, l_1, l_2, l_3, l_4, l_8, l_9, l_10, l_12, l_13, l_15, l_26, l_32, l_40, l_41, l_42, l_43, l_45, l_46, l_48, l_49, l_50, l_51, l_59, l_60, l_61, l_62, l_63, l_65, l_90, l_91, l_93, l_94, l_96, l_97, l_100, l_122, l_123, l_124, l_125, l_126, l_161, l_1000, l_67108863, q_nb0, q_nb1, q_ni, q_fi, q_fb0, q_fb1, vY_78 H2, rd, rc, Nat.zero_le, hl, b3]
    generalize kv_p g2 78 (.inl (0, 48, .inl (upd (B 3) els.length (nI z1)))) = g3 at H3 f3 ⊢
    simp only [w_const, w_iload, w_aload, w_iinc, w_istore, w_astore, w_iadd, w_isub, w_imul, w_iand, w_ior, w_ixor, w_ishl, w_ishr, w_ineg, w_i2c, w_dup, w_pop, w_dup_x1, w_dup_x2, w_dup2, w_ifeq, w_ifne, w_iflt, w_ifge, w_ifgt, w_ifle, w_iceq, w_icne, w_iclt, w_icge, w_icgt, w_icle, w_ret, w_iret, w_aret, w_max, w_sld, w_slen, w_new, w_newa, w_newq, w_obj, w_getf, w_putf, w_iald, w_iast, w_alen, w_aald, w_aast, w_copy, List.getElem?_cons_zero, List.getElem?_cons_succ, List.set_cons_zero, List.set_cons_succ, List.length_cons, List.length_nil, List.cons_append, List.nil_append, Option.some.injEq, exists_eq_left', true_and, and_true, Option.toList, Value.category, l_0, l_1, l_2, l_3, l_4, l_8, l_9, l_10, l_12, l_13, l_15, l_26, l_32, l_40, l_41, l_42, l_43, l_45, l_46, l_48, l_49, l_50, l_51, l_59, l_60, l_61, l_62, l_63, l_65, l_90, l_91, l_93, l_94, l_96, l_97, l_100, l_122, l_123, l_124, l_125, l_126, l_161, l_1000, l_67108863, q_nb0, q_nb1, q_ni, q_fi, q_fb0, q_fb1, vY_74 H3, r0, h42]
    by_cases e1 : q = 42
    · simp only [e1, if_true, fX5_add_62, w_const, w_iload, w_aload, w_iinc, w_istore, w_astore, w_iadd, w_isub, w_imul, w_iand, w_ior, w_ixor, w_ishl, w_ishr, w_ineg, w_i2c, w_dup, w_pop, w_dup_x1, w_dup_x2, w_dup2, w_ifeq, w_ifne, w_iflt, w_ifge, w_ifgt, w_ifle, w_iceq, w_icne, w_iclt, w_icge, w_icgt, w_icle, w_ret, w_iret, w_aret, w_max, w_sld, w_slen, w_new, w_newa, w_newq, w_obj, w_getf, w_putf, w_iald, w_iast, w_alen, w_aald, w_aast, w_copy, List.getElem?_cons_zero, List.getElem?_cons_succ, List.set_cons_zero, List.set_cons_succ, List.length_cons, List.length_nil, List.cons_append, List.nil_append, Option.some.injEq, exists_eq_left', true_and, and_true, Option.toList, Value.category, l_0, l_1, l_2, l_3, l_4, l_8, l_9, l_10, l_12, l_13, l_15, l_26, l_32, l_40, l_41, l_42, l_43, l_45, l_46, l_48, l_49, l_50, l_51, l_59, l_60, l_61, l_62, l_63, l_65, l_90, l_91, l_93, l_94, l_96, l_97, l_100, l_122, l_123, l_124, l_125, l_126, l_161, l_1000, l_67108863, q_nb0, q_nb1, q_ni, q_fi, q_fb0, q_fb1]
      have w9 := at68 z1 100 hz1 (by simp [rep, e1]) g3 H3 f3
      rw [e1] at w9
      exact w9
    · simp only [e1, if_false, fX5_add_56, w_const, w_iload, w_aload, w_iinc, w_istore, w_astore, w_iadd, w_isub, w_imul, w_iand, w_ior, w_ixor, w_ishl, w_ishr, w_ineg, w_i2c, w_dup, w_pop, w_dup_x1, w_dup_x2, w_dup2, w_ifeq, w_ifne, w_iflt, w_ifge, w_ifgt, w_ifle, w_iceq, w_icne, w_iclt, w_icge, w_icgt, w_icle, w_ret, w_iret, w_aret, w_max, w_sld, w_slen, w_new, w_newa, w_newq, w_obj, w_getf, w_putf, w_iald, w_iast, w_alen, w_aald, w_aast, w_copy, List.getElem?_cons_zero, List.getElem?_cons_succ, List.set_cons_zero, List.set_cons_succ, List.length_cons, List.length_nil, List.cons_append, List.nil_append, Option.some.injEq, exists_eq_left', true_and, and_true, Option.toList, Value.category, l_0, l_1, l_2, l_3, l_4, l_8, l_9, l_10, l_12, l_13, l_15, l_26, l_32, l_40, l_41, l_42, l_43, l_45, l_46, l_48, l_49, l_50, l_51, l_59, l_60, l_61, l_62, l_63, l_65, l_90, l_91, l_93, l_94, l_96, l_97, l_100, l_122, l_123, l_124, l_125, l_126, l_161, l_1000, l_67108863, q_nb0, q_nb1, q_ni, q_fi, q_fb0, q_fb1, h43]
      by_cases e2 : q = 43
      · simp only [e2, not_true, if_false, fX5_add_62, w_const, w_iload, w_aload, w_iinc, w_istore, w_astore, w_iadd, w_isub, w_imul, w_iand, w_ior, w_ixor, w_ishl, w_ishr, w_ineg, w_i2c, w_dup, w_pop, w_dup_x1, w_dup_x2, w_dup2, w_ifeq, w_ifne, w_iflt, w_ifge, w_ifgt, w_ifle, w_iceq, w_icne, w_iclt, w_icge, w_icgt, w_icle, w_ret, w_iret, w_aret, w_max, w_sld, w_slen, w_new, w_newa, w_newq, w_obj, w_getf, w_putf, w_iald, w_iast, w_alen, w_aald, w_aast, w_copy, List.getElem?_cons_zero, List.getElem?_cons_succ, List.set_cons_zero, List.set_cons_succ, List.length_cons, List.length_nil, List.cons_append, List.nil_append, Option.some.injEq, exists_eq_left', true_and, and_true, Option.toList, Value.category, l_0, l_1, l_2, l_3, l_4, l_8, l_9, l_10, l_12, l_13, l_15, l_26, l_32, l_40, l_41, l_42, l_43, l_45, l_46, l_48, l_49, l_50, l_51, l_59, l_60, l_61, l_62, l_63, l_65, l_90, l_91, l_93, l_94, l_96, l_97, l_100, l_122, l_123, l_124, l_125, l_126, l_161, l_1000, l_67108863, q_nb0, q_nb1, q_ni, q_fi, q_fb0, q_fb1]
        have w9 := at68 z1 100 hz1 (by simp [rep, e2]) g3 H3 f3
        rw [e2] at w9
        exact w9
      · simp only [e2, not_false_eq_true, if_true, fX5_add_67, w_const, w_iload, w_aload, w_iinc, w_istore, w_astore, w_iadd, w_isub, w_imul, w_iand, w_ior, w_ixor, w_ishl, w_ishr, w_ineg, w_i2c, w_dup, w_pop, w_dup_x1, w_dup_x2, w_dup2, w_ifeq, w_ifne, w_iflt, w_ifge, w_ifgt, w_ifle, w_iceq, w_icne, w_iclt, w_icge, w_icgt, w_icle, w_ret, w_iret, w_aret, w_max, w_sld, w_slen, w_new, w_newa, w_newq, w_obj, w_getf, w_putf, w_iald, w_iast, w_alen, w_aald, w_aast, w_copy, List.getElem?_cons_zero, List.getElem?_cons_succ, List.set_cons_zero, List.set_cons_succ, List.length_cons, List.length_nil, List.cons_append, List.nil_append, Option.some.injEq, exists_eq_left', true_and, and_true, Option.toList, Value.category, l_0, l_1, l_2, l_3, l_4, l_8, l_9, l_10, l_12, l_13, l_15, l_26, l_32, l_40, l_41, l_42, l_43, l_45, l_46, l_48, l_49, l_50, l_51, l_59, l_60, l_61, l_62, l_63, l_65, l_90, l_91, l_93, l_94, l_96, l_97, l_100, l_122, l_123, l_124, l_125, l_126, l_161, l_1000, l_67108863, q_nb0, q_nb1, q_ni, q_fi, q_fb0, q_fb1]
        exact at68 z1 1 hz1 (by simp [rep, e1, e2]) g3 H3 f3
  simp only [w_const, w_iload, w_aload, w_iinc, w_istore, w_astore, w_iadd, w_isub, w_imul, w_iand, w_ior, w_ixor, w_ishl, w_ishr, w_ineg, w_i2c, w_dup, w_pop, w_dup_x1, w_dup_x2, w_dup2, w_ifeq, w_ifne, w_iflt, w_ifge, w_ifgt, w_ifle, w_iceq, w_icne, w_iclt, w_icge, w_icgt, w_icle, w_ret, w_iret, w_aret, w_max, w_sld, w_slen, w_new, w_newa, w_newq, w_obj, w_getf, w_putf, w_iald, w_iast, w_alen, w_aald, w_aast, w_copy, List.getElem?_cons_zero, List.getElem?_cons_succ, List.set_cons_zero, List.set_cons_succ, List.length_cons, List.length_nil, List.cons_append, List.nil_append, Option.some.injEq, exists_eq_left', true_and, and_true, Option.toList, Value.category, l_0, l_1, l_2, l_3, l_4, l_8, l_9, l_10, l_12, l_13, l_15, l_26, l_32, l_40, l_41, l_42, l_43, l_45, l_46, l_48, l_49, l_50, l_51, l_59, l_60, l_61, l_62, l_63, l_65, l_90, l_91, l_93, l_94, l_96, l_97, l_100, l_122, l_123, l_124, l_125, l_126, l_161, l_1000, l_67108863, q_nb0, q_nb1, q_ni, q_fi, q_fb0, q_fb1, vY_74 H2, r0, h42]
  by_cases e1 : q = 42
  · simp only [e1, if_true, fX5_add_36, w_const, w_iload, w_aload, w_iinc, w_istore, w_astore, w_iadd, w_isub, w_imul, w_iand, w_ior, w_ixor, w_ishl, w_ishr, w_ineg, w_i2c, w_dup, w_pop, w_dup_x1, w_dup_x2, w_dup2, w_ifeq, w_ifne, w_iflt, w_ifge, w_ifgt, w_ifle, w_iceq, w_icne, w_iclt, w_icge, w_icgt, w_icle, w_ret, w_iret, w_aret, w_max, w_sld, w_slen, w_new, w_newa, w_newq, w_obj, w_getf, w_putf, w_iald, w_iast, w_alen, w_aald, w_aast, w_copy, List.getElem?_cons_zero, List.getElem?_cons_succ, List.set_cons_zero, List.set_cons_succ, List.length_cons, List.length_nil, List.cons_append, List.nil_append, Option.some.injEq, exists_eq_left', true_and, and_true, Option.toList, Value.category, l_0, l_1, l_2, l_3, l_4, l_8, l_9, l_10, l_12, l_13, l_15, l_26, l_32, l_40, l_41, l_42, l_43, l_45, l_46, l_48, l_49, l_50, l_51, l_59, l_60, l_61, l_62, l_63, l_65, l_90, l_91, l_93, l_94, l_96, l_97, l_100, l_122, l_123, l_124, l_125, l_126, l_161, l_1000, l_67108863, q_nb0, q_nb1, q_ni, q_fi, q_fb0, q_fb1]
    have w9 := at41 0 (by simp [mis, e1])
    rw [e1] at w9
    exact w9
  · simp only [e1, if_false, fX5_add_30, w_const, w_iload, w_aload, w_iinc, w_istore, w_astore, w_iadd, w_isub, w_imul, w_iand, w_ior, w_ixor, w_ishl, w_ishr, w_ineg, w_i2c, w_dup, w_pop, w_dup_x1, w_dup_x2, w_dup2, w_ifeq, w_ifne, w_iflt, w_ifge, w_ifgt, w_ifle, w_iceq, w_icne, w_iclt, w_icge, w_icgt, w_icle, w_ret, w_iret, w_aret, w_max, w_sld, w_slen, w_new, w_newa, w_newq, w_obj, w_getf, w_putf, w_iald, w_iast, w_alen, w_aald, w_aast, w_copy, List.getElem?_cons_zero, List.getElem?_cons_succ, List.set_cons_zero, List.set_cons_succ, List.length_cons, List.length_nil, List.cons_append, List.nil_append, Option.some.injEq, exists_eq_left', true_and, and_true, Option.toList, Value.category, l_0, l_1, l_2, l_3, l_4, l_8, l_9, l_10, l_12, l_13, l_15, l_26, l_32, l_40, l_41, l_42, l_43, l_45, l_46, l_48, l_49, l_50, l_51, l_59, l_60, l_61, l_62, l_63, l_65, l_90, l_91, l_93, l_94, l_96, l_97, l_100, l_122, l_123, l_124, l_125, l_126, l_161, l_1000, l_67108863, q_nb0, q_nb1, q_ni, q_fi, q_fb0, q_fb1, h63]
    by_cases e2 : q = 63
    · simp only [e2, not_true, if_false, fX5_add_36, w_const, w_iload, w_aload, w_iinc, w_istore, w_astore, w_iadd, w_isub, w_imul, w_iand, w_ior, w_ixor, w_ishl, w_ishr, w_ineg, w_i2c, w_dup, w_pop, w_dup_x1, w_dup_x2, w_dup2, w_ifeq, w_ifne, w_iflt, w_ifge, w_ifgt, w_ifle, w_iceq, w_icne, w_iclt, w_icge, w_icgt, w_icle, w_ret, w_iret, w_aret, w_max, w_sld, w_slen, w_new, w_newa, w_newq, w_obj, w_getf, w_putf, w_iald, w_iast, w_alen, w_aald, w_aast, w_copy, List.getElem?_cons_zero, List.getElem?_cons_succ, List.set_cons_zero, List.set_cons_succ, List.length_cons, List.length_nil, List.cons_append, List.nil_append, Option.some.injEq, exists_eq_left', true_and, and_true, Option.toList, Value.category, l_0, l_1, l_2, l_3, l_4, l_8, l_9, l_10, l_12, l_13, l_15, l_26, l_32, l_40, l_41, l_42, l_43, l_45, l_46, l_48, l_49, l_50, l_51, l_59, l_60, l_61, l_62, l_63, l_65, l_90, l_91, l_93, l_94, l_96, l_97, l_100, l_122, l_123, l_124, l_125, l_126, l_161, l_1000, l_67108863, q_nb0, q_nb1, q_ni, q_fi, q_fb0, q_fb1]
      have w9 := at41 0 (by simp [mis, e2])
      rw [e2] at w9
      exact w9
    · simp only [e2, not_false_eq_true, if_true, fX5_add_40, w_const, w_iload, w_aload, w_iinc, w_istore, w_astore, w_iadd, w_isub, w_imul, w_iand, w_ior, w_ixor, w_ishl, w_ishr, w_ineg, w_i2c, w_dup, w_pop, w_dup_x1, w_dup_x2, w_dup2, w_ifeq, w_ifne, w_iflt, w_ifge, w_ifgt, w_ifle, w_iceq, w_icne, w_iclt, w_icge, w_icgt, w_icle, w_ret, w_iret, w_aret, w_max, w_sld, w_slen, w_new, w_newa, w_newq, w_obj, w_getf, w_putf, w_iald, w_iast, w_alen, w_aald, w_aast, w_copy, List.getElem?_cons_zero, List.getElem?_cons_succ, List.set_cons_zero, List.set_cons_succ, List.length_cons, List.length_nil, List.cons_append, List.nil_append, Option.some.injEq, exists_eq_left', true_and, and_true, Option.toList, Value.category, l_0, l_1, l_2, l_3, l_4, l_8, l_9, l_10, l_12, l_13, l_15, l_26, l_32, l_40, l_41, l_42, l_43, l_45, l_46, l_48, l_49, l_50, l_51, l_59, l_60, l_61, l_62, l_63, l_65, l_90, l_91, l_93, l_94, l_96, l_97, l_100, l_122, l_123, l_124, l_125, l_126, l_161, l_1000, l_67108863, q_nb0, q_nb1, q_ni, q_fi, q_fb0, q_fb1]
      exact at41 1 (by simp [mis, e1, e2])
theorem r_addF {h : kv_H} {q g : Nat} : wm mX5_add [.ref 74, .int (-nI 1), .int (nI q), .int (nI g)] h (fun v h' => v = some (.int (nI 0)) ∧ h' = h) := by
  refine iX5_add rfl rfl rfl rfl ?_
  simp only [fX5_add_0, fX5_add_4, w_const, w_iload, w_aload, w_iinc, w_istore, w_astore, w_iadd, w_isub, w_imul, w_iand, w_ior, w_ixor, w_ishl, w_ishr, w_ineg, w_i2c, w_dup, w_pop, w_dup_x1, w_dup_x2, w_dup2, w_ifeq, w_ifne, w_iflt, w_ifge, w_ifgt, w_ifle, w_iceq, w_icne, w_iclt, w_icge, w_icgt, w_icle, w_ret, w_iret, w_aret, w_max, w_sld, w_slen, w_new, w_newa, w_newq, w_obj, w_getf, w_putf, w_iald, w_iast, w_alen, w_aald, w_aast, w_copy, List.getElem?_cons_zero, List.getElem?_cons_succ, List.set_cons_zero, List.set_cons_succ, List.length_cons, List.length_nil, List.cons_append, List.nil_append, Option.some.injEq, exists_eq_left', true_and, and_true, Option.toList, Value.category, l_0, l_1, l_2, l_3, l_4, l_8, l_9, l_10, l_12, l_13, l_15, l_26, l_32, l_40, l_41, l_42, l_43, l_45, l_46, l_48, l_49, l_50, l_51, l_59, l_60, l_61, l_62, l_63, l_65, l_90, l_91, l_93, l_94, l_96, l_97, l_100, l_122, l_123, l_124, l_125, l_126, l_161, l_1000, l_67108863, q_nb0, q_nb1, q_ni, q_fi, q_fb0, q_fb1, show ¬ nI 0 ≤ -nI 1 by decide +kernel, if_false]
end RA
