/-! read: the rows; the reference -/
section RU
variable {t : Nat → Nat}
theorem sRow_le {e N : Nat} {mn : Nat → Int32} {pa : Bool} : ∀ (f k : Nat) (els : List (Int32 × Nat × Nat)) (u ins : Bool) (st ns : Nat) (els' : List (Int32 × Nat × Nat)) (u' : Bool) (ns' : Nat), sRow t e mn N pa f k els u ins st ns = some (els', u', ns') → k ≤ e → els.length ≤ k → ns ≤ k → els'.length ≤ e ∧ ns' ≤ e ∧ els.length ≤ els'.length := by
  intro f
  induction f with
  | zero =>
    intro k els u ins st ns els' u' ns' h h1 h2 h3
    unfold sRow at h
    split at h
    · cases h
    · simp only [Option.some.injEq, Prod.mk.injEq] at h
      obtain ⟨rfl, rfl, rfl⟩ := h
      omega
  | succ f ih =>
    intro k els u ins st ns els' u' ns' h h1 h2 h3
    unfold sRow at h
    split at h
    · split at h
      · split at h
        · have := ih _ _ _ _ _ _ _ _ _ h (by omega) (by omega) (by omega)
          omega
        · cases h
      · split at h
        · split at h
          · have := ih _ _ _ _ _ _ _ _ _ h (by omega) (by omega) (by omega)
            omega
          · cases h
        · split at h
          · cases h
          · rename_i x s w hE
            have hx := sEl_le hE
            have hn := nx_le (t := t) hx.2
            have := ih _ _ _ _ _ _ _ _ _ h hn.2 (by simp; omega) (by omega)
            simp only [List.length_append, List.length_cons, List.length_nil] at this
            omega
    · split at h
      · cases h
      · simp only [Option.some.injEq, Prod.mk.injEq] at h
        obtain ⟨rfl, rfl, rfl⟩ := h
        omega
theorem yR_B {B B' : Nat → Nat → Int32} {j : Nat} {r : Rl} (h : yR B j r) (e : ∀ k, 5 < k → B' k = B k) : yR B' j r := by
  unfold yR at *
  rw [e 6 (by decide), e 7 (by decide), e 8 (by decide), e 9 (by decide), e 10 (by decide), e 11 (by decide), e 12 (by decide), e 13 (by decide), e 14 (by decide), e 15 (by decide)]
  exact h
/-- the rows of a rule: elements, where the key begins and ends, an undefined set, segments -/
def gd (t : Nat → Nat) (mn : Nat → Int32) (N A o0 p2 cl : Nat) : Option (List (Int32 × Nat × Nat) × Nat × Nat × Bool × Nat) := match sRow t o0 mn N false (o0 - 0) 0 [] false false 0 0 with
  | none => none
  | some (els1, u1, ns1) => (match sRow t cl mn N true (cl - p2) p2 els1 u1 false 0 ns1 with
    | none => none
    | some (els2, u2, ns2) => if els1.length < els2.length then (if cl = A then some (els2, els1.length, els2.length, u2, ns2) else (match sRow t A mn N false (A - (cl + 1)) (cl + 1) els2 u2 false 0 ns2 with
      | none => none
      | some (els3, u3, ns3) => some (els3, els1.length, els2.length, u3, ns3))) else none)
def gdQ (t : Nat → Nat) (n A : Nat) (rs : List Rl) (sg : List (Nat × Nat)) (q : Option (List (Int32 × Nat × Nat) × Nat × Nat × Bool × Nat)) (a : Int32) (y' : Nat → Int32) (B' : Nat → Nat → Int32) : Prop := match q with
  | none => a = -nI 1 ∧ y' 5 = nI rs.length
  | some (els, ks, ke, u, ns) => rTl t n A rs els ks ke u ns sg a y' B'
theorem r_rows {y y0 : Nat → Int32} {B B0 : Nat → Nat → Int32} {h h0 : kv_H} {n A o0 p2 cl : Nat} {op : Int32} {rs : List Rl} {sg : List (Nat × Nat)} {x4 x5 x6 x7 : Option Value} (H : vY h y B) (ht : ∀ i, t i < 128) (hB : B 0 = fun i => nI (t i)) (hM : okM (B 1)) (hn : n ≤ 48) (hy0 : y 0 = nI n) (hm : rs.length ≤ 8) (hy : y 5 = nI rs.length) (hR : ∀ j a, rs[j]? = some a → yR B j a) (hw : ∀ a ∈ rs, wfR a) (hE : yE y B []) (h2 : y 2 = nI 0) (h3 : y 3 = nI 0) (hA : A < n) (ho : (op = nI o0 ∧ p2 = o0 + 1) ∨ (op = -nI 1 ∧ o0 = 0 ∧ p2 = 0)) (hp2 : p2 ≤ cl) (hcl : cl ≤ A) (hf : kv_fr inYr h0 h) (ky : ∀ k, k = 0 ∨ 5 < k → y k = y0 k) (kB : ∀ k, k < 2 ∨ 15 < k → B k = B0 k) : wp (fX5_read_125 (kv_lim bX5_read)) [some (.ref 74), some (.int (nI A)), some (.int op), some (.int (nI cl)), x4, x5, x6, x7] [] h (pTl y0 B0 h0 rs (gdQ t n A rs sg (gd t (B 1) n A o0 p2 cl))) := by
  have o0c : o0 ≤ cl := by rcases ho with q | q <;> omega
  have opl : op + nI 1 = nI p2 := by
    rcases ho with ⟨q, q2⟩ | ⟨q, -, q2⟩
    · rw [q, q2, q_add]
    · rw [q, q2]
      decide +kernel
  have bad : ∀ (y' : Nat → Int32) (B' : Nat → Nat → Int32) (h' : kv_H) (Q : Int32 → (Nat → Int32) → (Nat → Nat → Int32) → Prop) (l1 l2 l3 l4 l5 l6 l7 : Option Value), vY h' y' B' → kv_fr inYa h h' → (∀ k, k = 0 ∨ 4 < k → y' k = y k) → (∀ k, k < 2 ∨ 5 < k → B' k = B k) → Q (-nI 1) y' B' → wp (fX5_read_211 (kv_lim bX5_read)) [some (.ref 74), l1, l2, l3, l4, l5, l6, l7] [] h' (pTl y0 B0 h0 rs Q) := by
    intro y' B' h' Q l1 l2 l3 l4 l5 l6 l7 H' f' e1 e2 q
    simp only [fX5_read_211, fX5_read_212, fX5_read_219, w_const, w_iload, w_aload, w_iinc, w_istore, w_astore, w_iadd, w_isub, w_imul, w_iand, w_ior, w_ixor, w_ishl, w_ishr, w_ineg, w_i2c, w_dup, w_pop, w_dup_x1, w_dup_x2, w_dup2, w_ifeq, w_ifne, w_iflt, w_ifge, w_ifgt, w_ifle, w_iceq, w_icne, w_iclt, w_icge, w_icgt, w_icle, w_ret, w_iret, w_aret, w_max, w_sld, w_slen, w_new, w_newa, w_newq, w_obj, w_getf, w_putf, w_iald, w_iast, w_alen, w_aald, w_aast, w_copy, List.getElem?_cons_zero, List.getElem?_cons_succ, List.set_cons_zero, List.set_cons_succ, List.length_cons, List.length_nil, List.cons_append, List.nil_append, Option.some.injEq, exists_eq_left', true_and, and_true, Option.toList, Value.category, l_0, l_1, l_2, l_3, l_4, l_8, l_9, l_10, l_12, l_13, l_15, l_26, l_32, l_40, l_41, l_42, l_43, l_45, l_46, l_48, l_49, l_50, l_51, l_59, l_60, l_61, l_62, l_63, l_65, l_90, l_91, l_93, l_94, l_96, l_97, l_100, l_122, l_123, l_124, l_125, l_126, l_161, l_1000, l_67108863, q_nb0, q_nb1, q_ni, q_fi, q_fb0, q_fb1, not_true, if_false]
    exact ⟨_, y', B', rfl, H', hf.tr (f'.mono (fun a z => by unfold inYa at z; unfold inYr; omega)), fun k hk => (e1 k (by omega)).trans (ky k hk), fun k hk => (e2 k (by omega)).trans (kB k hk), fun j b hjb => yR_B (hR j b hjb) (fun k hk => e2 k (Or.inr hk)), q⟩
  have at136 : wp (fX5_read_136 (kv_lim bX5_read)) [some (.ref 74), some (.int (nI A)), some (.int op), some (.int (nI cl)), x4, x5, x6, x7] [.int (nI o0), .int (nI 0), .ref 74] h (pTl y0 B0 h0 rs (gdQ t n A rs sg (gd t (B 1) n A o0 p2 cl))) := by
    simp only [fX5_read_136, w_const, w_iload, w_aload, w_iinc, w_istore, w_astore, w_iadd, w_isub, w_imul, w_iand, w_ior, w_ixor, w_ishl, w_ishr, w_ineg, w_i2c, w_dup, w_pop, w_dup_x1, w_dup_x2, w_dup2, w_ifeq, w_ifne, w_iflt, w_ifge, w_ifgt, w_ifle, w_iceq, w_icne, w_iclt, w_icge, w_icgt, w_icle, w_ret, w_iret, w_aret, w_max, w_sld, w_slen, w_new, w_newa, w_newq, w_obj, w_getf, w_putf, w_iald, w_iast, w_alen, w_aald, w_aast, w_copy, List.getElem?_cons_zero, List.getElem?_cons_succ, List.set_cons_zero, List.set_cons_succ, List.length_cons, List.length_nil, List.cons_append, List.nil_append, Option.some.injEq, exists_eq_left', true_and, and_true, Option.toList, Value.category, l_0, l_1, l_2, l_3, l_4, l_8, l_9, l_10, l_12, l_13, l_15, l_26, l_32, l_40, l_41, l_42, l_43, l_45, l_46, l_48, l_49, l_50, l_51, l_59, l_60, l_61, l_62, l_63, l_65, l_90, l_91, l_93, l_94, l_96, l_97, l_100, l_122, l_123, l_124, l_125, l_126, l_161, l_1000, l_67108863, q_nb0, q_nb1, q_ni, q_fi, q_fb0, q_fb1]
    refine w_callV3 (r := []) (vY_74 H) (r_row (N := n) (pa := false) (u := false) (ns := 0) (els := []) H hB ht hM (by omega) (by omega) hn hE h2 h3 (Nat.zero_le _) (Nat.le_refl _) (Nat.le_refl _)) (by decide) ?_
    rintro v1 h1 ⟨f1, y1, B1, H1, ky1, kB1, hq⟩
    unfold gd
    cases hs1 : sRow t o0 (B 1) n false (o0 - 0) 0 [] false false 0 0 with
    | none =>
      rw [hs1] at hq
      dsimp only at hq
      subst hq
      simp only [w_const, w_iload, w_aload, w_iinc, w_istore, w_astore, w_iadd, w_isub, w_imul, w_iand, w_ior, w_ixor, w_ishl, w_ishr, w_ineg, w_i2c, w_dup, w_pop, w_dup_x1, w_dup_x2, w_dup2, w_ifeq, w_ifne, w_iflt, w_ifge, w_ifgt, w_ifle, w_iceq, w_icne, w_iclt, w_icge, w_icgt, w_icle, w_ret, w_iret, w_aret, w_max, w_sld, w_slen, w_new, w_newa, w_newq, w_obj, w_getf, w_putf, w_iald, w_iast, w_alen, w_aald, w_aast, w_copy, List.getElem?_cons_zero, List.getElem?_cons_succ, List.set_cons_zero, List.set_cons_succ, List.length_cons, List.length_nil, List.cons_append, List.nil_append, Option.some.injEq, exists_eq_left', true_and, and_true, Option.toList, Value.category, l_0, l_1, l_2, l_3, l_4, l_8, l_9, l_10, l_12, l_13, l_15, l_26, l_32, l_40, l_41, l_42, l_43, l_45, l_46, l_48, l_49, l_50, l_51, l_59, l_60, l_61, l_62, l_63, l_65, l_90, l_91, l_93, l_94, l_96, l_97, l_100, l_122, l_123, l_124, l_125, l_126, l_161, l_1000, l_67108863, q_nb0, q_nb1, q_ni, q_fi, q_fb0, q_fb1, vY_74 H1, if_true, fX5_read_169, fX5_read_170]
      exact bad y1 B1 h1 _ _ _ _ _ _ _ _ H1 f1 ky1 kB1 ⟨rfl, (ky1 5 (by decide)).trans hy⟩
    | some z1 =>
      obtain ⟨els1, u1, ns1⟩ := z1
      rw [hs1] at hq
      obtain ⟨rfl, hE1, q2, q3⟩ := hq
      have l1 := sRow_le _ _ _ _ _ _ _ _ _ _ hs1 (Nat.zero_le _) (Nat.le_refl _) (Nat.le_refl _)
      have b0 : B1 0 = fun i => nI (t i) := (kB1 0 (by decide)).trans hB
      have b1 : B1 1 = B 1 := kB1 1 (by decide)
      simp only [w_const, w_iload, w_aload, w_iinc, w_istore, w_astore, w_iadd, w_isub, w_imul, w_iand, w_ior, w_ixor, w_ishl, w_ishr, w_ineg, w_i2c, w_dup, w_pop, w_dup_x1, w_dup_x2, w_dup2, w_ifeq, w_ifne, w_iflt, w_ifge, w_ifgt, w_ifle, w_iceq, w_icne, w_iclt, w_icge, w_icgt, w_icle, w_ret, w_iret, w_aret, w_max, w_sld, w_slen, w_new, w_newa, w_newq, w_obj, w_getf, w_putf, w_iald, w_iast, w_alen, w_aald, w_aast, w_copy, List.getElem?_cons_zero, List.getElem?_cons_succ, List.set_cons_zero, List.set_cons_succ, List.length_cons, List.length_nil, List.cons_append, List.nil_append, Option.some.injEq, exists_eq_left', true_and, and_true, Option.toList, Value.category, l_0, l_1, l_2, l_3, l_4, l_8, l_9, l_10, l_12, l_13, l_15, l_26, l_32, l_40, l_41, l_42, l_43, l_45, l_46, l_48, l_49, l_50, l_51, l_59, l_60, l_61, l_62, l_63, l_65, l_90, l_91, l_93, l_94, l_96, l_97, l_100, l_122, l_123, l_124, l_125, l_126, l_161, l_1000, l_67108863, q_nb0, q_nb1, q_ni, q_fi, q_fb0, q_fb1, vY_74 H1, hE1.1, n01, if_false, fX5_read_153, opl]
      refine w_callV3 (r := []) (vY_74 H1) (r_row (N := n) (pa := true) (u := u1) (ns := ns1) (els := els1) H1 b0 ht (by rw [b1]; exact hM) (by omega) (by omega) hn hE1 q2 q3 hp2 (by omega) (by omega)) (by decide) ?_
      rintro v1 h2' ⟨f2, y2, B2, H2, ky2, kB2, hq⟩
      rw [b1] at hq
      have f12 := f1.tr f2
      have ky12 : ∀ k, k = 0 ∨ 4 < k → y2 k = y k := fun k hk => (ky2 k hk).trans (ky1 k hk)
      have kB12 : ∀ k, k < 2 ∨ 5 < k → B2 k = B k := fun k hk => (kB2 k hk).trans (kB1 k hk)
      cases hs2 : sRow t cl (B 1) n true (cl - p2) p2 els1 u1 false 0 ns1 with
      | none =>
        rw [hs2] at hq
        dsimp only at hq
        subst hq
        simp only [w_const, w_iload, w_aload, w_iinc, w_istore, w_astore, w_iadd, w_isub, w_imul, w_iand, w_ior, w_ixor, w_ishl, w_ishr, w_ineg, w_i2c, w_dup, w_pop, w_dup_x1, w_dup_x2, w_dup2, w_ifeq, w_ifne, w_iflt, w_ifge, w_ifgt, w_ifle, w_iceq, w_icne, w_iclt, w_icge, w_icgt, w_icle, w_ret, w_iret, w_aret, w_max, w_sld, w_slen, w_new, w_newa, w_newq, w_obj, w_getf, w_putf, w_iald, w_iast, w_alen, w_aald, w_aast, w_copy, List.getElem?_cons_zero, List.getElem?_cons_succ, List.set_cons_zero, List.set_cons_succ, List.length_cons, List.length_nil, List.cons_append, List.nil_append, Option.some.injEq, exists_eq_left', true_and, and_true, Option.toList, Value.category, l_0, l_1, l_2, l_3, l_4, l_8, l_9, l_10, l_12, l_13, l_15, l_26, l_32, l_40, l_41, l_42, l_43, l_45, l_46, l_48, l_49, l_50, l_51, l_59, l_60, l_61, l_62, l_63, l_65, l_90, l_91, l_93, l_94, l_96, l_97, l_100, l_122, l_123, l_124, l_125, l_126, l_161, l_1000, l_67108863, q_nb0, q_nb1, q_ni, q_fi, q_fb0, q_fb1, vY_74 H2, if_true, fX5_read_169, fX5_read_170]
        exact bad y2 B2 h2' _ _ _ _ _ _ _ _ H2 f12 ky12 kB12 ⟨rfl, (ky12 5 (by decide)).trans hy⟩
      | some z2 =>
        obtain ⟨els2, u2, ns2⟩ := z2
        rw [hs2] at hq
        obtain ⟨rfl, hE2, r2, r3⟩ := hq
        have l2 := sRow_le _ _ _ _ _ _ _ _ _ _ hs2 hp2 (by omega) (by omega)
        have c0 : B2 0 = fun i => nI (t i) := (kB12 0 (by decide)).trans hB
        have c1 : B2 1 = B 1 := kB12 1 (by decide)
        simp only [w_const, w_iload, w_aload, w_iinc, w_istore, w_astore, w_iadd, w_isub, w_imul, w_iand, w_ior, w_ixor, w_ishl, w_ishr, w_ineg, w_i2c, w_dup, w_pop, w_dup_x1, w_dup_x2, w_dup2, w_ifeq, w_ifne, w_iflt, w_ifge, w_ifgt, w_ifle, w_iceq, w_icne, w_iclt, w_icge, w_icgt, w_icle, w_ret, w_iret, w_aret, w_max, w_sld, w_slen, w_new, w_newa, w_newq, w_obj, w_getf, w_putf, w_iald, w_iast, w_alen, w_aald, w_aast, w_copy, List.getElem?_cons_zero, List.getElem?_cons_succ, List.set_cons_zero, List.set_cons_succ, List.length_cons, List.length_nil, List.cons_append, List.nil_append, Option.some.injEq, exists_eq_left', true_and, and_true, Option.toList, Value.category, l_0, l_1, l_2, l_3, l_4, l_8, l_9, l_10, l_12, l_13, l_15, l_26, l_32, l_40, l_41, l_42, l_43, l_45, l_46, l_48, l_49, l_50, l_51, l_59, l_60, l_61, l_62, l_63, l_65, l_90, l_91, l_93, l_94, l_96, l_97, l_100, l_122, l_123, l_124, l_125, l_126, l_161, l_1000, l_67108863, q_nb0, q_nb1, q_ni, q_fi, q_fb0, q_fb1, vY_74 H2, hE2.1, n01, if_false, fX5_read_165, fX5_read_170, fX5_read_183, q_le (show els2.length < 2147483648 by omega) (show els1.length < 2147483648 by omega)]
        by_cases e1 : els2.length ≤ els1.length
        · rw [if_pos e1, if_neg (show ¬ els1.length < els2.length by omega)]
          exact bad y2 B2 h2' _ _ _ _ _ _ _ _ H2 f12 ky12 kB12 ⟨rfl, (ky12 5 (by decide)).trans hy⟩
        rw [if_neg e1, if_pos (show els1.length < els2.length by omega)]
        simp only [fX5_read_190, w_const, w_iload, w_aload, w_iinc, w_istore, w_astore, w_iadd, w_isub, w_imul, w_iand, w_ior, w_ixor, w_ishl, w_ishr, w_ineg, w_i2c, w_dup, w_pop, w_dup_x1, w_dup_x2, w_dup2, w_ifeq, w_ifne, w_iflt, w_ifge, w_ifgt, w_ifle, w_iceq, w_icne, w_iclt, w_icge, w_icgt, w_icle, w_ret, w_iret, w_aret, w_max, w_sld, w_slen, w_new, w_newa, w_newq, w_obj, w_getf, w_putf, w_iald, w_iast, w_alen, w_aald, w_aast, w_copy, List.getElem?_cons_zero, List.getElem?_cons_succ, List.set_cons_zero, List.set_cons_succ, List.length_cons, List.length_nil, List.cons_append, List.nil_append, Option.some.injEq, exists_eq_left', true_and, and_true, Option.toList, Value.category, l_0, l_1, l_2, l_3, l_4, l_8, l_9, l_10, l_12, l_13, l_15, l_26, l_32, l_40, l_41, l_42, l_43, l_45, l_46, l_48, l_49, l_50, l_51, l_59, l_60, l_61, l_62, l_63, l_65, l_90, l_91, l_93, l_94, l_96, l_97, l_100, l_122, l_123, l_124, l_125, l_126, l_161, l_1000, l_67108863, q_nb0, q_nb1, q_ni, q_fi, q_fb0, q_fb1, q_eq (show cl < 2147483648 by omega) (show A < 2147483648 by omega)]
        by_cases e2 : cl = A
        · rw [if_pos e2, if_pos e2]
          simp only [fX5_read_207, fX5_read_212, w_const, w_iload, w_aload, w_iinc, w_istore, w_astore, w_iadd, w_isub, w_imul, w_iand, w_ior, w_ixor, w_ishl, w_ishr, w_ineg, w_i2c, w_dup, w_pop, w_dup_x1, w_dup_x2, w_dup2, w_ifeq, w_ifne, w_iflt, w_ifge, w_ifgt, w_ifle, w_iceq, w_icne, w_iclt, w_icge, w_icgt, w_icle, w_ret, w_iret, w_aret, w_max, w_sld, w_slen, w_new, w_newa, w_newq, w_obj, w_getf, w_putf, w_iald, w_iast, w_alen, w_aald, w_aast, w_copy, List.getElem?_cons_zero, List.getElem?_cons_succ, List.set_cons_zero, List.set_cons_succ, List.length_cons, List.length_nil, List.cons_append, List.nil_append, Option.some.injEq, exists_eq_left', true_and, and_true, Option.toList, Value.category, l_0, l_1, l_2, l_3, l_4, l_8, l_9, l_10, l_12, l_13, l_15, l_26, l_32, l_40, l_41, l_42, l_43, l_45, l_46, l_48, l_49, l_50, l_51, l_59, l_60, l_61, l_62, l_63, l_65, l_90, l_91, l_93, l_94, l_96, l_97, l_100, l_122, l_123, l_124, l_125, l_126, l_161, l_1000, l_67108863, q_nb0, q_nb1, q_ni, q_fi, q_fb0, q_fb1, n01, not_false_eq_true, if_true]
          exact r_rtail H2 ht c0 hn ((ky12 0 (by decide)).trans hy0) hm ((ky12 5 (by decide)).trans hy) (fun j b hjb => yR_B (hR j b hjb) (fun k hk => kB12 k (Or.inr hk))) hw hE2 (by omega) r2 (by omega) r3 (by omega) (Nat.le_refl _) hA (hf.tr (f12.mono (fun a z => by unfold inYa at z; unfold inYr; omega))) (fun k hk => (ky12 k (by omega)).trans (ky k hk)) (fun k hk => (kB12 k (by omega)).trans (kB k hk))
        rw [if_neg e2, if_neg e2]
        simp only [fX5_read_195, w_const, w_iload, w_aload, w_iinc, w_istore, w_astore, w_iadd, w_isub, w_imul, w_iand, w_ior, w_ixor, w_ishl, w_ishr, w_ineg, w_i2c, w_dup, w_pop, w_dup_x1, w_dup_x2, w_dup2, w_ifeq, w_ifne, w_iflt, w_ifge, w_ifgt, w_ifle, w_iceq, w_icne, w_iclt, w_icge, w_icgt, w_icle, w_ret, w_iret, w_aret, w_max, w_sld, w_slen, w_new, w_newa, w_newq, w_obj, w_getf, w_putf, w_iald, w_iast, w_alen, w_aald, w_aast, w_copy, List.getElem?_cons_zero, List.getElem?_cons_succ, List.set_cons_zero, List.set_cons_succ, List.length_cons, List.length_nil, List.cons_append, List.nil_append, Option.some.injEq, exists_eq_left', true_and, and_true, Option.toList, Value.category, l_0, l_1, l_2, l_3, l_4, l_8, l_9, l_10, l_12, l_13, l_15, l_26, l_32, l_40, l_41, l_42, l_43, l_45, l_46, l_48, l_49, l_50, l_51, l_59, l_60, l_61, l_62, l_63, l_65, l_90, l_91, l_93, l_94, l_96, l_97, l_100, l_122, l_123, l_124, l_125, l_126, l_161, l_1000, l_67108863, q_nb0, q_nb1, q_ni, q_fi, q_fb0, q_fb1, q_add]
        refine w_callV3 (r := []) (vY_74 H2) (r_row (N := n) (pa := false) (u := u2) (ns := ns2) (els := els2) H2 c0 ht (by rw [c1]; exact hM) (by omega) (by omega) hn hE2 r2 r3 (by omega) (by omega) (by omega)) (by decide) ?_
        rintro v1 h3' ⟨f3, y3, B3, H3, ky3, kB3, hq⟩
        rw [c1] at hq
        have f13 := f12.tr f3
        have ky13 : ∀ k, k = 0 ∨ 4 < k → y3 k = y k := fun k hk => (ky3 k hk).trans (ky12 k hk)
        have kB13 : ∀ k, k < 2 ∨ 5 < k → B3 k = B k := fun k hk => (kB3 k hk).trans (kB12 k hk)
        cases hs3 : sRow t A (B 1) n false (A - (cl + 1)) (cl + 1) els2 u2 false 0 ns2 with
        | none =>
          rw [hs3] at hq
          dsimp only at hq
          subst hq
          simp only [w_const, w_iload, w_aload, w_iinc, w_istore, w_astore, w_iadd, w_isub, w_imul, w_iand, w_ior, w_ixor, w_ishl, w_ishr, w_ineg, w_i2c, w_dup, w_pop, w_dup_x1, w_dup_x2, w_dup2, w_ifeq, w_ifne, w_iflt, w_ifge, w_ifgt, w_ifle, w_iceq, w_icne, w_iclt, w_icge, w_icgt, w_icle, w_ret, w_iret, w_aret, w_max, w_sld, w_slen, w_new, w_newa, w_newq, w_obj, w_getf, w_putf, w_iald, w_iast, w_alen, w_aald, w_aast, w_copy, List.getElem?_cons_zero, List.getElem?_cons_succ, List.set_cons_zero, List.set_cons_succ, List.length_cons, List.length_nil, List.cons_append, List.nil_append, Option.some.injEq, exists_eq_left', true_and, and_true, Option.toList, Value.category, l_0, l_1, l_2, l_3, l_4, l_8, l_9, l_10, l_12, l_13, l_15, l_26, l_32, l_40, l_41, l_42, l_43, l_45, l_46, l_48, l_49, l_50, l_51, l_59, l_60, l_61, l_62, l_63, l_65, l_90, l_91, l_93, l_94, l_96, l_97, l_100, l_122, l_123, l_124, l_125, l_126, l_161, l_1000, l_67108863, q_nb0, q_nb1, q_ni, q_fi, q_fb0, q_fb1, if_true]
          exact bad y3 B3 h3' _ _ _ _ _ _ _ _ H3 f13 ky13 kB13 ⟨rfl, (ky13 5 (by decide)).trans hy⟩
        | some z3 =>
          obtain ⟨els3, u3, ns3⟩ := z3
          rw [hs3] at hq
          obtain ⟨rfl, hE3, s2, s3⟩ := hq
          have l3 := sRow_le _ _ _ _ _ _ _ _ _ _ hs3 (by omega) (by omega) (by omega)
          have d0 : B3 0 = fun i => nI (t i) := (kB13 0 (by decide)).trans hB
          simp only [fX5_read_207, fX5_read_212, w_const, w_iload, w_aload, w_iinc, w_istore, w_astore, w_iadd, w_isub, w_imul, w_iand, w_ior, w_ixor, w_ishl, w_ishr, w_ineg, w_i2c, w_dup, w_pop, w_dup_x1, w_dup_x2, w_dup2, w_ifeq, w_ifne, w_iflt, w_ifge, w_ifgt, w_ifle, w_iceq, w_icne, w_iclt, w_icge, w_icgt, w_icle, w_ret, w_iret, w_aret, w_max, w_sld, w_slen, w_new, w_newa, w_newq, w_obj, w_getf, w_putf, w_iald, w_iast, w_alen, w_aald, w_aast, w_copy, List.getElem?_cons_zero, List.getElem?_cons_succ, List.set_cons_zero, List.set_cons_succ, List.length_cons, List.length_nil, List.cons_append, List.nil_append, Option.some.injEq, exists_eq_left', true_and, and_true, Option.toList, Value.category, l_0, l_1, l_2, l_3, l_4, l_8, l_9, l_10, l_12, l_13, l_15, l_26, l_32, l_40, l_41, l_42, l_43, l_45, l_46, l_48, l_49, l_50, l_51, l_59, l_60, l_61, l_62, l_63, l_65, l_90, l_91, l_93, l_94, l_96, l_97, l_100, l_122, l_123, l_124, l_125, l_126, l_161, l_1000, l_67108863, q_nb0, q_nb1, q_ni, q_fi, q_fb0, q_fb1, n01, not_false_eq_true, if_true, if_false]
          exact r_rtail H3 ht d0 hn ((ky13 0 (by decide)).trans hy0) hm ((ky13 5 (by decide)).trans hy) (fun j b hjb => yR_B (hR j b hjb) (fun k hk => kB13 k (Or.inr hk))) hw hE3 (by omega) s2 (by omega) s3 (by omega) (by omega) hA (hf.tr (f13.mono (fun a z => by unfold inYa at z; unfold inYr; omega))) (fun k hk => (ky13 k (by omega)).trans (ky k hk)) (fun k hk => (kB13 k (by omega)).trans (kB k hk))
  simp only [fX5_read_125, w_const, w_iload, w_aload, w_iinc, w_istore, w_astore, w_iadd, w_isub, w_imul, w_iand, w_ior, w_ixor, w_ishl, w_ishr, w_ineg, w_i2c, w_dup, w_pop, w_dup_x1, w_dup_x2, w_dup2, w_ifeq, w_ifne, w_iflt, w_ifge, w_ifgt, w_ifle, w_iceq, w_icne, w_iclt, w_icge, w_icgt, w_icle, w_ret, w_iret, w_aret, w_max, w_sld, w_slen, w_new, w_newa, w_newq, w_obj, w_getf, w_putf, w_iald, w_iast, w_alen, w_aald, w_aast, w_copy, List.getElem?_cons_zero, List.getElem?_cons_succ, List.set_cons_zero, List.set_cons_succ, List.length_cons, List.length_nil, List.cons_append, List.nil_append, Option.some.injEq, exists_eq_left', true_and, and_true, Option.toList, Value.category, l_0, l_1, l_2, l_3, l_4, l_8, l_9, l_10, l_12, l_13, l_15, l_26, l_32, l_40, l_41, l_42, l_43, l_45, l_46, l_48, l_49, l_50, l_51, l_59, l_60, l_61, l_62, l_63, l_65, l_90, l_91, l_93, l_94, l_96, l_97, l_100, l_122, l_123, l_124, l_125, l_126, l_161, l_1000, l_67108863, q_nb0, q_nb1, q_ni, q_fi, q_fb0, q_fb1]
  rcases ho with ⟨q, q2⟩ | ⟨q, q3, q2⟩
  · subst q
    simp only [q_le (show 0 < 2147483648 by decide) (show o0 < 2147483648 by omega), Nat.zero_le, if_true, fX5_read_135, w_const, w_iload, w_aload, w_iinc, w_istore, w_astore, w_iadd, w_isub, w_imul, w_iand, w_ior, w_ixor, w_ishl, w_ishr, w_ineg, w_i2c, w_dup, w_pop, w_dup_x1, w_dup_x2, w_dup2, w_ifeq, w_ifne, w_iflt, w_ifge, w_ifgt, w_ifle, w_iceq, w_icne, w_iclt, w_icge, w_icgt, w_icle, w_ret, w_iret, w_aret, w_max, w_sld, w_slen, w_new, w_newa, w_newq, w_obj, w_getf, w_putf, w_iald, w_iast, w_alen, w_aald, w_aast, w_copy, List.getElem?_cons_zero, List.getElem?_cons_succ, List.set_cons_zero, List.set_cons_succ, List.length_cons, List.length_nil, List.cons_append, List.nil_append, Option.some.injEq, exists_eq_left', true_and, and_true, Option.toList, Value.category, l_0, l_1, l_2, l_3, l_4, l_8, l_9, l_10, l_12, l_13, l_15, l_26, l_32, l_40, l_41, l_42, l_43, l_45, l_46, l_48, l_49, l_50, l_51, l_59, l_60, l_61, l_62, l_63, l_65, l_90, l_91, l_93, l_94, l_96, l_97, l_100, l_122, l_123, l_124, l_125, l_126, l_161, l_1000, l_67108863, q_nb0, q_nb1, q_ni, q_fi, q_fb0, q_fb1]
    exact at136
  · subst q
    subst q3
    simp only [show ¬ nI 0 ≤ -nI 1 by decide +kernel, if_false, fX5_read_131, w_const, w_iload, w_aload, w_iinc, w_istore, w_astore, w_iadd, w_isub, w_imul, w_iand, w_ior, w_ixor, w_ishl, w_ishr, w_ineg, w_i2c, w_dup, w_pop, w_dup_x1, w_dup_x2, w_dup2, w_ifeq, w_ifne, w_iflt, w_ifge, w_ifgt, w_ifle, w_iceq, w_icne, w_iclt, w_icge, w_icgt, w_icle, w_ret, w_iret, w_aret, w_max, w_sld, w_slen, w_new, w_newa, w_newq, w_obj, w_getf, w_putf, w_iald, w_iast, w_alen, w_aald, w_aast, w_copy, List.getElem?_cons_zero, List.getElem?_cons_succ, List.set_cons_zero, List.set_cons_succ, List.length_cons, List.length_nil, List.cons_append, List.nil_append, Option.some.injEq, exists_eq_left', true_and, and_true, Option.toList, Value.category, l_0, l_1, l_2, l_3, l_4, l_8, l_9, l_10, l_12, l_13, l_15, l_26, l_32, l_40, l_41, l_42, l_43, l_45, l_46, l_48, l_49, l_50, l_51, l_59, l_60, l_61, l_62, l_63, l_65, l_90, l_91, l_93, l_94, l_96, l_97, l_100, l_122, l_123, l_124, l_125, l_126, l_161, l_1000, l_67108863, q_nb0, q_nb1, q_ni, q_fi, q_fb0, q_fb1]
    exact at136
end RU
