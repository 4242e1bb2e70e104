/-! work, settle, finish, probe: the reference -/
def vQ (h : kv_H) (t : Nat → Nat) (n : Nat) (mn : Nat → Int32) (rs : List Rl) (ap : Nat) (lat : Int32) (sk : Nat) (tx : List Nat) (pl : Nat) : Prop := ∃ y B, vY h y B ∧ y 0 = nI n ∧ (B 0 = fun i => nI (t i)) ∧ B 1 = mn ∧ y 5 = nI rs.length ∧ (∀ j r, rs[j]? = some r → yR B j r) ∧ y 6 = nI tx.length ∧ fY tx (B 16) ∧ y 7 = nI pl ∧ y 8 = nI ap ∧ y 9 = lat ∧ y 10 = nI sk
/-- a rule that may be kept: what both sides need of it -/
def wfK (r : Rl) : Prop := wfC r ∧ nmR r
section RWK
variable {t : Nat → Nat} {n : Nat} {mn : Nat → Int32} {rs : List Rl} {ap : Nat} {lat : Int32} {sk : Nat} {tx : List Nat} {pl : Nat}
theorem yR_6 {B B' : Nat → Nat → Int32} {j : Nat} {r : Rl} (h : yR B j r) (e : ∀ k, 5 < k → k < 16 → B' k = B k) : yR B' j r := by
  unfold yR at *
  rw [e 6 (by decide) (by decide), e 7 (by decide) (by decide), e 8 (by decide) (by decide), e 9 (by decide) (by decide), e 10 (by decide) (by decide), e 11 (by decide) (by decide), e 12 (by decide) (by decide), e 13 (by decide) (by decide), e 14 (by decide) (by decide), e 15 (by decide) (by decide)]
  exact h
def inYw : Nat → Prop := fun a => a = 74 ∨ (91 ≤ a ∧ a ≤ 94)
/-- match at one of the rules -/
theorem q_match {h : kv_H} {j : Nat} {r : Rl} {last : Bool} (V : vQ h t n mn rs ap lat sk tx pl) (hl : rs.length ≤ 8) (hr : rs[j]? = some r) (w : wfK r) (h60 : tx.length ≤ 60) (hp : pl ≤ tx.length) (hx : ltr tx) : wm mX5_match [.ref 74, .int (nI j), .int (nI last.toNat)] h (fun v h' => v = some (.int (nI (mtc r (gt tx) tx.length pl last))) ∧ kv_fr inYw h h' ∧ vQ h' t n mn rs ap lat sk tx pl ∧ (mtc r (gt tx) tx.length pl last = 1 → ∃ y B, vY h' y B ∧ y 0 = nI n ∧ (B 0 = fun i => nI (t i)) ∧ B 1 = mn ∧ y 5 = nI rs.length ∧ (∀ j r, rs[j]? = some r → yR B j r) ∧ y 9 = lat ∧ y 10 = nI sk ∧ aY y B j r (gt tx) tx.length pl ap)) := by
  obtain ⟨y, B, H, q0, q1, q2, q5, qR, q6, qT, q7, q8, q9, q10⟩ := V
  have hjl := (List.getElem?_eq_some_iff.mp hr).1
  have hT : ∀ i, i < tx.length → B 16 i = nI (gt tx i) := fun i hi => fY_lt qT hi
  have m := yR_mY (qR j r hr) w.1 w.2 q6 q7 hT
  have w1 := w.1.1.1
  have w2 := w.1.1.2.1
  have w3 := w.1.2.1
  refine wm_of (r_match (last := last) H m (by omega) (fun i hi => ltr_gt hx hi) h60 hp w1 w2 w3) ?_
  rintro v h' ⟨rfl, y', B', H', f', ky, kB, hO⟩
  rw [mtc_hi h60 hp] at hO ⊢
  have R' : ∀ j r, rs[j]? = some r → yR B' j r := fun j r hr => yR_6 (qR j r hr) (fun k h1 h2 => kB k (by omega) (by omega))
  have e0 := (ky 0 (by decide)).trans q0
  have e5 := (ky 5 (by decide)).trans q5
  have e6 := (ky 6 (by decide)).trans q6
  have e7 := (ky 7 (by decide)).trans q7
  have e8 := (ky 8 (by decide)).trans q8
  have e9 := (ky 9 (by decide)).trans q9
  have e10 := (ky 10 (by decide)).trans q10
  have b0 := (kB 0 (by decide) (by decide)).trans q1
  have b1 := (kB 1 (by decide) (by decide)).trans q2
  have b16 := kB 16 (by decide) (by decide)
  refine ⟨rfl, f'.mono (fun a q => by unfold inYm at q; unfold inYw; omega), ⟨y', B', H', e0, b0, b1, e5, R', e6, by rw [b16]; exact qT, e7, e8, e9, e10⟩, fun hc => ?_⟩
  exact ⟨y', B', H', e0, b0, b1, e5, R', e9, e10, mOk_aY (y := y) (B := B) (R' j r hr) w.1 h60 hp e6 e7 e8 (by rw [b16]; exact hT) (hO hc)⟩
theorem r_probe {h : kv_H} {i : Int32} {last : Bool} (V : vQ h t n mn rs ap lat sk tx pl) (hl : rs.length ≤ 8) (hw : ∀ r ∈ rs, wfK r) (h60 : tx.length ≤ 60) (hp : pl ≤ tx.length) (hx : ltr tx) : wm mX5_probe [.ref 74, .int i, .int (nI last.toNat)] h (fun v h' => v = some (.int (cPrb rs tx pl i last)) ∧ vQ h' t n mn rs ap lat sk tx pl ∧ kv_fr inYw h h') := by
  obtain ⟨y, B, H, q0, q1, q2, q5, -⟩ := id V
  refine iX5_probe rfl rfl rfl ?_
  simp only [fX5_probe_0, w_const, w_iload, w_aload, w_iinc, w_istore, w_astore, w_iadd, w_isub, w_imul, w_iand, w_ior, w_ixor, w_ishl, w_ishr, w_ineg, w_i2c, w_dup, w_pop, w_dup_x1, w_dup_x2, w_dup2, w_ifeq, w_ifne, w_iflt, w_ifge, w_ifgt, w_ifle, w_iceq, w_icne, w_iclt, w_icge, w_icgt, w_icle, w_ret, w_iret, w_aret, w_max, w_sld, w_slen, w_new, w_newa, w_newq, w_obj, w_getf, w_putf, w_iald, w_iast, w_alen, w_aald, w_aast, w_copy, List.getElem?_cons_zero, List.getElem?_cons_succ, List.set_cons_zero, List.set_cons_succ, List.length_cons, List.length_nil, List.cons_append, List.nil_append, Option.some.injEq, exists_eq_left', true_and, and_true, Option.toList, Value.category, l_0, l_1, l_2, l_3, l_4, l_8, l_9, l_10, l_12, l_13, l_15, l_26, l_32, l_40, l_41, l_42, l_43, l_45, l_46, l_48, l_49, l_50, l_51, l_59, l_60, l_61, l_62, l_63, l_65, l_90, l_91, l_93, l_94, l_96, l_97, l_100, l_122, l_123, l_124, l_125, l_126, l_161, l_1000, l_67108863, q_nb0, q_nb1, q_ni, q_fi, q_fb0, q_fb1]
  by_cases e1 : i < nI 0
  · have e : cPrb rs tx pl i last = -nI 1 := if_neg (fun q => Int32.not_le.mpr e1 q.1)
    simp only [e1, if_true, fX5_probe_12, fX5_probe_22, w_const, w_iload, w_aload, w_iinc, w_istore, w_astore, w_iadd, w_isub, w_imul, w_iand, w_ior, w_ixor, w_ishl, w_ishr, w_ineg, w_i2c, w_dup, w_pop, w_dup_x1, w_dup_x2, w_dup2, w_ifeq, w_ifne, w_iflt, w_ifge, w_ifgt, w_ifle, w_iceq, w_icne, w_iclt, w_icge, w_icgt, w_icle, w_ret, w_iret, w_aret, w_max, w_sld, w_slen, w_new, w_newa, w_newq, w_obj, w_getf, w_putf, w_iald, w_iast, w_alen, w_aald, w_aast, w_copy, List.getElem?_cons_zero, List.getElem?_cons_succ, List.set_cons_zero, List.set_cons_succ, List.length_cons, List.length_nil, List.cons_append, List.nil_append, Option.some.injEq, exists_eq_left', true_and, and_true, Option.toList, Value.category, l_0, l_1, l_2, l_3, l_4, l_8, l_9, l_10, l_12, l_13, l_15, l_26, l_32, l_40, l_41, l_42, l_43, l_45, l_46, l_48, l_49, l_50, l_51, l_59, l_60, l_61, l_62, l_63, l_65, l_90, l_91, l_93, l_94, l_96, l_97, l_100, l_122, l_123, l_124, l_125, l_126, l_161, l_1000, l_67108863, q_nb0, q_nb1, q_ni, q_fi, q_fb0, q_fb1, e]
    exact ⟨V, kv_fr.rf⟩
  · have e1' : nI 0 ≤ i := Int32.not_lt.mp e1
    simp only [e1, if_false, fX5_probe_4, w_const, w_iload, w_aload, w_iinc, w_istore, w_astore, w_iadd, w_isub, w_imul, w_iand, w_ior, w_ixor, w_ishl, w_ishr, w_ineg, w_i2c, w_dup, w_pop, w_dup_x1, w_dup_x2, w_dup2, w_ifeq, w_ifne, w_iflt, w_ifge, w_ifgt, w_ifle, w_iceq, w_icne, w_iclt, w_icge, w_icgt, w_icle, w_ret, w_iret, w_aret, w_max, w_sld, w_slen, w_new, w_newa, w_newq, w_obj, w_getf, w_putf, w_iald, w_iast, w_alen, w_aald, w_aast, w_copy, List.getElem?_cons_zero, List.getElem?_cons_succ, List.set_cons_zero, List.set_cons_succ, List.length_cons, List.length_nil, List.cons_append, List.nil_append, Option.some.injEq, exists_eq_left', true_and, and_true, Option.toList, Value.category, l_0, l_1, l_2, l_3, l_4, l_8, l_9, l_10, l_12, l_13, l_15, l_26, l_32, l_40, l_41, l_42, l_43, l_45, l_46, l_48, l_49, l_50, l_51, l_59, l_60, l_61, l_62, l_63, l_65, l_90, l_91, l_93, l_94, l_96, l_97, l_100, l_122, l_123, l_124, l_125, l_126, l_161, l_1000, l_67108863, q_nb0, q_nb1, q_ni, q_fi, q_fb0, q_fb1, vY_74 H, q5]
    by_cases e2 : i < nI rs.length
    · obtain ⟨j, hj, rfl⟩ := nI_of (show ¬ i < 0 from e1)
      have g1 : j < 2147483648 := hj
      have e2' := e2
      rw [q_lt g1 (by omega)] at e2'
      have hri := List.getElem?_eq_getElem e2'
      have w := hw _ (List.getElem_mem e2')
      have e : cPrb rs tx pl (nI j) last = nI (mtc rs[j] (gt tx) tx.length pl last) := by
        unfold cPrb
        rw [if_pos ⟨e1', e2⟩, q_clamp g1, hri]
      rw [e]
      simp only [e2, if_true, fX5_probe_16, fX5_probe_22, w_const, w_iload, w_aload, w_iinc, w_istore, w_astore, w_iadd, w_isub, w_imul, w_iand, w_ior, w_ixor, w_ishl, w_ishr, w_ineg, w_i2c, w_dup, w_pop, w_dup_x1, w_dup_x2, w_dup2, w_ifeq, w_ifne, w_iflt, w_ifge, w_ifgt, w_ifle, w_iceq, w_icne, w_iclt, w_icge, w_icgt, w_icle, w_ret, w_iret, w_aret, w_max, w_sld, w_slen, w_new, w_newa, w_newq, w_obj, w_getf, w_putf, w_iald, w_iast, w_alen, w_aald, w_aast, w_copy, List.getElem?_cons_zero, List.getElem?_cons_succ, List.set_cons_zero, List.set_cons_succ, List.length_cons, List.length_nil, List.cons_append, List.nil_append, Option.some.injEq, exists_eq_left', true_and, and_true, Option.toList, Value.category, l_0, l_1, l_2, l_3, l_4, l_8, l_9, l_10, l_12, l_13, l_15, l_26, l_32, l_40, l_41, l_42, l_43, l_45, l_46, l_48, l_49, l_50, l_51, l_59, l_60, l_61, l_62, l_63, l_65, l_90, l_91, l_93, l_94, l_96, l_97, l_100, l_122, l_123, l_124, l_125, l_126, l_161, l_1000, l_67108863, q_nb0, q_nb1, q_ni, q_fi, q_fb0, q_fb1]
      refine w_callV2 (r := []) (vY_74 H) (q_match (last := last) V hl hri w h60 hp hx) (by decide) ?_
      rintro v1 h2 ⟨rfl, f2, V2, -⟩
      simp only [w_const, w_iload, w_aload, w_iinc, w_istore, w_astore, w_iadd, w_isub, w_imul, w_iand, w_ior, w_ixor, w_ishl, w_ishr, w_ineg, w_i2c, w_dup, w_pop, w_dup_x1, w_dup_x2, w_dup2, w_ifeq, w_ifne, w_iflt, w_ifge, w_ifgt, w_ifle, w_iceq, w_icne, w_iclt, w_icge, w_icgt, w_icle, w_ret, w_iret, w_aret, w_max, w_sld, w_slen, w_new, w_newa, w_newq, w_obj, w_getf, w_putf, w_iald, w_iast, w_alen, w_aald, w_aast, w_copy, List.getElem?_cons_zero, List.getElem?_cons_succ, List.set_cons_zero, List.set_cons_succ, List.length_cons, List.length_nil, List.cons_append, List.nil_append, Option.some.injEq, exists_eq_left', true_and, and_true, Option.toList, Value.category, l_0, l_1, l_2, l_3, l_4, l_8, l_9, l_10, l_12, l_13, l_15, l_26, l_32, l_40, l_41, l_42, l_43, l_45, l_46, l_48, l_49, l_50, l_51, l_59, l_60, l_61, l_62, l_63, l_65, l_90, l_91, l_93, l_94, l_96, l_97, l_100, l_122, l_123, l_124, l_125, l_126, l_161, l_1000, l_67108863, q_nb0, q_nb1, q_ni, q_fi, q_fb0, q_fb1]
      exact ⟨V2, f2⟩
    · have e : cPrb rs tx pl i last = -nI 1 := if_neg (fun q => e2 q.2)
      simp only [e2, if_false, fX5_probe_12, fX5_probe_22, w_const, w_iload, w_aload, w_iinc, w_istore, w_astore, w_iadd, w_isub, w_imul, w_iand, w_ior, w_ixor, w_ishl, w_ishr, w_ineg, w_i2c, w_dup, w_pop, w_dup_x1, w_dup_x2, w_dup2, w_ifeq, w_ifne, w_iflt, w_ifge, w_ifgt, w_ifle, w_iceq, w_icne, w_iclt, w_icge, w_icgt, w_icle, w_ret, w_iret, w_aret, w_max, w_sld, w_slen, w_new, w_newa, w_newq, w_obj, w_getf, w_putf, w_iald, w_iast, w_alen, w_aald, w_aast, w_copy, List.getElem?_cons_zero, List.getElem?_cons_succ, List.set_cons_zero, List.set_cons_succ, List.length_cons, List.length_nil, List.cons_append, List.nil_append, Option.some.injEq, exists_eq_left', true_and, and_true, Option.toList, Value.category, l_0, l_1, l_2, l_3, l_4, l_8, l_9, l_10, l_12, l_13, l_15, l_26, l_32, l_40, l_41, l_42, l_43, l_45, l_46, l_48, l_49, l_50, l_51, l_59, l_60, l_61, l_62, l_63, l_65, l_90, l_91, l_93, l_94, l_96, l_97, l_100, l_122, l_123, l_124, l_125, l_126, l_161, l_1000, l_67108863, q_nb0, q_nb1, q_ni, q_fi, q_fb0, q_fb1, e]
      exact ⟨V, kv_fr.rf⟩
/-- the rules in their order: the first that does not answer 'no match' -/
theorem r_scan {P : Option Value → kv_H → Prop} {last : Bool} {dn : Int32} {h0 : kv_H} (hl : rs.length ≤ 8) (hw : ∀ r ∈ rs, wfK r) (h60 : tx.length ≤ 60) (hp : pl ≤ tx.length) (hx : ltr tx) (Kn : ∀ h', vQ h' t n mn rs ap lat sk tx pl → kv_fr inYw h0 h' → cSc tx pl last rs 0 = none → wp (fX5_work_62 (kv_lim bX5_work)) [some (.ref 74), some (.int (nI last.toNat)), some (.int dn), some (.int (nI rs.length)), some (.int (nI 0))] [] h' P) (Ks : ∀ h' i r c, rs[i]? = some r → cSc tx pl last rs 0 = some (i, c) → c = mtc r (gt tx) tx.length pl last → vQ h' t n mn rs ap lat sk tx pl → kv_fr inYw h0 h' → (c = 1 → ∃ y B, vY h' y B ∧ y 0 = nI n ∧ (B 0 = fun i => nI (t i)) ∧ B 1 = mn ∧ y 5 = nI rs.length ∧ (∀ j r, rs[j]? = some r → yR B j r) ∧ y 9 = lat ∧ y 10 = nI sk ∧ aY y B i r (gt tx) tx.length pl ap) → wp (fX5_work_62 (kv_lim bX5_work)) [some (.ref 74), some (.int (nI last.toNat)), some (.int dn), some (.int (nI i)), some (.int (nI c))] [] h' P) : ∀ (f i : Nat) (h : kv_H), i + f = rs.length → vQ h t n mn rs ap lat sk tx pl → kv_fr inYw h0 h → cSc tx pl last rs 0 = cSc tx pl last (rs.drop i) i → wp (kv_lim bX5_work 25) [some (.ref 74), some (.int (nI last.toNat)), some (.int dn), some (.int (nI i)), some (.int (nI 0))] [] h P := by
  intro f
  induction f with
  | zero =>
    intro i h hi V hf hsc
    obtain ⟨y, B, H, q0, q1, q2, q5, -⟩ := id V
    have e : i = rs.length := by omega
    subst e
    refine tX5_work_25 ?_
    simp only [fX5_work_25, w_const, w_iload, w_aload, w_iinc, w_istore, w_astore, w_iadd, w_isub, w_imul, w_iand, w_ior, w_ixor, w_ishl, w_ishr, w_ineg, w_i2c, w_dup, w_pop, w_dup_x1, w_dup_x2, w_dup2, w_ifeq, w_ifne, w_iflt, w_ifge, w_ifgt, w_ifle, w_iceq, w_icne, w_iclt, w_icge, w_icgt, w_icle, w_ret, w_iret, w_aret, w_max, w_sld, w_slen, w_new, w_newa, w_newq, w_obj, w_getf, w_putf, w_iald, w_iast, w_alen, w_aald, w_aast, w_copy, List.getElem?_cons_zero, List.getElem?_cons_succ, List.set_cons_zero, List.set_cons_succ, List.length_cons, List.length_nil, List.cons_append, List.nil_append, Option.some.injEq, exists_eq_left', true_and, and_true, Option.toList, Value.category, l_0, l_1, l_2, l_3, l_4, l_8, l_9, l_10, l_12, l_13, l_15, l_26, l_32, l_40, l_41, l_42, l_43, l_45, l_46, l_48, l_49, l_50, l_51, l_59, l_60, l_61, l_62, l_63, l_65, l_90, l_91, l_93, l_94, l_96, l_97, l_100, l_122, l_123, l_124, l_125, l_126, l_161, l_1000, l_67108863, q_nb0, q_nb1, q_ni, q_fi, q_fb0, q_fb1, vY_74 H, q5, Int32.le_refl, if_true]
    exact Kn h V hf (by rw [hsc, List.drop_length]; rfl)
  | succ f ih =>
    intro i h hi V hf hsc
    obtain ⟨y, B, H, q0, q1, q2, q5, -⟩ := id V
    have hil : i < rs.length := by omega
    have gi : i < 2147483648 := by omega
    have hri := List.getElem?_eq_getElem hil
    have w := hw _ (List.getElem_mem hil)
    have hd : rs.drop i = rs[i] :: rs.drop (i + 1) := List.drop_eq_getElem_cons hil
    have le2 : mtc rs[i] (gt tx) tx.length pl last ≤ 2 := cMt_le hp
    refine tX5_work_25 ?_
    simp only [fX5_work_25, fX5_work_33, fX5_work_38, w_const, w_iload, w_aload, w_iinc, w_istore, w_astore, w_iadd, w_isub, w_imul, w_iand, w_ior, w_ixor, w_ishl, w_ishr, w_ineg, w_i2c, w_dup, w_pop, w_dup_x1, w_dup_x2, w_dup2, w_ifeq, w_ifne, w_iflt, w_ifge, w_ifgt, w_ifle, w_iceq, w_icne, w_iclt, w_icge, w_icgt, w_icle, w_ret, w_iret, w_aret, w_max, w_sld, w_slen, w_new, w_newa, w_newq, w_obj, w_getf, w_putf, w_iald, w_iast, w_alen, w_aald, w_aast, w_copy, List.getElem?_cons_zero, List.getElem?_cons_succ, List.set_cons_zero, List.set_cons_succ, List.length_cons, List.length_nil, List.cons_append, List.nil_append, Option.some.injEq, exists_eq_left', true_and, and_true, Option.toList, Value.category, l_0, l_1, l_2, l_3, l_4, l_8, l_9, l_10, l_12, l_13, l_15, l_26, l_32, l_40, l_41, l_42, l_43, l_45, l_46, l_48, l_49, l_50, l_51, l_59, l_60, l_61, l_62, l_63, l_65, l_90, l_91, l_93, l_94, l_96, l_97, l_100, l_122, l_123, l_124, l_125, l_126, l_161, l_1000, l_67108863, q_nb0, q_nb1, q_ni, q_fi, q_fb0, q_fb1, vY_74 H, q5, q_le (show rs.length < 2147483648 by omega) gi, show ¬ rs.length ≤ i by omega, if_false, not_true]
    refine w_callV2 (r := []) (vY_74 H) (q_match (last := last) V hl hri w h60 hp hx) (by decide) ?_
    rintro v1 h2 ⟨rfl, f2, V2, hA⟩
    obtain ⟨y2, B2, H2, q02, q12, q22, q52, -⟩ := id V2
    simp only [w_const, w_iload, w_aload, w_iinc, w_istore, w_astore, w_iadd, w_isub, w_imul, w_iand, w_ior, w_ixor, w_ishl, w_ishr, w_ineg, w_i2c, w_dup, w_pop, w_dup_x1, w_dup_x2, w_dup2, w_ifeq, w_ifne, w_iflt, w_ifge, w_ifgt, w_ifle, w_iceq, w_icne, w_iclt, w_icge, w_icgt, w_icle, w_ret, w_iret, w_aret, w_max, w_sld, w_slen, w_new, w_newa, w_newq, w_obj, w_getf, w_putf, w_iald, w_iast, w_alen, w_aald, w_aast, w_copy, List.getElem?_cons_zero, List.getElem?_cons_succ, List.set_cons_zero, List.set_cons_succ, List.length_cons, List.length_nil, List.cons_append, List.nil_append, Option.some.injEq, exists_eq_left', true_and, and_true, Option.toList, Value.category, l_0, l_1, l_2, l_3, l_4, l_8, l_9, l_10, l_12, l_13, l_15, l_26, l_32, l_40, l_41, l_42, l_43, l_45, l_46, l_48, l_49, l_50, l_51, l_59, l_60, l_61, l_62, l_63, l_65, l_90, l_91, l_93, l_94, l_96, l_97, l_100, l_122, l_123, l_124, l_125, l_126, l_161, l_1000, l_67108863, q_nb0, q_nb1, q_ni, q_fi, q_fb0, q_fb1, q_eq (show mtc rs[i] (gt tx) tx.length pl last < 2147483648 by omega) (show 0 < 2147483648 by decide)]
    by_cases e0 : mtc rs[i] (gt tx) tx.length pl last = 0
    · simp only [e0, not_true, if_false, fX5_work_51, fX5_work_58, w_const, w_iload, w_aload, w_iinc, w_istore, w_astore, w_iadd, w_isub, w_imul, w_iand, w_ior, w_ixor, w_ishl, w_ishr, w_ineg, w_i2c, w_dup, w_pop, w_dup_x1, w_dup_x2, w_dup2, w_ifeq, w_ifne, w_iflt, w_ifge, w_ifgt, w_ifle, w_iceq, w_icne, w_iclt, w_icge, w_icgt, w_icle, w_ret, w_iret, w_aret, w_max, w_sld, w_slen, w_new, w_newa, w_newq, w_obj, w_getf, w_putf, w_iald, w_iast, w_alen, w_aald, w_aast, w_copy, List.getElem?_cons_zero, List.getElem?_cons_succ, List.set_cons_zero, List.set_cons_succ, List.length_cons, List.length_nil, List.cons_append, List.nil_append, Option.some.injEq, exists_eq_left', true_and, and_true, Option.toList, Value.category, l_0, l_1, l_2, l_3, l_4, l_8, l_9, l_10, l_12, l_13, l_15, l_26, l_32, l_40, l_41, l_42, l_43, l_45, l_46, l_48, l_49, l_50, l_51, l_59, l_60, l_61, l_62, l_63, l_65, l_90, l_91, l_93, l_94, l_96, l_97, l_100, l_122, l_123, l_124, l_125, l_126, l_161, l_1000, l_67108863, q_nb0, q_nb1, q_ni, q_fi, q_fb0, q_fb1, q_add]
      refine ih (i + 1) h2 (by omega) V2 (hf.tr f2) ?_
      rw [hsc, hd]
      conv => lhs; unfold cSc
      rw [if_pos e0]
    · simp only [e0, not_false_eq_true, if_true, fX5_work_57, fX5_work_58, w_const, w_iload, w_aload, w_iinc, w_istore, w_astore, w_iadd, w_isub, w_imul, w_iand, w_ior, w_ixor, w_ishl, w_ishr, w_ineg, w_i2c, w_dup, w_pop, w_dup_x1, w_dup_x2, w_dup2, w_ifeq, w_ifne, w_iflt, w_ifge, w_ifgt, w_ifle, w_iceq, w_icne, w_iclt, w_icge, w_icgt, w_icle, w_ret, w_iret, w_aret, w_max, w_sld, w_slen, w_new, w_newa, w_newq, w_obj, w_getf, w_putf, w_iald, w_iast, w_alen, w_aald, w_aast, w_copy, List.getElem?_cons_zero, List.getElem?_cons_succ, List.set_cons_zero, List.set_cons_succ, List.length_cons, List.length_nil, List.cons_append, List.nil_append, Option.some.injEq, exists_eq_left', true_and, and_true, Option.toList, Value.category, l_0, l_1, l_2, l_3, l_4, l_8, l_9, l_10, l_12, l_13, l_15, l_26, l_32, l_40, l_41, l_42, l_43, l_45, l_46, l_48, l_49, l_50, l_51, l_59, l_60, l_61, l_62, l_63, l_65, l_90, l_91, l_93, l_94, l_96, l_97, l_100, l_122, l_123, l_124, l_125, l_126, l_161, l_1000, l_67108863, q_nb0, q_nb1, q_ni, q_fi, q_fb0, q_fb1]
      have hsome : cSc tx pl last rs 0 = some (i, mtc rs[i] (gt tx) tx.length pl last) := by
        rw [hsc, hd]
        unfold cSc
        rw [if_neg e0]
      refine tX5_work_25 ?_
      simp only [fX5_work_25, fX5_work_33, w_const, w_iload, w_aload, w_iinc, w_istore, w_astore, w_iadd, w_isub, w_imul, w_iand, w_ior, w_ixor, w_ishl, w_ishr, w_ineg, w_i2c, w_dup, w_pop, w_dup_x1, w_dup_x2, w_dup2, w_ifeq, w_ifne, w_iflt, w_ifge, w_ifgt, w_ifle, w_iceq, w_icne, w_iclt, w_icge, w_icgt, w_icle, w_ret, w_iret, w_aret, w_max, w_sld, w_slen, w_new, w_newa, w_newq, w_obj, w_getf, w_putf, w_iald, w_iast, w_alen, w_aald, w_aast, w_copy, List.getElem?_cons_zero, List.getElem?_cons_succ, List.set_cons_zero, List.set_cons_succ, List.length_cons, List.length_nil, List.cons_append, List.nil_append, Option.some.injEq, exists_eq_left', true_and, and_true, Option.toList, Value.category, l_0, l_1, l_2, l_3, l_4, l_8, l_9, l_10, l_12, l_13, l_15, l_26, l_32, l_40, l_41, l_42, l_43, l_45, l_46, l_48, l_49, l_50, l_51, l_59, l_60, l_61, l_62, l_63, l_65, l_90, l_91, l_93, l_94, l_96, l_97, l_100, l_122, l_123, l_124, l_125, l_126, l_161, l_1000, l_67108863, q_nb0, q_nb1, q_ni, q_fi, q_fb0, q_fb1, vY_74 H2, q52, q_le (show rs.length < 2147483648 by omega) gi, show ¬ rs.length ≤ i by omega, if_false, q_eq (show mtc rs[i] (gt tx) tx.length pl last < 2147483648 by omega) (show 0 < 2147483648 by decide), e0, not_false_eq_true, if_true]
      exact Ks h2 i _ _ hri hsome rfl V2 (hf.tr f2) hA
end RWK
