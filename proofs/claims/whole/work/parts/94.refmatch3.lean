/-! match, what it comes to; the reference -/
theorem sBef_S {lt : Nat → Nat} {S S' : Nat → Int32} {lo hi : Nat → Nat} : ∀ (k p : Nat), (∀ i, i < k → S i = S' i) → sBef lt S lo hi k p = sBef lt S' lo hi k p := by
  intro k
  induction k with
  | zero => intro p _; rfl
  | succ k ih =>
    intro p e
    unfold sBef
    rw [e k (by omega), ih _ (fun i hi => e i (by omega))]
section RMC
variable {lt : Nat → Nat} {sz pl : Nat} {S : Nat → Int32} {lo hi sg : Nat → Nat} {ke : Nat} {last : Bool}
theorem sMt_after : ∀ (k n p : Nat) (F T : Nat → Int32) (E : Int32), ke ≤ n → (n = ke → p ≠ pl) → E ≠ nI pl → (sMt lt sz pl S lo hi sg ke last k n p F T E).1 = sCd lt sz S lo hi last k n p ∧ (sMt lt sz pl S lo hi sg ke last k n p F T E).2.2.2 = E := by
  intro k
  induction k with
  | zero =>
    intro n p F T E _ _ hE
    unfold sMt sCd
    rw [if_neg hE]
    exact ⟨rfl, rfl⟩
  | succ k ih =>
    intro n p F T E hn hp hE
    unfold sMt sCd
    rw [if_neg (fun z => hp z.1 z.2), if_pos hn]
    split
    · exact ⟨rfl, rfl⟩
    · split
      · exact ⟨rfl, rfl⟩
      · exact ih _ _ _ _ _ (by omega) (fun z => by omega) hE
theorem sMt_code (hs : sz ≤ 60) (hpl : pl ≤ sz) : ∀ (m k n p : Nat) (F T : Nat → Int32) (E : Int32), n + m = ke → m ≤ k → p ≤ sz → (m = 0 → E = nI p) → (sMt lt sz pl S lo hi sg ke last k n p F T E).1 = (if sCd lt sz S lo hi last m n p = 1 then (if sPos lt sz S hi m n p = pl then 0 else sCd lt sz S lo hi last (k - m) ke (sPos lt sz S hi m n p)) else sCd lt sz S lo hi last m n p) ∧ ((sMt lt sz pl S lo hi sg ke last k n p F T E).1 = 1 → (sMt lt sz pl S lo hi sg ke last k n p F T E).2.2.2 = nI (sPos lt sz S hi m n p)) := by
  intro m
  induction m with
  | zero =>
    intro k n p F T E hn hk hp hE
    have e := hE rfl
    have en : n = ke := by omega
    subst en
    subst e
    have c0 : sCd lt sz S lo hi last 0 n p = 1 := rfl
    have p0 : sPos lt sz S hi 0 n p = p := rfl
    rw [if_pos c0, p0]
    by_cases z : p = pl
    · subst z
      rw [if_pos rfl]
      cases k with
      | zero =>
        unfold sMt
        rw [if_pos rfl]
        exact ⟨rfl, fun q => by cases q⟩
      | succ k =>
        unfold sMt
        rw [if_pos ⟨rfl, rfl⟩]
        exact ⟨rfl, fun q => by cases q⟩
    · rw [if_neg z]
      have := sMt_after (lt := lt) (sz := sz) (pl := pl) (S := S) (lo := lo) (hi := hi) (sg := sg) (ke := n) (last := last) k n p F T (nI p) (Nat.le_refl _) (fun _ => z) (by rw [Ne, q_eq (by omega) (by omega)]; exact z)
      exact ⟨this.1, fun _ => this.2⟩
  | succ m ih =>
    intro k n p F T E hn hk hp hE
    cases k with
    | zero => omega
    | succ k =>
      have rf := rnF_le (lt := lt) (s := S n) (hi n) p hp
      have e : sPos lt sz S hi (m + 1) n p = sPos lt sz S hi m (n + 1) (p + rnF lt sz (S n) (hi n) p) := rfl
      rw [e]
      unfold sMt
      rw [if_neg (fun z => by omega), if_neg (show ¬ ke ≤ n by omega)]
      rw [show sCd lt sz S lo hi last (m + 1) n p = if last = false ∧ p + rnF lt sz (S n) (hi n) p = sz ∧ rnF lt sz (S n) (hi n) p < hi n then 2 else if rnF lt sz (S n) (hi n) p < lo n then 0 else sCd lt sz S lo hi last m (n + 1) (p + rnF lt sz (S n) (hi n) p) from rfl]
      split
      · rw [if_neg (by decide)]
        exact ⟨rfl, fun q => by cases q⟩
      · split
        · rw [if_neg (by decide)]
          exact ⟨rfl, fun q => by cases q⟩
        · have := ih k (n + 1) (p + rnF lt sz (S n) (hi n) p) (upd F (sg n) (if nI 0 ≤ F (sg n) then F (sg n) else nI p)) (upd T (sg n) (nI (p + rnF lt sz (S n) (hi n) p))) (nI (p + rnF lt sz (S n) (hi n) p)) (by omega) (by omega) rf.1 (fun _ => rfl)
          rw [show k + 1 - (m + 1) = k - m by omega]
          exact this
theorem sMt_step {k n p : Nat} {F T : Nat → Int32} {E : Int32} (h : (sMt lt sz pl S lo hi sg ke last (k + 1) n p F T E).1 = 1) : ∃ E', sMt lt sz pl S lo hi sg ke last (k + 1) n p F T E = sMt lt sz pl S lo hi sg ke last k (n + 1) (p + rnF lt sz (S n) (hi n) p) (upd F (sg n) (if nI 0 ≤ F (sg n) then F (sg n) else nI p)) (upd T (sg n) (nI (p + rnF lt sz (S n) (hi n) p))) E' := by
  unfold sMt at h
  split at h
  · cases h
  · rename_i q1
    split at h
    · cases h
    · rename_i q2
      split at h
      · cases h
      · rename_i q3
        refine ⟨(if ke ≤ n then E else nI (p + rnF lt sz (S n) (hi n) p)), ?_⟩
        conv => lhs; unfold sMt
        rw [if_neg q1, if_neg q2, if_neg q3]
theorem sMt_none {g : Nat} : ∀ (k n p : Nat) (F T : Nat → Int32) (E : Int32), (sMt lt sz pl S lo hi sg ke last k n p F T E).1 = 1 → (∀ i, n ≤ i → i < n + k → sg i ≠ g) → (sMt lt sz pl S lo hi sg ke last k n p F T E).2.1 g = F g ∧ (sMt lt sz pl S lo hi sg ke last k n p F T E).2.2.1 g = T g := by
  intro k
  induction k with
  | zero => intro n p F T E _ _; exact ⟨rfl, rfl⟩
  | succ k ih =>
    intro n p F T E h hg
    obtain ⟨E', e⟩ := sMt_step h
    rw [e] at h ⊢
    obtain ⟨h1, h2⟩ := ih _ _ _ _ _ h (fun i hi1 hi2 => hg i (by omega) (by omega))
    have ne := hg n (Nat.le_refl _) (by omega)
    rw [h1, h2]
    exact ⟨if_neg (fun z => ne z.symm), if_neg (fun z => ne z.symm)⟩
theorem sMt_keep {g : Nat} : ∀ (k n p : Nat) (F T : Nat → Int32) (E : Int32), (sMt lt sz pl S lo hi sg ke last k n p F T E).1 = 1 → nI 0 ≤ F g → (sMt lt sz pl S lo hi sg ke last k n p F T E).2.1 g = F g := by
  intro k
  induction k with
  | zero => intro n p F T E _ _; rfl
  | succ k ih =>
    intro n p F T E h hg
    obtain ⟨E', e⟩ := sMt_step h
    rw [e] at h ⊢
    have e2 : upd F (sg n) (if nI 0 ≤ F (sg n) then F (sg n) else nI p) g = F g := by
      unfold upd
      split
      · rename_i q
        subst q
        rw [if_pos hg]
      · rfl
    rw [ih _ _ _ _ _ h (by rw [e2]; exact hg), e2]
theorem sMt_from {g : Nat} (hs : sz ≤ 60) : ∀ (m k n p : Nat) (F T : Nat → Int32) (E : Int32), (sMt lt sz pl S lo hi sg ke last k n p F T E).1 = 1 → m < k → p ≤ sz → F g = -nI 1 → (∀ i, n ≤ i → i < n + m → sg i ≠ g) → sg (n + m) = g → (sMt lt sz pl S lo hi sg ke last k n p F T E).2.1 g = nI (sPos lt sz S hi m n p) := by
  intro m
  induction m with
  | zero =>
    intro k n p F T E h hm hp hF _ hg
    cases k with
    | zero => omega
    | succ k =>
      obtain ⟨E', e⟩ := sMt_step h
      rw [e] at h ⊢
      rw [Nat.add_zero] at hg
      have e2 : upd F (sg n) (if nI 0 ≤ F (sg n) then F (sg n) else nI p) g = nI p := by
        unfold upd
        rw [if_pos hg.symm, hg, hF, if_neg (by decide +kernel)]
      rw [sMt_keep _ _ _ _ _ _ h (by rw [e2, q_le (by decide) (by omega)]; omega), e2]
      rfl
  | succ m ih =>
    intro k n p F T E h hm hp hF hn hg
    cases k with
    | zero => omega
    | succ k =>
      obtain ⟨E', e⟩ := sMt_step h
      rw [e] at h ⊢
      have rf := rnF_le (lt := lt) (s := S n) (hi n) p hp
      have ne := hn n (Nat.le_refl _) (by omega)
      rw [ih k (n + 1) _ _ _ _ h (by omega) rf.1 ((if_neg (fun z => ne z.symm)).trans hF) (fun i h1 h2 => hn i (by omega) (by omega)) (by rw [← hg]; congr 1; omega)]
      rfl
theorem sMt_to {g : Nat} : ∀ (m k n p : Nat) (F T : Nat → Int32) (E : Int32), (sMt lt sz pl S lo hi sg ke last k n p F T E).1 = 1 → m < k → (∀ i, n + m < i → i < n + k → sg i ≠ g) → sg (n + m) = g → (sMt lt sz pl S lo hi sg ke last k n p F T E).2.2.1 g = nI (sPos lt sz S hi (m + 1) n p) := by
  intro m
  induction m with
  | zero =>
    intro k n p F T E h hm hn hg
    cases k with
    | zero => omega
    | succ k =>
      obtain ⟨E', e⟩ := sMt_step h
      rw [e] at h ⊢
      rw [Nat.add_zero] at hg
      rw [(sMt_none (g := g) _ _ _ _ _ _ h (fun i h1 h2 => hn i (by omega) (by omega))).2]
      exact if_pos hg.symm
  | succ m ih =>
    intro k n p F T E h hm hn hg
    cases k with
    | zero => omega
    | succ k =>
      obtain ⟨E', e⟩ := sMt_step h
      rw [e] at h ⊢
      rw [ih k (n + 1) _ _ _ _ h (by omega) (fun i h1 h2 => hn i (by omega) (by omega)) (by rw [← hg]; congr 1; omega)]
      rfl
/-- what match leaves behind where it answers 1 -/
def mOk (lt : Nat → Nat) (sz pl : Nat) (S : Nat → Int32) (hi sg : Nat → Nat) (ks ke ec : Nat) (y' : Nat → Int32) (B' : Nat → Nat → Int32) : Prop := y' 11 = nI (sPos lt sz S hi (ke - ks) ks pl) ∧ ∀ g a b, g < 4 → ks ≤ a → a < b → b ≤ ec → (∀ i, ks ≤ i → i < ec → (sg i = g ↔ a ≤ i ∧ i < b)) → B' 18 g = nI (sPos lt sz S hi (a - ks) ks pl) ∧ B' 19 g = nI (sPos lt sz S hi (b - ks) ks pl)
theorem r_match {h : kv_H} {y : Nat → Int32} {B : Nat → Nat → Int32} {j ks ec : Nat} (H : vY h y B) (m : mY y B j lt sz pl S lo hi sg ks ke ec) (hj : j < 8) (hL : ∀ i, i < sz → 97 ≤ lt i ∧ lt i ≤ 122) (hs : sz ≤ 60) (hpl : pl ≤ sz) (hkk : ks < ke) (hke : ke ≤ ec) (hec : ec ≤ 12) : wm mX5_match [.ref 74, .int (nI j), .int (nI last.toNat)] h (fun v h' => v = some (.int (nI (cMt lt sz pl S lo hi ks ke ec last))) ∧ ∃ y' B', vY h' y' B' ∧ kv_fr inYm h h' ∧ (∀ k, k ≠ 11 → y' k = y k) ∧ (∀ k, k ≠ 18 → k ≠ 19 → B' k = B k) ∧ (cMt lt sz pl S lo hi ks ke ec last = 1 → mOk lt sz pl S hi sg ks ke ec y' B')) := by
  have m0 := m
  obtain ⟨m1, m2, m3, m4, m5, m6, m7⟩ := m
  have gj : j < 2147483648 := by omega
  refine iX5_match rfl rfl rfl ?_
  simp only [fX5_match_0, w_const, w_iload, w_aload, w_iinc, w_istore, w_astore, w_iadd, w_isub, w_imul, w_iand, w_ior, w_ixor, w_ishl, w_ishr, w_ineg, w_i2c, w_dup, w_pop, w_dup_x1, w_dup_x2, w_dup2, w_ifeq, w_ifne, w_iflt, w_ifge, w_ifgt, w_ifle, w_iceq, w_icne, w_iclt, w_icge, w_icgt, w_icle, w_ret, w_iret, w_aret, w_max, w_sld, w_slen, w_new, w_newa, w_newq, w_obj, w_getf, w_putf, w_iald, w_iast, w_alen, w_aald, w_aast, w_copy, List.getElem?_cons_zero, List.getElem?_cons_succ, List.set_cons_zero, List.set_cons_succ, List.length_cons, List.length_nil, List.cons_append, List.nil_append, Option.some.injEq, exists_eq_left', true_and, and_true, Option.toList, Value.category, l_0, l_1, l_2, l_3, l_4, l_8, l_9, l_10, l_12, l_13, l_15, l_26, l_32, l_40, l_41, l_42, l_43, l_45, l_46, l_48, l_49, l_50, l_51, l_59, l_60, l_61, l_62, l_63, l_65, l_90, l_91, l_93, l_94, l_96, l_97, l_100, l_122, l_123, l_124, l_125, l_126, l_161, l_1000, l_67108863, q_nb0, q_nb1, q_ni, q_fi, q_fb0, q_fb1]
  refine w_callV1 (r := []) (vY_74 H) (r_before (ks := ks) (lo := lo) (hi := hi) H m2 m6 hL hs hpl hj m3 (by omega) (fun i hi => by obtain ⟨a, b, c, d, e, f, g⟩ := m7 i (by omega); exact ⟨b, c, e, f⟩)) (by decide) ?_
  rintro v1 h1 ⟨rfl, rfl⟩
  rw [sBef_S ks pl (fun i hi => (m7 i (by omega)).1)]
  simp only [w_const, w_iload, w_aload, w_iinc, w_istore, w_astore, w_iadd, w_isub, w_imul, w_iand, w_ior, w_ixor, w_ishl, w_ishr, w_ineg, w_i2c, w_dup, w_pop, w_dup_x1, w_dup_x2, w_dup2, w_ifeq, w_ifne, w_iflt, w_ifge, w_ifgt, w_ifle, w_iceq, w_icne, w_iclt, w_icge, w_icgt, w_icle, w_ret, w_iret, w_aret, w_max, w_sld, w_slen, w_new, w_newa, w_newq, w_obj, w_getf, w_putf, w_iald, w_iast, w_alen, w_aald, w_aast, w_copy, List.getElem?_cons_zero, List.getElem?_cons_succ, List.set_cons_zero, List.set_cons_succ, List.length_cons, List.length_nil, List.cons_append, List.nil_append, Option.some.injEq, exists_eq_left', true_and, and_true, Option.toList, Value.category, l_0, l_1, l_2, l_3, l_4, l_8, l_9, l_10, l_12, l_13, l_15, l_26, l_32, l_40, l_41, l_42, l_43, l_45, l_46, l_48, l_49, l_50, l_51, l_59, l_60, l_61, l_62, l_63, l_65, l_90, l_91, l_93, l_94, l_96, l_97, l_100, l_122, l_123, l_124, l_125, l_126, l_161, l_1000, l_67108863, q_nb0, q_nb1, q_ni, q_fi, q_fb0, q_fb1, q_b]
  by_cases e : sBef lt S lo hi ks pl = false
  · rw [if_neg (fun z => z e)]
    have ec0 : cMt lt sz pl S lo hi ks ke ec last = 0 := by unfold cMt; rw [if_neg (fun z => by rw [e] at z; cases z)]
    simp only [fX5_match_8, w_const, w_iload, w_aload, w_iinc, w_istore, w_astore, w_iadd, w_isub, w_imul, w_iand, w_ior, w_ixor, w_ishl, w_ishr, w_ineg, w_i2c, w_dup, w_pop, w_dup_x1, w_dup_x2, w_dup2, w_ifeq, w_ifne, w_iflt, w_ifge, w_ifgt, w_ifle, w_iceq, w_icne, w_iclt, w_icge, w_icgt, w_icle, w_ret, w_iret, w_aret, w_max, w_sld, w_slen, w_new, w_newa, w_newq, w_obj, w_getf, w_putf, w_iald, w_iast, w_alen, w_aald, w_aast, w_copy, List.getElem?_cons_zero, List.getElem?_cons_succ, List.set_cons_zero, List.set_cons_succ, List.length_cons, List.length_nil, List.cons_append, List.nil_append, Option.some.injEq, exists_eq_left', true_and, and_true, Option.toList, Value.category, l_0, l_1, l_2, l_3, l_4, l_8, l_9, l_10, l_12, l_13, l_15, l_26, l_32, l_40, l_41, l_42, l_43, l_45, l_46, l_48, l_49, l_50, l_51, l_59, l_60, l_61, l_62, l_63, l_65, l_90, l_91, l_93, l_94, l_96, l_97, l_100, l_122, l_123, l_124, l_125, l_126, l_161, l_1000, l_67108863, q_nb0, q_nb1, q_ni, q_fi, q_fb0, q_fb1, ec0]
    exact ⟨y, B, H, kv_fr.rf, fun _ _ => rfl, fun _ _ _ => rfl, fun q => by cases q⟩
  rw [if_pos e]
  have e' : sBef lt S lo hi ks pl = true := by simpa using e
  simp only [fX5_match_10, w_const, w_iload, w_aload, w_iinc, w_istore, w_astore, w_iadd, w_isub, w_imul, w_iand, w_ior, w_ixor, w_ishl, w_ishr, w_ineg, w_i2c, w_dup, w_pop, w_dup_x1, w_dup_x2, w_dup2, w_ifeq, w_ifne, w_iflt, w_ifge, w_ifgt, w_ifle, w_iceq, w_icne, w_iclt, w_icge, w_icgt, w_icle, w_ret, w_iret, w_aret, w_max, w_sld, w_slen, w_new, w_newa, w_newq, w_obj, w_getf, w_putf, w_iald, w_iast, w_alen, w_aald, w_aast, w_copy, List.getElem?_cons_zero, List.getElem?_cons_succ, List.set_cons_zero, List.set_cons_succ, List.length_cons, List.length_nil, List.cons_append, List.nil_append, Option.some.injEq, exists_eq_left', true_and, and_true, Option.toList, Value.category, l_0, l_1, l_2, l_3, l_4, l_8, l_9, l_10, l_12, l_13, l_15, l_26, l_32, l_40, l_41, l_42, l_43, l_45, l_46, l_48, l_49, l_50, l_51, l_59, l_60, l_61, l_62, l_63, l_65, l_90, l_91, l_93, l_94, l_96, l_97, l_100, l_122, l_123, l_124, l_125, l_126, l_161, l_1000, l_67108863, q_nb0, q_nb1, q_ni, q_fi, q_fb0, q_fb1]
  refine r_mt0 4 0 B h1 (by omega) H (fun g hg => by omega) ?_
  intro B' h' H' f' kB b18
  have ff : kv_fr inYm h1 h' := f'.mono (fun a q => Or.inr (Or.inl q))
  have mm := mY_cg m0 (fun k (_ : k ≠ 11) => rfl) (fun k h1 (_ : k ≠ 19) => kB k h1)
  simp only [fX5_match_30, w_const, w_iload, w_aload, w_iinc, w_istore, w_astore, w_iadd, w_isub, w_imul, w_iand, w_ior, w_ixor, w_ishl, w_ishr, w_ineg, w_i2c, w_dup, w_pop, w_dup_x1, w_dup_x2, w_dup2, w_ifeq, w_ifne, w_iflt, w_ifge, w_ifgt, w_ifle, w_iceq, w_icne, w_iclt, w_icge, w_icgt, w_icle, w_ret, w_iret, w_aret, w_max, w_sld, w_slen, w_new, w_newa, w_newq, w_obj, w_getf, w_putf, w_iald, w_iast, w_alen, w_aald, w_aast, w_copy, List.getElem?_cons_zero, List.getElem?_cons_succ, List.set_cons_zero, List.set_cons_succ, List.length_cons, List.length_nil, List.cons_append, List.nil_append, Option.some.injEq, exists_eq_left', true_and, and_true, Option.toList, Value.category, l_0, l_1, l_2, l_3, l_4, l_8, l_9, l_10, l_12, l_13, l_15, l_26, l_32, l_40, l_41, l_42, l_43, l_45, l_46, l_48, l_49, l_50, l_51, l_59, l_60, l_61, l_62, l_63, l_65, l_90, l_91, l_93, l_94, l_96, l_97, l_100, l_122, l_123, l_124, l_125, l_126, l_161, l_1000, l_67108863, q_nb0, q_nb1, q_ni, q_fi, q_fb0, q_fb1, vY_74 H', vY_81 H', m2, mm.2.2.1, q_le (show 0 < 2147483648 by decide) gj, q_clamp gj, Nat.zero_le, hj]
  refine wp_mono (r_mt1 (last := last) hj hL hs hpl hke hec (ec - ks) ks pl y B' h' none none none (by omega) hpl H' mm) ?_
  rintro v h2 ⟨rfl, y2, B2, H2, f2, e1, e2, e3, e4, e5⟩
  have cd := sMt_code (lt := lt) (sz := sz) (S := S) (lo := lo) (hi := hi) (sg := sg) (last := last) hs hpl (ke - ks) (ec - ks) ks pl (B' 18) (B' 19) (y 11) (show ks + (ke - ks) = ke by omega) (by omega) hpl (fun z => by omega)
  have ecd : (sMt lt sz pl S lo hi sg ke last (ec - ks) ks pl (B' 18) (B' 19) (y 11)).1 = cMt lt sz pl S lo hi ks ke ec last := by
    rw [cd.1]
    unfold cMt
    rw [if_pos e', show ec - ks - (ke - ks) = ec - ke by omega]
  refine ⟨by rw [ecd], y2, B2, H2, ff.tr f2, e1, fun k h1 h2 => (e2 k h1 h2).trans (kB k h1), fun hc => ?_⟩
  rw [← ecd] at hc
  refine ⟨by rw [e5]; exact cd.2 hc, fun g a b hg h1 h2 h3 hR => ?_⟩
  have fr := sMt_from (g := g) hs (a - ks) (ec - ks) ks pl (B' 18) (B' 19) (y 11) hc (by omega) hpl (b18 g hg) (fun i i1 i2 z => by have := (hR i (by omega) (by omega)).mp z; omega) ((hR _ (by omega) (by omega)).mpr (by omega))
  have to := sMt_to (g := g) (b - 1 - ks) (ec - ks) ks pl (B' 18) (B' 19) (y 11) hc (by omega) (fun i i1 i2 z => by have := (hR i (by omega) (by omega)).mp z; omega) ((hR _ (by omega) (by omega)).mpr (by omega))
  rw [show b - 1 - ks + 1 = b - ks by omega] at to
  exact ⟨by rw [e3]; exact fr, by rw [e4]; exact to⟩
end RMC
