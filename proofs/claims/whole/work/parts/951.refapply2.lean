/-! apply, its other loops; the reference -/
section RAQ
variable {j : Nat} {r : Rl} {lt : Nat → Nat} {sz pl ap : Nat}
theorem xps_room (hp : pl ≤ sz) {k : Nat} (hk : k ≤ r.2.2.2.2.2.1.length) : (xps lt (bgp r lt sz pl) (sSr r) (sEr r) (pcr r) ((List.range pl).map lt) k).length = pl + sWid (fun i => wdt (bgp r lt sz pl) (sSr r) (sEr r) (pcr r i)) k ∧ (xps lt (bgp r lt sz pl) (sSr r) (sEr r) (pcr r) ((List.range pl).map lt) k).length + (sz - bgp r lt sz pl r.2.2.1) ≤ nSz r lt sz pl := by
  have mo := bgp_mono (r := r) (lt := lt) hp (Nat.le_refl r.2.2.1)
  have m := sWid_mono (w := fun i => wdt (bgp r lt sz pl) (sSr r) (sEr r) (pcr r i)) _ _ hk
  rw [xps_len]
  simp only [List.length_map, List.length_range]
  refine ⟨trivial, ?_⟩
  unfold nSz
  omega
theorem r_ap4 {h0 : kv_H} {y : Nat → Int32} {B0 : Nat → Nat → Int32} {x2 x6 x7 : Option Value} (hs : sz ≤ 60) (hp : pl ≤ sz) (hc : ¬ (100 ≤ ap ∨ 60 < nSz r lt sz pl)) : ∀ (f i : Nat) (B : Nat → Nat → Int32) (h : kv_H) (l : List Nat), bgp r lt sz pl r.2.2.1 + i + f = sz → l = xps lt (bgp r lt sz pl) (sSr r) (sEr r) (pcr r) ((List.range pl).map lt) r.2.2.2.2.2.1.length ++ (List.range i).map (fun q => lt (bgp r lt sz pl r.2.2.1 + q)) → vY h y B → aY y B j r lt sz pl ap → kv_fr inYp h0 h → (∀ k, k ≠ 17 → B k = B0 k) → fY l (B 17) → wp (kv_lim bX5_apply 229) [some (.ref 74), some (.int (nI j)), x2, some (.int (nI l.length)), some (.int (nI (nPl r lt sz pl))), some (.int (nI (bgp r lt sz pl r.2.2.1 + i))), x6, x7] [] h (aQ y B0 h0 j r lt sz pl ap) := by
  have l1 := nTx_len (r := r) (lt := lt) hp
  have rm := (xps_room (r := r) (lt := lt) hp (Nat.le_refl r.2.2.2.2.2.1.length)).2
  intro f
  induction f with
  | zero =>
    intro i B h l hi hl H a hf kB hF
    have mo := bgp_mono (r := r) (lt := lt) hp (Nat.le_refl r.2.2.1)
    have el : l = nTx r lt sz pl := by
      rw [hl]
      unfold nTx
      rw [show i = sz - bgp r lt sz pl r.2.2.1 by omega]
    refine tX5_apply_229 ?_
    have ll : l.length = nSz r lt sz pl := by rw [el]; exact l1
    have hsz : sz < 2147483648 := by
      have := rm
      omega
    simp only [fX5_apply_229, fX5_apply_260, w_const, w_iload, w_aload, w_iinc, w_istore, w_astore, w_iadd, w_isub, w_imul, w_iand, w_ior, w_ixor, w_ishl, w_ishr, w_ineg, w_i2c, w_dup, w_pop, w_dup_x1, w_dup_x2, w_dup2, w_ifeq, w_ifne, w_iflt, w_ifge, w_ifgt, w_ifle, w_iceq, w_icne, w_iclt, w_icge, w_icgt, w_icle, w_ret, w_iret, w_aret, w_max, w_sld, w_slen, w_new, w_newa, w_newq, w_obj, w_getf, w_putf, w_iald, w_iast, w_alen, w_aald, w_aast, w_copy, List.getElem?_cons_zero, List.getElem?_cons_succ, List.set_cons_zero, List.set_cons_succ, List.length_cons, List.length_nil, List.cons_append, List.nil_append, Option.some.injEq, exists_eq_left', true_and, and_true, Option.toList, Value.category, l_0, l_1, l_2, l_3, l_4, l_8, l_9, l_10, l_12, l_13, l_15, l_26, l_32, l_40, l_41, l_42, l_43, l_45, l_46, l_48, l_49, l_50, l_51, l_59, l_60, l_61, l_62, l_63, l_65, l_90, l_91, l_93, l_94, l_96, l_97, l_100, l_122, l_123, l_124, l_125, l_126, l_161, l_1000, l_67108863, q_nb0, q_nb1, q_ni, q_fi, q_fb0, q_fb1, vY_74 H, a.2.1, q_le hsz (show bgp r lt sz pl r.2.2.1 + i < 2147483648 by omega), show sz ≤ bgp r lt sz pl r.2.2.1 + i by omega, if_true, ll]
    rw [el] at hF
    exact r_ap5 hp hc a.2.2.2.1 (nSz r lt sz pl) 0 B h (by omega) H hf (fun k _ h2 => kB k h2) hF (fun q hq => by omega)
  | succ f ih =>
    intro i B h l hi hl H a hf kB hF
    refine tX5_apply_229 ?_
    have hsz : sz < 2147483648 := by omega
    have g1 : bgp r lt sz pl r.2.2.1 + i < 2147483648 := by omega
    have ll : l.length + (f + 1) ≤ nSz r lt sz pl := by
      rw [hl, List.length_append, List.length_map, List.length_range]
      omega
    have g2 : l.length < 2147483648 := by omega
    have s60 : bgp r lt sz pl r.2.2.1 + i < 60 := by omega
    simp only [fX5_apply_229, fX5_apply_238, w_const, w_iload, w_aload, w_iinc, w_istore, w_astore, w_iadd, w_isub, w_imul, w_iand, w_ior, w_ixor, w_ishl, w_ishr, w_ineg, w_i2c, w_dup, w_pop, w_dup_x1, w_dup_x2, w_dup2, w_ifeq, w_ifne, w_iflt, w_ifge, w_ifgt, w_ifle, w_iceq, w_icne, w_iclt, w_icge, w_icgt, w_icle, w_ret, w_iret, w_aret, w_max, w_sld, w_slen, w_new, w_newa, w_newq, w_obj, w_getf, w_putf, w_iald, w_iast, w_alen, w_aald, w_aast, w_copy, List.getElem?_cons_zero, List.getElem?_cons_succ, List.set_cons_zero, List.set_cons_succ, List.length_cons, List.length_nil, List.cons_append, List.nil_append, Option.some.injEq, exists_eq_left', true_and, and_true, Option.toList, Value.category, l_0, l_1, l_2, l_3, l_4, l_8, l_9, l_10, l_12, l_13, l_15, l_26, l_32, l_40, l_41, l_42, l_43, l_45, l_46, l_48, l_49, l_50, l_51, l_59, l_60, l_61, l_62, l_63, l_65, l_90, l_91, l_93, l_94, l_96, l_97, l_100, l_122, l_123, l_124, l_125, l_126, l_161, l_1000, l_67108863, q_nb0, q_nb1, q_ni, q_fi, q_fb0, q_fb1, vY_74 H, a.2.1, q_le hsz g1, show ¬ sz ≤ bgp r lt sz pl r.2.2.1 + i by omega, if_false, vY_91 H, vY_92 H, q_le (show 0 < 2147483648 by decide) g1, q_clamp g1, Nat.zero_le, s60, q_le (show 0 < 2147483648 by decide) g2, q_clamp g2, show l.length < 60 by omega, a.2.2.2.2.2.1 _ (show bgp r lt sz pl r.2.2.1 + i < sz by omega), q_add]
    have H1 := vY_a17 (f := upd (B 17) l.length (nI (lt (bgp r lt sz pl r.2.2.1 + i)))) H
    have f1 : kv_fr inYp h0 (kv_p h 92 (.inl (0, 60, .inl (upd (B 17) l.length (nI (lt (bgp r lt sz pl r.2.2.1 + i))))))) := hf.p (by unfold inYp; decide)
    have kk : ∀ k, k ≠ 17 → va_up B 17 (upd (B 17) l.length (nI (lt (bgp r lt sz pl r.2.2.1 + i)))) k = B k := fun k hk => va_up_ne _ _ hk
    have w9 := ih (i + 1) _ _ (l ++ [lt (bgp r lt sz pl r.2.2.1 + i)]) (by omega) (by rw [hl, List.range_succ, List.map_append, List.append_assoc]; rfl) H1 (aY_17 a kk) f1 (fun k hk => (kk k hk).trans (kB k hk)) (by rw [va_up_self]; exact fY_push hF _)
    rw [List.length_append, List.length_singleton] at w9
    exact w9
theorem r_ap3 {h0 : kv_H} {y : Nat → Int32} {B0 : Nat → Nat → Int32} {x2 : Option Value} (w : wfC r) (hj : j < 8) (hs : sz ≤ 60) (hp : pl ≤ sz) (hc : ¬ (100 ≤ ap ∨ 60 < nSz r lt sz pl)) : ∀ (f k : Nat) (B : Nat → Nat → Int32) (h : kv_H) (x6 x7 : Option Value), k + f = r.2.2.2.2.2.1.length → vY h y B → aY y B j r lt sz pl ap → kv_fr inYp h0 h → (∀ k, k ≠ 17 → B k = B0 k) → fY (xps lt (bgp r lt sz pl) (sSr r) (sEr r) (pcr r) ((List.range pl).map lt) k) (B 17) → wp (kv_lim bX5_apply 112) [some (.ref 74), some (.int (nI j)), x2, some (.int (nI (xps lt (bgp r lt sz pl) (sSr r) (sEr r) (pcr r) ((List.range pl).map lt) k).length)), some (.int (nI (pl + sWid (fun i => wdt (bgp r lt sz pl) (sSr r) (sEr r) (pcr r i)) (min k r.2.2.2.2.2.2)))), some (.int (nI k)), x6, x7] [] h (aQ y B0 h0 j r lt sz pl ap) := by
  have h12 := w.2.2.2.1
  have gj : j < 2147483648 := by omega
  have hmk := w.1.2.2.2.2.2.1
  intro f
  induction f with
  | zero =>
    intro k B h x6 x7 hk H a hf kB hF
    have ek : k = r.2.2.2.2.2.1.length := by omega
    subst ek
    refine tX5_apply_112 ?_
    have r13 : B 13 j = nI r.2.2.2.2.2.1.length := a.1.2.2.2.1
    simp only [fX5_apply_112, fX5_apply_223, w_const, w_iload, w_aload, w_iinc, w_istore, w_astore, w_iadd, w_isub, w_imul, w_iand, w_ior, w_ixor, w_ishl, w_ishr, w_ineg, w_i2c, w_dup, w_pop, w_dup_x1, w_dup_x2, w_dup2, w_ifeq, w_ifne, w_iflt, w_ifge, w_ifgt, w_ifle, w_iceq, w_icne, w_iclt, w_icge, w_icgt, w_icle, w_ret, w_iret, w_aret, w_max, w_sld, w_slen, w_new, w_newa, w_newq, w_obj, w_getf, w_putf, w_iald, w_iast, w_alen, w_aald, w_aast, w_copy, List.getElem?_cons_zero, List.getElem?_cons_succ, List.set_cons_zero, List.set_cons_succ, List.length_cons, List.length_nil, List.cons_append, List.nil_append, Option.some.injEq, exists_eq_left', true_and, and_true, Option.toList, Value.category, l_0, l_1, l_2, l_3, l_4, l_8, l_9, l_10, l_12, l_13, l_15, l_26, l_32, l_40, l_41, l_42, l_43, l_45, l_46, l_48, l_49, l_50, l_51, l_59, l_60, l_61, l_62, l_63, l_65, l_90, l_91, l_93, l_94, l_96, l_97, l_100, l_122, l_123, l_124, l_125, l_126, l_161, l_1000, l_67108863, q_nb0, q_nb1, q_ni, q_fi, q_fb0, q_fb1, vY_74 H, vY_88 H, q_le (show 0 < 2147483648 by decide) gj, q_clamp gj, Nat.zero_le, hj, r13, Int32.le_refl, if_true, a.2.2.2.2.1]
    have em : pl + sWid (fun i => wdt (bgp r lt sz pl) (sSr r) (sEr r) (pcr r i)) (min r.2.2.2.2.2.1.length r.2.2.2.2.2.2) = nPl r lt sz pl := by
      unfold nPl
      rw [Nat.min_eq_right hmk]
    rw [em]
    have mo := bgp_mono (r := r) (lt := lt) hp (Nat.le_refl r.2.2.1)
    exact r_ap4 hs hp hc (sz - bgp r lt sz pl r.2.2.1) 0 B h _ (by omega) (by simp) H a hf kB hF
  | succ f ih =>
    intro k B h x6 x7 hk H a hf kB hF
    refine tX5_apply_112 ?_
    have r13 : B 13 j = nI r.2.2.2.2.2.1.length := a.1.2.2.2.1
    have hkl : k < r.2.2.2.2.2.1.length := by omega
    have gk : k < 2147483648 := by omega
    have gi : 12 * j + k < 2147483648 := by omega
    have pk := pcr_lt w hkl
    simp only [fX5_apply_112, fX5_apply_123, w_const, w_iload, w_aload, w_iinc, w_istore, w_astore, w_iadd, w_isub, w_imul, w_iand, w_ior, w_ixor, w_ishl, w_ishr, w_ineg, w_i2c, w_dup, w_pop, w_dup_x1, w_dup_x2, w_dup2, w_ifeq, w_ifne, w_iflt, w_ifge, w_ifgt, w_ifle, w_iceq, w_icne, w_iclt, w_icge, w_icgt, w_icle, w_ret, w_iret, w_aret, w_max, w_sld, w_slen, w_new, w_newa, w_newq, w_obj, w_getf, w_putf, w_iald, w_iast, w_alen, w_aald, w_aast, w_copy, List.getElem?_cons_zero, List.getElem?_cons_succ, List.set_cons_zero, List.set_cons_succ, List.length_cons, List.length_nil, List.cons_append, List.nil_append, Option.some.injEq, exists_eq_left', true_and, and_true, Option.toList, Value.category, l_0, l_1, l_2, l_3, l_4, l_8, l_9, l_10, l_12, l_13, l_15, l_26, l_32, l_40, l_41, l_42, l_43, l_45, l_46, l_48, l_49, l_50, l_51, l_59, l_60, l_61, l_62, l_63, l_65, l_90, l_91, l_93, l_94, l_96, l_97, l_100, l_122, l_123, l_124, l_125, l_126, l_161, l_1000, l_67108863, q_nb0, q_nb1, q_ni, q_fi, q_fb0, q_fb1, vY_74 H, vY_88 H, vY_90 H, q_le (show 0 < 2147483648 by decide) gj, q_clamp gj, Nat.zero_le, hj, r13, q_le (show r.2.2.2.2.2.1.length < 2147483648 by omega) gk, show ¬ r.2.2.2.2.2.1.length ≤ k by omega, if_false, q_mul, q_add, q_le (show 0 < 2147483648 by decide) gi, q_clamp gi, show 12 * j + k < 96 by omega, aY_pc a hkl]
    have room := (xps_room (r := r) (lt := lt) hp (show k + 1 ≤ r.2.2.2.2.2.1.length by omega))
    have e1 : xps lt (bgp r lt sz pl) (sSr r) (sEr r) (pcr r) ((List.range pl).map lt) (k + 1) = xps lt (bgp r lt sz pl) (sSr r) (sEr r) (pcr r) ((List.range pl).map lt) k ++ xpd lt (bgp r lt sz pl) (sSr r) (sEr r) (pcr r k) := rfl
    have xl := xpd_len (lt := lt) (bg := bgp r lt sz pl) (sS := sSr r) (sE := sEr r) (c := pcr r k)
    have inner : ∀ (g q : Nat) (B : Nat → Nat → Int32) (h : kv_H) (l : List Nat), q + g = wdt (bgp r lt sz pl) (sSr r) (sEr r) (pcr r k) → l = xps lt (bgp r lt sz pl) (sSr r) (sEr r) (pcr r) ((List.range pl).map lt) k ++ (xpd lt (bgp r lt sz pl) (sSr r) (sEr r) (pcr r k)).take q → vY h y B → aY y B j r lt sz pl ap → kv_fr inYp h0 h → (∀ k, k ≠ 17 → B k = B0 k) → fY l (B 17) → wp (kv_lim bX5_apply 140) [some (.ref 74), some (.int (nI j)), x2, some (.int (nI l.length)), some (.int (nI (pl + sWid (fun i => wdt (bgp r lt sz pl) (sSr r) (sEr r) (pcr r i)) (min k r.2.2.2.2.2.2)))), some (.int (nI k)), some (.int (nI (pcr r k))), some (.int (nI q))] [] h (aQ y B0 h0 j r lt sz pl ap) := by
      intro g
      induction g with
      | zero =>
        intro q B h l hq hl H a hf kB hF
        have el : l = xps lt (bgp r lt sz pl) (sSr r) (sEr r) (pcr r) ((List.range pl).map lt) (k + 1) := by
          rw [hl, e1, List.take_of_length_le (by omega)]
        refine tX5_apply_140 ?_
        have wl : wdt (bgp r lt sz pl) (sSr r) (sEr r) (pcr r k) < 2147483648 := by
          have : (xps lt (bgp r lt sz pl) (sSr r) (sEr r) (pcr r) ((List.range pl).map lt) (k + 1)).length = _ := congrArg List.length e1
          rw [List.length_append] at this
          omega
        simp only [fX5_apply_140, w_const, w_iload, w_aload, w_iinc, w_istore, w_astore, w_iadd, w_isub, w_imul, w_iand, w_ior, w_ixor, w_ishl, w_ishr, w_ineg, w_i2c, w_dup, w_pop, w_dup_x1, w_dup_x2, w_dup2, w_ifeq, w_ifne, w_iflt, w_ifge, w_ifgt, w_ifle, w_iceq, w_icne, w_iclt, w_icge, w_icgt, w_icle, w_ret, w_iret, w_aret, w_max, w_sld, w_slen, w_new, w_newa, w_newq, w_obj, w_getf, w_putf, w_iald, w_iast, w_alen, w_aald, w_aast, w_copy, List.getElem?_cons_zero, List.getElem?_cons_succ, List.set_cons_zero, List.set_cons_succ, List.length_cons, List.length_nil, List.cons_append, List.nil_append, Option.some.injEq, exists_eq_left', true_and, and_true, Option.toList, Value.category, l_0, l_1, l_2, l_3, l_4, l_8, l_9, l_10, l_12, l_13, l_15, l_26, l_32, l_40, l_41, l_42, l_43, l_45, l_46, l_48, l_49, l_50, l_51, l_59, l_60, l_61, l_62, l_63, l_65, l_90, l_91, l_93, l_94, l_96, l_97, l_100, l_122, l_123, l_124, l_125, l_126, l_161, l_1000, l_67108863, q_nb0, q_nb1, q_ni, q_fi, q_fb0, q_fb1]
        refine w_callV2 (r := [.int (nI q)]) (vY_74 H) (r_given H a w hj hs hp hkl) (Nat.le_of_ble_eq_true rfl) ?_
        rintro v1 h1 ⟨rfl, rfl⟩
        have r14 : B 14 j = nI r.2.2.2.2.2.2 := a.1.2.2.2.2.1
        simp only [w_const, w_iload, w_aload, w_iinc, w_istore, w_astore, w_iadd, w_isub, w_imul, w_iand, w_ior, w_ixor, w_ishl, w_ishr, w_ineg, w_i2c, w_dup, w_pop, w_dup_x1, w_dup_x2, w_dup2, w_ifeq, w_ifne, w_iflt, w_ifge, w_ifgt, w_ifle, w_iceq, w_icne, w_iclt, w_icge, w_icgt, w_icle, w_ret, w_iret, w_aret, w_max, w_sld, w_slen, w_new, w_newa, w_newq, w_obj, w_getf, w_putf, w_iald, w_iast, w_alen, w_aald, w_aast, w_copy, List.getElem?_cons_zero, List.getElem?_cons_succ, List.set_cons_zero, List.set_cons_succ, List.length_cons, List.length_nil, List.cons_append, List.nil_append, Option.some.injEq, exists_eq_left', true_and, and_true, Option.toList, Value.category, l_0, l_1, l_2, l_3, l_4, l_8, l_9, l_10, l_12, l_13, l_15, l_26, l_32, l_40, l_41, l_42, l_43, l_45, l_46, l_48, l_49, l_50, l_51, l_59, l_60, l_61, l_62, l_63, l_65, l_90, l_91, l_93, l_94, l_96, l_97, l_100, l_122, l_123, l_124, l_125, l_126, l_161, l_1000, l_67108863, q_nb0, q_nb1, q_ni, q_fi, q_fb0, q_fb1, q_le wl (show q < 2147483648 by omega), show wdt (bgp r lt sz pl) (sSr r) (sEr r) (pcr r k) ≤ q by omega, if_true, fX5_apply_198, vY_74 H, vY_89 H, q_le (show 0 < 2147483648 by decide) gj, q_clamp gj, Nat.zero_le, hj, r14, q_le (show r.2.2.2.2.2.2 < 2147483648 by omega) gk]
        rw [el] at hF
        by_cases e3 : r.2.2.2.2.2.2 ≤ k
        · rw [if_pos e3]
          simp only [fX5_apply_213, fX5_apply_215, w_const, w_iload, w_aload, w_iinc, w_istore, w_astore, w_iadd, w_isub, w_imul, w_iand, w_ior, w_ixor, w_ishl, w_ishr, w_ineg, w_i2c, w_dup, w_pop, w_dup_x1, w_dup_x2, w_dup2, w_ifeq, w_ifne, w_iflt, w_ifge, w_ifgt, w_ifle, w_iceq, w_icne, w_iclt, w_icge, w_icgt, w_icle, w_ret, w_iret, w_aret, w_max, w_sld, w_slen, w_new, w_newa, w_newq, w_obj, w_getf, w_putf, w_iald, w_iast, w_alen, w_aald, w_aast, w_copy, List.getElem?_cons_zero, List.getElem?_cons_succ, List.set_cons_zero, List.set_cons_succ, List.length_cons, List.length_nil, List.cons_append, List.nil_append, Option.some.injEq, exists_eq_left', true_and, and_true, Option.toList, Value.category, l_0, l_1, l_2, l_3, l_4, l_8, l_9, l_10, l_12, l_13, l_15, l_26, l_32, l_40, l_41, l_42, l_43, l_45, l_46, l_48, l_49, l_50, l_51, l_59, l_60, l_61, l_62, l_63, l_65, l_90, l_91, l_93, l_94, l_96, l_97, l_100, l_122, l_123, l_124, l_125, l_126, l_161, l_1000, l_67108863, q_nb0, q_nb1, q_ni, q_fi, q_fb0, q_fb1, q_add]
          have w9 := ih (k + 1) B h1 (some (.int (nI (pcr r k)))) (some (.int (nI q))) (by omega) H a hf kB hF
          rw [← el, show min (k + 1) r.2.2.2.2.2.2 = min k r.2.2.2.2.2.2 by omega] at w9
          exact w9
        · rw [if_neg e3]
          simp only [fX5_apply_209, fX5_apply_215, w_const, w_iload, w_aload, w_iinc, w_istore, w_astore, w_iadd, w_isub, w_imul, w_iand, w_ior, w_ixor, w_ishl, w_ishr, w_ineg, w_i2c, w_dup, w_pop, w_dup_x1, w_dup_x2, w_dup2, w_ifeq, w_ifne, w_iflt, w_ifge, w_ifgt, w_ifle, w_iceq, w_icne, w_iclt, w_icge, w_icgt, w_icle, w_ret, w_iret, w_aret, w_max, w_sld, w_slen, w_new, w_newa, w_newq, w_obj, w_getf, w_putf, w_iald, w_iast, w_alen, w_aald, w_aast, w_copy, List.getElem?_cons_zero, List.getElem?_cons_succ, List.set_cons_zero, List.set_cons_succ, List.length_cons, List.length_nil, List.cons_append, List.nil_append, Option.some.injEq, exists_eq_left', true_and, and_true, Option.toList, Value.category, l_0, l_1, l_2, l_3, l_4, l_8, l_9, l_10, l_12, l_13, l_15, l_26, l_32, l_40, l_41, l_42, l_43, l_45, l_46, l_48, l_49, l_50, l_51, l_59, l_60, l_61, l_62, l_63, l_65, l_90, l_91, l_93, l_94, l_96, l_97, l_100, l_122, l_123, l_124, l_125, l_126, l_161, l_1000, l_67108863, q_nb0, q_nb1, q_ni, q_fi, q_fb0, q_fb1, q_add]
          have w9 := ih (k + 1) B h1 (some (.int (nI (pcr r k)))) (some (.int (nI q))) (by omega) H a hf kB hF
          rw [← el, show min (k + 1) r.2.2.2.2.2.2 = k + 1 by omega, ← room.1, ← el] at w9
          exact w9
      | succ g ihg =>
        intro q B h l hq hl H a hf kB hF
        refine tX5_apply_140 ?_
        have ql : q < (xpd lt (bgp r lt sz pl) (sSr r) (sEr r) (pcr r k)).length := by omega
        have ll : l.length + (g + 1) = (xps lt (bgp r lt sz pl) (sSr r) (sEr r) (pcr r) ((List.range pl).map lt) (k + 1)).length := by
          rw [hl, e1, List.length_append, List.length_append, List.length_take]
          omega
        have lr : l.length < 60 := by omega
        have gl : l.length < 2147483648 := by omega
        have wl : wdt (bgp r lt sz pl) (sSr r) (sEr r) (pcr r k) < 2147483648 := by
          have : (xps lt (bgp r lt sz pl) (sSr r) (sEr r) (pcr r) ((List.range pl).map lt) (k + 1)).length = _ := congrArg List.length e1
          rw [List.length_append] at this
          omega
        simp only [fX5_apply_140, w_const, w_iload, w_aload, w_iinc, w_istore, w_astore, w_iadd, w_isub, w_imul, w_iand, w_ior, w_ixor, w_ishl, w_ishr, w_ineg, w_i2c, w_dup, w_pop, w_dup_x1, w_dup_x2, w_dup2, w_ifeq, w_ifne, w_iflt, w_ifge, w_ifgt, w_ifle, w_iceq, w_icne, w_iclt, w_icge, w_icgt, w_icle, w_ret, w_iret, w_aret, w_max, w_sld, w_slen, w_new, w_newa, w_newq, w_obj, w_getf, w_putf, w_iald, w_iast, w_alen, w_aald, w_aast, w_copy, List.getElem?_cons_zero, List.getElem?_cons_succ, List.set_cons_zero, List.set_cons_succ, List.length_cons, List.length_nil, List.cons_append, List.nil_append, Option.some.injEq, exists_eq_left', true_and, and_true, Option.toList, Value.category, l_0, l_1, l_2, l_3, l_4, l_8, l_9, l_10, l_12, l_13, l_15, l_26, l_32, l_40, l_41, l_42, l_43, l_45, l_46, l_48, l_49, l_50, l_51, l_59, l_60, l_61, l_62, l_63, l_65, l_90, l_91, l_93, l_94, l_96, l_97, l_100, l_122, l_123, l_124, l_125, l_126, l_161, l_1000, l_67108863, q_nb0, q_nb1, q_ni, q_fi, q_fb0, q_fb1]
        refine w_callV2 (r := [.int (nI q)]) (vY_74 H) (r_given H a w hj hs hp hkl) (Nat.le_of_ble_eq_true rfl) ?_
        rintro v1 h1 ⟨rfl, rfl⟩
        simp only [w_const, w_iload, w_aload, w_iinc, w_istore, w_astore, w_iadd, w_isub, w_imul, w_iand, w_ior, w_ixor, w_ishl, w_ishr, w_ineg, w_i2c, w_dup, w_pop, w_dup_x1, w_dup_x2, w_dup2, w_ifeq, w_ifne, w_iflt, w_ifge, w_ifgt, w_ifle, w_iceq, w_icne, w_iclt, w_icge, w_icgt, w_icle, w_ret, w_iret, w_aret, w_max, w_sld, w_slen, w_new, w_newa, w_newq, w_obj, w_getf, w_putf, w_iald, w_iast, w_alen, w_aald, w_aast, w_copy, List.getElem?_cons_zero, List.getElem?_cons_succ, List.set_cons_zero, List.set_cons_succ, List.length_cons, List.length_nil, List.cons_append, List.nil_append, Option.some.injEq, exists_eq_left', true_and, and_true, Option.toList, Value.category, l_0, l_1, l_2, l_3, l_4, l_8, l_9, l_10, l_12, l_13, l_15, l_26, l_32, l_40, l_41, l_42, l_43, l_45, l_46, l_48, l_49, l_50, l_51, l_59, l_60, l_61, l_62, l_63, l_65, l_90, l_91, l_93, l_94, l_96, l_97, l_100, l_122, l_123, l_124, l_125, l_126, l_161, l_1000, l_67108863, q_nb0, q_nb1, q_ni, q_fi, q_fb0, q_fb1, q_le wl (show q < 2147483648 by omega), show ¬ wdt (bgp r lt sz pl) (sSr r) (sEr r) (pcr r k) ≤ q by omega, if_false, fX5_apply_152, vY_74 H]
        have at188 : ∀ c, (xpd lt (bgp r lt sz pl) (sSr r) (sEr r) (pcr r k))[q]? = some c → wp (fX5_apply_188 (kv_lim bX5_apply)) [some (.ref 74), some (.int (nI j)), x2, some (.int (nI l.length)), some (.int (nI (pl + sWid (fun i => wdt (bgp r lt sz pl) (sSr r) (sEr r) (pcr r i)) (min k r.2.2.2.2.2.2)))), some (.int (nI k)), some (.int (nI (pcr r k))), some (.int (nI q))] [.int (nI c), .int (nI l.length), .ref 92] h1 (aQ y B0 h0 j r lt sz pl ap) := by
          intro c hcq
          simp only [fX5_apply_188, w_const, w_iload, w_aload, w_iinc, w_istore, w_astore, w_iadd, w_isub, w_imul, w_iand, w_ior, w_ixor, w_ishl, w_ishr, w_ineg, w_i2c, w_dup, w_pop, w_dup_x1, w_dup_x2, w_dup2, w_ifeq, w_ifne, w_iflt, w_ifge, w_ifgt, w_ifle, w_iceq, w_icne, w_iclt, w_icge, w_icgt, w_icle, w_ret, w_iret, w_aret, w_max, w_sld, w_slen, w_new, w_newa, w_newq, w_obj, w_getf, w_putf, w_iald, w_iast, w_alen, w_aald, w_aast, w_copy, List.getElem?_cons_zero, List.getElem?_cons_succ, List.set_cons_zero, List.set_cons_succ, List.length_cons, List.length_nil, List.cons_append, List.nil_append, Option.some.injEq, exists_eq_left', true_and, and_true, Option.toList, Value.category, l_0, l_1, l_2, l_3, l_4, l_8, l_9, l_10, l_12, l_13, l_15, l_26, l_32, l_40, l_41, l_42, l_43, l_45, l_46, l_48, l_49, l_50, l_51, l_59, l_60, l_61, l_62, l_63, l_65, l_90, l_91, l_93, l_94, l_96, l_97, l_100, l_122, l_123, l_124, l_125, l_126, l_161, l_1000, l_67108863, q_nb0, q_nb1, q_ni, q_fi, q_fb0, q_fb1, vY_92 H, q_le (show 0 < 2147483648 by decide) gl, q_clamp gl, Nat.zero_le, lr, q_add]
          have H1 := vY_a17 (f := upd (B 17) l.length (nI c)) H
          have f1 : kv_fr inYp h0 (kv_p h1 92 (.inl (0, 60, .inl (upd (B 17) l.length (nI c))))) := hf.p (by unfold inYp; decide)
          have kk : ∀ k, k ≠ 17 → va_up B 17 (upd (B 17) l.length (nI c)) k = B k := fun k hk => va_up_ne _ _ hk
          have w9 := ihg (q + 1) _ _ (l ++ [c]) (by omega) (by rw [hl, List.append_assoc, List.take_succ, hcq]; rfl) H1 (aY_17 a kk) f1 (fun k hk => (kk k hk).trans (kB k hk)) (by rw [va_up_self]; exact fY_push hF _)
          rw [List.length_append, List.length_singleton] at w9
          exact w9
        refine w_callS1 (r := [.int (nI l.length), .ref 92]) (r_small (show pcr r k < 65536 by omega) h1) (Nat.le_of_ble_eq_true rfl) ?_
        rintro v2 h2 ⟨rfl, rfl⟩
        simp only [w_const, w_iload, w_aload, w_iinc, w_istore, w_astore, w_iadd, w_isub, w_imul, w_iand, w_ior, w_ixor, w_ishl, w_ishr, w_ineg, w_i2c, w_dup, w_pop, w_dup_x1, w_dup_x2, w_dup2, w_ifeq, w_ifne, w_iflt, w_ifge, w_ifgt, w_ifle, w_iceq, w_icne, w_iclt, w_icge, w_icgt, w_icle, w_ret, w_iret, w_aret, w_max, w_sld, w_slen, w_new, w_newa, w_newq, w_obj, w_getf, w_putf, w_iald, w_iast, w_alen, w_aald, w_aast, w_copy, List.getElem?_cons_zero, List.getElem?_cons_succ, List.set_cons_zero, List.set_cons_succ, List.length_cons, List.length_nil, List.cons_append, List.nil_append, Option.some.injEq, exists_eq_left', true_and, and_true, Option.toList, Value.category, l_0, l_1, l_2, l_3, l_4, l_8, l_9, l_10, l_12, l_13, l_15, l_26, l_32, l_40, l_41, l_42, l_43, l_45, l_46, l_48, l_49, l_50, l_51, l_59, l_60, l_61, l_62, l_63, l_65, l_90, l_91, l_93, l_94, l_96, l_97, l_100, l_122, l_123, l_124, l_125, l_126, l_161, l_1000, l_67108863, q_nb0, q_nb1, q_ni, q_fi, q_fb0, q_fb1, q_b]
        by_cases e : sml (pcr r k) = false
        · rw [if_pos e]
          obtain ⟨q1, q2, q3, q4, q5, q6⟩ := sg_at w (pcr_mem hkl) e
          obtain ⟨b1, b2⟩ := a.2.2.2.2.2.2 _ (pcr_mem hkl) e
          have mo := bgp_mono (r := r) (lt := lt) hp (show sSr r (pcr r k - 49) ≤ sEr r (pcr r k - 49) by omega)
          have g1 : pcr r k - 48 < 2147483648 := by omega
          have ew : wdt (bgp r lt sz pl) (sSr r) (sEr r) (pcr r k) = bgp r lt sz pl (sEr r (pcr r k - 49)) - bgp r lt sz pl (sSr r (pcr r k - 49)) := by
            unfold wdt
            rw [e]
            simp
          have g3 : bgp r lt sz pl (sSr r (pcr r k - 49)) + q < sz := by omega
          have g4 : bgp r lt sz pl (sSr r (pcr r k - 49)) + q < 2147483648 := by omega
          simp only [fX5_apply_170, w_const, w_iload, w_aload, w_iinc, w_istore, w_astore, w_iadd, w_isub, w_imul, w_iand, w_ior, w_ixor, w_ishl, w_ishr, w_ineg, w_i2c, w_dup, w_pop, w_dup_x1, w_dup_x2, w_dup2, w_ifeq, w_ifne, w_iflt, w_ifge, w_ifgt, w_ifle, w_iceq, w_icne, w_iclt, w_icge, w_icgt, w_icle, w_ret, w_iret, w_aret, w_max, w_sld, w_slen, w_new, w_newa, w_newq, w_obj, w_getf, w_putf, w_iald, w_iast, w_alen, w_aald, w_aast, w_copy, List.getElem?_cons_zero, List.getElem?_cons_succ, List.set_cons_zero, List.set_cons_succ, List.length_cons, List.length_nil, List.cons_append, List.nil_append, Option.some.injEq, exists_eq_left', true_and, and_true, Option.toList, Value.category, l_0, l_1, l_2, l_3, l_4, l_8, l_9, l_10, l_12, l_13, l_15, l_26, l_32, l_40, l_41, l_42, l_43, l_45, l_46, l_48, l_49, l_50, l_51, l_59, l_60, l_61, l_62, l_63, l_65, l_90, l_91, l_93, l_94, l_96, l_97, l_100, l_122, l_123, l_124, l_125, l_126, l_161, l_1000, l_67108863, q_nb0, q_nb1, q_ni, q_fi, q_fb0, q_fb1, vY_74 H, vY_93 H, vY_91 H, q_sub (show 48 ≤ pcr r k by omega), q_le (show 0 < 2147483648 by decide) g1, q_clamp g1, Nat.zero_le, show pcr r k - 48 < 4 by omega, b1, q_add, q_le (show 0 < 2147483648 by decide) g4, q_clamp g4, show bgp r lt sz pl (sSr r (pcr r k - 49)) + q < 60 by omega, a.2.2.2.2.2.1 _ g3]
          refine at188 _ ?_
          unfold xpd
          simp only [e, Bool.false_eq_true, if_false]
          rw [List.getElem?_map, List.getElem?_range (by omega)]
          rfl
        · rw [if_neg e]
          simp only [fX5_apply_165, w_const, w_iload, w_aload, w_iinc, w_istore, w_astore, w_iadd, w_isub, w_imul, w_iand, w_ior, w_ixor, w_ishl, w_ishr, w_ineg, w_i2c, w_dup, w_pop, w_dup_x1, w_dup_x2, w_dup2, w_ifeq, w_ifne, w_iflt, w_ifge, w_ifgt, w_ifle, w_iceq, w_icne, w_iclt, w_icge, w_icgt, w_icle, w_ret, w_iret, w_aret, w_max, w_sld, w_slen, w_new, w_newa, w_newq, w_obj, w_getf, w_putf, w_iald, w_iast, w_alen, w_aald, w_aast, w_copy, List.getElem?_cons_zero, List.getElem?_cons_succ, List.set_cons_zero, List.set_cons_succ, List.length_cons, List.length_nil, List.cons_append, List.nil_append, Option.some.injEq, exists_eq_left', true_and, and_true, Option.toList, Value.category, l_0, l_1, l_2, l_3, l_4, l_8, l_9, l_10, l_12, l_13, l_15, l_26, l_32, l_40, l_41, l_42, l_43, l_45, l_46, l_48, l_49, l_50, l_51, l_59, l_60, l_61, l_62, l_63, l_65, l_90, l_91, l_93, l_94, l_96, l_97, l_100, l_122, l_123, l_124, l_125, l_126, l_161, l_1000, l_67108863, q_nb0, q_nb1, q_ni, q_fi, q_fb0, q_fb1]
          refine at188 _ ?_
          have e' : sml (pcr r k) = true := by simpa using e
          unfold xpd at ql ⊢
          rw [if_pos e'] at ql ⊢
          have : q = 0 := by
            rw [List.length_singleton] at ql
            omega
          subst this
          rfl
    exact inner _ 0 B h _ (Nat.zero_add _) (by simp) H a hf kB hF
theorem r_ap2 {h0 : kv_H} {y : Nat → Int32} {B0 : Nat → Nat → Int32} {x2 x5 x6 x7 : Option Value} (w : wfC r) (hj : j < 8) (hs : sz ≤ 60) (hp : pl ≤ sz) (hc : ¬ (100 ≤ ap ∨ 60 < nSz r lt sz pl)) : ∀ (f i : Nat) (B : Nat → Nat → Int32) (h : kv_H), i + f = pl → vY h y B → aY y B j r lt sz pl ap → kv_fr inYp h0 h → (∀ k, k ≠ 17 → B k = B0 k) → fY ((List.range i).map lt) (B 17) → wp (kv_lim bX5_apply 69) [some (.ref 74), some (.int (nI j)), x2, some (.int (nI 0)), some (.int (nI i)), x5, x6, x7] [] h (aQ y B0 h0 j r lt sz pl ap) := by
  intro f
  induction f with
  | zero =>
    intro i B h hi H a hf kB hF
    have ei : i = pl := by omega
    subst ei
    refine tX5_apply_69 ?_
    simp only [fX5_apply_69, fX5_apply_98, w_const, w_iload, w_aload, w_iinc, w_istore, w_astore, w_iadd, w_isub, w_imul, w_iand, w_ior, w_ixor, w_ishl, w_ishr, w_ineg, w_i2c, w_dup, w_pop, w_dup_x1, w_dup_x2, w_dup2, w_ifeq, w_ifne, w_iflt, w_ifge, w_ifgt, w_ifle, w_iceq, w_icne, w_iclt, w_icge, w_icgt, w_icle, w_ret, w_iret, w_aret, w_max, w_sld, w_slen, w_new, w_newa, w_newq, w_obj, w_getf, w_putf, w_iald, w_iast, w_alen, w_aald, w_aast, w_copy, List.getElem?_cons_zero, List.getElem?_cons_succ, List.set_cons_zero, List.set_cons_succ, List.length_cons, List.length_nil, List.cons_append, List.nil_append, Option.some.injEq, exists_eq_left', true_and, and_true, Option.toList, Value.category, l_0, l_1, l_2, l_3, l_4, l_8, l_9, l_10, l_12, l_13, l_15, l_26, l_32, l_40, l_41, l_42, l_43, l_45, l_46, l_48, l_49, l_50, l_51, l_59, l_60, l_61, l_62, l_63, l_65, l_90, l_91, l_93, l_94, l_96, l_97, l_100, l_122, l_123, l_124, l_125, l_126, l_161, l_1000, l_67108863, q_nb0, q_nb1, q_ni, q_fi, q_fb0, q_fb1, vY_74 H, a.2.2.1, Int32.le_refl, if_true]
    have w9 := r_ap3 (x2 := x2) w hj hs hp hc r.2.2.2.2.2.1.length 0 B h x6 x7 (by omega) H a hf kB hF
    have e0 : (xps lt (bgp r lt sz i) (sSr r) (sEr r) (pcr r) ((List.range i).map lt) 0).length = i := by simp [xps]
    rw [e0] at w9
    simp only [Nat.zero_min] at w9
    exact w9
  | succ f ih =>
    intro i B h hi H a hf kB hF
    refine tX5_apply_69 ?_
    have g1 : i < 2147483648 := by omega
    simp only [fX5_apply_69, fX5_apply_78, w_const, w_iload, w_aload, w_iinc, w_istore, w_astore, w_iadd, w_isub, w_imul, w_iand, w_ior, w_ixor, w_ishl, w_ishr, w_ineg, w_i2c, w_dup, w_pop, w_dup_x1, w_dup_x2, w_dup2, w_ifeq, w_ifne, w_iflt, w_ifge, w_ifgt, w_ifle, w_iceq, w_icne, w_iclt, w_icge, w_icgt, w_icle, w_ret, w_iret, w_aret, w_max, w_sld, w_slen, w_new, w_newa, w_newq, w_obj, w_getf, w_putf, w_iald, w_iast, w_alen, w_aald, w_aast, w_copy, List.getElem?_cons_zero, List.getElem?_cons_succ, List.set_cons_zero, List.set_cons_succ, List.length_cons, List.length_nil, List.cons_append, List.nil_append, Option.some.injEq, exists_eq_left', true_and, and_true, Option.toList, Value.category, l_0, l_1, l_2, l_3, l_4, l_8, l_9, l_10, l_12, l_13, l_15, l_26, l_32, l_40, l_41, l_42, l_43, l_45, l_46, l_48, l_49, l_50, l_51, l_59, l_60, l_61, l_62, l_63, l_65, l_90, l_91, l_93, l_94, l_96, l_97, l_100, l_122, l_123, l_124, l_125, l_126, l_161, l_1000, l_67108863, q_nb0, q_nb1, q_ni, q_fi, q_fb0, q_fb1, vY_74 H, a.2.2.1, q_le (show pl < 2147483648 by omega) g1, show ¬ pl ≤ i by omega, if_false, vY_91 H, vY_92 H, q_le (show 0 < 2147483648 by decide) g1, q_clamp g1, Nat.zero_le, show i < 60 by omega, a.2.2.2.2.2.1 i (by omega), q_add]
    have H1 := vY_a17 (f := upd (B 17) i (nI (lt i))) H
    have f1 : kv_fr inYp h0 (kv_p h 92 (.inl (0, 60, .inl (upd (B 17) i (nI (lt i)))))) := hf.p (by unfold inYp; decide)
    have kk : ∀ k, k ≠ 17 → va_up B 17 (upd (B 17) i (nI (lt i))) k = B k := fun k hk => va_up_ne _ _ hk
    refine ih (i + 1) _ _ (by omega) H1 (aY_17 a kk) f1 (fun k hk => (kk k hk).trans (kB k hk)) ?_
    rw [va_up_self, List.range_succ, List.map_append]
    have := fY_push hF (lt i)
    rw [List.length_map, List.length_range] at this
    exact this
theorem r_apply {h : kv_H} {y : Nat → Int32} {B : Nat → Nat → Int32} (H : vY h y B) (a : aY y B j r lt sz pl ap) (w : wfC r) (hj : j < 8) (hs : sz ≤ 60) (hp : pl ≤ sz) (ha : ap ≤ 100) : wm mX5_apply [.ref 74, .int (nI j)] h (aQ y B h j r lt sz pl ap) := by
  have h12 := w.2.2.2.1
  have gj : j < 2147483648 := by omega
  have mo := bgp_mono (r := r) (lt := lt) hp (Nat.le_refl r.2.2.1)
  refine iX5_apply rfl rfl ?_
  simp only [fX5_apply_0, w_const, w_iload, w_aload, w_iinc, w_istore, w_astore, w_iadd, w_isub, w_imul, w_iand, w_ior, w_ixor, w_ishl, w_ishr, w_ineg, w_i2c, w_dup, w_pop, w_dup_x1, w_dup_x2, w_dup2, w_ifeq, w_ifne, w_iflt, w_ifge, w_ifgt, w_ifle, w_iceq, w_icne, w_iclt, w_icge, w_icgt, w_icle, w_ret, w_iret, w_aret, w_max, w_sld, w_slen, w_new, w_newa, w_newq, w_obj, w_getf, w_putf, w_iald, w_iast, w_alen, w_aald, w_aast, w_copy, List.getElem?_cons_zero, List.getElem?_cons_succ, List.set_cons_zero, List.set_cons_succ, List.length_cons, List.length_nil, List.cons_append, List.nil_append, Option.some.injEq, exists_eq_left', true_and, and_true, Option.toList, Value.category, l_0, l_1, l_2, l_3, l_4, l_8, l_9, l_10, l_12, l_13, l_15, l_26, l_32, l_40, l_41, l_42, l_43, l_45, l_46, l_48, l_49, l_50, l_51, l_59, l_60, l_61, l_62, l_63, l_65, l_90, l_91, l_93, l_94, l_96, l_97, l_100, l_122, l_123, l_124, l_125, l_126, l_161, l_1000, l_67108863, q_nb0, q_nb1, q_ni, q_fi, q_fb0, q_fb1, vY_74 H, a.2.1, a.2.2.1, a.2.2.2.2.1, q_sub mo.2.2, q_sub (show bgp r lt sz pl r.2.2.1 - pl ≤ sz by omega)]
  have stuck : (100 ≤ ap ∨ 60 < nSz r lt sz pl) → ∀ x2 x3 x4 x5 x6 x7, wp (fX5_apply_57 (kv_lim bX5_apply)) [some (.ref 74), some (.int (nI j)), x2, x3, x4, x5, x6, x7] [] h (aQ y B h j r lt sz pl ap) := by
    intro q x2 x3 x4 x5 x6 x7
    simp only [fX5_apply_57, w_const, w_iload, w_aload, w_iinc, w_istore, w_astore, w_iadd, w_isub, w_imul, w_iand, w_ior, w_ixor, w_ishl, w_ishr, w_ineg, w_i2c, w_dup, w_pop, w_dup_x1, w_dup_x2, w_dup2, w_ifeq, w_ifne, w_iflt, w_ifge, w_ifgt, w_ifle, w_iceq, w_icne, w_iclt, w_icge, w_icgt, w_icle, w_ret, w_iret, w_aret, w_max, w_sld, w_slen, w_new, w_newa, w_newq, w_obj, w_getf, w_putf, w_iald, w_iast, w_alen, w_aald, w_aast, w_copy, List.getElem?_cons_zero, List.getElem?_cons_succ, List.set_cons_zero, List.set_cons_succ, List.length_cons, List.length_nil, List.cons_append, List.nil_append, Option.some.injEq, exists_eq_left', true_and, and_true, Option.toList, Value.category, l_0, l_1, l_2, l_3, l_4, l_8, l_9, l_10, l_12, l_13, l_15, l_26, l_32, l_40, l_41, l_42, l_43, l_45, l_46, l_48, l_49, l_50, l_51, l_59, l_60, l_61, l_62, l_63, l_65, l_90, l_91, l_93, l_94, l_96, l_97, l_100, l_122, l_123, l_124, l_125, l_126, l_161, l_1000, l_67108863, q_nb0, q_nb1, q_ni, q_fi, q_fb0, q_fb1, vY_74 H]
    refine ⟨by decide, ?_⟩
    have H1 : vY (kv_p h 74 (yo (va_up y 10 (nI 1)))) (va_up y 10 (nI 1)) B := vY_o H
    have f1 : kv_fr inYp h (kv_p h 74 (yo (va_up y 10 (nI 1)))) := kv_fr.rf.p (by unfold inYp; decide)
    have eg1 : kv_p h 74 (yo (va_up y 10 (nI 1))) = kv_p h 74 (.inr (5, [.int (y 0), .ref 75, .ref 76, .int (y 1), .ref 77, .ref 78, .ref 79, .ref 80, .int (y 2), .int (y 3), .int (y 4), .int (y 5), .ref 81, .ref 82, .ref 83, .ref 84, .ref 85, .ref 86, .ref 87, .ref 88, .ref 89, .ref 90, .int (y 6), .ref 91, .ref 92, .int (y 7), .int (y 8), .int (y 9), .int (nI 1), .int (y 11), .ref 93, .ref 94])) := rfl
    rw [← eg1]
    have u1 : va_up y 10 (nI 1) 10 = nI 1 := rfl
    have v1 : ∀ k, k ≠ 10 → va_up y 10 (nI 1) k = y k := fun k hk => va_up_ne _ _ hk
    generalize kv_p h 74 (yo (va_up y 10 (nI 1))) = k1 at H1 f1 ⊢
    generalize va_up y 10 (nI 1) = y1 at H1 u1 v1
    have e1 : y1 = va_up y 10 (nI 1) := by
      funext k
      by_cases z : k = 10
      · subst z
        rw [u1, va_up_self]
      · rw [v1 k z, va_up_ne _ _ z]
    exact ⟨y1, B, H1, f1, fun _ _ _ => rfl, fun k hk => v1 k (by omega), Or.inl ⟨q, rfl, rfl, e1⟩⟩
  have wle : ∀ k, k ≤ r.2.2.2.2.2.1.length → sWid (fun i => wdt (bgp r lt sz pl) (sSr r) (sEr r) (pcr r i)) k ≤ 60 * k := by
    intro k
    induction k with
    | zero => intro _; simp [sWid]
    | succ k ih =>
      intro hk
      have h1 := ih (by omega)
      have h2 : wdt (bgp r lt sz pl) (sSr r) (sEr r) (pcr r k) ≤ 60 := by
        unfold wdt
        split
        · decide
        · have := (bgp_mono (r := r) (lt := lt) hp (Nat.le_refl (sEr r (pcr r k - 49)))).2.1
          omega
      show sWid _ k + wdt _ _ _ _ ≤ _
      omega
  have loop : ∀ (f k : Nat), k + f = r.2.2.2.2.2.1.length → wp (kv_lim bX5_apply 17) [some (.ref 74), some (.int (nI j)), some (.int (nI (sz - (bgp r lt sz pl r.2.2.1 - pl) + sWid (fun i => wdt (bgp r lt sz pl) (sSr r) (sEr r) (pcr r i)) k))), some (.int (nI k)), none, none, none, none] [] h (aQ y B h j r lt sz pl ap) := by
    intro f
    induction f with
    | zero =>
      intro k hk
      have ek : k = r.2.2.2.2.2.1.length := by omega
      subst ek
      refine tX5_apply_17 ?_
      have r13 : B 13 j = nI r.2.2.2.2.2.1.length := a.1.2.2.2.1
      rw [show sz - (bgp r lt sz pl r.2.2.1 - pl) + sWid (fun i => wdt (bgp r lt sz pl) (sSr r) (sEr r) (pcr r i)) r.2.2.2.2.2.1.length = nSz r lt sz pl from rfl]
      have nl : nSz r lt sz pl < 2147483648 := by
        have := wle _ (Nat.le_refl _)
        unfold nSz
        omega
      simp only [fX5_apply_17, fX5_apply_42, w_const, w_iload, w_aload, w_iinc, w_istore, w_astore, w_iadd, w_isub, w_imul, w_iand, w_ior, w_ixor, w_ishl, w_ishr, w_ineg, w_i2c, w_dup, w_pop, w_dup_x1, w_dup_x2, w_dup2, w_ifeq, w_ifne, w_iflt, w_ifge, w_ifgt, w_ifle, w_iceq, w_icne, w_iclt, w_icge, w_icgt, w_icle, w_ret, w_iret, w_aret, w_max, w_sld, w_slen, w_new, w_newa, w_newq, w_obj, w_getf, w_putf, w_iald, w_iast, w_alen, w_aald, w_aast, w_copy, List.getElem?_cons_zero, List.getElem?_cons_succ, List.set_cons_zero, List.set_cons_succ, List.length_cons, List.length_nil, List.cons_append, List.nil_append, Option.some.injEq, exists_eq_left', true_and, and_true, Option.toList, Value.category, l_0, l_1, l_2, l_3, l_4, l_8, l_9, l_10, l_12, l_13, l_15, l_26, l_32, l_40, l_41, l_42, l_43, l_45, l_46, l_48, l_49, l_50, l_51, l_59, l_60, l_61, l_62, l_63, l_65, l_90, l_91, l_93, l_94, l_96, l_97, l_100, l_122, l_123, l_124, l_125, l_126, l_161, l_1000, l_67108863, q_nb0, q_nb1, q_ni, q_fi, q_fb0, q_fb1, vY_74 H, vY_88 H, q_le (show 0 < 2147483648 by decide) gj, q_clamp gj, Nat.zero_le, hj, r13, Int32.le_refl, if_true, q_lt (show 60 < 2147483648 by decide) nl]
      by_cases e1 : nSz r lt sz pl ≤ 60
      · rw [if_neg (show ¬ 60 < nSz r lt sz pl by omega)]
        simp only [fX5_apply_48, w_const, w_iload, w_aload, w_iinc, w_istore, w_astore, w_iadd, w_isub, w_imul, w_iand, w_ior, w_ixor, w_ishl, w_ishr, w_ineg, w_i2c, w_dup, w_pop, w_dup_x1, w_dup_x2, w_dup2, w_ifeq, w_ifne, w_iflt, w_ifge, w_ifgt, w_ifle, w_iceq, w_icne, w_iclt, w_icge, w_icgt, w_icle, w_ret, w_iret, w_aret, w_max, w_sld, w_slen, w_new, w_newa, w_newq, w_obj, w_getf, w_putf, w_iald, w_iast, w_alen, w_aald, w_aast, w_copy, List.getElem?_cons_zero, List.getElem?_cons_succ, List.set_cons_zero, List.set_cons_succ, List.length_cons, List.length_nil, List.cons_append, List.nil_append, Option.some.injEq, exists_eq_left', true_and, and_true, Option.toList, Value.category, l_0, l_1, l_2, l_3, l_4, l_8, l_9, l_10, l_12, l_13, l_15, l_26, l_32, l_40, l_41, l_42, l_43, l_45, l_46, l_48, l_49, l_50, l_51, l_59, l_60, l_61, l_62, l_63, l_65, l_90, l_91, l_93, l_94, l_96, l_97, l_100, l_122, l_123, l_124, l_125, l_126, l_161, l_1000, l_67108863, q_nb0, q_nb1, q_ni, q_fi, q_fb0, q_fb1, vY_74 H, a.2.2.2.1, q_eq (show ap < 2147483648 by omega) (show 100 < 2147483648 by decide)]
        by_cases e2 : ap = 100
        · rw [if_neg (fun z => z e2)]
          exact stuck (Or.inl (by omega)) _ _ _ _ _ _
        · rw [if_pos e2]
          simp only [fX5_apply_64, w_const, w_iload, w_aload, w_iinc, w_istore, w_astore, w_iadd, w_isub, w_imul, w_iand, w_ior, w_ixor, w_ishl, w_ishr, w_ineg, w_i2c, w_dup, w_pop, w_dup_x1, w_dup_x2, w_dup2, w_ifeq, w_ifne, w_iflt, w_ifge, w_ifgt, w_ifle, w_iceq, w_icne, w_iclt, w_icge, w_icgt, w_icle, w_ret, w_iret, w_aret, w_max, w_sld, w_slen, w_new, w_newa, w_newq, w_obj, w_getf, w_putf, w_iald, w_iast, w_alen, w_aald, w_aast, w_copy, List.getElem?_cons_zero, List.getElem?_cons_succ, List.set_cons_zero, List.set_cons_succ, List.length_cons, List.length_nil, List.cons_append, List.nil_append, Option.some.injEq, exists_eq_left', true_and, and_true, Option.toList, Value.category, l_0, l_1, l_2, l_3, l_4, l_8, l_9, l_10, l_12, l_13, l_15, l_26, l_32, l_40, l_41, l_42, l_43, l_45, l_46, l_48, l_49, l_50, l_51, l_59, l_60, l_61, l_62, l_63, l_65, l_90, l_91, l_93, l_94, l_96, l_97, l_100, l_122, l_123, l_124, l_125, l_126, l_161, l_1000, l_67108863, q_nb0, q_nb1, q_ni, q_fi, q_fb0, q_fb1]
          exact r_ap2 w hj hs hp (by omega) pl 0 B h (by omega) H a kv_fr.rf (fun _ _ => rfl) (fun i c q => by cases q)
      · rw [if_pos (show 60 < nSz r lt sz pl by omega)]
        exact stuck (Or.inr (by omega)) _ _ _ _ _ _
    | succ f ih =>
      intro k hk
      refine tX5_apply_17 ?_
      have r13 : B 13 j = nI r.2.2.2.2.2.1.length := a.1.2.2.2.1
      have gk : k < 2147483648 := by omega
      simp only [fX5_apply_17, fX5_apply_27, w_const, w_iload, w_aload, w_iinc, w_istore, w_astore, w_iadd, w_isub, w_imul, w_iand, w_ior, w_ixor, w_ishl, w_ishr, w_ineg, w_i2c, w_dup, w_pop, w_dup_x1, w_dup_x2, w_dup2, w_ifeq, w_ifne, w_iflt, w_ifge, w_ifgt, w_ifle, w_iceq, w_icne, w_iclt, w_icge, w_icgt, w_icle, w_ret, w_iret, w_aret, w_max, w_sld, w_slen, w_new, w_newa, w_newq, w_obj, w_getf, w_putf, w_iald, w_iast, w_alen, w_aald, w_aast, w_copy, List.getElem?_cons_zero, List.getElem?_cons_succ, List.set_cons_zero, List.set_cons_succ, List.length_cons, List.length_nil, List.cons_append, List.nil_append, Option.some.injEq, exists_eq_left', true_and, and_true, Option.toList, Value.category, l_0, l_1, l_2, l_3, l_4, l_8, l_9, l_10, l_12, l_13, l_15, l_26, l_32, l_40, l_41, l_42, l_43, l_45, l_46, l_48, l_49, l_50, l_51, l_59, l_60, l_61, l_62, l_63, l_65, l_90, l_91, l_93, l_94, l_96, l_97, l_100, l_122, l_123, l_124, l_125, l_126, l_161, l_1000, l_67108863, q_nb0, q_nb1, q_ni, q_fi, q_fb0, q_fb1, vY_74 H, vY_88 H, q_le (show 0 < 2147483648 by decide) gj, q_clamp gj, Nat.zero_le, hj, r13, q_le (show r.2.2.2.2.2.1.length < 2147483648 by omega) gk, show ¬ r.2.2.2.2.2.1.length ≤ k by omega, if_false]
      refine w_callV2 (r := [.int (nI (sz - (bgp r lt sz pl r.2.2.1 - pl) + sWid (fun i => wdt (bgp r lt sz pl) (sSr r) (sEr r) (pcr r i)) k))]) (vY_74 H) (r_given H a w hj hs hp (show k < _ by omega)) (Nat.le_of_ble_eq_true rfl) ?_
      rintro v1 h1 ⟨rfl, rfl⟩
      simp only [w_const, w_iload, w_aload, w_iinc, w_istore, w_astore, w_iadd, w_isub, w_imul, w_iand, w_ior, w_ixor, w_ishl, w_ishr, w_ineg, w_i2c, w_dup, w_pop, w_dup_x1, w_dup_x2, w_dup2, w_ifeq, w_ifne, w_iflt, w_ifge, w_ifgt, w_ifle, w_iceq, w_icne, w_iclt, w_icge, w_icgt, w_icle, w_ret, w_iret, w_aret, w_max, w_sld, w_slen, w_new, w_newa, w_newq, w_obj, w_getf, w_putf, w_iald, w_iast, w_alen, w_aald, w_aast, w_copy, List.getElem?_cons_zero, List.getElem?_cons_succ, List.set_cons_zero, List.set_cons_succ, List.length_cons, List.length_nil, List.cons_append, List.nil_append, Option.some.injEq, exists_eq_left', true_and, and_true, Option.toList, Value.category, l_0, l_1, l_2, l_3, l_4, l_8, l_9, l_10, l_12, l_13, l_15, l_26, l_32, l_40, l_41, l_42, l_43, l_45, l_46, l_48, l_49, l_50, l_51, l_59, l_60, l_61, l_62, l_63, l_65, l_90, l_91, l_93, l_94, l_96, l_97, l_100, l_122, l_123, l_124, l_125, l_126, l_161, l_1000, l_67108863, q_nb0, q_nb1, q_ni, q_fi, q_fb0, q_fb1, q_add]
      have w9 := ih (k + 1) (by omega)
      rw [show sWid (fun i => wdt (bgp r lt sz pl) (sSr r) (sEr r) (pcr r i)) (k + 1) = sWid (fun i => wdt (bgp r lt sz pl) (sSr r) (sEr r) (pcr r i)) k + wdt (bgp r lt sz pl) (sSr r) (sEr r) (pcr r k) from rfl, ← Nat.add_assoc] at w9
      exact w9
  exact loop _ 0 (Nat.zero_add _)
end RAQ
