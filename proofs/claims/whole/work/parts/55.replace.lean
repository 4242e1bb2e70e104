theorem q_nr {a : Nat} : (narrow (.array .char) (.ref a) = .ref a) = True := eq_true rfl
theorem q_fr2 {a : Nat} : (fits (.array .char) (.ref a) = true) = True := eq_true rfl
def xps (lt bg sS sE pc : Nat → Nat) (l : List Nat) : Nat → List Nat
  | 0 => l
  | k + 1 => xps lt bg sS sE pc l k ++ xpd lt bg sS sE (pc k)
theorem xps_len {lt bg sS sE pc : Nat → Nat} {l : List Nat} : ∀ k, (xps lt bg sS sE pc l k).length = l.length + sWid (fun i => wdt bg sS sE (pc i)) k := by
  intro k
  induction k with
  | zero => rfl
  | succ k ih =>
    simp only [xps, sWid, List.length_append, ih, xpd_len]
    omega
theorem sWid_mono {w : Nat → Nat} : ∀ (k n : Nat), k ≤ n → sWid w k ≤ sWid w n := by
  intro k n h
  induction n with
  | zero =>
    have : k = 0 := by omega
    subst this
    exact Nat.le_refl _
  | succ n ih =>
    by_cases q : k = n + 1
    · subst q
      exact Nat.le_refl _
    · have := ih (by omega)
      have e : sWid w (n + 1) = sWid w n + w n := rfl
      omega
section RP
variable {b tl ts sz pl : Nat} {A : Nat → Nat → Int32} {x : Nat → Nat} {pc sS sE bg : Nat → Nat} {lt : Nat → Nat}
theorem nT (hb : 5 < b ∧ b < 69 - 6) : ∀ a, inT a → ¬ inR b a := fun a q1 q2 => by have := q2.1; have := q2.2; unfold inT at q1; omega
theorem vM_fr {P : Nat → Prop} {h h' : kv_H} (H : vM h bg) (f : kv_fr P h h') (h1 : ¬ P 72) (h2 : ¬ P 73) : vM h' bg := ⟨f.at H.1 h1, f.at H.2 h2⟩
theorem p_rp_end (hb : 5 < b ∧ b < 69 - 6) {h0 h : kv_H} {sp : Nat → Nat} {x4 x5 : Option Value} (H : vT h tl ts lt sp sz pl) (HR : vR h b A x) (HM : vM h bg) (hf : kv_fr inT h0 h) (hq : rQ A x pc sS sE bg sz) (hs : sz ≤ 60) (hlt : ∀ i, i < sz → lt i < 128) (h2 : x 2 ≤ 12) (hk : pl ≤ bg (x 2)) (hk2 : bg (x 2) ≤ sz) {fl : Nat} (l : List Nat) (hl : ct l sp) (hfl : fl = l.length) (hroom : fl + (sz - bg (x 2)) ≤ 60) : wp (fX3_replace_50 (kv_lim bX3_replace)) [some (.ref 69), some (.ref b), some (.ref 72), some (.int (nI fl)), x4, x5] [] h (fun v h' => v = none ∧ ∃ nl, vT h' ts tl nl lt (fl + sz - bg (x 2)) (pl + sWid (fun i => wdt bg sS sE (pc i)) (x 7)) ∧ ct (l ++ (List.range (sz - bg (x 2))).map (fun i => lt (bg (x 2) + i))) nl ∧ kv_fr inT h0 h') := by
  have ap := ap_ne H.2.2.2
  have g1 : x 2 < 2147483648 := by omega
  have g2 : fl < 2147483648 := by omega
  have g3 : bg (x 2) < 2147483648 := by omega
  have g4 : sz - bg (x 2) < 2147483648 := by omega
  simp only [fX3_replace_50, w_const, w_iload, w_aload, w_iinc, w_istore, w_astore, w_iadd, w_isub, w_imul, w_iand, w_ior, w_ixor, w_ishl, w_ishr, w_ineg, w_i2c, w_dup, w_pop, w_dup_x1, w_dup_x2, w_dup2, w_ifeq, w_ifne, w_iflt, w_ifge, w_ifgt, w_ifle, w_iceq, w_icne, w_iclt, w_icge, w_icgt, w_icle, w_ret, w_iret, w_aret, w_max, w_sld, w_slen, w_new, w_newa, w_newq, w_obj, w_getf, w_putf, w_iald, w_iast, w_alen, w_aald, w_aast, w_copy, List.getElem?_cons_zero, List.getElem?_cons_succ, List.set_cons_zero, List.set_cons_succ, List.length_cons, List.length_nil, List.cons_append, List.nil_append, Option.some.injEq, exists_eq_left', true_and, and_true, Option.toList, Value.category, l_0, l_1, l_2, l_3, l_4, l_8, l_9, l_10, l_12, l_13, l_15, l_26, l_32, l_40, l_41, l_42, l_43, l_45, l_46, l_48, l_49, l_50, l_51, l_59, l_60, l_61, l_62, l_63, l_65, l_90, l_91, l_93, l_94, l_96, l_97, l_100, l_122, l_123, l_124, l_125, l_126, l_161, l_1000, l_67108863, q_nb0, q_nb1, q_ni, q_fi, q_fb0, q_fb1, HM.1, HM.2, HR.1, H.1, q_le (show 0 < 2147483648 by decide) g1, q_clamp g1, Nat.zero_le, show x 2 < 13 by omega, H.2.1, H.2.2.1, q_sub hk2, q_le (show 0 < 2147483648 by decide) g2, q_clamp g2, q_le (show 0 < 2147483648 by decide) g3, q_clamp g3, q_le (show 0 < 2147483648 by decide) g4, q_clamp g4, q_cpy]
  refine ⟨⟨by omega, hroom, fun j hj => q_fc (by have := hlt (bg (x 2) + j) (by omega); omega), by decide⟩, ?_⟩
  have H1 := vT_ts (sp' := va_cpy lt sp (bg (x 2)) fl (sz - bg (x 2))) H
  have f1 : kv_fr inT h (kv_p h ts (.inl (1, 60, .inl (fun i => nI (va_cpy lt sp (bg (x 2)) fl (sz - bg (x 2)) i))))) := kv_fr.rf.p ap.2.2.2.1
  have hct : ct (l ++ (List.range (sz - bg (x 2))).map (fun i => lt (bg (x 2) + i))) (va_cpy lt sp (bg (x 2)) fl (sz - bg (x 2))) := by
    refine ct_app hl (fun j hj => ?_) (fun j hj => ?_)
    · unfold va_cpy
      rw [if_neg (by omega)]
    · simp only [List.length_map, List.length_range] at hj
      rw [List.getElem?_map, List.getElem?_range hj]
      unfold va_cpy
      rw [if_pos (by omega)]
      simp only [Option.map_some]
      congr 2
      omega
  generalize va_cpy lt sp (bg (x 2)) fl (sz - bg (x 2)) = nl at H1 f1 hct ⊢
  generalize kv_p h ts (.inl (1, 60, .inl (fun i => nI (nl i)))) = h1 at H1 f1 ⊢
  have HR1 := vR_fr HR f1 (nT hb)
  have HM1 := vM_fr HM f1 (by unfold inT; decide) (by unfold inT; decide)
  simp only [w_const, w_iload, w_aload, w_iinc, w_istore, w_astore, w_iadd, w_isub, w_imul, w_iand, w_ior, w_ixor, w_ishl, w_ishr, w_ineg, w_i2c, w_dup, w_pop, w_dup_x1, w_dup_x2, w_dup2, w_ifeq, w_ifne, w_iflt, w_ifge, w_ifgt, w_ifle, w_iceq, w_icne, w_iclt, w_icge, w_icgt, w_icle, w_ret, w_iret, w_aret, w_max, w_sld, w_slen, w_new, w_newa, w_newq, w_obj, w_getf, w_putf, w_iald, w_iast, w_alen, w_aald, w_aast, w_copy, List.getElem?_cons_zero, List.getElem?_cons_succ, List.set_cons_zero, List.set_cons_succ, List.length_cons, List.length_nil, List.cons_append, List.nil_append, Option.some.injEq, exists_eq_left', true_and, and_true, Option.toList, Value.category, l_0, l_1, l_2, l_3, l_4, l_8, l_9, l_10, l_12, l_13, l_15, l_26, l_32, l_40, l_41, l_42, l_43, l_45, l_46, l_48, l_49, l_50, l_51, l_59, l_60, l_61, l_62, l_63, l_65, l_90, l_91, l_93, l_94, l_96, l_97, l_100, l_122, l_123, l_124, l_125, l_126, l_161, l_1000, l_67108863, q_nb0, q_nb1, q_ni, q_fi, q_fb0, q_fb1, H1.1, HR1.1]
  refine w_callS3 (p_widthOf HR1 HM1 hq hs (x 7) hq.2.1) (Nat.le_of_ble_eq_true rfl) ?_
  rintro v1 h3 ⟨rfl, rfl⟩
  have G : ∀ e, kv_g (kv_p h3 69 e) 69 = some e := fun e => kv_gp_self H1.1
  simp only [w_const, w_iload, w_aload, w_iinc, w_istore, w_astore, w_iadd, w_isub, w_imul, w_iand, w_ior, w_ixor, w_ishl, w_ishr, w_ineg, w_i2c, w_dup, w_pop, w_dup_x1, w_dup_x2, w_dup2, w_ifeq, w_ifne, w_iflt, w_ifge, w_ifgt, w_ifle, w_iceq, w_icne, w_iclt, w_icge, w_icgt, w_icle, w_ret, w_iret, w_aret, w_max, w_sld, w_slen, w_new, w_newa, w_newq, w_obj, w_getf, w_putf, w_iald, w_iast, w_alen, w_aald, w_aast, w_copy, List.getElem?_cons_zero, List.getElem?_cons_succ, List.set_cons_zero, List.set_cons_succ, List.length_cons, List.length_nil, List.cons_append, List.nil_append, Option.some.injEq, exists_eq_left', true_and, and_true, Option.toList, Value.category, l_0, l_1, l_2, l_3, l_4, l_8, l_9, l_10, l_12, l_13, l_15, l_26, l_32, l_40, l_41, l_42, l_43, l_45, l_46, l_48, l_49, l_50, l_51, l_59, l_60, l_61, l_62, l_63, l_65, l_90, l_91, l_93, l_94, l_96, l_97, l_100, l_122, l_123, l_124, l_125, l_126, l_161, l_1000, l_67108863, q_nb0, q_nb1, q_ni, q_fi, q_fb0, q_fb1, H1.1, G, kv_pp, q_add, q_sub (show bg (x 2) ≤ fl + sz by omega), q_nr, q_fr2]
  refine ⟨by decide, by decide, by decide, by decide, nl, ⟨kv_gp_self H1.1, (kv_gp_ne ap.1).trans H1.2.2.1, (kv_gp_ne ap.2.1).trans H1.2.1, H1.2.2.2.elim (fun q => Or.inr ⟨q.2, q.1⟩) (fun q => Or.inl ⟨q.2, q.1⟩)⟩, hct, (hf.tr f1).p (Or.inl rfl)⟩
theorem p_replace {h : kv_H} {sp : Nat → Nat} (hb : 5 < b ∧ b < 69 - 6) (H : vT h tl ts lt sp sz pl) (HR : vR h b A x) (HM : vM h bg) (hq : rQ A x pc sS sE bg sz) (hs : sz ≤ 60) (hp : pl ≤ sz) (hlt : ∀ i, i < sz → lt i < 128) (h2 : x 2 ≤ 12) (hk : pl ≤ bg (x 2)) (hk2 : bg (x 2) ≤ sz) (hroom : sz - (bg (x 2) - pl) + sWid (fun i => wdt bg sS sE (pc i)) (x 5) ≤ 60) : wm mX3_replace [.ref 69, .ref b, .ref 72] h (fun v h' => v = none ∧ ∃ nl, vT h' ts tl nl lt (sz - (bg (x 2) - pl) + sWid (fun i => wdt bg sS sE (pc i)) (x 5)) (pl + sWid (fun i => wdt bg sS sE (pc i)) (x 7)) ∧ ct (xps lt bg sS sE pc ((List.range pl).map lt) (x 5) ++ (List.range (sz - bg (x 2))).map (fun i => lt (bg (x 2) + i))) nl ∧ kv_fr inT h h') := by
  have ap := ap_ne H.2.2.2
  have hx := hq.1
  refine iX3_replace rfl rfl rfl ?_
  have g1 : pl < 2147483648 := by omega
  simp only [fX3_replace_0, w_const, w_iload, w_aload, w_iinc, w_istore, w_astore, w_iadd, w_isub, w_imul, w_iand, w_ior, w_ixor, w_ishl, w_ishr, w_ineg, w_i2c, w_dup, w_pop, w_dup_x1, w_dup_x2, w_dup2, w_ifeq, w_ifne, w_iflt, w_ifge, w_ifgt, w_ifle, w_iceq, w_icne, w_iclt, w_icge, w_icgt, w_icle, w_ret, w_iret, w_aret, w_max, w_sld, w_slen, w_new, w_newa, w_newq, w_obj, w_getf, w_putf, w_iald, w_iast, w_alen, w_aald, w_aast, w_copy, List.getElem?_cons_zero, List.getElem?_cons_succ, List.set_cons_zero, List.set_cons_succ, List.length_cons, List.length_nil, List.cons_append, List.nil_append, Option.some.injEq, exists_eq_left', true_and, and_true, Option.toList, Value.category, l_0, l_1, l_2, l_3, l_4, l_8, l_9, l_10, l_12, l_13, l_15, l_26, l_32, l_40, l_41, l_42, l_43, l_45, l_46, l_48, l_49, l_50, l_51, l_59, l_60, l_61, l_62, l_63, l_65, l_90, l_91, l_93, l_94, l_96, l_97, l_100, l_122, l_123, l_124, l_125, l_126, l_161, l_1000, l_67108863, q_nb0, q_nb1, q_ni, q_fi, q_fb0, q_fb1, H.1, H.2.1, H.2.2.1, q_le (show 0 < 2147483648 by decide) g1, q_clamp g1, q_le (show 0 < 2147483648 by decide) (show 0 < 2147483648 by decide), q_clamp (show 0 < 2147483648 by decide), Nat.zero_le, q_cpy, Nat.zero_add, Nat.le_refl]
  refine ⟨⟨by omega, by omega, fun j hj => q_fc (by have := hlt j (by omega); omega), by decide⟩, ?_⟩
  have H1 := vT_ts (sp' := va_cpy lt sp 0 0 pl) H
  have f1 : kv_fr inT h (kv_p h ts (.inl (1, 60, .inl (fun i => nI (va_cpy lt sp 0 0 pl i))))) := kv_fr.rf.p ap.2.2.2.1
  have hct : ct ((List.range pl).map lt) (va_cpy lt sp 0 0 pl) := by
    intro j hj
    simp only [List.length_map, List.length_range] at hj
    rw [List.getElem?_map, List.getElem?_range hj]
    unfold va_cpy
    rw [if_pos (by omega)]
    simp
  generalize va_cpy lt sp 0 0 pl = sp1 at H1 f1 hct ⊢
  generalize kv_p h ts (.inl (1, 60, .inl (fun i => nI (sp1 i)))) = h1 at H1 f1 ⊢
  have HR1 := vR_fr HR f1 (nT hb)
  have HM1 := vM_fr HM f1 (by unfold inT; decide) (by unfold inT; decide)
  simp only [w_const, w_iload, w_aload, w_iinc, w_istore, w_astore, w_iadd, w_isub, w_imul, w_iand, w_ior, w_ixor, w_ishl, w_ishr, w_ineg, w_i2c, w_dup, w_pop, w_dup_x1, w_dup_x2, w_dup2, w_ifeq, w_ifne, w_iflt, w_ifge, w_ifgt, w_ifle, w_iceq, w_icne, w_iclt, w_icge, w_icgt, w_icle, w_ret, w_iret, w_aret, w_max, w_sld, w_slen, w_new, w_newa, w_newq, w_obj, w_getf, w_putf, w_iald, w_iast, w_alen, w_aald, w_aast, w_copy, List.getElem?_cons_zero, List.getElem?_cons_succ, List.set_cons_zero, List.set_cons_succ, List.length_cons, List.length_nil, List.cons_append, List.nil_append, Option.some.injEq, exists_eq_left', true_and, and_true, Option.toList, Value.category, l_0, l_1, l_2, l_3, l_4, l_8, l_9, l_10, l_12, l_13, l_15, l_26, l_32, l_40, l_41, l_42, l_43, l_45, l_46, l_48, l_49, l_50, l_51, l_59, l_60, l_61, l_62, l_63, l_65, l_90, l_91, l_93, l_94, l_96, l_97, l_100, l_122, l_123, l_124, l_125, l_126, l_161, l_1000, l_67108863, q_nb0, q_nb1, q_ni, q_fi, q_fb0, q_fb1, H1.1]
  have loop : ∀ (f k : Nat) (sp2 : Nat → Nat) (h2 : kv_H), k + f = x 5 → vT h2 tl ts lt sp2 sz pl → vR h2 b A x → vM h2 bg → ct (xps lt bg sS sE pc ((List.range pl).map lt) k) sp2 → kv_fr inT h h2 → wp (kv_lim bX3_replace 25) [some (.ref 69), some (.ref b), some (.ref 72), some (.int (nI (pl + sWid (fun i => wdt bg sS sE (pc i)) k))), some (.int (nI k)), none] [] h2 (fun v h' => v = none ∧ ∃ nl, vT h' ts tl nl lt (sz - (bg (x 2) - pl) + sWid (fun i => wdt bg sS sE (pc i)) (x 5)) (pl + sWid (fun i => wdt bg sS sE (pc i)) (x 7)) ∧ ct (xps lt bg sS sE pc ((List.range pl).map lt) (x 5) ++ (List.range (sz - bg (x 2))).map (fun i => lt (bg (x 2) + i))) nl ∧ kv_fr inT h h') := by
    intro f
    induction f with
    | zero =>
      intro k sp2 h2' hk5 H2 HR2 HM2 hc2 hf2
      refine tX3_replace_25 ?_
      have e : k = x 5 := by omega
      subst e
      simp only [fX3_replace_25, w_const, w_iload, w_aload, w_iinc, w_istore, w_astore, w_iadd, w_isub, w_imul, w_iand, w_ior, w_ixor, w_ishl, w_ishr, w_ineg, w_i2c, w_dup, w_pop, w_dup_x1, w_dup_x2, w_dup2, w_ifeq, w_ifne, w_iflt, w_ifge, w_ifgt, w_ifle, w_iceq, w_icne, w_iclt, w_icge, w_icgt, w_icle, w_ret, w_iret, w_aret, w_max, w_sld, w_slen, w_new, w_newa, w_newq, w_obj, w_getf, w_putf, w_iald, w_iast, w_alen, w_aald, w_aast, w_copy, List.getElem?_cons_zero, List.getElem?_cons_succ, List.set_cons_zero, List.set_cons_succ, List.length_cons, List.length_nil, List.cons_append, List.nil_append, Option.some.injEq, exists_eq_left', true_and, and_true, Option.toList, Value.category, l_0, l_1, l_2, l_3, l_4, l_8, l_9, l_10, l_12, l_13, l_15, l_26, l_32, l_40, l_41, l_42, l_43, l_45, l_46, l_48, l_49, l_50, l_51, l_59, l_60, l_61, l_62, l_63, l_65, l_90, l_91, l_93, l_94, l_96, l_97, l_100, l_122, l_123, l_124, l_125, l_126, l_161, l_1000, l_67108863, q_nb0, q_nb1, q_ni, q_fi, q_fb0, q_fb1, HR2.1, q_le (show x 5 < 2147483648 by omega) (show x 5 < 2147483648 by omega), Nat.le_refl, if_true]
      have hlen : (xps lt bg sS sE pc ((List.range pl).map lt) (x 5)).length = pl + sWid (fun i => wdt bg sS sE (pc i)) (x 5) := by rw [xps_len]; simp
      have w9 := p_rp_end (x4 := some (.int (nI (x 5)))) (x5 := none) hb H2 HR2 HM2 hf2 hq hs hlt h2 hk hk2 (fl := pl + sWid (fun i => wdt bg sS sE (pc i)) (x 5)) _ hc2 hlen.symm (by omega)
      rw [show pl + sWid (fun i => wdt bg sS sE (pc i)) (x 5) + sz - bg (x 2) = sz - (bg (x 2) - pl) + sWid (fun i => wdt bg sS sE (pc i)) (x 5) by omega] at w9
      exact w9
    | succ f ih =>
      intro k sp2 h2' hk5 H2 HR2 HM2 hc2 hf2
      refine tX3_replace_25 ?_
      have hlen : (xps lt bg sS sE pc ((List.range pl).map lt) k).length = pl + sWid (fun i => wdt bg sS sE (pc i)) k := by rw [xps_len]; simp
      have hm := sWid_mono (w := fun i => wdt bg sS sE (pc i)) (k + 1) (x 5) (by omega)
      have e5 : sWid (fun i => wdt bg sS sE (pc i)) (k + 1) = sWid (fun i => wdt bg sS sE (pc i)) k + wdt bg sS sE (pc k) := rfl
      simp only [fX3_replace_25, fX3_replace_34, w_const, w_iload, w_aload, w_iinc, w_istore, w_astore, w_iadd, w_isub, w_imul, w_iand, w_ior, w_ixor, w_ishl, w_ishr, w_ineg, w_i2c, w_dup, w_pop, w_dup_x1, w_dup_x2, w_dup2, w_ifeq, w_ifne, w_iflt, w_ifge, w_ifgt, w_ifle, w_iceq, w_icne, w_iclt, w_icge, w_icgt, w_icle, w_ret, w_iret, w_aret, w_max, w_sld, w_slen, w_new, w_newa, w_newq, w_obj, w_getf, w_putf, w_iald, w_iast, w_alen, w_aald, w_aast, w_copy, List.getElem?_cons_zero, List.getElem?_cons_succ, List.set_cons_zero, List.set_cons_succ, List.length_cons, List.length_nil, List.cons_append, List.nil_append, Option.some.injEq, exists_eq_left', true_and, and_true, Option.toList, Value.category, l_0, l_1, l_2, l_3, l_4, l_8, l_9, l_10, l_12, l_13, l_15, l_26, l_32, l_40, l_41, l_42, l_43, l_45, l_46, l_48, l_49, l_50, l_51, l_59, l_60, l_61, l_62, l_63, l_65, l_90, l_91, l_93, l_94, l_96, l_97, l_100, l_122, l_123, l_124, l_125, l_126, l_161, l_1000, l_67108863, q_nb0, q_nb1, q_ni, q_fi, q_fb0, q_fb1, HR2.1, q_le (show x 5 < 2147483648 by omega) (show k < 2147483648 by omega), show ¬ x 5 ≤ k by omega, if_false]
      refine w_callV4 (r := []) H2.1 (p_putPiece hb H2 HR2 HM2 hq hs hlt (show k < x 5 by omega) _ hc2 hlen.symm (by omega)) (by decide) ?_
      rintro v1 h3 ⟨rfl, sp3, H3, hc3, hf3⟩
      simp only [w_const, w_iload, w_aload, w_iinc, w_istore, w_astore, w_iadd, w_isub, w_imul, w_iand, w_ior, w_ixor, w_ishl, w_ishr, w_ineg, w_i2c, w_dup, w_pop, w_dup_x1, w_dup_x2, w_dup2, w_ifeq, w_ifne, w_iflt, w_ifge, w_ifgt, w_ifle, w_iceq, w_icne, w_iclt, w_icge, w_icgt, w_icle, w_ret, w_iret, w_aret, w_max, w_sld, w_slen, w_new, w_newa, w_newq, w_obj, w_getf, w_putf, w_iald, w_iast, w_alen, w_aald, w_aast, w_copy, List.getElem?_cons_zero, List.getElem?_cons_succ, List.set_cons_zero, List.set_cons_succ, List.length_cons, List.length_nil, List.cons_append, List.nil_append, Option.some.injEq, exists_eq_left', true_and, and_true, Option.toList, Value.category, l_0, l_1, l_2, l_3, l_4, l_8, l_9, l_10, l_12, l_13, l_15, l_26, l_32, l_40, l_41, l_42, l_43, l_45, l_46, l_48, l_49, l_50, l_51, l_59, l_60, l_61, l_62, l_63, l_65, l_90, l_91, l_93, l_94, l_96, l_97, l_100, l_122, l_123, l_124, l_125, l_126, l_161, l_1000, l_67108863, q_nb0, q_nb1, q_ni, q_fi, q_fb0, q_fb1, q_add]
      have w9 := ih (k + 1) sp3 h3 (by omega) H3 (vR_fr HR2 hf3 (nT hb)) (vM_fr HM2 hf3 (by unfold inT; decide) (by unfold inT; decide)) hc3 (hf2.tr hf3)
      rw [e5, ← Nat.add_assoc] at w9
      exact w9
  have w9 := loop (x 5) 0 sp1 h1 (by omega) H1 HR1 HM1 hct f1
  exact w9
theorem p_append {h : kv_H} {sp : Nat → Nat} {c : Nat} (H : vT h tl ts lt sp sz pl) (hs : sz ≤ 60) (hc : c < 128) : wm mX3_append [.ref 69, .int (nI c)] h (fun v h' => v = some (.int (nI (decide (sz < 60)).toNat)) ∧ vT h' tl ts (if sz < 60 then va_up lt sz c else lt) sp (if sz < 60 then sz + 1 else sz) pl ∧ kv_fr inT h h') := by
  have ap := ap_ne H.2.2.2
  have g1 : sz < 2147483648 := by omega
  refine iX3_append rfl rfl ?_
  simp only [fX3_append_0, w_const, w_iload, w_aload, w_iinc, w_istore, w_astore, w_iadd, w_isub, w_imul, w_iand, w_ior, w_ixor, w_ishl, w_ishr, w_ineg, w_i2c, w_dup, w_pop, w_dup_x1, w_dup_x2, w_dup2, w_ifeq, w_ifne, w_iflt, w_ifge, w_ifgt, w_ifle, w_iceq, w_icne, w_iclt, w_icge, w_icgt, w_icle, w_ret, w_iret, w_aret, w_max, w_sld, w_slen, w_new, w_newa, w_newq, w_obj, w_getf, w_putf, w_iald, w_iast, w_alen, w_aald, w_aast, w_copy, List.getElem?_cons_zero, List.getElem?_cons_succ, List.set_cons_zero, List.set_cons_succ, List.length_cons, List.length_nil, List.cons_append, List.nil_append, Option.some.injEq, exists_eq_left', true_and, and_true, Option.toList, Value.category, l_0, l_1, l_2, l_3, l_4, l_8, l_9, l_10, l_12, l_13, l_15, l_26, l_32, l_40, l_41, l_42, l_43, l_45, l_46, l_48, l_49, l_50, l_51, l_59, l_60, l_61, l_62, l_63, l_65, l_90, l_91, l_93, l_94, l_96, l_97, l_100, l_122, l_123, l_124, l_125, l_126, l_161, l_1000, l_67108863, q_nb0, q_nb1, q_ni, q_fi, q_fb0, q_fb1, H.1, q_lt g1 (show 60 < 2147483648 by decide)]
  by_cases e : sz < 60
  · have G2 : ∀ e, kv_g (kv_p h tl e) 69 = kv_g h 69 := fun e => kv_gp_ne (fun q => ap.2.1 q.symm)
    simp only [e, if_true, fX3_append_11, w_const, w_iload, w_aload, w_iinc, w_istore, w_astore, w_iadd, w_isub, w_imul, w_iand, w_ior, w_ixor, w_ishl, w_ishr, w_ineg, w_i2c, w_dup, w_pop, w_dup_x1, w_dup_x2, w_dup2, w_ifeq, w_ifne, w_iflt, w_ifge, w_ifgt, w_ifle, w_iceq, w_icne, w_iclt, w_icge, w_icgt, w_icle, w_ret, w_iret, w_aret, w_max, w_sld, w_slen, w_new, w_newa, w_newq, w_obj, w_getf, w_putf, w_iald, w_iast, w_alen, w_aald, w_aast, w_copy, List.getElem?_cons_zero, List.getElem?_cons_succ, List.set_cons_zero, List.set_cons_succ, List.length_cons, List.length_nil, List.cons_append, List.nil_append, Option.some.injEq, exists_eq_left', true_and, and_true, Option.toList, Value.category, l_0, l_1, l_2, l_3, l_4, l_8, l_9, l_10, l_12, l_13, l_15, l_26, l_32, l_40, l_41, l_42, l_43, l_45, l_46, l_48, l_49, l_50, l_51, l_59, l_60, l_61, l_62, l_63, l_65, l_90, l_91, l_93, l_94, l_96, l_97, l_100, l_122, l_123, l_124, l_125, l_126, l_161, l_1000, l_67108863, q_nb0, q_nb1, q_ni, q_fi, q_fb0, q_fb1, H.1, H.2.1, q_le (show 0 < 2147483648 by decide) g1, q_clamp g1, Nat.zero_le, q_nar (show c < 65536 by omega), G2, q_add, q_upd, decide_true, Bool.toNat_true]
    exact ⟨by decide, ⟨kv_gp_self ((kv_gp_ne (fun q => ap.2.1 q.symm)).trans H.1), (kv_gp_ne ap.2.1).trans (kv_gp_self H.2.1), (kv_gp_ne ap.1).trans ((kv_gp_ne ap.2.2.1).trans H.2.2.1), H.2.2.2⟩, (kv_fr.rf.p ap.2.2.2.2).p (Or.inl rfl)⟩
  · simp only [e, if_false, fX3_append_9, w_const, w_iload, w_aload, w_iinc, w_istore, w_astore, w_iadd, w_isub, w_imul, w_iand, w_ior, w_ixor, w_ishl, w_ishr, w_ineg, w_i2c, w_dup, w_pop, w_dup_x1, w_dup_x2, w_dup2, w_ifeq, w_ifne, w_iflt, w_ifge, w_ifgt, w_ifle, w_iceq, w_icne, w_iclt, w_icge, w_icgt, w_icle, w_ret, w_iret, w_aret, w_max, w_sld, w_slen, w_new, w_newa, w_newq, w_obj, w_getf, w_putf, w_iald, w_iast, w_alen, w_aald, w_aast, w_copy, List.getElem?_cons_zero, List.getElem?_cons_succ, List.set_cons_zero, List.set_cons_succ, List.length_cons, List.length_nil, List.cons_append, List.nil_append, Option.some.injEq, exists_eq_left', true_and, and_true, Option.toList, Value.category, l_0, l_1, l_2, l_3, l_4, l_8, l_9, l_10, l_12, l_13, l_15, l_26, l_32, l_40, l_41, l_42, l_43, l_45, l_46, l_48, l_49, l_50, l_51, l_59, l_60, l_61, l_62, l_63, l_65, l_90, l_91, l_93, l_94, l_96, l_97, l_100, l_122, l_123, l_124, l_125, l_126, l_161, l_1000, l_67108863, q_nb0, q_nb1, q_ni, q_fi, q_fb0, q_fb1, decide_false, Bool.toNat_false]
    exact ⟨H, kv_fr.rf⟩
theorem p_txClear {h : kv_H} {sp : Nat → Nat} (H : vT h tl ts lt sp sz pl) : wm mX3_clear [.ref 69] h (fun v h' => v = none ∧ vT h' tl ts lt sp 0 0 ∧ kv_fr inT h h') := by
  have ap := ap_ne H.2.2.2
  refine iX3_clear rfl ?_
  have G : ∀ e, kv_g (kv_p h 69 e) 69 = some e := fun e => kv_gp_self H.1
  simp only [fX3_clear_0, w_const, w_iload, w_aload, w_iinc, w_istore, w_astore, w_iadd, w_isub, w_imul, w_iand, w_ior, w_ixor, w_ishl, w_ishr, w_ineg, w_i2c, w_dup, w_pop, w_dup_x1, w_dup_x2, w_dup2, w_ifeq, w_ifne, w_iflt, w_ifge, w_ifgt, w_ifle, w_iceq, w_icne, w_iclt, w_icge, w_icgt, w_icle, w_ret, w_iret, w_aret, w_max, w_sld, w_slen, w_new, w_newa, w_newq, w_obj, w_getf, w_putf, w_iald, w_iast, w_alen, w_aald, w_aast, w_copy, List.getElem?_cons_zero, List.getElem?_cons_succ, List.set_cons_zero, List.set_cons_succ, List.length_cons, List.length_nil, List.cons_append, List.nil_append, Option.some.injEq, exists_eq_left', true_and, and_true, Option.toList, Value.category, l_0, l_1, l_2, l_3, l_4, l_8, l_9, l_10, l_12, l_13, l_15, l_26, l_32, l_40, l_41, l_42, l_43, l_45, l_46, l_48, l_49, l_50, l_51, l_59, l_60, l_61, l_62, l_63, l_65, l_90, l_91, l_93, l_94, l_96, l_97, l_100, l_122, l_123, l_124, l_125, l_126, l_161, l_1000, l_67108863, q_nb0, q_nb1, q_ni, q_fi, q_fb0, q_fb1, H.1, G, kv_pp]
  exact ⟨by decide, by decide, ⟨kv_gp_self H.1, (kv_gp_ne ap.2.1).trans H.2.1, (kv_gp_ne ap.1).trans H.2.2.1, H.2.2.2⟩, kv_fr.rf.p (Or.inl rfl)⟩
end RP
