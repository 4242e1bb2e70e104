/-! rewriting: the class -/
def vL (h : kv_H) (t : Nat → Nat) (n : Nat) (mn : Nat → Int32) (rs : List Rl) (ap : Nat) (lat : Int32) (sk : Nat) (tx : List Nat) (pl : Nat) : Prop := ∃ lt, ct tx lt ∧ vC h t n mn rs ap lat sk lt tx.length pl
/-- the first rule that does not answer 'no match', and its answer -/
def cSc (tx : List Nat) (pl : Nat) (last : Bool) : List Rl → Nat → Option (Nat × Nat)
  | [], _ => none
  | r :: rs, i => if mtc r (gt tx) tx.length pl last = 0 then cSc tx pl last rs (i + 1) else some (i, mtc r (gt tx) tx.length pl last)
abbrev Ws : Type := List Nat × Nat × Nat × Int32 × Nat
/-- one round at the cursor: the new text, cursor, applied, latest, stuck; and whether it goes on -/
def wStep (rs : List Rl) (last : Bool) (s : Ws) : Ws × Bool := match cSc s.1 s.2.1 last rs 0 with
  | none => ((s.1, s.2.1 + 1, s.2.2), true)
  | some (i, c) => if c = 2 then (s, false) else match rs[i]? with
    | none => (s, false)
    | some r => if 100 ≤ s.2.2.1 ∨ 60 < nSz r (gt s.1) s.1.length s.2.1 then ((s.1, s.2.1, s.2.2.1, s.2.2.2.1, 1), false)
      else ((nTx r (gt s.1) s.1.length s.2.1, nPl r (gt s.1) s.1.length s.2.1, s.2.2.1 + 1, nI i, s.2.2.2.2), true)
def wRun (rs : List Rl) (last : Bool) : Nat → Ws → Ws
  | 0, s => s
  | f + 1, s => if s.2.1 < s.1.length then (if (wStep rs last s).2 = true then wRun rs last f (wStep rs last s).1 else (wStep rs last s).1) else s
/-- what holds of the text's part of a state -/
def okW (s : Ws) : Prop := s.1.length ≤ 60 ∧ s.2.1 ≤ s.1.length ∧ ltr s.1 ∧ s.2.2.1 ≤ 100 ∧ s.2.2.2.2 < 2
theorem cSc_some {tx : List Nat} {pl : Nat} {last : Bool} : ∀ (rs : List Rl) (i0 i c : Nat), cSc tx pl last rs i0 = some (i, c) → i0 ≤ i ∧ ∃ r, rs[i - i0]? = some r ∧ c = mtc r (gt tx) tx.length pl last ∧ c ≠ 0 := by
  intro rs
  induction rs with
  | nil => intro i0 i c h; cases h
  | cons r rs ih =>
    intro i0 i c h
    unfold cSc at h
    split at h
    · obtain ⟨h1, r', h2, h3⟩ := ih _ _ _ h
      refine ⟨by omega, r', ?_, h3⟩
      rw [show i - i0 = i - (i0 + 1) + 1 by omega, List.getElem?_cons_succ]
      exact h2
    · rename_i q
      simp only [Option.some.injEq, Prod.mk.injEq] at h
      obtain ⟨rfl, rfl⟩ := h
      exact ⟨Nat.le_refl _, r, by simp, rfl, q⟩
section RW
variable {t : Nat → Nat} {n : Nat} {mn : Nat → Int32} {rs : List Rl}
theorem wStep_ok {last : Bool} {s : Ws} (hw : ∀ r ∈ rs, wfC r) (o : okW s) (hlt : s.2.1 < s.1.length) (hk : s.2.2.2.2 = 0) : okW (wStep rs last s).1 ∧ s.2.1 ≤ (wStep rs last s).1.2.1 ∧ ((wStep rs last s).2 = true → (wStep rs last s).1.2.2.2.2 = 0 ∧ s.2.1 + s.2.2.1 < (wStep rs last s).1.2.1 + (wStep rs last s).1.2.2.1) ∧ s.2.2.1 ≤ (wStep rs last s).1.2.2.1 := by
  obtain ⟨tx, pl, ap, lat, sk⟩ := s
  obtain ⟨o1, o2, o3, o4, o5⟩ := o
  dsimp only at o1 o2 o3 o4 o5 hlt hk ⊢
  unfold wStep
  dsimp only
  split
  · exact ⟨⟨o1, hlt, o3, o4, o5⟩, by dsimp only; omega, fun _ => ⟨hk, by dsimp only; omega⟩, Nat.le_refl _⟩
  · split
    · exact ⟨⟨o1, o2, o3, o4, o5⟩, Nat.le_refl _, (fun q => by cases q), Nat.le_refl _⟩
    · split
      · exact ⟨⟨o1, o2, o3, o4, o5⟩, Nat.le_refl _, (fun q => by cases q), Nat.le_refl _⟩
      · rename_i r hr
        have w := hw r (List.mem_of_getElem? hr)
        split
        · exact ⟨⟨o1, o2, o3, o4, by show 1 < 2; decide⟩, Nat.le_refl _, (fun q => by cases q), Nat.le_refl _⟩
        · rename_i q
          have l1 := nTx_len (r := r) (lt := gt tx) o2
          have l2 := nPl_le (lt := gt tx) w o2
          exact ⟨⟨by dsimp only; omega, by dsimp only; omega, nTx_ltr w o3 o2, by dsimp only; omega, o5⟩, l2.1, fun _ => ⟨hk, by dsimp only; omega⟩, by dsimp only; omega⟩
theorem p_do {h : kv_H} {ap : Nat} {lat : Int32} {sk : Nat} {tx : List Nat} {pl : Nat} {last : Bool} (V : vL h t n mn rs ap lat sk tx pl) (hl : rs.length ≤ 8) (hw : ∀ r ∈ rs, wfC r) (o : okW (tx, pl, ap, lat, sk)) (hlt : pl < tx.length) : wm mX4_doAtCursor [.ref 1, .int (nI last.toNat)] h (fun v h' => v = some (.int (nI (wStep rs last (tx, pl, ap, lat, sk)).2.toNat)) ∧ vL h' t n mn rs (wStep rs last (tx, pl, ap, lat, sk)).1.2.2.1 (wStep rs last (tx, pl, ap, lat, sk)).1.2.2.2.1 (wStep rs last (tx, pl, ap, lat, sk)).1.2.2.2.2 (wStep rs last (tx, pl, ap, lat, sk)).1.1 (wStep rs last (tx, pl, ap, lat, sk)).1.2.1 ∧ kv_fr inX h h') := by
  obtain ⟨o1, o2, o3, o4, o5⟩ := o
  dsimp only at o1 o2 o3 o4 o5
  obtain ⟨lt, hct, C⟩ := V
  have hcg : ∀ i, i < tx.length → lt i = gt tx i := fun i hi => ct_gt hct hi
  have hl97 : ∀ i, i < tx.length → 97 ≤ lt i := fun i hi => by rw [hcg i hi]; exact (ltr_gt o3 hi).1
  have hl128 : ∀ i, i < tx.length → lt i < 128 := fun i hi => by rw [hcg i hi]; have := (ltr_gt o3 hi).2; omega
  refine iX4_doAtCursor rfl rfl ?_
  simp only [fX4_doAtCursor_0, w_const, w_iload, w_aload, w_iinc, w_istore, w_astore, w_iadd, w_isub, w_imul, w_iand, w_ior, w_ixor, w_ishl, w_ishr, w_ineg, w_i2c, w_dup, w_pop, w_dup_x1, w_dup_x2, w_dup2, w_ifeq, w_ifne, w_iflt, w_ifge, w_ifgt, w_ifle, w_iceq, w_icne, w_iclt, w_icge, w_icgt, w_icle, w_ret, w_iret, w_aret, w_max, w_sld, w_slen, w_new, w_newa, w_newq, w_obj, w_getf, w_putf, w_iald, w_iast, w_alen, w_aald, w_aast, w_copy, List.getElem?_cons_zero, List.getElem?_cons_succ, List.set_cons_zero, List.set_cons_succ, List.length_cons, List.length_nil, List.cons_append, List.nil_append, Option.some.injEq, exists_eq_left', true_and, and_true, Option.toList, Value.category, l_0, l_1, l_2, l_3, l_4, l_8, l_9, l_10, l_12, l_13, l_15, l_26, l_32, l_40, l_41, l_42, l_43, l_45, l_46, l_48, l_49, l_50, l_51, l_59, l_60, l_61, l_62, l_63, l_65, l_90, l_91, l_93, l_94, l_96, l_97, l_100, l_122, l_123, l_124, l_125, l_126, l_161, l_1000, l_67108863, q_nb0, q_nb1, q_ni, q_fi, q_fb0, q_fb1]
  have loop : ∀ (f i : Nat) (h1 : kv_H) (x3 : Option Value), i + f = rs.length → vC h1 t n mn rs ap lat sk lt tx.length pl → kv_fr inX h h1 → cSc tx pl last rs 0 = cSc tx pl last (rs.drop i) i → wp (kv_lim bX4_doAtCursor 2) [some (.ref 1), some (.int (nI last.toNat)), some (.int (nI i)), x3] [] h1 (fun v h' => v = some (.int (nI (wStep rs last (tx, pl, ap, lat, sk)).2.toNat)) ∧ vL h' t n mn rs (wStep rs last (tx, pl, ap, lat, sk)).1.2.2.1 (wStep rs last (tx, pl, ap, lat, sk)).1.2.2.2.1 (wStep rs last (tx, pl, ap, lat, sk)).1.2.2.2.2 (wStep rs last (tx, pl, ap, lat, sk)).1.1 (wStep rs last (tx, pl, ap, lat, sk)).1.2.1 ∧ kv_fr inX h h') := by
    intro f
    induction f with
    | zero =>
      intro i h1 x3 hi C1 hf hsc
      refine tX4_doAtCursor_2 ?_
      have e : i = rs.length := by omega
      subst e
      have hn : cSc tx pl last rs 0 = none := by rw [hsc, List.drop_length]; rfl
      have es : wStep rs last (tx, pl, ap, lat, sk) = ((tx, pl + 1, ap, lat, sk), true) := by unfold wStep; dsimp only; rw [hn]
      have C1' := C1
      obtain ⟨c1, -, -, -, ⟨tl, ts, sp, cT⟩, -⟩ := C1
      have ap2 := ap_ne cT.2.2.2
      simp only [fX4_doAtCursor_2, fX4_doAtCursor_53, w_const, w_iload, w_aload, w_iinc, w_istore, w_astore, w_iadd, w_isub, w_imul, w_iand, w_ior, w_ixor, w_ishl, w_ishr, w_ineg, w_i2c, w_dup, w_pop, w_dup_x1, w_dup_x2, w_dup2, w_ifeq, w_ifne, w_iflt, w_ifge, w_ifgt, w_ifle, w_iceq, w_icne, w_iclt, w_icge, w_icgt, w_icle, w_ret, w_iret, w_aret, w_max, w_sld, w_slen, w_new, w_newa, w_newq, w_obj, w_getf, w_putf, w_iald, w_iast, w_alen, w_aald, w_aast, w_copy, List.getElem?_cons_zero, List.getElem?_cons_succ, List.set_cons_zero, List.set_cons_succ, List.length_cons, List.length_nil, List.cons_append, List.nil_append, Option.some.injEq, exists_eq_left', true_and, and_true, Option.toList, Value.category, l_0, l_1, l_2, l_3, l_4, l_8, l_9, l_10, l_12, l_13, l_15, l_26, l_32, l_40, l_41, l_42, l_43, l_45, l_46, l_48, l_49, l_50, l_51, l_59, l_60, l_61, l_62, l_63, l_65, l_90, l_91, l_93, l_94, l_96, l_97, l_100, l_122, l_123, l_124, l_125, l_126, l_161, l_1000, l_67108863, q_nb0, q_nb1, q_ni, q_fi, q_fb0, q_fb1, c1, cT.1, q_le (show rs.length < 2147483648 by omega) (show rs.length < 2147483648 by omega), Nat.le_refl, if_true, q_add, es, Bool.toNat_true]
      refine ⟨by decide, ⟨lt, hct, vC_t C1' (kv_fr.rf.p (Or.inl rfl)) (tl := tl) (ts := ts) (sp := sp) ⟨kv_gp_self cT.1, (kv_gp_ne ap2.2.1).trans cT.2.1, (kv_gp_ne ap2.1).trans cT.2.2.1, cT.2.2.2⟩⟩, hf.p (by unfold inX; decide)⟩
    | succ f ih =>
      intro i h1 x3 hi C1 hf hsc
      refine tX4_doAtCursor_2 ?_
      have C1' := C1
      obtain ⟨c1, ⟨rr, c5, crr⟩, -, ⟨RA, Rx, cR, cs⟩, ⟨tl, ts, sp, cT⟩, bg, cM⟩ := C1
      have g1 : i < 2147483648 := by omega
      have hil : i < rs.length := by omega
      have hri := List.getElem?_eq_getElem hil
      have w := hw _ (List.getElem_mem hil)
      have hsR := cs i _ hri
      have hM := sR_M hsR w
      obtain ⟨hE, hG, hP, k1, k2, k7⟩ := id hsR
      have k0 := hE.1
      simp only [fX4_doAtCursor_2, fX4_doAtCursor_10, w_const, w_iload, w_aload, w_iinc, w_istore, w_astore, w_iadd, w_isub, w_imul, w_iand, w_ior, w_ixor, w_ishl, w_ishr, w_ineg, w_i2c, w_dup, w_pop, w_dup_x1, w_dup_x2, w_dup2, w_ifeq, w_ifne, w_iflt, w_ifge, w_ifgt, w_ifle, w_iceq, w_icne, w_iclt, w_icge, w_icgt, w_icle, w_ret, w_iret, w_aret, w_max, w_sld, w_slen, w_new, w_newa, w_newq, w_obj, w_getf, w_putf, w_iald, w_iast, w_alen, w_aald, w_aast, w_copy, List.getElem?_cons_zero, List.getElem?_cons_succ, List.set_cons_zero, List.set_cons_succ, List.length_cons, List.length_nil, List.cons_append, List.nil_append, Option.some.injEq, exists_eq_left', true_and, and_true, Option.toList, Value.category, l_0, l_1, l_2, l_3, l_4, l_8, l_9, l_10, l_12, l_13, l_15, l_26, l_32, l_40, l_41, l_42, l_43, l_45, l_46, l_48, l_49, l_50, l_51, l_59, l_60, l_61, l_62, l_63, l_65, l_90, l_91, l_93, l_94, l_96, l_97, l_100, l_122, l_123, l_124, l_125, l_126, l_161, l_1000, l_67108863, q_nb0, q_nb1, q_ni, q_fi, q_fb0, q_fb1, c1, c5, q_le (show rs.length < 2147483648 by omega) g1, show ¬ rs.length ≤ i by omega, if_false, q_le (show 0 < 2147483648 by decide) g1, q_clamp g1, Nat.zero_le, show i < 9 by omega, crr i (by omega), va_rf]
      refine w_callV3 (r := []) cM.1 (p_run (last := last) (by omega) cT (cR i (by omega)) cM hM o1 o2 hl97) (by decide) ?_
      rintro v1 h2 ⟨rfl, HM2, hf2⟩
      have C2 := vC_m C1' hf2 HM2
      rw [k0, k1, k2] at HM2 ⊢
      have rc := run_cd (lt := lt) (sz := tx.length) (S := eS rs[i].1) (lo := rL rs[i]) (hi := rH rs[i]) (last := last) (pl := pl) (bg := bg) (show rs[i].2.1 ≤ rs[i].2.2.1 by have := w.1.1; omega) w.1.2.1
      have em : (sRun lt tx.length pl (eS rs[i].1) (rL rs[i]) (rH rs[i]) rs[i].2.1 rs[i].2.2.1 rs[i].1.length last bg).1 = mtc rs[i] (gt tx) tx.length pl last := by
        rw [rc.1]
        exact mtc_cg hcg rs[i] o2 last
      have hd : rs.drop i = rs[i] :: rs.drop (i + 1) := List.drop_eq_getElem_cons hil
      have le2 : mtc rs[i] (gt tx) tx.length pl last ≤ 2 := cMt_le o2
      rw [em] at rc ⊢
      simp only [w_const, w_iload, w_aload, w_iinc, w_istore, w_astore, w_iadd, w_isub, w_imul, w_iand, w_ior, w_ixor, w_ishl, w_ishr, w_ineg, w_i2c, w_dup, w_pop, w_dup_x1, w_dup_x2, w_dup2, w_ifeq, w_ifne, w_iflt, w_ifge, w_ifgt, w_ifle, w_iceq, w_icne, w_iclt, w_icge, w_icgt, w_icle, w_ret, w_iret, w_aret, w_max, w_sld, w_slen, w_new, w_newa, w_newq, w_obj, w_getf, w_putf, w_iald, w_iast, w_alen, w_aald, w_aast, w_copy, List.getElem?_cons_zero, List.getElem?_cons_succ, List.set_cons_zero, List.set_cons_succ, List.length_cons, List.length_nil, List.cons_append, List.nil_append, Option.some.injEq, exists_eq_left', true_and, and_true, Option.toList, Value.category, l_0, l_1, l_2, l_3, l_4, l_8, l_9, l_10, l_12, l_13, l_15, l_26, l_32, l_40, l_41, l_42, l_43, l_45, l_46, l_48, l_49, l_50, l_51, l_59, l_60, l_61, l_62, l_63, l_65, l_90, l_91, l_93, l_94, l_96, l_97, l_100, l_122, l_123, l_124, l_125, l_126, l_161, l_1000, l_67108863, q_nb0, q_nb1, q_ni, q_fi, q_fb0, q_fb1, q_eq (show mtc rs[i] (gt tx) tx.length pl last < 2147483648 by omega) (show 2 < 2147483648 by decide)]
      by_cases e0 : mtc rs[i] (gt tx) tx.length pl last = 0
      · simp only [e0, show ¬ (0 : Nat) = 2 by decide, not_false_eq_true, if_true, fX4_doAtCursor_36, fX4_doAtCursor_47, w_const, w_iload, w_aload, w_iinc, w_istore, w_astore, w_iadd, w_isub, w_imul, w_iand, w_ior, w_ixor, w_ishl, w_ishr, w_ineg, w_i2c, w_dup, w_pop, w_dup_x1, w_dup_x2, w_dup2, w_ifeq, w_ifne, w_iflt, w_ifge, w_ifgt, w_ifle, w_iceq, w_icne, w_iclt, w_icge, w_icgt, w_icle, w_ret, w_iret, w_aret, w_max, w_sld, w_slen, w_new, w_newa, w_newq, w_obj, w_getf, w_putf, w_iald, w_iast, w_alen, w_aald, w_aast, w_copy, List.getElem?_cons_zero, List.getElem?_cons_succ, List.set_cons_zero, List.set_cons_succ, List.length_cons, List.length_nil, List.cons_append, List.nil_append, Option.some.injEq, exists_eq_left', true_and, and_true, Option.toList, Value.category, l_0, l_1, l_2, l_3, l_4, l_8, l_9, l_10, l_12, l_13, l_15, l_26, l_32, l_40, l_41, l_42, l_43, l_45, l_46, l_48, l_49, l_50, l_51, l_59, l_60, l_61, l_62, l_63, l_65, l_90, l_91, l_93, l_94, l_96, l_97, l_100, l_122, l_123, l_124, l_125, l_126, l_161, l_1000, l_67108863, q_nb0, q_nb1, q_ni, q_fi, q_fb0, q_fb1, show ¬ nI 0 = nI 1 by decide +kernel, q_add]
        refine ih (i + 1) h2 _ (by omega) C2 (hf.tr (fr_mX hf2)) ?_
        rw [hsc, hd]
        conv => lhs; unfold cSc
        rw [if_pos e0]
      · have hsome : cSc tx pl last rs 0 = some (i, mtc rs[i] (gt tx) tx.length pl last) := by
          rw [hsc, hd]
          unfold cSc
          rw [if_neg e0]
        by_cases e2 : mtc rs[i] (gt tx) tx.length pl last = 2
        · have es : wStep rs last (tx, pl, ap, lat, sk) = ((tx, pl, ap, lat, sk), false) := by
            unfold wStep
            dsimp only
            rw [hsome]
            dsimp only
            rw [if_pos e2]
          simp only [e2, not_true, if_false, fX4_doAtCursor_34, w_const, w_iload, w_aload, w_iinc, w_istore, w_astore, w_iadd, w_isub, w_imul, w_iand, w_ior, w_ixor, w_ishl, w_ishr, w_ineg, w_i2c, w_dup, w_pop, w_dup_x1, w_dup_x2, w_dup2, w_ifeq, w_ifne, w_iflt, w_ifge, w_ifgt, w_ifle, w_iceq, w_icne, w_iclt, w_icge, w_icgt, w_icle, w_ret, w_iret, w_aret, w_max, w_sld, w_slen, w_new, w_newa, w_newq, w_obj, w_getf, w_putf, w_iald, w_iast, w_alen, w_aald, w_aast, w_copy, List.getElem?_cons_zero, List.getElem?_cons_succ, List.set_cons_zero, List.set_cons_succ, List.length_cons, List.length_nil, List.cons_append, List.nil_append, Option.some.injEq, exists_eq_left', true_and, and_true, Option.toList, Value.category, l_0, l_1, l_2, l_3, l_4, l_8, l_9, l_10, l_12, l_13, l_15, l_26, l_32, l_40, l_41, l_42, l_43, l_45, l_46, l_48, l_49, l_50, l_51, l_59, l_60, l_61, l_62, l_63, l_65, l_90, l_91, l_93, l_94, l_96, l_97, l_100, l_122, l_123, l_124, l_125, l_126, l_161, l_1000, l_67108863, q_nb0, q_nb1, q_ni, q_fi, q_fb0, q_fb1, es, Bool.toNat_false]
          exact ⟨⟨lt, hct, C2⟩, hf.tr (fr_mX hf2)⟩
        · have e1 : mtc rs[i] (gt tx) tx.length pl last = 1 := by omega
          simp only [e1, show ¬ (1 : Nat) = 2 by decide, not_false_eq_true, if_true, fX4_doAtCursor_36, fX4_doAtCursor_41, w_const, w_iload, w_aload, w_iinc, w_istore, w_astore, w_iadd, w_isub, w_imul, w_iand, w_ior, w_ixor, w_ishl, w_ishr, w_ineg, w_i2c, w_dup, w_pop, w_dup_x1, w_dup_x2, w_dup2, w_ifeq, w_ifne, w_iflt, w_ifge, w_ifgt, w_ifle, w_iceq, w_icne, w_iclt, w_icge, w_icgt, w_icle, w_ret, w_iret, w_aret, w_max, w_sld, w_slen, w_new, w_newa, w_newq, w_obj, w_getf, w_putf, w_iald, w_iast, w_alen, w_aald, w_aast, w_copy, List.getElem?_cons_zero, List.getElem?_cons_succ, List.set_cons_zero, List.set_cons_succ, List.length_cons, List.length_nil, List.cons_append, List.nil_append, Option.some.injEq, exists_eq_left', true_and, and_true, Option.toList, Value.category, l_0, l_1, l_2, l_3, l_4, l_8, l_9, l_10, l_12, l_13, l_15, l_26, l_32, l_40, l_41, l_42, l_43, l_45, l_46, l_48, l_49, l_50, l_51, l_59, l_60, l_61, l_62, l_63, l_65, l_90, l_91, l_93, l_94, l_96, l_97, l_100, l_122, l_123, l_124, l_125, l_126, l_161, l_1000, l_67108863, q_nb0, q_nb1, q_ni, q_fi, q_fb0, q_fb1, not_true, if_false]
          have hbg := (rc.2 e1).1
          refine w_callV1 (r := []) C2.1 (p_apply C2 HM2 hl hri w hbg o1 o2 hl128 o4) (by decide) ?_
          rintro v1 h3 ⟨fX, hq⟩
          have fX2 := (hf.tr (fr_mX hf2)).tr fX
          rw [nSz_cg hcg, nPl_cg hcg, nTx_cg hcg w o2] at hq
          have es0 : wStep rs last (tx, pl, ap, lat, sk) = if 100 ≤ ap ∨ 60 < nSz rs[i] (gt tx) tx.length pl then ((tx, pl, ap, lat, 1), false) else ((nTx rs[i] (gt tx) tx.length pl, nPl rs[i] (gt tx) tx.length pl, ap + 1, nI i, sk), true) := by
            unfold wStep
            dsimp only
            rw [hsome]
            dsimp only
            rw [if_neg e2, hri]
          rcases hq with ⟨q1, rfl, C3⟩ | ⟨q1, rfl, nl, hct3, C3⟩
          · rw [if_pos q1] at es0
            simp only [w_const, w_iload, w_aload, w_iinc, w_istore, w_astore, w_iadd, w_isub, w_imul, w_iand, w_ior, w_ixor, w_ishl, w_ishr, w_ineg, w_i2c, w_dup, w_pop, w_dup_x1, w_dup_x2, w_dup2, w_ifeq, w_ifne, w_iflt, w_ifge, w_ifgt, w_ifle, w_iceq, w_icne, w_iclt, w_icge, w_icgt, w_icle, w_ret, w_iret, w_aret, w_max, w_sld, w_slen, w_new, w_newa, w_newq, w_obj, w_getf, w_putf, w_iald, w_iast, w_alen, w_aald, w_aast, w_copy, List.getElem?_cons_zero, List.getElem?_cons_succ, List.set_cons_zero, List.set_cons_succ, List.length_cons, List.length_nil, List.cons_append, List.nil_append, Option.some.injEq, exists_eq_left', true_and, and_true, Option.toList, Value.category, l_0, l_1, l_2, l_3, l_4, l_8, l_9, l_10, l_12, l_13, l_15, l_26, l_32, l_40, l_41, l_42, l_43, l_45, l_46, l_48, l_49, l_50, l_51, l_59, l_60, l_61, l_62, l_63, l_65, l_90, l_91, l_93, l_94, l_96, l_97, l_100, l_122, l_123, l_124, l_125, l_126, l_161, l_1000, l_67108863, q_nb0, q_nb1, q_ni, q_fi, q_fb0, q_fb1, es0, Bool.toNat_false]
            exact ⟨⟨lt, hct, C3⟩, fX2⟩
          · rw [if_neg q1] at es0
            simp only [w_const, w_iload, w_aload, w_iinc, w_istore, w_astore, w_iadd, w_isub, w_imul, w_iand, w_ior, w_ixor, w_ishl, w_ishr, w_ineg, w_i2c, w_dup, w_pop, w_dup_x1, w_dup_x2, w_dup2, w_ifeq, w_ifne, w_iflt, w_ifge, w_ifgt, w_ifle, w_iceq, w_icne, w_iclt, w_icge, w_icgt, w_icle, w_ret, w_iret, w_aret, w_max, w_sld, w_slen, w_new, w_newa, w_newq, w_obj, w_getf, w_putf, w_iald, w_iast, w_alen, w_aald, w_aast, w_copy, List.getElem?_cons_zero, List.getElem?_cons_succ, List.set_cons_zero, List.set_cons_succ, List.length_cons, List.length_nil, List.cons_append, List.nil_append, Option.some.injEq, exists_eq_left', true_and, and_true, Option.toList, Value.category, l_0, l_1, l_2, l_3, l_4, l_8, l_9, l_10, l_12, l_13, l_15, l_26, l_32, l_40, l_41, l_42, l_43, l_45, l_46, l_48, l_49, l_50, l_51, l_59, l_60, l_61, l_62, l_63, l_65, l_90, l_91, l_93, l_94, l_96, l_97, l_100, l_122, l_123, l_124, l_125, l_126, l_161, l_1000, l_67108863, q_nb0, q_nb1, q_ni, q_fi, q_fb0, q_fb1, es0, Bool.toNat_true]
            exact ⟨⟨nl, hct3, by rw [nTx_len o2]; exact C3⟩, fX2⟩
  obtain hh := loop rs.length 0 h none (by omega) C kv_fr.rf (by rw [List.drop_zero])
  exact hh
end RW
