/-! applying a rule: the class -/
def rL (r : Rl) (i : Nat) : Nat := if mis (eQ r.1 i) = true then 0 else 1
def rH (r : Rl) (i : Nat) : Nat := if rep (eQ r.1 i) = true then 1000 else 1
def pcr (r : Rl) (i : Nat) : Nat := r.2.2.2.2.2.1.getD i 0
def sSr (r : Rl) (d : Nat) : Nat := (r.2.2.2.1.getD d (0, 0)).1
def sEr (r : Rl) (d : Nat) : Nat := (r.2.2.2.1.getD d (0, 0)).2
def wfC (r : Rl) : Prop := wfP r ∧ r.1.length ≤ 12 ∧ r.2.2.2.1.length ≤ 3 ∧ r.2.2.2.2.2.1.length ≤ 12 ∧ ∀ c ∈ r.2.2.2.2.2.1, sml c = true ∨ ((49 ≤ c ∧ c ≤ 51) ∧ c - 48 ≤ r.2.2.2.1.length)
theorem wfC_R {r : Rl} (w : wfC r) : wfR r := ⟨w.2.1, w.1.1, w.1.2.1, w.2.2.1, w.2.2.2.1⟩
def mtc (r : Rl) (lt : Nat → Nat) (sz pl : Nat) (last : Bool) : Nat := cMt lt sz pl (eS r.1) (rL r) (rH r) r.2.1 r.2.2.1 r.1.length last
def bgp (r : Rl) (lt : Nat → Nat) (sz pl j : Nat) : Nat := sPos lt sz (eS r.1) (rH r) (j - r.2.1) r.2.1 pl
def nSz (r : Rl) (lt : Nat → Nat) (sz pl : Nat) : Nat := sz - (bgp r lt sz pl r.2.2.1 - pl) + sWid (fun i => wdt (bgp r lt sz pl) (sSr r) (sEr r) (pcr r i)) r.2.2.2.2.2.1.length
def nPl (r : Rl) (lt : Nat → Nat) (sz pl : Nat) : Nat := pl + sWid (fun i => wdt (bgp r lt sz pl) (sSr r) (sEr r) (pcr r i)) r.2.2.2.2.2.2
def nTx (r : Rl) (lt : Nat → Nat) (sz pl : Nat) : List Nat := xps lt (bgp r lt sz pl) (sSr r) (sEr r) (pcr r) ((List.range pl).map lt) r.2.2.2.2.2.1.length ++ (List.range (sz - bgp r lt sz pl r.2.2.1)).map (fun i => lt (bgp r lt sz pl r.2.2.1 + i))
section AP
variable {A : Nat → Nat → Int32} {x : Nat → Nat} {r : Rl} {lt : Nat → Nat} {sz pl : Nat}
theorem sR_M (hs : sR A x r) (w : wfC r) : rM A x (eS r.1) (rL r) (rH r) := by
  obtain ⟨hE, hG, hP, k1, k2, k7⟩ := hs
  obtain ⟨⟨w1, w2, -⟩, w3, -⟩ := w
  have h0 := hE.1
  refine ⟨by omega, by omega, by omega, fun i hi => ?_⟩
  obtain ⟨a, b, c⟩ := rE_S hE (show i < 12 by omega) (by omega)
  refine ⟨a, b, c, ?_, ?_⟩
  · unfold rL
    split <;> omega
  · unfold rH
    split <;> omega
/-- the segment that a digit of the replacement names -/
theorem sg_at (w : wfC r) {c : Nat} (hc : c ∈ r.2.2.2.2.2.1) (hm : sml c = false) : (49 ≤ c ∧ c ≤ 51) ∧ c - 49 < r.2.2.2.1.length ∧ r.2.2.2.1[c - 49]? = some (sSr r (c - 49), sEr r (c - 49)) ∧ r.2.1 ≤ sSr r (c - 49) ∧ sSr r (c - 49) < sEr r (c - 49) ∧ sEr r (c - 49) ≤ r.2.2.1 := by
  obtain ⟨⟨w1, w2, w3, w4, w5, w6, w7, els2, st, more, hr, hl, hsg, hm2⟩, w8, w9, w10, w11⟩ := w
  rcases w11 c hc with q | ⟨q1, q2⟩
  · rw [hm] at q
    cases q
  · have h1 : c - 49 < r.2.2.2.1.length := by omega
    have h2 : r.2.2.2.1[c - 49]? = some (sSr r (c - 49), sEr r (c - 49)) := by
      unfold sSr sEr
      rw [List.getD_eq_getElem?_getD, List.getElem?_eq_getElem h1]
      rfl
    have h3 := hsg.1 _ _ h2
    exact ⟨q1, h1, h2, h3.1, h3.2.1, by rw [← hl]; exact h3.2.2.1⟩
theorem pcr_mem {i : Nat} (hi : i < r.2.2.2.2.2.1.length) : pcr r i ∈ r.2.2.2.2.2.1 := by
  unfold pcr
  rw [List.getD_eq_getElem?_getD, List.getElem?_eq_getElem hi]
  exact List.getElem_mem hi
theorem bgp_mono (hp : pl ≤ sz) {i j : Nat} (h : i ≤ j) : bgp r lt sz pl i ≤ bgp r lt sz pl j ∧ bgp r lt sz pl j ≤ sz ∧ pl ≤ bgp r lt sz pl i := ⟨sPos_mono _ _ _ _ hp (by omega), (sPos_le _ _ _ hp).2, (sPos_le _ _ _ hp).1⟩
theorem sR_Q (hs : sR A x r) (w : wfC r) (hp : pl ≤ sz) {bg : Nat → Nat} (hbg : ∀ j, r.2.1 ≤ j → j ≤ r.1.length → bg j = bgp r lt sz pl j) : rQ A x (pcr r) (sSr r) (sEr r) bg sz := by
  have w0 := w
  obtain ⟨hE, hG, hP, k1, k2, k7⟩ := hs
  obtain ⟨⟨w1, w2, w3, w4, w5, w6, w7, -⟩, w8, w9, w10, w11⟩ := w
  have h5 := hP.1
  refine ⟨by omega, by omega, fun i hi => ?_⟩
  have hmem := pcr_mem (r := r) (show i < r.2.2.2.2.2.1.length by omega)
  have hat : r.2.2.2.2.2.1[i]? = some (pcr r i) := by
    unfold pcr
    rw [List.getD_eq_getElem?_getD, List.getElem?_eq_getElem (by omega)]
    rfl
  refine ⟨hP.2.2 i _ (by omega) hat, ?_, fun hm => ?_⟩
  · rcases w7 _ hmem with q | q
    · have := sml_le q
      omega
    · omega
  · obtain ⟨q1, q2, q3, q4, q5, q6⟩ := sg_at w0 hmem hm
    obtain ⟨g1, g2⟩ := hG.2 _ _ (by omega) q3
    rw [hbg _ q4 (by omega), hbg _ (by omega) (by omega)]
    have mo := bgp_mono (r := r) (lt := lt) hp (show sSr r (pcr r i - 49) ≤ sEr r (pcr r i - 49) by omega)
    exact ⟨q1, g1, g2, by omega, by omega, mo.1, mo.2.1⟩
theorem wdt_eq (w : wfC r) {bg : Nat → Nat} (hbg : ∀ j, r.2.1 ≤ j → j ≤ r.1.length → bg j = bgp r lt sz pl j) {i : Nat} (hi : i < r.2.2.2.2.2.1.length) : wdt bg (sSr r) (sEr r) (pcr r i) = wdt (bgp r lt sz pl) (sSr r) (sEr r) (pcr r i) ∧ xpd lt bg (sSr r) (sEr r) (pcr r i) = xpd lt (bgp r lt sz pl) (sSr r) (sEr r) (pcr r i) := by
  by_cases hm : sml (pcr r i) = true
  · simp [wdt, xpd, hm]
  · have hm' : sml (pcr r i) = false := by simpa using hm
    obtain ⟨q1, q2, q3, q4, q5, q6⟩ := sg_at w (pcr_mem hi) hm'
    have l2 := w.1.2.1
    have e : wdt bg (sSr r) (sEr r) (pcr r i) = wdt (bgp r lt sz pl) (sSr r) (sEr r) (pcr r i) := by
      unfold wdt
      simp only [hm', Bool.false_eq_true, if_false]
      rw [hbg _ q4 (by omega), hbg _ (by omega) (by omega)]
    refine ⟨e, ?_⟩
    unfold xpd
    simp only [hm', Bool.false_eq_true, if_false]
    rw [e, hbg _ q4 (by omega)]
theorem sWid_eq (w : wfC r) {bg : Nat → Nat} (hbg : ∀ j, r.2.1 ≤ j → j ≤ r.1.length → bg j = bgp r lt sz pl j) : ∀ k, k ≤ r.2.2.2.2.2.1.length → sWid (fun i => wdt bg (sSr r) (sEr r) (pcr r i)) k = sWid (fun i => wdt (bgp r lt sz pl) (sSr r) (sEr r) (pcr r i)) k := by
  intro k
  induction k with
  | zero => intro _; rfl
  | succ k ih =>
    intro hk
    show sWid _ k + _ = sWid _ k + _
    rw [ih (by omega)]
    dsimp only
    rw [(wdt_eq w hbg (show k < _ by omega)).1]
theorem xps_eq (w : wfC r) {bg : Nat → Nat} (hbg : ∀ j, r.2.1 ≤ j → j ≤ r.1.length → bg j = bgp r lt sz pl j) (l : List Nat) : ∀ k, k ≤ r.2.2.2.2.2.1.length → xps lt bg (sSr r) (sEr r) (pcr r) l k = xps lt (bgp r lt sz pl) (sSr r) (sEr r) (pcr r) l k := by
  intro k
  induction k with
  | zero => intro _; rfl
  | succ k ih =>
    intro hk
    show xps _ _ _ _ _ _ k ++ _ = xps _ _ _ _ _ _ k ++ _
    rw [ih (by omega), (wdt_eq w hbg (show k < _ by omega)).2]
theorem p_apply {t : Nat → Nat} {n : Nat} {mn : Nat → Int32} {rs : List Rl} {ap : Nat} {lat : Int32} {sk k : Nat} {h : kv_H} {bg : Nat → Nat} (C : vC h t n mn rs ap lat sk lt sz pl) (HM : vM h bg) (hl : rs.length ≤ 8) (hr : rs[k]? = some r) (w : wfC r) (hbg : ∀ j, r.2.1 ≤ j → j ≤ r.1.length → bg j = bgp r lt sz pl j) (hs : sz ≤ 60) (hp : pl ≤ sz) (hlt : ∀ i, i < sz → lt i < 128) (ha : ap ≤ 100) : wm mX4_apply [.ref 1, .int (nI k)] h (fun v h' => kv_fr inX h h' ∧ (((100 ≤ ap ∨ 60 < nSz r lt sz pl) ∧ v = some (.int (nI 0)) ∧ vC h' t n mn rs ap lat 1 lt sz pl) ∨ (¬ (100 ≤ ap ∨ 60 < nSz r lt sz pl) ∧ v = some (.int (nI 1)) ∧ ∃ nl, ct (nTx r lt sz pl) nl ∧ vC h' t n mn rs (ap + 1) (nI k) sk nl (nSz r lt sz pl) (nPl r lt sz pl)))) := by
  have C0 := C
  obtain ⟨c1, ⟨rr, c5, crr⟩, -, ⟨RA, Rx, cR, cs⟩, ⟨tl, ts, sp, cT⟩, -⟩ := C
  have hk := (List.getElem?_eq_some_iff.mp hr).1
  have g1 : k < 2147483648 := by omega
  have HR := cR k (by omega)
  have hsR := cs k r hr
  have hb : 5 < 6 + 7 * k ∧ 6 + 7 * k < 69 - 6 := by omega
  have hq := sR_Q hsR w hp hbg
  obtain ⟨hE, hG, hP, k1, k2, k7⟩ := hsR
  have w0 := w
  obtain ⟨⟨w1, w2, w3, w4, w5, w6, w7, -⟩, w8, w9, w10, w11⟩ := w
  have h5 := hP.1
  have e2 : bg (Rx k 2) = bgp r lt sz pl r.2.2.1 := by rw [k2]; exact hbg _ (by omega) w2
  have mo := bgp_mono (r := r) (lt := lt) hp (Nat.le_refl r.2.2.1)
  have eW5 := sWid_eq w0 hbg _ (Nat.le_refl _)
  have eW7 := sWid_eq w0 hbg _ w6
  have eX := xps_eq w0 hbg ((List.range pl).map lt) _ (Nat.le_refl _)
  have enS : sz - (bg (Rx k 2) - pl) + sWid (fun i => wdt bg (sSr r) (sEr r) (pcr r i)) (Rx k 5) = nSz r lt sz pl := by
    unfold nSz
    rw [e2, h5, eW5]
  have hsl := sWid_le hq hs (Rx k 5) (Nat.le_refl _)
  refine iX4_apply rfl rfl ?_
  have stuck : wp fX4_apply_33 [some (.ref 1), some (.int (nI k)), some (.ref (6 + 7 * k))] [] h (fun v h' => kv_fr inX h h' ∧ v = some (.int (nI 0)) ∧ vC h' t n mn rs ap lat 1 lt sz pl) := by
    simp only [fX4_apply_33, w_const, w_iload, w_aload, w_iinc, w_istore, w_astore, w_iadd, w_isub, w_imul, w_iand, w_ior, w_ixor, w_ishl, w_ishr, w_ineg, w_i2c, w_dup, w_pop, w_dup_x1, w_dup_x2, w_dup2, w_ifeq, w_ifne, w_iflt, w_ifge, w_ifgt, w_ifle, w_iceq, w_icne, w_iclt, w_icge, w_icgt, w_icle, w_ret, w_iret, w_aret, w_max, w_sld, w_slen, w_new, w_newa, w_newq, w_obj, w_getf, w_putf, w_iald, w_iast, w_alen, w_aald, w_aast, w_copy, List.getElem?_cons_zero, List.getElem?_cons_succ, List.set_cons_zero, List.set_cons_succ, List.length_cons, List.length_nil, List.cons_append, List.nil_append, Option.some.injEq, exists_eq_left', true_and, and_true, Option.toList, Value.category, l_0, l_1, l_2, l_3, l_4, l_8, l_9, l_10, l_12, l_13, l_15, l_26, l_32, l_40, l_41, l_42, l_43, l_45, l_46, l_48, l_49, l_50, l_51, l_59, l_60, l_61, l_62, l_63, l_65, l_90, l_91, l_93, l_94, l_96, l_97, l_100, l_122, l_123, l_124, l_125, l_126, l_161, l_1000, l_67108863, q_nb0, q_nb1, q_ni, q_fi, q_fb0, q_fb1, c1]
    exact ⟨by decide, (kv_fr.rf.p (by unfold inX; decide)), vC_x C0 (kv_fr.rf.p rfl) (kv_gp_self c1) (fun i r hi => hi)⟩
  simp only [fX4_apply_0, w_const, w_iload, w_aload, w_iinc, w_istore, w_astore, w_iadd, w_isub, w_imul, w_iand, w_ior, w_ixor, w_ishl, w_ishr, w_ineg, w_i2c, w_dup, w_pop, w_dup_x1, w_dup_x2, w_dup2, w_ifeq, w_ifne, w_iflt, w_ifge, w_ifgt, w_ifle, w_iceq, w_icne, w_iclt, w_icge, w_icgt, w_icle, w_ret, w_iret, w_aret, w_max, w_sld, w_slen, w_new, w_newa, w_newq, w_obj, w_getf, w_putf, w_iald, w_iast, w_alen, w_aald, w_aast, w_copy, List.getElem?_cons_zero, List.getElem?_cons_succ, List.set_cons_zero, List.set_cons_succ, List.length_cons, List.length_nil, List.cons_append, List.nil_append, Option.some.injEq, exists_eq_left', true_and, and_true, Option.toList, Value.category, l_0, l_1, l_2, l_3, l_4, l_8, l_9, l_10, l_12, l_13, l_15, l_26, l_32, l_40, l_41, l_42, l_43, l_45, l_46, l_48, l_49, l_50, l_51, l_59, l_60, l_61, l_62, l_63, l_65, l_90, l_91, l_93, l_94, l_96, l_97, l_100, l_122, l_123, l_124, l_125, l_126, l_161, l_1000, l_67108863, q_nb0, q_nb1, q_ni, q_fi, q_fb0, q_fb1, c1, c5, q_le (show 0 < 2147483648 by decide) g1, q_clamp g1, Nat.zero_le, show k < 9 by omega, crr k (by omega), va_rf, q_le (show 100 < 2147483648 by decide) (show ap < 2147483648 by omega)]
  by_cases e : 100 ≤ ap
  · simp only [e, if_true]
    exact wp_mono stuck (fun v h' q => ⟨q.1, Or.inl ⟨Or.inl trivial, q.2⟩⟩)
  · simp only [e, if_false, fX4_apply_16, w_const, w_iload, w_aload, w_iinc, w_istore, w_astore, w_iadd, w_isub, w_imul, w_iand, w_ior, w_ixor, w_ishl, w_ishr, w_ineg, w_i2c, w_dup, w_pop, w_dup_x1, w_dup_x2, w_dup2, w_ifeq, w_ifne, w_iflt, w_ifge, w_ifgt, w_ifle, w_iceq, w_icne, w_iclt, w_icge, w_icgt, w_icle, w_ret, w_iret, w_aret, w_max, w_sld, w_slen, w_new, w_newa, w_newq, w_obj, w_getf, w_putf, w_iald, w_iast, w_alen, w_aald, w_aast, w_copy, List.getElem?_cons_zero, List.getElem?_cons_succ, List.set_cons_zero, List.set_cons_succ, List.length_cons, List.length_nil, List.cons_append, List.nil_append, Option.some.injEq, exists_eq_left', true_and, and_true, Option.toList, Value.category, l_0, l_1, l_2, l_3, l_4, l_8, l_9, l_10, l_12, l_13, l_15, l_26, l_32, l_40, l_41, l_42, l_43, l_45, l_46, l_48, l_49, l_50, l_51, l_59, l_60, l_61, l_62, l_63, l_65, l_90, l_91, l_93, l_94, l_96, l_97, l_100, l_122, l_123, l_124, l_125, l_126, l_161, l_1000, l_67108863, q_nb0, q_nb1, q_ni, q_fi, q_fb0, q_fb1, c1, false_or]
    refine w_callV2 (r := []) cT.1 (p_sizeAfter cT HR HM hq hs (by omega) (by rw [e2]; exact mo.2.2) (by rw [e2]; exact mo.2.1)) (by decide) ?_
    rintro v1 h2 ⟨rfl, rfl⟩
    rw [enS]
    simp only [w_const, w_iload, w_aload, w_iinc, w_istore, w_astore, w_iadd, w_isub, w_imul, w_iand, w_ior, w_ixor, w_ishl, w_ishr, w_ineg, w_i2c, w_dup, w_pop, w_dup_x1, w_dup_x2, w_dup2, w_ifeq, w_ifne, w_iflt, w_ifge, w_ifgt, w_ifle, w_iceq, w_icne, w_iclt, w_icge, w_icgt, w_icle, w_ret, w_iret, w_aret, w_max, w_sld, w_slen, w_new, w_newa, w_newq, w_obj, w_getf, w_putf, w_iald, w_iast, w_alen, w_aald, w_aast, w_copy, List.getElem?_cons_zero, List.getElem?_cons_succ, List.set_cons_zero, List.set_cons_succ, List.length_cons, List.length_nil, List.cons_append, List.nil_append, Option.some.injEq, exists_eq_left', true_and, and_true, Option.toList, Value.category, l_0, l_1, l_2, l_3, l_4, l_8, l_9, l_10, l_12, l_13, l_15, l_26, l_32, l_40, l_41, l_42, l_43, l_45, l_46, l_48, l_49, l_50, l_51, l_59, l_60, l_61, l_62, l_63, l_65, l_90, l_91, l_93, l_94, l_96, l_97, l_100, l_122, l_123, l_124, l_125, l_126, l_161, l_1000, l_67108863, q_nb0, q_nb1, q_ni, q_fi, q_fb0, q_fb1, q_le (show nSz r lt sz pl < 2147483648 by omega) (show 60 < 2147483648 by decide)]
    by_cases e3 : nSz r lt sz pl ≤ 60
    · simp only [e3, if_true, fX4_apply_40, w_const, w_iload, w_aload, w_iinc, w_istore, w_astore, w_iadd, w_isub, w_imul, w_iand, w_ior, w_ixor, w_ishl, w_ishr, w_ineg, w_i2c, w_dup, w_pop, w_dup_x1, w_dup_x2, w_dup2, w_ifeq, w_ifne, w_iflt, w_ifge, w_ifgt, w_ifle, w_iceq, w_icne, w_iclt, w_icge, w_icgt, w_icle, w_ret, w_iret, w_aret, w_max, w_sld, w_slen, w_new, w_newa, w_newq, w_obj, w_getf, w_putf, w_iald, w_iast, w_alen, w_aald, w_aast, w_copy, List.getElem?_cons_zero, List.getElem?_cons_succ, List.set_cons_zero, List.set_cons_succ, List.length_cons, List.length_nil, List.cons_append, List.nil_append, Option.some.injEq, exists_eq_left', true_and, and_true, Option.toList, Value.category, l_0, l_1, l_2, l_3, l_4, l_8, l_9, l_10, l_12, l_13, l_15, l_26, l_32, l_40, l_41, l_42, l_43, l_45, l_46, l_48, l_49, l_50, l_51, l_59, l_60, l_61, l_62, l_63, l_65, l_90, l_91, l_93, l_94, l_96, l_97, l_100, l_122, l_123, l_124, l_125, l_126, l_161, l_1000, l_67108863, q_nb0, q_nb1, q_ni, q_fi, q_fb0, q_fb1, c1]
      refine w_callV2 (r := []) cT.1 (p_replace hb cT HR HM hq hs hp hlt (by omega) (by rw [e2]; exact mo.2.2) (by rw [e2]; exact mo.2.1) (by rw [enS]; exact e3)) (by decide) ?_
      rintro v1 h3 ⟨rfl, nl, HT3, hct, hf3⟩
      rw [enS, k7, eW7] at HT3
      rw [e2, h5, eX] at hct
      have C3 := vC_t C0 hf3 HT3
      have G : ∀ e, kv_g (kv_p h3 1 e) 1 = some e := fun e => kv_gp_self C3.1
      simp only [w_const, w_iload, w_aload, w_iinc, w_istore, w_astore, w_iadd, w_isub, w_imul, w_iand, w_ior, w_ixor, w_ishl, w_ishr, w_ineg, w_i2c, w_dup, w_pop, w_dup_x1, w_dup_x2, w_dup2, w_ifeq, w_ifne, w_iflt, w_ifge, w_ifgt, w_ifle, w_iceq, w_icne, w_iclt, w_icge, w_icgt, w_icle, w_ret, w_iret, w_aret, w_max, w_sld, w_slen, w_new, w_newa, w_newq, w_obj, w_getf, w_putf, w_iald, w_iast, w_alen, w_aald, w_aast, w_copy, List.getElem?_cons_zero, List.getElem?_cons_succ, List.set_cons_zero, List.set_cons_succ, List.length_cons, List.length_nil, List.cons_append, List.nil_append, Option.some.injEq, exists_eq_left', true_and, and_true, Option.toList, Value.category, l_0, l_1, l_2, l_3, l_4, l_8, l_9, l_10, l_12, l_13, l_15, l_26, l_32, l_40, l_41, l_42, l_43, l_45, l_46, l_48, l_49, l_50, l_51, l_59, l_60, l_61, l_62, l_63, l_65, l_90, l_91, l_93, l_94, l_96, l_97, l_100, l_122, l_123, l_124, l_125, l_126, l_161, l_1000, l_67108863, q_nb0, q_nb1, q_ni, q_fi, q_fb0, q_fb1, C3.1, G, kv_pp, q_add]
      exact ⟨by decide, by decide, (fr_tX hf3).p (by unfold inX; decide), Or.inr ⟨by omega, nl, hct, vC_x C3 (kv_fr.rf.p rfl) (kv_gp_self C3.1) (fun i r hi => hi)⟩⟩
    · simp only [e3, if_false]
      exact wp_mono stuck (fun v h' q => ⟨q.1, Or.inl ⟨by omega, q.2⟩⟩)
end AP
