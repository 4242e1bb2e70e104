/-! code: both sides alike -/
def sgOf (q : Option Rl) : List (Nat × Nat) := match q with
  | none => []
  | some r => r.2.2.2.1
theorem okM_cg {mn mn2 : Nat → Int32} (hM : okM mn) (hm : ∀ j, j < 26 → mn2 j = mn j) : okM mn2 := by
  intro j hj
  rw [hm j hj]
  exact hM j hj
theorem code_same {t : Nat → Nat} {n : Nat} {mn mn2 : Nat → Int32} {rs : List Rl} {c : Nat} {a a2 : Int32} {t' t2 : Nat → Nat} {n' n2 : Nat} {mn' : Nat → Int32} {rs' : List Rl} {y' : Nat → Int32} {B' : Nat → Nat → Int32} (hn : n ≤ 48) (ht : ∀ i, t i < 128) (hl : rs.length ≤ 8) (hw : ∀ r ∈ rs, wfK r) (hM : okM mn) (hm : ∀ j, j < 26 → mn2 j = mn j) (X : cCode t n mn rs c a t' n' mn' rs') (Y : rCd t n mn2 rs (sgOf (cRule t n mn)) c a2 t2 n2 y' B') (R : ∀ j b, rs[j]? = some b → yR B' j b) : a = a2 ∧ t' = t2 ∧ n' = n2 ∧ (∀ j, j < 26 → B' 1 j = mn' j) ∧ y' 5 = nI rs'.length ∧ (∀ j r, rs'[j]? = some r → yR B' j r) ∧ rs'.length ≤ 8 ∧ (∀ r ∈ rs', wfK r) ∧ okM mn' ∧ n' ≤ 48 ∧ ∀ i, t' i < 128 := by
  unfold cCode at X
  unfold rCd at Y
  by_cases c1 : c < 32 ∨ 126 < c
  · rw [if_pos c1] at X Y
    obtain ⟨rfl, rfl, rfl, rfl, rfl⟩ := X
    obtain ⟨rfl, rfl, rfl, b1, y5⟩ := Y
    exact ⟨rfl, rfl, rfl, fun j hj => by rw [b1]; exact hm j hj, y5, R, hl, hw, hM, hn, ht⟩
  rw [if_neg c1] at X Y
  by_cases c2 : c = 32
  · rw [if_pos c2] at X
    rw [if_neg (show ¬ c = 59 by omega), if_pos c2] at Y
    obtain ⟨rfl, rfl, rfl, rfl, rfl⟩ := X
    obtain ⟨rfl, rfl, rfl, b1, y5⟩ := Y
    exact ⟨rfl, rfl, rfl, fun j hj => by rw [b1]; exact hm j hj, y5, R, hl, hw, hM, hn, ht⟩
  rw [if_neg c2] at X
  by_cases c3 : c = 59
  · rw [if_pos c3] at X Y
    obtain ⟨rfl, rfl, X⟩ := X
    obtain ⟨rfl, rfl, Y⟩ := Y
    unfold rdQ at Y
    -- nothing changed
    have same : a = a2 → B' 1 = mn2 → mn' = mn → rs' = rs → y' 5 = nI rs.length → a = a2 ∧ t2 = t2 ∧ 0 = 0 ∧ (∀ j, j < 26 → B' 1 j = mn' j) ∧ y' 5 = nI rs'.length ∧ (∀ j r, rs'[j]? = some r → yR B' j r) ∧ rs'.length ≤ 8 ∧ (∀ r ∈ rs', wfK r) ∧ okM mn' ∧ 0 ≤ 48 ∧ ∀ i, t2 i < 128 := by
      intro e1 e2 e3 e4 e5
      subst e3
      subst e4
      exact ⟨e1, rfl, rfl, fun j hj => by rw [e2]; exact hm j hj, e5, R, hl, hw, hM, by decide, ht⟩
    by_cases d : 2 ≤ n ∧ cap (t2 0) = true ∧ t2 1 = 61
    · rw [if_pos d] at X
      obtain ⟨X, ers⟩ := X
      by_cases d2 : 2 < n
      · rw [if_pos ⟨d2, d.2⟩, sEl_mn hm] at Y
        obtain ⟨Y, y5⟩ := Y
        cases hE : sEl t2 n mn n 2 with
        | none =>
          rw [hE] at X Y
          exact same (X.1.trans Y.1.symm) Y.2 X.2 ers y5
        | some q =>
          obtain ⟨x, s, u⟩ := q
          rw [hE] at X Y
          simp only [cDef] at X Y
          by_cases d3 : x = n
          · rw [if_pos d3] at X Y
            by_cases d4 : u = true
            · rw [if_pos d4] at X Y
              exact same (X.1.trans Y.1.symm) Y.2 X.2 ers y5
            · rw [if_neg d4] at X Y
              have s0 := (sEl_nng hM hE).2 (by simpa using d4)
              subst ers
              refine ⟨X.1.trans Y.1.symm, rfl, rfl, fun j hj => ?_, y5, R, hl, hw, ?_, by decide, ht⟩
              · rw [Y.2, X.2]
                unfold upd
                split
                · rfl
                · exact hm j hj
              · rw [X.2]
                intro j hj
                unfold upd
                split
                · exact Or.inr s0
                · exact hM j hj
          · rw [if_neg d3] at X Y
            exact same (X.1.trans Y.1.symm) Y.2 X.2 ers y5
      · have en : n = 2 := by omega
        subst en
        rw [if_neg (fun z => d2 z.1)] at Y
        have hE : sEl t2 2 mn 2 2 = none := sEl_bgn (by rw [at_end]; decide)
        rw [hE] at X
        have lA := (plc_le t2 62 2 0).2
        have tA := plc_at t2 62 2 0
        have hA : plc t2 62 2 0 = 2 := by
          by_cases z : plc t2 62 2 0 = 2
          · exact z
          · have h1 := tA (by omega)
            have h2 := cap_le d.2.1
            have h3 := d.2.2
            rcases (show plc t2 62 2 0 = 0 ∨ plc t2 62 2 0 = 1 by omega) with q | q
            · rw [q] at h1
              omega
            · rw [q] at h1
              omega
        rw [if_pos (Or.inl hA)] at Y
        exact same (X.1.trans Y.2.1.symm) Y.1 X.2 ers Y.2.2
    · rw [if_neg d] at X
      rw [if_neg (fun z => d ⟨by omega, z.2⟩)] at Y
      obtain ⟨X, emn⟩ := X
      obtain ⟨b1, Y⟩ := Y
      have rsame := rule_same (t := t2) (n := n) (mn := mn2)
      rw [cRule_mn hm] at rsame
      cases hq : cRule t2 n mn with
      | none =>
        rw [hq] at X rsame
        by_cases cd : (plc t2 62 n 0 = n ∨ (plc t2 123 n 0 < plc t2 62 n 0 ∧ plc t2 125 n 0 < plc t2 123 n 0) ∨ rpG t2 n (plc t2 62 n 0) = false)
        · have Y2 := Y
          unfold rpG at cd
          rw [if_pos cd] at Y2
          exact same (X.1.trans Y2.1.symm) b1 emn X.2 Y2.2
        · rcases rsame with z | z
          · exact absurd z cd
          · unfold rpG at cd
            rw [if_neg cd, z] at Y
            exact same (X.1.trans Y.1.symm) b1 emn X.2 Y.2
      | some r =>
        rw [hq] at X rsame Y
        obtain ⟨nc, hg, s1, s2⟩ := rsame
        unfold rpG at nc
        rw [if_neg nc, hg] at Y
        have Y' : rTl t2 n (plc t2 62 n 0) rs r.1 r.2.1 r.2.2.1 r.2.2.2.2.1 r.2.2.2.1.length r.2.2.2.1 a2 y' B' := Y
        have wp := cRule_wf hn hq
        have er : ((r.1, r.2.1, r.2.2.1, r.2.2.2.1, r.2.2.2.2.1, (sGv t2 (n - (plc t2 62 n 0 + 1)) (plc t2 62 n 0 + 1) none []).1, (sGv t2 (n - (plc t2 62 n 0 + 1)) (plc t2 62 n 0 + 1) none []).2.getD (sGv t2 (n - (plc t2 62 n 0 + 1)) (plc t2 62 n 0 + 1) none []).1.length) : Rl) = r := by
          rw [s2, s1]
        unfold rTl at Y'
        rw [er] at Y'
        have X' : (if r.2.2.2.2.1 = true then a = -nI 2 ∧ rs' = rs
          else if r.2.2.2.1.length < r.2.2.2.2.2.1.foldl gdg 0 then a = -nI 3 ∧ rs' = rs
          else if 8 ≤ rs.length ∨ 12 < r.1.length ∨ 3 < r.2.2.2.1.length ∨ 12 < r.2.2.2.2.2.1.length then a = -nI 4 ∧ rs' = rs
          else ((∃ r0, r0 ∈ rs ∧ mskL r0.1 r0.2.1 r.1 r.2.1) ∧ a = -5 ∧ rs' = rs) ∨ ((∀ r0, r0 ∈ rs → ¬ mskL r0.1 r0.2.1 r.1 r.2.1) ∧ a = nI (10 + rs.length) ∧ rs' = rs ++ [r])) := X
        by_cases f1 : r.2.2.2.2.1 = true
        · rw [if_pos f1] at X' Y'
          exact same (X'.1.trans Y'.1.symm) b1 emn X'.2 Y'.2
        rw [if_neg f1] at X' Y'
        have f1' : r.2.2.2.2.1 = false := by simpa using f1
        have dg := dig_same (t := t2) (n := n) (A := plc t2 62 n 0) (k := r.2.2.2.1.length) s1 wp.2.2.2.2.2.2.1
        by_cases f2 : r.2.2.2.1.length < r.2.2.2.2.2.1.foldl gdg 0
        · rw [if_pos f2] at X'
          rw [if_pos (dg.mpr f2)] at Y'
          exact same (X'.1.trans Y'.1.symm) b1 emn X'.2 Y'.2
        rw [if_neg f2] at X'
        rw [if_neg (fun z => f2 (dg.mp z))] at Y'
        have gl := (sGv_len t2 (n - (plc t2 62 n 0 + 1)) (plc t2 62 n 0 + 1) none []).1
        rw [s1] at gl
        simp only [List.length_nil, Nat.zero_add] at gl
        have eL : n - (plc t2 62 n 0 + 1) - cnt t2 124 (plc t2 62 n 0 + 1) (n - (plc t2 62 n 0 + 1)) = r.2.2.2.2.2.1.length := by omega
        rw [eL] at Y'
        by_cases f3 : 8 ≤ rs.length ∨ 12 < r.1.length ∨ 3 < r.2.2.2.1.length ∨ 12 < r.2.2.2.2.2.1.length
        · rw [if_pos f3] at X'
          rw [if_pos (by omega)] at Y'
          exact same (X'.1.trans Y'.1.symm) b1 emn X'.2 Y'.2
        rw [if_neg f3] at X'
        rw [if_neg (by omega)] at Y'
        obtain ⟨yr, Y'⟩ := Y'
        have nm := cRule_knw hM hq f1'
        have wk : wfK r := by
          refine ⟨⟨wp, by omega, by omega, by omega, fun c hc => ?_⟩, nm⟩
          rcases wp.2.2.2.2.2.2.1 c hc with z | z
          · exact Or.inl z
          · by_cases y : sml c = true
            · exact Or.inl y
            · refine Or.inr ⟨z, ?_⟩
              by_cases x : c - 48 ≤ r.2.2.2.1.length
              · exact x
              · exact absurd ((gdg_iff _ _ _).mpr (Or.inr ⟨c, hc, by simpa using y, by omega⟩)) f2
        have ms : ∀ i b, rs[i]? = some b → (mskY B' i rs.length b r ↔ mskL b.1 b.2.1 r.1 r.2.1) := by
          intro i b hb
          have wb := hw b (List.mem_of_getElem? hb)
          have w1 := wb.1.1.1
          have w2 := wb.1.1.2.1
          have w3 := wp.1
          have w4 := wp.2.1
          exact msk_same (R i b hb) yr wb.2 nm (by omega) (by omega)
        rcases X' with ⟨⟨r0, h0, hk⟩, ea, ers⟩ | ⟨hno, ea, ers⟩
        · rcases Y' with ⟨ea2, y5, -⟩ | ⟨-, -, hno2⟩
          · exact same (ea.trans ea2.symm) b1 emn ers y5
          · obtain ⟨i, hi⟩ := List.getElem?_of_mem h0
            exact absurd ((ms i r0 hi).mpr hk) (hno2 i r0 hi)
        · rcases Y' with ⟨-, -, i, b, hb, hk⟩ | ⟨ea2, y5, -⟩
          · exact absurd ((ms i b hb).mp hk) (hno b (List.mem_of_getElem? hb))
          · subst emn
            subst ers
            refine ⟨ea.trans ea2.symm, rfl, rfl, fun j hj => by rw [b1]; exact hm j hj, ?_, fun j b hb => ?_, ?_, fun b hb => ?_, hM, by decide, ht⟩
            · rw [y5, List.length_append, List.length_singleton]
            · by_cases q : j < rs.length
              · rw [List.getElem?_append_left q] at hb
                exact R j b hb
              · have hz := (List.getElem?_eq_some_iff.mp hb).1
                rw [List.length_append, List.length_singleton] at hz
                have ej : j = rs.length := by omega
                subst ej
                rw [List.getElem?_append_right (Nat.le_refl _), Nat.sub_self] at hb
                cases hb
                exact yr
            · rw [List.length_append, List.length_singleton]
              omega
            · rcases List.mem_append.mp hb with z | z
              · exact hw b z
              · rw [List.mem_singleton.mp z]
                exact wk
  · rw [if_neg c3] at X
    rw [if_neg c3, if_neg c2] at Y
    obtain ⟨rfl, rfl, X⟩ := X
    obtain ⟨b1, y5, Y⟩ := Y
    by_cases e : n < 48
    · rw [if_pos e] at X Y
      obtain ⟨rfl, rfl, rfl⟩ := X
      obtain ⟨rfl, rfl, rfl⟩ := Y
      refine ⟨rfl, rfl, rfl, fun j hj => by rw [b1]; exact hm j hj, y5, R, hl, hw, hM, by omega, fun i => ?_⟩
      unfold va_up
      split
      · omega
      · exact ht i
    · rw [if_neg e] at X Y
      obtain ⟨rfl, rfl, rfl⟩ := X
      obtain ⟨rfl, rfl, rfl⟩ := Y
      exact ⟨rfl, rfl, rfl, fun j hj => by rw [b1]; exact hm j hj, y5, R, hl, hw, hM, hn, ht⟩
