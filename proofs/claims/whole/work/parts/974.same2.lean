/-! the two readers: keys and replacements -/
section SK
variable {t : Nat → Nat} {n e N : Nat} {mn : Nat → Int32}
theorem sKey_stop {p : Nat} (h : bgn (sAt t n p) = false) {ins : Bool} {st : Nat} {els : List (Int32 × Nat × Nat)} (h1 : ¬ (ins = false ∧ sAt t n p = 40)) (h2 : ¬ (ins = true ∧ st < els.length ∧ sAt t n p = 41)) : ∀ (f : Nat) (u : Bool) (sg : List (Nat × Nat)), sKey t n mn N f p els u ins st sg = some (p, els, u, ins, sg) := by
  intro f u sg
  cases f with
  | zero => rfl
  | succ f =>
    unfold sKey
    rw [if_neg h1, if_neg h2, if_neg (by rw [h]; decide)]
theorem key_same (hen : e ≤ n) (he : e < n → spc (t e)) : ∀ (f f2 p : Nat) (els : List (Int32 × Nat × Nat)) (u ins : Bool) (st st2 : Nat) (sg : List (Nat × Nat)), p ≤ e → e ≤ p + f → n ≤ p + f2 → (ins = true → st2 = st ∧ st ≤ els.length) → sRow t e mn N true f p els u ins st2 (sg.length + ins.toNat) = (sKey t n mn N f2 p els u ins st sg).bind (fun r => if r.1 = e ∧ r.2.2.2.1 = false then some (r.2.1, r.2.2.1, r.2.2.2.2.length) else none) ∧ ∀ r, sKey t n mn N f2 p els u ins st sg = some r → r.1 ≤ e := by
  have stop : ∀ (f f2 : Nat) (els : List (Int32 × Nat × Nat)) (u ins : Bool) (st st2 : Nat) (sg : List (Nat × Nat)), sRow t e mn N true f e els u ins st2 (sg.length + ins.toNat) = (sKey t n mn N f2 e els u ins st sg).bind (fun r => if r.1 = e ∧ r.2.2.2.1 = false then some (r.2.1, r.2.2.1, r.2.2.2.2.length) else none) ∧ ∀ r, sKey t n mn N f2 e els u ins st sg = some r → r.1 ≤ e := by
    intro f f2 els u ins st st2 sg
    have a2 := at_n2 he
    rw [sKey_stop a2.2.2.1 (fun z => a2.2.2.2.1 z.2) (fun z => a2.2.2.2.2 z.2.2)]
    refine ⟨?_, fun r hr => by cases hr; exact Nat.le_refl _⟩
    have : sRow t e mn N true f e els u ins st2 (sg.length + ins.toNat) = if ins = true then none else some (els, u, sg.length + ins.toNat) := by
      cases f with
      | zero => rfl
      | succ f =>
        unfold sRow
        rw [if_neg (Nat.lt_irrefl e)]
    rw [this]
    cases ins <;> simp
  intro f
  induction f with
  | zero =>
    intro f2 p els u ins st st2 sg hp hf hf2 hst
    have : p = e := by omega
    subst this
    exact stop _ _ _ _ _ _ _ _
  | succ f ih =>
    intro f2 p els u ins st st2 sg hp hf hf2 hst
    by_cases q : p = e
    · subst q
      exact stop _ _ _ _ _ _ _ _
    have hpe : p < e := by omega
    cases f2 with
    | zero => omega
    | succ f2 =>
      have tp : sAt t n p = t p := by unfold sAt; rw [if_pos (by omega)]
      have dead : (sRow t e mn N true (f + 1) p els u ins st2 (sg.length + ins.toNat) = none) → bgn (sAt t n p) = false → ¬ (ins = false ∧ sAt t n p = 40) → ¬ (ins = true ∧ st < els.length ∧ sAt t n p = 41) → sRow t e mn N true (f + 1) p els u ins st2 (sg.length + ins.toNat) = (sKey t n mn N (f2 + 1) p els u ins st sg).bind (fun r => if r.1 = e ∧ r.2.2.2.1 = false then some (r.2.1, r.2.2.1, r.2.2.2.2.length) else none) ∧ ∀ r, sKey t n mn N (f2 + 1) p els u ins st sg = some r → r.1 ≤ e := by
        intro h0 hb h1 h2
        rw [sKey_stop hb h1 h2, h0]
        refine ⟨?_, fun r hr => by cases hr; exact hp⟩
        simp [q]
      by_cases c1 : t p = 40
      · have nb : bgn (sAt t n p) = false := by rw [tp, c1]; decide
        cases ins with
        | true =>
          refine dead ?_ nb (fun z => by cases z.1) (fun z => by rw [tp, c1] at z; exact absurd z.2.2 (by decide))
          unfold sRow
          rw [if_pos hpe, if_pos c1, if_neg (fun z => by cases z.2)]
        | false =>
          have e1 : sRow t e mn N true (f + 1) p els u false st2 (sg.length + false.toNat) = sRow t e mn N true f (p + 1) els u true els.length (sg.length + true.toNat) := by
            conv => lhs; unfold sRow
            rw [if_pos hpe, if_pos c1, if_pos ⟨rfl, rfl⟩]
            rfl
          have e2 : sKey t n mn N (f2 + 1) p els u false st sg = sKey t n mn N f2 (p + 1) els u true els.length sg := by
            conv => lhs; unfold sKey
            rw [if_pos ⟨rfl, by rw [tp]; exact c1⟩]
          rw [e1, e2]
          exact ih f2 (p + 1) els u true els.length els.length sg (by omega) (by omega) (by omega) (fun _ => ⟨rfl, Nat.le_refl _⟩)
      by_cases c2 : t p = 41
      · have nb : bgn (sAt t n p) = false := by rw [tp, c2]; decide
        by_cases c3 : ins = true ∧ st < els.length
        · obtain ⟨ci, cs⟩ := c3
          subst ci
          have hs := hst rfl
          have e1 : sRow t e mn N true (f + 1) p els u true st2 (sg.length + true.toNat) = sRow t e mn N true f (p + 1) els u false st2 ((sg ++ [(st, els.length)]).length + false.toNat) := by
            conv => lhs; unfold sRow
            rw [if_pos hpe, if_neg c1, if_pos c2, if_pos ⟨rfl, by omega⟩]
            simp
          have e2 : sKey t n mn N (f2 + 1) p els u true st sg = sKey t n mn N f2 (p + 1) els u false st (sg ++ [(st, els.length)]) := by
            conv => lhs; unfold sKey
            rw [if_neg (fun z => by cases z.1), if_pos ⟨rfl, cs, by rw [tp]; exact c2⟩]
          rw [e1, e2]
          exact ih f2 (p + 1) els u false st st2 _ (by omega) (by omega) (by omega) (fun z => by cases z)
        · refine dead ?_ nb (fun z => by rw [tp, c2] at z; exact absurd z.2 (by decide)) (fun z => c3 ⟨z.1, z.2.1⟩)
          unfold sRow
          rw [if_pos hpe, if_neg c1, if_pos c2, if_neg (fun z => by have := hst z.1; exact c3 ⟨z.1, by omega⟩)]
      · have n1 : ¬ (ins = false ∧ sAt t n p = 40) := fun z => c1 (by rw [← tp]; exact z.2)
        have n2 : ¬ (ins = true ∧ st < els.length ∧ sAt t n p = 41) := fun z => c2 (by rw [← tp]; exact z.2.2)
        cases hb : bgn (sAt t n p) with
        | false =>
          refine dead ?_ hb n1 n2
          unfold sRow
          rw [if_pos hpe, if_neg c1, if_neg c2, sEl_bgn (by rw [at_eq hen hpe]; exact hb)]
        | true =>
          have e1 : sRow t e mn N true (f + 1) p els u ins st2 (sg.length + ins.toNat) = (match sEl t e mn N p with
            | none => none
            | some (x, s, w) => sRow t e mn N true f (if qnt (sAt t e x) = true then x + 1 else x) (els ++ [(s, if qnt (sAt t e x) = true then sAt t e x else 0, if ins = true then sg.length + ins.toNat else 0)]) (u || w) ins st2 (sg.length + ins.toNat)) := by
            conv => lhs; unfold sRow
            rw [if_pos hpe, if_neg c1, if_neg c2]
            rfl
          have e2 : sKey t n mn N (f2 + 1) p els u ins st sg = (match sEl t n mn N p with
            | none => none
            | some (x, s, w) => sKey t n mn N f2 (if qnt (sAt t n x) = true then x + 1 else x) (els ++ [(s, if qnt (sAt t n x) = true then sAt t n x else 0, if ins = true then sg.length + 1 else 0)]) (u || w) ins st sg) := by
            conv => lhs; unfold sKey
            rw [if_neg n1, if_neg n2, if_pos hb]
            rfl
          have e3 : (if ins = true then sg.length + ins.toNat else 0) = (if ins = true then sg.length + 1 else 0) := by cases ins <;> rfl
          rw [e1, e2, e3, sEl_same hen he hpe]
          cases hE : sEl t n mn N p with
          | none => exact ⟨rfl, fun r hr => by cases hr⟩
          | some r =>
            obtain ⟨x, s, w⟩ := r
            rw [← sEl_same hen he hpe] at hE
            have hx := sEl_le hE
            have hq := at_qnt hen he hx.2.2
            have nx := nx_le (t := t) ⟨hx.2.1, hx.2.2⟩
            dsimp only
            rw [hq.2, hq.1]
            rw [hq.1] at nx
            refine ih f2 _ _ _ _ _ _ _ nx.2 (by omega) (by omega) (fun z => ?_)
            have := hst z
            rw [List.length_append]
            exact ⟨this.1, by omega⟩
/-- the replacement -/
theorem rep_same : ∀ (f f2 p : Nat) (mk : Option Nat) (ps : List Nat), p + f = n → n ≤ p + f2 → sRep t n f2 p mk ps = if (allR t f p = true ∧ cnt t 124 p f + mk.isSome.toNat ≤ 1) then some (sGv t f p mk ps) else none := by
  intro f
  induction f with
  | zero =>
    intro f2 p mk ps hp hf
    have h1 : allR t 0 p = true ∧ cnt t 124 p 0 + mk.isSome.toNat ≤ 1 := by
      refine ⟨rfl, ?_⟩
      cases mk <;> simp [cnt]
    rw [if_pos h1]
    cases f2 with
    | zero => rfl
    | succ f2 =>
      unfold sRep
      rw [if_neg (by omega)]
      rfl
  | succ f ih =>
    intro f2 p mk ps hp hf
    cases f2 with
    | zero => omega
    | succ f2 =>
      have ea : allR t (f + 1) p = (rOk (t p) && allR t f (p + 1)) := rfl
      have ec : cnt t 124 p (f + 1) = (if t p = 124 then 1 else 0) + cnt t 124 (p + 1) f := rfl
      have eg : sGv t (f + 1) p mk ps = if t p = 124 then sGv t f (p + 1) (some ps.length) ps else sGv t f (p + 1) mk (ps ++ [t p]) := rfl
      unfold sRep
      rw [if_pos (by omega), ea, ec, eg]
      by_cases c1 : t p = 124
      · have o1 : rOk (t p) = true := by rw [c1]; rfl
        rw [if_pos c1, if_pos c1, o1, Bool.true_and]
        cases mk with
        | none =>
          rw [if_pos ⟨c1, rfl⟩, ih f2 (p + 1) _ _ (by omega) (by omega)]
          have : (1 + cnt t 124 (p + 1) f + (none : Option Nat).isSome.toNat ≤ 1) = (cnt t 124 (p + 1) f + (some ps.length).isSome.toNat ≤ 1) := by
            apply propext
            show 1 + cnt t 124 (p + 1) f + 0 ≤ 1 ↔ cnt t 124 (p + 1) f + 1 ≤ 1
            omega
          simp only [this]
        | some m =>
          rw [if_neg (fun z => by cases z.2), if_neg (fun z => by rw [c1] at z; exact absurd z (by decide)), if_neg (fun z => by have : 1 + cnt t 124 (p + 1) f + 1 ≤ 1 := z.2; omega)]
      · rw [if_neg (fun z => c1 z.1), if_neg c1, if_neg c1, Nat.zero_add]
        have o2 : rOk (t p) = true ↔ (sml (t p) = true ∨ (49 ≤ t p ∧ t p ≤ 51)) := by
          unfold rOk
          simp only [Bool.or_eq_true, decide_eq_true_eq]
          constructor
          · rintro (q | q | q | q | q)
            · exact Or.inl q
            all_goals omega
          · rintro (q | q)
            · exact Or.inl q
            · right
              omega
        by_cases c2 : sml (t p) = true ∨ (49 ≤ t p ∧ t p ≤ 51)
        · rw [if_pos c2, o2.mpr c2, Bool.true_and]
          exact ih f2 (p + 1) mk _ (by omega) (by omega)
        · have o3 : rOk (t p) = false := by
            cases hq : rOk (t p)
            · rfl
            · exact absurd (o2.mp hq) c2
          rw [if_neg c2, o3, if_neg (fun z => by simp at z)]
theorem plc_ne (t : Nat → Nat) (c : Nat) : ∀ (f i k : Nat), i ≤ k → k < plc t c f i → t k ≠ c := by
  intro f
  induction f with
  | zero => intro i k h1 h2; exact absurd h2 (by unfold plc; omega)
  | succ f ih =>
    intro i k h1 h2
    unfold plc at h2
    by_cases e : t i = c
    · rw [if_pos e] at h2
      omega
    · rw [if_neg e] at h2
      by_cases q : k = i
      · subst q
        exact e
      · exact ih (i + 1) k (by omega) h2
theorem allR_bad {t : Nat → Nat} {k : Nat} (h : rOk (t k) = false) : ∀ (f p : Nat), p ≤ k → k < p + f → allR t f p = false := by
  intro f
  induction f with
  | zero => intro p h1 h2; omega
  | succ f ih =>
    intro p h1 h2
    unfold allR
    by_cases q : k = p
    · subst q
      rw [h]
      rfl
    · rw [ih (p + 1) (by omega) (by omega), Bool.and_false]
end SK
