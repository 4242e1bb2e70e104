/-! the two readers: a whole rule -/
def rpG (t : Nat → Nat) (n A : Nat) : Bool := allR t (n - (A + 1)) (A + 1) && decide (cnt t 124 (A + 1) (n - (A + 1)) ≤ 1)
def gk (t : Nat → Nat) (mn : Nat → Int32) (N A cl P : Nat) (els1 : List (Int32 × Nat × Nat)) (u1 : Bool) (ns1 : Nat) : Option (List (Int32 × Nat × Nat) × Nat × Nat × Bool × Nat) := match sRow t cl mn N true (cl - P) P els1 u1 false 0 ns1 with
  | none => none
  | some (els2, u2, ns2) => if els1.length < els2.length then (if cl = A then some (els2, els1.length, els2.length, u2, ns2) else (match sRow t A mn N false (A - (cl + 1)) (cl + 1) els2 u2 false 0 ns2 with
    | none => none
    | some (els3, u3, ns3) => some (els3, els1.length, els2.length, u3, ns3))) else none
def agr (t : Nat → Nat) (n A : Nat) (q : Option Rl) (G : Option (List (Int32 × Nat × Nat) × Nat × Nat × Bool × Nat)) : Prop := match q with
  | none => G = none ∨ rpG t n A = false
  | some r => G = some (r.1, r.2.1, r.2.2.1, r.2.2.2.2.1, r.2.2.2.1.length) ∧ rpG t n A = true ∧ (sGv t (n - (A + 1)) (A + 1) none []).1 = r.2.2.2.2.2.1 ∧ (sGv t (n - (A + 1)) (A + 1) none []).2.getD (sGv t (n - (A + 1)) (A + 1) none []).1.length = r.2.2.2.2.2.2
section SR
variable {t : Nat → Nat} {n : Nat} {mn : Nat → Int32}
theorem cR4_no {ks ke p : Nat} {sg : List (Nat × Nat)} {els : List (Int32 × Nat × Nat)} {u : Bool} (h : sAt t n p ≠ 62) : cR4 t n ks ke sg p els u = none := by
  unfold cR4
  rw [if_neg h]
theorem cR4_at {A ks ke : Nat} {sg : List (Nat × Nat)} {els : List (Int32 × Nat × Nat)} {u : Bool} (hA : A < n) (tA : t A = 62) : agr t n A (cR4 t n ks ke sg A els u) (some (els, ks, ke, u, sg.length)) := by
  have h1 : sAt t n A = 62 := by unfold sAt; rw [if_pos hA]; exact tA
  have hr := rep_same (t := t) (n := n) (n - (A + 1)) n (A + 1) none [] (by omega) (by omega)
  have e : (allR t (n - (A + 1)) (A + 1) = true ∧ cnt t 124 (A + 1) (n - (A + 1)) + (none : Option Nat).isSome.toNat ≤ 1) ↔ rpG t n A = true := by
    unfold rpG
    rw [Bool.and_eq_true, decide_eq_true_eq]
    exact Iff.rfl
  unfold cR4
  rw [if_pos h1, hr]
  by_cases c : rpG t n A = true
  · rw [if_pos (e.mpr c)]
    exact ⟨rfl, c, rfl, rfl⟩
  · rw [if_neg (fun z => c (e.mp z))]
    exact Or.inr (by simpa using c)
theorem key_all {A C cl P : Nat} {els : List (Int32 × Nat × Nat)} {u : Bool} (hA : A < n) (tA : t A = 62) (nA : ∀ k, k < A → t k ≠ 62) (nC : ∀ k, k < C → t k ≠ 125) (tC : C < n → t C = 125) (hcl : cl = if C < A then C else A) (hP : P ≤ cl) : agr t n A (cR2 t n mn P els u) (gk t mn n A cl P els u 0) := by
  have cA : cl ≤ A := by
    rw [hcl]
    split <;> omega
  have cC : cl ≤ C := by
    rw [hcl]
    split <;> omega
  have scl : spc (t cl) := by
    rw [hcl]
    split
    · exact Or.inr (Or.inl (tC (by omega)))
    · exact Or.inr (Or.inr tA)
  have at' : ∀ k, k < n → sAt t n k = t k := fun k hk => if_pos hk
  obtain ⟨k1, k2⟩ := key_same (t := t) (n := n) (e := cl) (N := n) (mn := mn) (by omega) (fun _ => scl) (cl - P) n P els u false els.length 0 [] hP (by omega) (by omega) (fun z => by cases z)
  have k1' : sRow t cl mn n true (cl - P) P els u false 0 0 = _ := k1
  unfold cR2 gk
  rw [k1']
  cases hK : sKey t n mn n n P els u false els.length [] with
  | none => exact Or.inl rfl
  | some r =>
    obtain ⟨p2, els2, u2, ins, sg⟩ := r
    have p2le : p2 ≤ cl := k2 _ hK
    simp only [Option.bind_some]
    by_cases c1 : ins = false ∧ els.length < els2.length
    · rw [if_pos c1]
      obtain ⟨ci, cl1⟩ := c1
      subst ci
      by_cases c2 : p2 = cl
      · rw [if_pos ⟨c2, rfl⟩]
        subst c2
        simp only [if_pos cl1]
        unfold cR3
        by_cases c3 : C < A
        · have ecl : p2 = C := by rw [hcl, if_pos c3]
          have h125 : sAt t n p2 = 125 := by rw [at' p2 (by omega), ecl]; exact tC (by omega)
          rw [if_pos h125, if_neg (show ¬ p2 = A by omega)]
          obtain ⟨x1, x2⟩ := ctx_same (t := t) (n := n) (e := A) (N := n) (mn := mn) (by omega) (fun _ => Or.inr (Or.inr tA)) (A - (p2 + 1)) n (p2 + 1) els2 u2 0 sg.length (by omega) (by omega) (by omega)
          rw [x1]
          cases hX : sCtx t n mn n n (p2 + 1) els2 u2 with
          | none => exact Or.inl rfl
          | some r3 =>
            obtain ⟨p3, els3, u3⟩ := r3
            have p3le : p3 ≤ A := x2 _ hX
            simp only [Option.bind_some]
            by_cases c4 : p3 = A
            · subst c4
              rw [if_pos rfl]
              exact cR4_at hA tA
            · rw [if_neg c4, cR4_no (by rw [at' p3 (by omega)]; exact nA p3 (by omega))]
              exact Or.inl rfl
        · have ecl : p2 = A := by rw [hcl, if_neg c3]
          subst ecl
          rw [if_neg (show ¬ sAt t n p2 = 125 by rw [at' p2 hA, tA]; decide), if_pos rfl]
          exact cR4_at hA tA
      · rw [if_neg (fun z => c2 z.1)]
        unfold cR3
        rw [if_neg (show ¬ sAt t n p2 = 125 by rw [at' p2 (by omega)]; exact nC p2 (by omega))]
        dsimp only
        rw [cR4_no (by rw [at' p2 (by omega)]; exact nA p2 (by omega))]
        exact Or.inl rfl
    · rw [if_neg c1]
      left
      by_cases c2 : p2 = cl ∧ ins = false
      · rw [if_pos c2]
        dsimp only
        rw [if_neg (fun z => c1 ⟨c2.2, z⟩)]
      · rw [if_neg c2]
theorem cRule_no (h : ∀ p, sAt t n p ≠ 62) : cRule t n mn = none := by
  have n4 : ∀ ks ke sg p els u, cR4 t n ks ke sg p els u = none := fun ks ke sg p els u => cR4_no (h p)
  have n3 : ∀ ks sg p els u, cR3 t n mn ks sg p els u = none := by
    intro ks sg p els u
    unfold cR3
    split
    · rfl
    · exact n4 _ _ _ _ _ _
  have n2 : ∀ p els u, cR2 t n mn p els u = none := by
    intro p els u
    unfold cR2
    split
    · rfl
    · split
      · exact n3 _ _ _ _ _
      · rfl
  unfold cRule
  split
  · split
    · rfl
    · split
      · exact n2 _ _ _
      · rfl
  · exact n2 _ _ _
/-- whether a rule reads, and as what: both alike -/
theorem rule_same : match cRule t n mn with
    | none => (plc t 62 n 0 = n ∨ (plc t 123 n 0 < plc t 62 n 0 ∧ plc t 125 n 0 < plc t 123 n 0) ∨ rpG t n (plc t 62 n 0) = false) ∨ gd t mn n (plc t 62 n 0) (if plc t 123 n 0 < plc t 62 n 0 then plc t 123 n 0 else 0) (if plc t 123 n 0 < plc t 62 n 0 then plc t 123 n 0 + 1 else 0) (if plc t 125 n 0 < plc t 62 n 0 then plc t 125 n 0 else plc t 62 n 0) = none
    | some r => ¬ (plc t 62 n 0 = n ∨ (plc t 123 n 0 < plc t 62 n 0 ∧ plc t 125 n 0 < plc t 123 n 0) ∨ rpG t n (plc t 62 n 0) = false) ∧ gd t mn n (plc t 62 n 0) (if plc t 123 n 0 < plc t 62 n 0 then plc t 123 n 0 else 0) (if plc t 123 n 0 < plc t 62 n 0 then plc t 123 n 0 + 1 else 0) (if plc t 125 n 0 < plc t 62 n 0 then plc t 125 n 0 else plc t 62 n 0) = some (r.1, r.2.1, r.2.2.1, r.2.2.2.2.1, r.2.2.2.1.length) ∧ (sGv t (n - (plc t 62 n 0 + 1)) (plc t 62 n 0 + 1) none []).1 = r.2.2.2.2.2.1 ∧ (sGv t (n - (plc t 62 n 0 + 1)) (plc t 62 n 0 + 1) none []).2.getD (sGv t (n - (plc t 62 n 0 + 1)) (plc t 62 n 0 + 1) none []).1.length = r.2.2.2.2.2.2 := by
  have lA := (plc_le t 62 n 0).2
  have lO := (plc_le t 123 n 0).2
  have lC := (plc_le t 125 n 0).2
  have tA := plc_at t 62 n 0
  have tO := plc_at t 123 n 0
  have tC := plc_at t 125 n 0
  have nA : ∀ k, k < plc t 62 n 0 → t k ≠ 62 := fun k hk => plc_ne t 62 n 0 k (Nat.zero_le _) hk
  have nO : ∀ k, k < plc t 123 n 0 → t k ≠ 123 := fun k hk => plc_ne t 123 n 0 k (Nat.zero_le _) hk
  have nC : ∀ k, k < plc t 125 n 0 → t k ≠ 125 := fun k hk => plc_ne t 125 n 0 k (Nat.zero_le _) hk
  rw [Nat.zero_add] at lA lO lC tA tO tC
  generalize plc t 62 n 0 = A at lA tA nA ⊢
  generalize plc t 123 n 0 = O at lO tO nO ⊢
  generalize plc t 125 n 0 = C at lC tC nC ⊢
  by_cases hAn : A = n
  · rw [cRule_no (fun p => ?_)]
    · exact Or.inl (Or.inl hAn)
    · unfold sAt
      split
      · rename_i q
        exact nA p (by omega)
      · decide
  have hA : A < n := by omega
  have tA' := tA hA
  have at' : ∀ k, k < n → sAt t n k = t k := fun k hk => if_pos hk
  -- what agr gives
  have fin : ∀ (q : Option Rl) (G : Option (List (Int32 × Nat × Nat) × Nat × Nat × Bool × Nat)), ¬ (O < A ∧ C < O) → agr t n A q G → (match q with
    | none => (A = n ∨ (O < A ∧ C < O) ∨ rpG t n A = false) ∨ G = none
    | some r => ¬ (A = n ∨ (O < A ∧ C < O) ∨ rpG t n A = false) ∧ G = some (r.1, r.2.1, r.2.2.1, r.2.2.2.2.1, r.2.2.2.1.length) ∧ (sGv t (n - (A + 1)) (A + 1) none []).1 = r.2.2.2.2.2.1 ∧ (sGv t (n - (A + 1)) (A + 1) none []).2.getD (sGv t (n - (A + 1)) (A + 1) none []).1.length = r.2.2.2.2.2.2) := by
    intro q G hco ha
    cases q with
    | none =>
      rcases ha with z | z
      · exact Or.inr z
      · exact Or.inl (Or.inr (Or.inr z))
    | some r =>
      obtain ⟨a1, a2, a3, a4⟩ := ha
      refine ⟨?_, a1, a3, a4⟩
      rintro (z | z | z)
      · exact hAn z
      · exact hco z
      · rw [a2] at z
        cases z
  by_cases hOA : O < A
  · -- an opening brace ahead of the arrow
    have ex : ∃ j, j < n ∧ t j = 123 := ⟨O, by omega, tO (by omega)⟩
    unfold cRule
    rw [if_pos ex, if_pos hOA, if_pos hOA]
    obtain ⟨x1, x2⟩ := ctx_same (t := t) (n := n) (e := O) (N := n) (mn := mn) (by omega) (fun _ => Or.inl (tO (by omega))) (O - 0) n 0 [] false 0 0 (Nat.zero_le _) (by omega) (by omega)
    unfold gd
    rw [x1]
    cases hX : sCtx t n mn n n 0 [] false with
    | none => exact Or.inr rfl
    | some r =>
      obtain ⟨p, els, u⟩ := r
      have ple : p ≤ O := x2 _ hX
      simp only [Option.bind_some]
      by_cases c1 : p = O
      · subst c1
        rw [if_pos (show sAt t n p = 123 by rw [at' p (by omega)]; exact tO (by omega)), if_pos rfl]
        have hCp : ¬ C < p := by
          intro z
          obtain ⟨-, y2⟩ := ctx_same (t := t) (n := n) (e := C) (N := n) (mn := mn) (by omega) (fun _ => Or.inr (Or.inl (tC (by omega)))) (C - 0) n 0 [] false 0 0 (Nat.zero_le _) (by omega) (by omega)
          have : p ≤ C := y2 _ hX
          omega
        have hCp2 : C ≠ p := by
          intro z
          have h1 := tC (by omega)
          have h2 := tO (by omega)
          rw [z, h2] at h1
          cases h1
        have hP : p + 1 ≤ (if C < A then C else A) := by split <;> omega
        exact fin _ _ (fun z => hCp z.2) (key_all hA tA' nA nC tC rfl hP)
      · rw [if_neg (show ¬ sAt t n p = 123 by rw [at' p (by omega)]; exact nO p (by omega)), if_neg c1]
        exact Or.inr rfl
  · by_cases ex : ∃ j, j < n ∧ t j = 123
    · -- a brace behind the arrow alone
      obtain ⟨j, hj, tj⟩ := ex
      have hAj : A < j := by
        rcases Nat.lt_trichotomy j A with z | z | z
        · exact absurd tj (nO j (by omega))
        · rw [z, tA'] at tj
          cases tj
        · exact z
      have bad : rpG t n A = false := by
        unfold rpG
        rw [allR_bad (k := j) (by rw [tj]; decide) _ _ (by omega) (by omega), Bool.false_and]
      have hn : cRule t n mn = none := by
        unfold cRule
        rw [if_pos ⟨j, hj, tj⟩]
        obtain ⟨-, y2⟩ := ctx_same (t := t) (n := n) (e := A) (N := n) (mn := mn) (by omega) (fun _ => Or.inr (Or.inr tA')) (A - 0) n 0 [] false 0 0 (Nat.zero_le _) (by omega) (by omega)
        cases hX : sCtx t n mn n n 0 [] false with
        | none => rfl
        | some r =>
          obtain ⟨p, els, u⟩ := r
          have ple : p ≤ A := y2 _ hX
          dsimp only
          rw [if_neg]
          rw [at' p (by omega)]
          by_cases z : p = A
          · rw [z, tA']
            decide
          · exact nO p (by omega)
      rw [hn]
      exact Or.inl (Or.inr (Or.inr bad))
    · unfold cRule
      rw [if_neg ex, if_neg hOA, if_neg hOA]
      exact fin _ _ (fun z => hOA z.1) (key_all hA tA' nA nC tC rfl (Nat.zero_le _))
end SR
