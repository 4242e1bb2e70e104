/-! the two readers: a place that ends a row -/
def spc (c : Nat) : Prop := c = 123 ∨ c = 125 ∨ c = 62
section SM
variable {t : Nat → Nat} {n e N : Nat} {mn : Nat → Int32}
theorem at_eq (hen : e ≤ n) {k : Nat} (hk : k < e) : sAt t e k = sAt t n k := by
  unfold sAt
  rw [if_pos hk, if_pos (by omega)]
theorem at_end : sAt t e e = 0 := if_neg (Nat.lt_irrefl e)
theorem at_n (he : e < n → spc (t e)) : sAt t n e = 0 ∨ spc (sAt t n e) := by
  unfold sAt
  split
  · rename_i q
    exact Or.inr (he q)
  · exact Or.inl rfl
theorem at_test (hen : e ≤ n) (he : e < n → spc (t e)) {k c : Nat} (hk : k ≤ e) (h0 : c ≠ 0) (hc : ¬ spc c) : sAt t e k = c ↔ sAt t n k = c := by
  by_cases q : k < e
  · rw [at_eq hen q]
  · have : k = e := by omega
    subst this
    rw [at_end]
    constructor
    · intro z
      exact absurd z.symm h0
    · intro z
      rcases at_n he with y | y
      · rw [y] at z
        exact absurd z.symm h0
      · rw [z] at y
        exact absurd y hc
theorem spc_sml {c : Nat} (h : spc c) : sml c = false ∧ cap c = false ∧ qnt c = false ∧ bgn c = false ∧ c ≠ 40 ∧ c ≠ 41 ∧ c ≠ 0 := by
  rcases h with rfl | rfl | rfl <;> decide
theorem at_n2 (he : e < n → spc (t e)) : sml (sAt t n e) = false ∧ qnt (sAt t n e) = false ∧ bgn (sAt t n e) = false ∧ sAt t n e ≠ 40 ∧ sAt t n e ≠ 41 := by
  rcases at_n he with y | y
  · rw [y]
    decide
  · have := spc_sml y
    exact ⟨this.1, this.2.2.1, this.2.2.2.1, this.2.2.2.2.1, this.2.2.2.2.2.1⟩
theorem at_sml (hen : e ≤ n) (he : e < n → spc (t e)) {k : Nat} (hk : k ≤ e) : sml (sAt t e k) = sml (sAt t n k) := by
  by_cases q : k < e
  · rw [at_eq hen q]
  · have : k = e := by omega
    subst this
    rw [at_end, (at_n2 he).1]
    rfl
theorem at_qnt (hen : e ≤ n) (he : e < n → spc (t e)) {k : Nat} (hk : k ≤ e) : qnt (sAt t e k) = qnt (sAt t n k) ∧ (if qnt (sAt t e k) = true then sAt t e k else 0) = (if qnt (sAt t n k) = true then sAt t n k else 0) := by
  by_cases q : k < e
  · rw [at_eq hen q]
    exact ⟨rfl, rfl⟩
  · have : k = e := by omega
    subst this
    rw [at_end, (at_n2 he).2.1]
    exact ⟨rfl, rfl⟩
theorem sBr_same (hen : e ≤ n) (he : e < n → spc (t e)) : ∀ (f k : Nat) (l : Int32), k ≤ e → sBr t e f k l = sBr t n f k l := by
  intro f
  induction f with
  | zero => intro k l _; rfl
  | succ f ih =>
    intro k l hk
    unfold sBr
    rw [at_sml hen he hk]
    by_cases c1 : sml (sAt t n k) = true
    · have k1 : k < e := by
        have := c1
        rw [← at_sml hen he hk] at this
        exact (sAt_pos this).1
      rw [if_pos c1, if_pos c1, at_eq hen k1]
      by_cases c2 : sAt t n (k + 1) = 45
      · have c2' := (at_test hen he (show k + 1 ≤ e by omega) (by decide) (by unfold spc; decide)).mpr c2
        have k2 : k + 1 < e := sAt_ne c2' (by decide)
        rw [if_pos c2, if_pos c2', at_sml hen he (show k + 2 ≤ e by omega)]
        by_cases c3 : sml (sAt t n (k + 2)) = true
        · have k3 : k + 2 < e := by
            have := c3
            rw [← at_sml hen he (show k + 2 ≤ e by omega)] at this
            exact (sAt_pos this).1
          rw [at_eq hen k3]
          split
          · exact ih _ _ (by omega)
          · rfl
        · rw [if_neg (fun z => c3 z.1), if_neg (fun z => c3 z.1)]
      · rw [if_neg c2, if_neg (fun z => c2 ((at_test hen he (show k + 1 ≤ e by omega) (by decide) (by unfold spc; decide)).mp z))]
        exact ih _ _ (by omega)
    · rw [if_neg c1, if_neg c1]
theorem sBr_lee : ∀ (f k : Nat) (l : Int32) (k' : Nat) (l' : Int32), sBr t e f k l = some (k', l') → k ≤ e → k' ≤ e := by
  intro f
  induction f with
  | zero =>
    intro k l k' l' h hk
    simp only [sBr, Option.some.injEq, Prod.mk.injEq] at h
    omega
  | succ f ih =>
    intro k l k' l' h hk
    unfold sBr at h
    split at h
    · rename_i c1
      have k1 := (sAt_pos c1).1
      split at h
      · split at h
        · rename_i c3
          have := (sAt_pos c3.1).1
          exact ih _ _ _ _ h (by omega)
        · cases h
      · exact ih _ _ _ _ h (by omega)
    · simp only [Option.some.injEq, Prod.mk.injEq] at h
      omega
theorem sEl_same (hen : e ≤ n) (he : e < n → spc (t e)) {p : Nat} (hp : p < e) : sEl t e mn N p = sEl t n mn N p := by
  unfold sEl
  rw [at_eq hen hp]
  have e1 : (sAt t e (p + 1) = 94) = (sAt t n (p + 1) = 94) := propext (at_test hen he (show p + 1 ≤ e by omega) (by decide) (by unfold spc; decide))
  have k0 : (if sAt t n (p + 1) = 94 then p + 1 + 1 else p + 1) ≤ e := by
    split
    · rename_i q
      have := sAt_ne (e1 ▸ q : sAt t e (p + 1) = 94) (by decide)
      omega
    · omega
  simp only [e1]
  generalize (if sAt t n (p + 1) = 94 then p + 1 + 1 else p + 1) = k at k0 ⊢
  rw [sBr_same hen he N k (nI 0) k0]
  have e2 : sBe t e (decide (sAt t n (p + 1) = 94)) (sBr t n N k (nI 0)) = sBe t n (decide (sAt t n (p + 1) = 94)) (sBr t n N k (nI 0)) := by
    cases hb : sBr t n N k (nI 0) with
    | none => rfl
    | some r =>
      obtain ⟨k', l'⟩ := r
      have hk' : k' ≤ e := by
        rw [← sBr_same hen he N k (nI 0) k0] at hb
        exact sBr_lee _ _ _ _ _ hb k0
      have e3 : (sAt t e k' = 93) = (sAt t n k' = 93) := propext (at_test hen he hk' (by decide) (by unfold spc; decide))
      simp only [sBe, e3]
  rw [e2]
theorem sEl_bgn {p : Nat} (h : bgn (sAt t e p) = false) : sEl t e mn N p = none := by
  unfold bgn at h
  simp only [Bool.or_eq_false_iff, decide_eq_false_iff_not] at h
  obtain ⟨h1, h2, h3, h4⟩ := h
  unfold sEl
  simp only [h1, h2, h3, h4, Bool.false_eq_true, if_false]
theorem bgn_ne {c : Nat} (h : bgn c = true) : c ≠ 40 ∧ c ≠ 41 := by
  constructor <;> (intro z; subst z; revert h; decide)
theorem sCtx_stop {p : Nat} (h : bgn (sAt t n p) = false) : ∀ (f : Nat) (els : List (Int32 × Nat × Nat)) (u : Bool), sCtx t n mn N f p els u = some (p, els, u) := by
  intro f els u
  cases f with
  | zero => rfl
  | succ f =>
    unfold sCtx
    rw [if_neg (by rw [h]; decide)]
theorem ctx_same (hen : e ≤ n) (he : e < n → spc (t e)) : ∀ (f f2 p : Nat) (els : List (Int32 × Nat × Nat)) (u : Bool) (st ns : Nat), p ≤ e → e ≤ p + f → n ≤ p + f2 → sRow t e mn N false f p els u false st ns = (sCtx t n mn N f2 p els u).bind (fun r => if r.1 = e then some (r.2.1, r.2.2, ns) else none) ∧ ∀ r, sCtx t n mn N f2 p els u = some r → r.1 ≤ e := by
  have stop : ∀ (f f2 : Nat) (els : List (Int32 × Nat × Nat)) (u : Bool) (st ns : Nat), sRow t e mn N false f e els u false st ns = (sCtx t n mn N f2 e els u).bind (fun r => if r.1 = e then some (r.2.1, r.2.2, ns) else none) ∧ ∀ r, sCtx t n mn N f2 e els u = some r → r.1 ≤ e := by
    intro f f2 els u st ns
    rw [sCtx_stop (at_n2 he).2.2.1]
    refine ⟨?_, fun r hr => by cases hr; exact Nat.le_refl _⟩
    have : sRow t e mn N false f e els u false st ns = some (els, u, ns) := by
      cases f with
      | zero => rfl
      | succ f =>
        unfold sRow
        rw [if_neg (Nat.lt_irrefl e)]
        rfl
    rw [this]
    simp
  intro f
  induction f with
  | zero =>
    intro f2 p els u st ns hp hf hf2
    have : p = e := by omega
    subst this
    exact stop _ _ _ _ _ _
  | succ f ih =>
    intro f2 p els u st ns hp hf hf2
    by_cases q : p = e
    · subst q
      exact stop _ _ _ _ _ _
    have hpe : p < e := by omega
    cases f2 with
    | zero => omega
    | succ f2 =>
      have tp : sAt t n p = t p := by unfold sAt; rw [if_pos (by omega)]
      cases hb : bgn (sAt t n p) with
      | false =>
        rw [sCtx_stop hb]
        refine ⟨?_, fun r hr => by cases hr; exact hp⟩
        have : sRow t e mn N false (f + 1) p els u false st ns = none := by
          unfold sRow
          rw [if_pos hpe]
          split
          · rfl
          · split
            · rfl
            · rw [sEl_bgn (by rw [at_eq hen hpe]; exact hb)]
        rw [this]
        simp [q]
      | true =>
        have ne := bgn_ne hb
        rw [tp] at ne
        have e1 : sRow t e mn N false (f + 1) p els u false st ns = (match sEl t e mn N p with
          | none => none
          | some (x, s, w) => sRow t e mn N false f (if qnt (sAt t e x) = true then x + 1 else x) (els ++ [(s, if qnt (sAt t e x) = true then sAt t e x else 0, 0)]) (u || w) false st ns) := by
          conv => lhs; unfold sRow
          rw [if_pos hpe, if_neg ne.1, if_neg ne.2]
          rfl
        have e2 : sCtx t n mn N (f2 + 1) p els u = (match sEl t n mn N p with
          | none => none
          | some (x, s, w) => sCtx t n mn N f2 (if qnt (sAt t n x) = true then x + 1 else x) (els ++ [(s, if qnt (sAt t n x) = true then sAt t n x else 0, 0)]) (u || w)) := by
          conv => lhs; unfold sCtx
          rw [if_pos hb]
          rfl
        rw [e1, e2, sEl_same hen he hpe]
        cases hE : sEl t n mn N p with
        | none => exact ⟨rfl, fun r hr => by cases hr⟩
        | some r =>
          obtain ⟨x, s, w⟩ := r
          rw [← sEl_same hen he hpe] at hE
          have hx := sEl_le hE
          have hq := at_qnt hen he hx.2.2
          have nx := nx_le (t := t) ⟨hx.2.1, hx.2.2⟩
          dsimp only
          rw [hq.2, hq.1]
          rw [hq.1] at nx
          exact ih f2 _ _ _ _ _ nx.2 (by omega) (by omega)
end SM
