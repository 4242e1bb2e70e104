/-! the two readers: sets that are known, digits, masks -/
section SN
variable {t : Nat → Nat} {n e N : Nat} {mn mn2 : Nat → Int32}
theorem sEl_mn (hm : ∀ j, j < 26 → mn2 j = mn j) (p : Nat) : sEl t e mn2 N p = sEl t e mn N p := by
  unfold sEl
  by_cases c : cap (sAt t e p) = true
  · have := cap_le c
    rw [hm _ (by omega)]
  · simp only [c, Bool.false_eq_true, if_false]
theorem sCtx_mn (hm : ∀ j, j < 26 → mn2 j = mn j) : ∀ (f p : Nat) (els : List (Int32 × Nat × Nat)) (u : Bool), sCtx t e mn2 N f p els u = sCtx t e mn N f p els u := by
  intro f
  induction f with
  | zero => intro p els u; rfl
  | succ f ih =>
    intro p els u
    unfold sCtx
    rw [sEl_mn hm]
    simp only [ih]
theorem sKey_mn (hm : ∀ j, j < 26 → mn2 j = mn j) : ∀ (f p : Nat) (els : List (Int32 × Nat × Nat)) (u ins : Bool) (st : Nat) (sg : List (Nat × Nat)), sKey t e mn2 N f p els u ins st sg = sKey t e mn N f p els u ins st sg := by
  intro f
  induction f with
  | zero => intro p els u ins st sg; rfl
  | succ f ih =>
    intro p els u ins st sg
    unfold sKey
    rw [sEl_mn hm]
    simp only [ih]
theorem cRule_mn (hm : ∀ j, j < 26 → mn2 j = mn j) : cRule t n mn2 = cRule t n mn := by
  unfold cRule cR2 cR3
  simp only [sCtx_mn hm, sKey_mn hm]
/-- sets are known where nothing was undefined -/
def knw (els : List (Int32 × Nat × Nat)) (u : Bool) : Prop := u = false → ∀ y ∈ els, y.1 ≠ -nI 1
theorem knw_push {els : List (Int32 × Nat × Nat)} {u w : Bool} {x p q g : Nat} {s : Int32} (hM : okM mn) (h : knw els u) (hE : sEl t e mn N p = some (x, s, w)) : knw (els ++ [(s, q, g)]) (u || w) := by
  intro z y hy
  rw [Bool.or_eq_false_iff] at z
  rcases List.mem_append.mp hy with a | a
  · exact h z.1 y a
  · rw [List.mem_singleton.mp a]
    have := (sEl_nng hM hE).2 z.2
    intro b
    dsimp only at b
    rw [b] at this
    exact absurd this (by decide +kernel)
theorem sCtx_knw (hM : okM mn) : ∀ (f p : Nat) (els : List (Int32 × Nat × Nat)) (u : Bool) (r : Nat × List (Int32 × Nat × Nat) × Bool), sCtx t e mn N f p els u = some r → knw els u → knw r.2.1 r.2.2 := by
  intro f
  induction f with
  | zero => intro p els u r h k; cases h; exact k
  | succ f ih =>
    intro p els u r h k
    unfold sCtx at h
    split at h
    · split at h
      · cases h
      · rename_i x s w hE
        exact ih _ _ _ _ h (knw_push hM k hE)
    · cases h
      exact k
theorem sKey_knw (hM : okM mn) : ∀ (f p : Nat) (els : List (Int32 × Nat × Nat)) (u ins : Bool) (st : Nat) (sg : List (Nat × Nat)) (r : Nat × List (Int32 × Nat × Nat) × Bool × Bool × List (Nat × Nat)), sKey t e mn N f p els u ins st sg = some r → knw els u → knw r.2.1 r.2.2.1 := by
  intro f
  induction f with
  | zero => intro p els u ins st sg r h k; cases h; exact k
  | succ f ih =>
    intro p els u ins st sg r h k
    unfold sKey at h
    split at h
    · exact ih _ _ _ _ _ _ _ h k
    · split at h
      · exact ih _ _ _ _ _ _ _ h k
      · split at h
        · split at h
          · cases h
          · rename_i x s w hE
            exact ih _ _ _ _ _ _ _ h (knw_push hM k hE)
        · cases h
          exact k
theorem cR4_knw {ks ke p : Nat} {sg : List (Nat × Nat)} {els : List (Int32 × Nat × Nat)} {u : Bool} {r : Rl} (h : cR4 t n ks ke sg p els u = some r) (k : knw els u) : knw r.1 r.2.2.2.2.1 := by
  unfold cR4 at h
  split at h
  · split at h
    · cases h
    · cases h
      exact k
  · cases h
theorem cR2_knw (hM : okM mn) {p : Nat} {els : List (Int32 × Nat × Nat)} {u : Bool} {r : Rl} (h : cR2 t n mn p els u = some r) (k : knw els u) : knw r.1 r.2.2.2.2.1 := by
  unfold cR2 at h
  split at h
  · cases h
  · rename_i p2 els2 u2 ins sg hK
    have k2 : knw els2 u2 := sKey_knw hM _ _ _ _ _ _ _ _ hK k
    split at h
    · unfold cR3 at h
      split at h
      · cases h
      · rename_i p3 els3 u3 hX
        split at hX
        · exact cR4_knw h (sCtx_knw hM _ _ _ _ _ hX k2)
        · cases hX
          exact cR4_knw h k2
    · cases h
theorem cRule_knw (hM : okM mn) {r : Rl} (h : cRule t n mn = some r) (hu : r.2.2.2.2.1 = false) : nmR r := by
  have k0 : knw [] false := fun _ y hy => by cases hy
  have : knw r.1 r.2.2.2.2.1 := by
    unfold cRule at h
    split at h
    · split at h
      · cases h
      · rename_i p els u hX
        split at h
        · exact cR2_knw hM h (sCtx_knw hM _ _ _ _ _ hX k0)
        · cases h
    · exact cR2_knw hM h k0
  exact this hu
/-- digits -/
theorem gdg_iff : ∀ (ps : List Nat) (m k : Nat), k < ps.foldl gdg m ↔ k < m ∨ ∃ c ∈ ps, sml c = false ∧ k < c - 48 := by
  intro ps
  induction ps with
  | nil => intro m k; simp
  | cons c ps ih =>
    intro m k
    rw [List.foldl_cons, ih]
    unfold gdg
    cases hc : sml c with
    | true =>
      simp only [if_true]
      constructor
      · rintro (q | ⟨d, h1, h2⟩)
        · exact Or.inl q
        · exact Or.inr ⟨d, List.mem_cons_of_mem _ h1, h2⟩
      · rintro (q | ⟨d, h1, h2, h3⟩)
        · exact Or.inl q
        · rcases List.mem_cons.mp h1 with z | z
          · subst z
            rw [hc] at h2
            cases h2
          · exact Or.inr ⟨d, z, h2, h3⟩
    | false =>
      simp only [Bool.false_eq_true, if_false]
      constructor
      · rintro (q | ⟨d, h1, h2⟩)
        · by_cases z : k < m
          · exact Or.inl z
          · exact Or.inr ⟨c, List.mem_cons_self, hc, by omega⟩
        · exact Or.inr ⟨d, List.mem_cons_of_mem _ h1, h2⟩
      · rintro (q | ⟨d, h1, h2, h3⟩)
        · exact Or.inl (by omega)
        · rcases List.mem_cons.mp h1 with z | z
          · subst z
            exact Or.inl (by omega)
          · exact Or.inr ⟨d, z, h2, h3⟩
theorem sgx_iff {c : Nat → Nat} : ∀ (f d : Nat), sgx c f d = true ↔ ∃ i, d ≤ i ∧ i < d + f ∧ 0 < c i := by
  intro f
  induction f with
  | zero =>
    intro d
    constructor
    · intro h
      cases h
    · rintro ⟨i, h1, h2, -⟩
      omega
  | succ f ih =>
    intro d
    unfold sgx
    rw [Bool.or_eq_true, decide_eq_true_eq, ih]
    constructor
    · rintro (q | ⟨i, h1, h2, h3⟩)
      · exact ⟨d, Nat.le_refl _, by omega, q⟩
      · exact ⟨i, by omega, by omega, h3⟩
    · rintro ⟨i, h1, h2, h3⟩
      by_cases z : i = d
      · subst z
        exact Or.inl h3
      · exact Or.inr ⟨i, by omega, by omega, h3⟩
theorem sGv_mem {c : Nat} (hc : c ≠ 124) : ∀ (f p : Nat) (mk : Option Nat) (ps : List Nat), c ∈ (sGv t f p mk ps).1 ↔ c ∈ ps ∨ 0 < cnt t c p f := by
  intro f
  induction f with
  | zero =>
    intro p mk ps
    show c ∈ ps ↔ c ∈ ps ∨ 0 < 0
    simp
  | succ f ih =>
    intro p mk ps
    have eg : sGv t (f + 1) p mk ps = if t p = 124 then sGv t f (p + 1) (some ps.length) ps else sGv t f (p + 1) mk (ps ++ [t p]) := rfl
    have ec : cnt t c p (f + 1) = (if t p = c then 1 else 0) + cnt t c (p + 1) f := rfl
    rw [eg, ec]
    by_cases q : t p = 124
    · rw [if_pos q, ih, if_neg (by rw [q]; exact fun z => hc z.symm), Nat.zero_add]
    · rw [if_neg q, ih, List.mem_append, List.mem_singleton]
      by_cases q2 : t p = c
      · rw [if_pos q2]
        constructor
        · intro _
          exact Or.inr (by omega)
        · intro _
          exact Or.inl (Or.inr q2.symm)
      · rw [if_neg q2, Nat.zero_add]
        constructor
        · rintro ((z | z) | z)
          · exact Or.inl z
          · exact absurd z.symm q2
          · exact Or.inr z
        · rintro (z | z)
          · exact Or.inl (Or.inl z)
          · exact Or.inr z
theorem dig_same {A k : Nat} {ps : List Nat} (hps : (sGv t (n - (A + 1)) (A + 1) none []).1 = ps) (hc : ∀ c ∈ ps, sml c = true ∨ (49 ≤ c ∧ c ≤ 51)) : sgx (fun d => cnt t (48 + d) (A + 1) (n - (A + 1))) (3 - k) (k + 1) = true ↔ k < ps.foldl gdg 0 := by
  rw [sgx_iff, gdg_iff]
  constructor
  · rintro ⟨i, h1, h2, h3⟩
    refine Or.inr ⟨48 + i, ?_, ?_, by omega⟩
    · rw [← hps, sGv_mem (by omega)]
      exact Or.inr h3
    · unfold sml
      rw [decide_eq_false_iff_not]
      omega
  · rintro (z | ⟨c, h1, h2, h3⟩)
    · omega
    · have h4 : 49 ≤ c ∧ c ≤ 51 := by
        rcases hc c h1 with z | z
        · rw [h2] at z
          cases z
        · exact z
      refine ⟨c - 48, by omega, by omega, ?_⟩
      rw [show 48 + (c - 48) = c by omega]
      rw [← hps, sGv_mem (by omega)] at h1
      rcases h1 with z | z
      · cases z
      · exact z
/-- masks -/
theorem pl_hQ (els : List (Int32 × Nat × Nat)) : hQ els = false ↔ els.all plE = true := by
  unfold hQ plE
  rw [List.any_eq_false, List.all_eq_true]
  constructor
  · intro h y hy
    have := h y hy
    simp at this
    simp [this]
  · intro h y hy
    have := h y hy
    simp at this
    simp [this]
theorem yR_S {B : Nat → Nat → Int32} {j i : Nat} {r : Rl} (R : yR B j r) (nm : nmR r) (hi : i < r.1.length) : B 9 (12 * j + i) = eS r.1 i := by
  have h1 : r.1[i]? = some r.1[i] := List.getElem?_eq_getElem hi
  have h2 := (R.2.2.2.2.2.1 i _ h1).1
  rw [if_neg (nm _ (List.getElem_mem hi))] at h2
  unfold eS
  rw [List.getD_eq_getElem?_getD, h1]
  exact h2
theorem msk_same {B : Nat → Nat → Int32} {m k : Nat} {a b : Rl} (Ra : yR B m a) (Rb : yR B k b) (na : nmR a) (nb : nmR b) (ha : a.2.1 ≤ a.1.length) (hb : b.2.1 ≤ b.1.length) : mskY B m k a b ↔ mskL a.1 a.2.1 b.1 b.2.1 := by
  unfold mskY mskL
  rw [pl_hQ, pl_hQ]
  constructor
  · rintro ⟨h1, h2, h3, h4, h5⟩
    refine ⟨h1, h2, h3, by omega, fun i hi => ?_⟩
    have := h5 i hi
    rw [show 12 * k + b.2.1 + i - a.2.1 = 12 * k + (i + (b.2.1 - a.2.1)) by omega, yR_S Ra na hi, yR_S Rb nb (by omega)] at this
    exact this
  · rintro ⟨h1, h2, h3, h4, h5⟩
    refine ⟨h1, h2, h3, by omega, fun i hi => ?_⟩
    have := h5 i hi
    rw [show 12 * k + b.2.1 + i - a.2.1 = 12 * k + (i + (b.2.1 - a.2.1)) by omega, yR_S Ra na hi, yR_S Rb nb (by omega)]
    exact this
end SN
