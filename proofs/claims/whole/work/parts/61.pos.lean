/-! places that a match comes to -/
def sCd (lt : Nat → Nat) (sz : Nat) (S : Nat → Int32) (lo hi : Nat → Nat) (last : Bool) : Nat → Nat → Nat → Nat
  | 0, _, _ => 1
  | k + 1, n, p => if last = false ∧ p + rnF lt sz (S n) (hi n) p = sz ∧ rnF lt sz (S n) (hi n) p < hi n then 2
    else if rnF lt sz (S n) (hi n) p < lo n then 0
    else sCd lt sz S lo hi last k (n + 1) (p + rnF lt sz (S n) (hi n) p)
def sPos (lt : Nat → Nat) (sz : Nat) (S : Nat → Int32) (hi : Nat → Nat) : Nat → Nat → Nat → Nat
  | 0, _, p => p
  | j + 1, n, p => sPos lt sz S hi j (n + 1) (p + rnF lt sz (S n) (hi n) p)
section PO
variable {lt : Nat → Nat} {sz : Nat} {S : Nat → Int32} {lo hi : Nat → Nat} {last : Bool}
theorem sOn_cd : ∀ (k n p : Nat) (bg : Nat → Nat), (sOn lt sz S lo hi last k n p bg).1 = sCd lt sz S lo hi last k n p := by
  intro k
  induction k with
  | zero => intro n p bg; rfl
  | succ k ih =>
    intro n p bg
    unfold sOn sCd
    split
    · rfl
    · split
      · rfl
      · exact ih _ _ _
theorem sOn_pos : ∀ (k n p : Nat) (bg : Nat → Nat), (sOn lt sz S lo hi last k n p bg).1 = 1 → bg n = p → (∀ j, j ≤ k → (sOn lt sz S lo hi last k n p bg).2 (n + j) = sPos lt sz S hi j n p) ∧ ∀ i, i ≤ n → (sOn lt sz S lo hi last k n p bg).2 i = bg i := by
  intro k
  induction k with
  | zero =>
    intro n p bg h hb
    refine ⟨fun j hj => ?_, fun i hi => rfl⟩
    have : j = 0 := by omega
    subst this
    exact hb
  | succ k ih =>
    intro n p bg h hb
    unfold sOn at h ⊢
    split at h
    · cases h
    · rename_i q1
      split at h
      · cases h
      · rename_i q2
        rw [if_neg q1, if_neg q2]
        obtain ⟨h1, h2⟩ := ih _ _ _ h (va_up_self _ _ _)
        refine ⟨fun j hj => ?_, fun i hi => ?_⟩
        · cases j with
          | zero =>
            have h9 := h2 n (by omega)
            rw [va_up_ne _ _ (by omega)] at h9
            exact h9.trans hb
          | succ j =>
            rw [show n + (j + 1) = n + 1 + j by omega, h1 j (by omega)]
            rfl
        · rw [h2 i (by omega), va_up_ne _ _ (by omega)]
theorem sPos_add : ∀ (j k n p : Nat), sPos lt sz S hi (j + k) n p = sPos lt sz S hi k (n + j) (sPos lt sz S hi j n p) := by
  intro j
  induction j with
  | zero => intro k n p; simp [sPos]
  | succ j ih =>
    intro k n p
    rw [show j + 1 + k = j + k + 1 by omega]
    show sPos lt sz S hi (j + k) (n + 1) _ = sPos lt sz S hi k (n + (j + 1)) (sPos lt sz S hi j (n + 1) _)
    rw [ih, show n + 1 + j = n + (j + 1) by omega]
theorem sPos_le : ∀ (j n p : Nat), p ≤ sz → p ≤ sPos lt sz S hi j n p ∧ sPos lt sz S hi j n p ≤ sz := by
  intro j
  induction j with
  | zero => intro n p hp; exact ⟨Nat.le_refl _, hp⟩
  | succ j ih =>
    intro n p hp
    have h1 := (rnF_le (lt := lt) (s := S n) (hi n) p hp).1
    have := ih (n + 1) (p + rnF lt sz (S n) (hi n) p) h1
    exact ⟨by show p ≤ sPos lt sz S hi j (n + 1) _; omega, this.2⟩
theorem sPos_mono (j k n p : Nat) (hp : p ≤ sz) (h : j ≤ k) : sPos lt sz S hi j n p ≤ sPos lt sz S hi k n p := by
  have := sPos_add (lt := lt) (sz := sz) (S := S) (hi := hi) j (k - j) n p
  rw [show j + (k - j) = k by omega] at this
  rw [this]
  exact (sPos_le _ _ _ (sPos_le _ _ _ hp).2).1
def cMt (lt : Nat → Nat) (sz pl : Nat) (S : Nat → Int32) (lo hi : Nat → Nat) (ks ke ec : Nat) (last : Bool) : Nat :=
  if sBef lt S lo hi ks pl = true then
    (if sCd lt sz S lo hi last (ke - ks) ks pl = 1 then (if sPos lt sz S hi (ke - ks) ks pl = pl then 0 else sCd lt sz S lo hi last (ec - ke) ke (sPos lt sz S hi (ke - ks) ks pl)) else sCd lt sz S lo hi last (ke - ks) ks pl)
  else 0
theorem run_cd {ks ke ec pl : Nat} {bg : Nat → Nat} (h1 : ks ≤ ke) (h2 : ke ≤ ec) : (sRun lt sz pl S lo hi ks ke ec last bg).1 = cMt lt sz pl S lo hi ks ke ec last ∧ ((sRun lt sz pl S lo hi ks ke ec last bg).1 = 1 → (∀ j, ks ≤ j → j ≤ ec → (sRun lt sz pl S lo hi ks ke ec last bg).2 j = sPos lt sz S hi (j - ks) ks pl) ∧ sPos lt sz S hi (ke - ks) ks pl ≠ pl) := by
  unfold sRun cMt
  split
  · have e1 := sOn_cd (lt := lt) (sz := sz) (S := S) (lo := lo) (hi := hi) (last := last) (ke - ks) ks pl (va_up bg ks pl)
    have e2 := sOn_pos (lt := lt) (sz := sz) (S := S) (lo := lo) (hi := hi) (last := last) (ke - ks) ks pl (va_up bg ks pl)
    generalize sOn lt sz S lo hi last (ke - ks) ks pl (va_up bg ks pl) = r at e1 e2 ⊢
    obtain ⟨c, bg2⟩ := r
    dsimp only at e1 e2 ⊢
    rw [← e1]
    by_cases q : c = 1
    · obtain ⟨p1, p2⟩ := e2 q (va_up_self _ _ _)
      have pk := p1 (ke - ks) (Nat.le_refl _)
      rw [show ks + (ke - ks) = ke by omega] at pk
      rw [if_pos q, if_pos q]
      by_cases z : sPos lt sz S hi (ke - ks) ks pl = pl
      · rw [if_pos (pk.trans z), if_pos z]
        exact ⟨rfl, fun w => by cases w⟩
      · rw [if_neg (fun w => z (pk.symm.trans w)), if_neg z]
        refine ⟨by rw [sOn_cd, pk], fun w => ⟨fun j hj1 hj2 => ?_, z⟩⟩
        obtain ⟨r1, r2⟩ := sOn_pos _ _ _ _ w rfl
        by_cases hj : j ≤ ke
        · rw [r2 j hj]
          have := p1 (j - ks) (by omega)
          rw [show ks + (j - ks) = j by omega] at this
          exact this
        · have := r1 (j - ke) (by omega)
          rw [show ke + (j - ke) = j by omega] at this
          rw [this, show j - ks = (ke - ks) + (j - ke) by omega, sPos_add, show ks + (ke - ks) = ke by omega, pk]
    · rw [if_neg q, if_neg q]
      exact ⟨rfl, fun w => absurd w q⟩
  · exact ⟨rfl, fun w => by cases w⟩
theorem cMt_le {ks ke ec pl : Nat} (hp : pl ≤ sz) : cMt lt sz pl S lo hi ks ke ec last ≤ 2 := by
  have cd : ∀ (k n p : Nat), sCd lt sz S lo hi last k n p ≤ 2 := by
    intro k
    induction k with
    | zero => intro n p; show 1 ≤ 2; decide
    | succ k ih =>
      intro n p
      unfold sCd
      split
      · exact Nat.le_refl _
      · split
        · decide
        · exact ih _ _
  unfold cMt
  split
  · split
    · split
      · decide
      · exact cd _ _ _
    · exact cd _ _ _
  · decide
end PO
