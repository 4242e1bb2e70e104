/-! a rule as both keep it: matching and applying -/
def nmR (r : Rl) : Prop := ∀ e ∈ r.1, e.1 ≠ -nI 1
def rH2 (r : Rl) (i : Nat) : Nat := if rep (eQ r.1 i) = true then 100 else 1
def rSg (r : Rl) (i : Nat) : Nat := (r.1.getD i (0, 0, 0)).2.2
section HI
variable {lt : Nat → Nat} {sz : Nat} {S : Nat → Int32} {lo hi hi2 : Nat → Nat} {last : Bool}
theorem rnF_hi {s : Int32} {a b p : Nat} (hs : sz ≤ 60) (h : a = b ∨ (60 < a ∧ 60 < b)) (hp : p ≤ sz) : rnF lt sz s a p = rnF lt sz s b p := by
  rcases h with rfl | h
  · rfl
  · rw [rnF_min (sz - p) a p (by omega), rnF_min (sz - p) b p (by omega)]
    have := rnF_le (lt := lt) (s := s) (sz - p) p hp
    omega
theorem rnB_hi {s : Int32} {a b p : Nat} (hs : p ≤ 60) (h : a = b ∨ (60 < a ∧ 60 < b)) : rnB lt s a p = rnB lt s b p := by
  rcases h with rfl | h
  · rfl
  · rw [rnB_min p a p (Nat.le_refl _), rnB_min p b p (Nat.le_refl _)]
    have := rnB_le (lt := lt) (s := s) p p
    omega
theorem sBef_hi (h : ∀ i, hi i = hi2 i ∨ (60 < hi i ∧ 60 < hi2 i)) : ∀ (k p : Nat), p ≤ 60 → sBef lt S lo hi k p = sBef lt S lo hi2 k p := by
  intro k
  induction k with
  | zero => intro p _; rfl
  | succ k ih =>
    intro p hp
    unfold sBef
    rw [rnB_hi hp (h k), ih _ (by omega)]
theorem sCd_hi (hs : sz ≤ 60) (h : ∀ i, hi i = hi2 i ∨ (60 < hi i ∧ 60 < hi2 i)) : ∀ (k n p : Nat), p ≤ sz → sCd lt sz S lo hi last k n p = sCd lt sz S lo hi2 last k n p := by
  intro k
  induction k with
  | zero => intro n p _; rfl
  | succ k ih =>
    intro n p hp
    unfold sCd
    have rf := rnF_le (lt := lt) (s := S n) (hi2 n) p hp
    rw [rnF_hi hs (h n) hp, ih _ _ rf.1]
    have e : (rnF lt sz (S n) (hi2 n) p < hi n) = (rnF lt sz (S n) (hi2 n) p < hi2 n) := by
      rcases h n with q | q
      · rw [q]
      · exact propext ⟨fun _ => by omega, fun _ => by omega⟩
    simp only [e]
theorem sPos_hi (hs : sz ≤ 60) (h : ∀ i, hi i = hi2 i ∨ (60 < hi i ∧ 60 < hi2 i)) : ∀ (k n p : Nat), p ≤ sz → sPos lt sz S hi k n p = sPos lt sz S hi2 k n p := by
  intro k
  induction k with
  | zero => intro n p _; rfl
  | succ k ih =>
    intro n p hp
    unfold sPos
    have rf := rnF_le (lt := lt) (s := S n) (hi2 n) p hp
    rw [rnF_hi hs (h n) hp, ih _ _ rf.1]
end HI
section RUL
variable {r : Rl} {lt : Nat → Nat} {sz pl : Nat}
theorem rH_hi (r : Rl) : ∀ i, rH2 r i = rH r i ∨ (60 < rH2 r i ∧ 60 < rH r i) := by
  intro i
  unfold rH2 rH
  split
  · exact Or.inr ⟨by decide, by decide⟩
  · exact Or.inl rfl
theorem mtc_hi (hs : sz ≤ 60) (hp : pl ≤ sz) (last : Bool) : cMt lt sz pl (eS r.1) (rL r) (rH2 r) r.2.1 r.2.2.1 r.1.length last = mtc r lt sz pl last := by
  have h := rH_hi r
  unfold mtc cMt
  rw [sBef_hi h _ _ (by omega), sCd_hi hs h _ _ _ hp, sPos_hi hs h _ _ _ hp, sCd_hi hs h _ _ _ (sPos_le _ _ _ hp).2]
theorem seg_lab (w : wfC r) {d i : Nat} {g : Nat × Nat} (hd : r.2.2.2.1[d]? = some g) (hi : i < r.1.length) : rSg r i = d + 1 ↔ g.1 ≤ i ∧ i < g.2 := by
  obtain ⟨⟨w1, w2, w3, w4, w5, w6, w7, els2, st, more, hr, hl, ⟨s1, s2, s3, s4⟩, hm2⟩, -⟩ := w
  have at' : ∀ e, r.1[i]? = some e → rSg r i = e.2.2 := by
    intro e he
    unfold rSg
    rw [List.getD_eq_getElem?_getD, he]
    rfl
  by_cases q : i < els2.length
  · have h1 : r.1[i]? = some els2[i] := by rw [hr, List.getElem?_append_left q]; exact List.getElem?_eq_getElem q
    rw [at' _ h1]
    rcases s4 i els2[i] (List.getElem?_eq_getElem q) with ⟨a, b, -⟩ | ⟨d', g', a, b, c1, c2⟩ | ⟨a, -⟩
    · rw [a]
      exact ⟨fun z => by omega, fun z => absurd z (b d g hd)⟩
    · rw [a]
      constructor
      · intro z
        have : d' = d := by omega
        subst this
        rw [b] at hd
        cases hd
        exact ⟨c1, c2⟩
      · intro z
        rcases Nat.lt_trichotomy d d' with y | y | y
        · have := s2 d d' g g' hd b y
          omega
        · omega
        · have := s2 d' d g' g b hd y
          omega
    · cases a
  · have g3 := (s1 d g hd).2.2.1
    constructor
    · intro z
      have h1 : r.1[i]? = some r.1[i] := List.getElem?_eq_getElem hi
      rw [at' _ h1] at z
      have h2 : r.1[i] ∈ more := by
        have h3 : r.1[i]? = more[i - els2.length]? := by rw [hr, List.getElem?_append_right (by omega)]
        exact List.mem_of_getElem? (h3.symm.trans h1)
      have := hm2 _ h2
      omega
    · intro z
      omega
theorem rSg_lt (w : wfC r) {i : Nat} (hi : i < r.1.length) : rSg r i < 4 := by
  have w0 := w
  obtain ⟨⟨w1, w2, w3, w4, w5, w6, w7, els2, st, more, hr, hl, ⟨s1, s2, s3, s4⟩, hm2⟩, -, l3, -⟩ := w
  have h1 : r.1[i]? = some r.1[i] := List.getElem?_eq_getElem hi
  have e : rSg r i = (r.1[i]).2.2 := by
    unfold rSg
    rw [List.getD_eq_getElem?_getD, h1]
    rfl
  rw [e]
  by_cases q : i < els2.length
  · have h2 : r.1[i]? = some els2[i] := by rw [hr, List.getElem?_append_left q]; exact List.getElem?_eq_getElem q
    rw [h1] at h2
    have h3 := Option.some.inj h2
    rw [h3]
    rcases s4 i els2[i] (List.getElem?_eq_getElem q) with ⟨a, -⟩ | ⟨d', g', a, b, -⟩ | ⟨a, -⟩
    · omega
    · have := (List.getElem?_eq_some_iff.mp b).1
      omega
    · cases a
  · have h2 : r.1[i] ∈ more := by
      have h3 : r.1[i]? = more[i - els2.length]? := by rw [hr, List.getElem?_append_right (by omega)]
      exact List.mem_of_getElem? (h3.symm.trans h1)
    have := hm2 _ h2
    omega
theorem yR_mY {y : Nat → Int32} {B : Nat → Nat → Int32} {j : Nat} (R : yR B j r) (w : wfC r) (nm : nmR r) (h6 : y 6 = nI sz) (h7 : y 7 = nI pl) (hT : ∀ i, i < sz → B 16 i = nI (lt i)) : mY y B j lt sz pl (eS r.1) (rL r) (rH2 r) (rSg r) r.2.1 r.2.2.1 r.1.length := by
  obtain ⟨r6, r7, r8, -, -, re, -⟩ := R
  refine ⟨h6, h7, r6, r7, r8, hT, fun i hi => ?_⟩
  have h1 : r.1[i]? = some r.1[i] := List.getElem?_eq_getElem hi
  obtain ⟨a, b, c, d⟩ := re i _ h1
  have e0 : r.1.getD i (0, 0, 0) = r.1[i] := by rw [List.getD_eq_getElem?_getD, h1]; rfl
  have lt4 := rSg_lt w hi
  unfold eS rL rH2 eQ
  unfold rSg at lt4 ⊢
  rw [e0] at lt4 ⊢
  rw [if_neg (nm _ (List.getElem_mem hi))] at a
  refine ⟨a, b, c, d, ?_, ?_, lt4⟩ <;> split <;> decide
theorem mOk_aY {y y' : Nat → Int32} {B B' : Nat → Nat → Int32} {j ap : Nat} (R : yR B' j r) (w : wfC r) (hs : sz ≤ 60) (hp : pl ≤ sz) (h6 : y' 6 = nI sz) (h7 : y' 7 = nI pl) (h8 : y' 8 = nI ap) (hT : ∀ i, i < sz → B' 16 i = nI (lt i)) (m : mOk lt sz pl (eS r.1) (rH2 r) (rSg r) r.2.1 r.2.2.1 r.1.length y' B') : aY y' B' j r lt sz pl ap := by
  obtain ⟨m1, m2⟩ := m
  have hh := rH_hi r
  refine ⟨R, h6, h7, h8, ?_, hT, fun c hc hm => ?_⟩
  · rw [m1, sPos_hi hs hh _ _ _ hp]
    rfl
  · obtain ⟨q1, q2, q3, q4, q5, q6⟩ := sg_at w hc hm
    have w2 := w.1.2.1
    obtain ⟨b1, b2⟩ := m2 (c - 48) (sSr r (c - 49)) (sEr r (c - 49)) (by omega) q4 q5 (by omega) (fun i h1 h2 => by
      have := seg_lab w q3 h2
      rw [show c - 49 + 1 = c - 48 by omega] at this
      exact this)
    rw [b1, b2, sPos_hi hs hh _ _ _ hp, sPos_hi hs hh _ _ _ hp]
    exact ⟨rfl, rfl⟩
end RUL
