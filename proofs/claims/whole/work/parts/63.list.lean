/-! the text as a list -/
def gt (tx : List Nat) : Nat → Nat := fun i => tx.getD i 0
theorem ct_gt {tx : List Nat} {f : Nat → Nat} (h : ct tx f) {i : Nat} (hi : i < tx.length) : f i = gt tx i := by
  have h1 := h i hi
  unfold gt
  rw [List.getD_eq_getElem?_getD, h1]
  rfl
theorem gt_ct (tx : List Nat) : ct tx (gt tx) := by
  intro i hi
  unfold gt
  rw [List.getD_eq_getElem?_getD, List.getElem?_eq_getElem hi]
  rfl
section CG
variable {lt lt' : Nat → Nat} {sz : Nat} (hc : ∀ i, i < sz → lt i = lt' i)
theorem rnF_cg (hc : ∀ i, i < sz → lt i = lt' i) (s : Int32) : ∀ (m p : Nat), rnF lt sz s m p = rnF lt' sz s m p := by
  intro m
  induction m with
  | zero => intro p; rfl
  | succ m ih =>
    intro p
    unfold rnF
    by_cases q : p < sz
    · rw [hc p q, ih]
    · rw [if_neg (fun z => q z.1), if_neg (fun z => q z.1)]
theorem rnB_cg (hc : ∀ i, i < sz → lt i = lt' i) (s : Int32) : ∀ (m p : Nat), p ≤ sz → rnB lt s m p = rnB lt' s m p := by
  intro m
  induction m with
  | zero => intro p _; rfl
  | succ m ih =>
    intro p hp
    unfold rnB
    by_cases q : 0 < p
    · rw [hc (p - 1) (by omega), ih _ (by omega)]
    · rw [if_neg (fun z => q z.1), if_neg (fun z => q z.1)]
theorem sBef_cg (hc : ∀ i, i < sz → lt i = lt' i) (S : Nat → Int32) (lo hi : Nat → Nat) : ∀ (k p : Nat), p ≤ sz → sBef lt S lo hi k p = sBef lt' S lo hi k p := by
  intro k
  induction k with
  | zero => intro p _; rfl
  | succ k ih =>
    intro p hp
    unfold sBef
    rw [rnB_cg hc _ _ _ hp, ih _ (by omega)]
theorem sCd_cg (hc : ∀ i, i < sz → lt i = lt' i) (S : Nat → Int32) (lo hi : Nat → Nat) (last : Bool) : ∀ (k n p : Nat), sCd lt sz S lo hi last k n p = sCd lt' sz S lo hi last k n p := by
  intro k
  induction k with
  | zero => intro n p; rfl
  | succ k ih =>
    intro n p
    unfold sCd
    rw [rnF_cg hc, ih]
theorem sPos_cg (hc : ∀ i, i < sz → lt i = lt' i) (S : Nat → Int32) (hi : Nat → Nat) : ∀ (j n p : Nat), sPos lt sz S hi j n p = sPos lt' sz S hi j n p := by
  intro j
  induction j with
  | zero => intro n p; rfl
  | succ j ih =>
    intro n p
    unfold sPos
    rw [rnF_cg hc, ih]
theorem mtc_cg (hc : ∀ i, i < sz → lt i = lt' i) (r : Rl) {pl : Nat} (hp : pl ≤ sz) (last : Bool) : mtc r lt sz pl last = mtc r lt' sz pl last := by
  unfold mtc cMt
  rw [sBef_cg hc _ _ _ _ _ hp, sCd_cg hc, sPos_cg hc, sCd_cg hc]
theorem bgp_cg (hc : ∀ i, i < sz → lt i = lt' i) (r : Rl) (pl : Nat) : bgp r lt sz pl = bgp r lt' sz pl := by
  funext j
  unfold bgp
  rw [sPos_cg hc]
theorem nSz_cg (hc : ∀ i, i < sz → lt i = lt' i) (r : Rl) (pl : Nat) : nSz r lt sz pl = nSz r lt' sz pl := by
  unfold nSz
  rw [bgp_cg hc]
theorem nPl_cg (hc : ∀ i, i < sz → lt i = lt' i) (r : Rl) (pl : Nat) : nPl r lt sz pl = nPl r lt' sz pl := by
  unfold nPl
  rw [bgp_cg hc]
theorem xps_cg (hc : ∀ i, i < sz → lt i = lt' i) {r : Rl} (w : wfC r) {pl : Nat} (hp : pl ≤ sz) (l : List Nat) : ∀ k, k ≤ r.2.2.2.2.2.1.length → xps lt (bgp r lt sz pl) (sSr r) (sEr r) (pcr r) l k = xps lt' (bgp r lt sz pl) (sSr r) (sEr r) (pcr r) l k := by
  intro k
  induction k with
  | zero => intro _; rfl
  | succ k ih =>
    intro hk
    show xps _ _ _ _ _ _ k ++ _ = xps _ _ _ _ _ _ k ++ _
    rw [ih (by omega)]
    congr 1
    unfold xpd
    split
    · rfl
    · rename_i hm
      have hm' : sml (pcr r k) = false := by simpa using hm
      obtain ⟨q1, q2, q3, q4, q5, q6⟩ := sg_at w (pcr_mem (show k < _ by omega)) hm'
      apply List.map_congr_left
      intro q hq
      have hq2 := List.mem_range.mp hq
      unfold wdt at hq2
      simp only [hm', Bool.false_eq_true, if_false] at hq2
      have mo := bgp_mono (r := r) (lt := lt) hp (show sSr r (pcr r k - 49) ≤ sEr r (pcr r k - 49) by omega)
      exact hc _ (by omega)
theorem nTx_cg (hc : ∀ i, i < sz → lt i = lt' i) {r : Rl} (w : wfC r) {pl : Nat} (hp : pl ≤ sz) : nTx r lt sz pl = nTx r lt' sz pl := by
  unfold nTx
  rw [xps_cg hc w hp _ _ (Nat.le_refl _), ← bgp_cg hc]
  have e : (List.range pl).map lt = (List.range pl).map lt' := List.map_congr_left (fun i hi => hc i (by have := List.mem_range.mp hi; omega))
  rw [e]
  congr 1
  apply List.map_congr_left
  intro i hi
  have hi2 := List.mem_range.mp hi
  exact hc _ (by omega)
end CG
theorem nTx_len {r : Rl} {lt : Nat → Nat} {sz pl : Nat} (hp : pl ≤ sz) : (nTx r lt sz pl).length = nSz r lt sz pl := by
  have mo := bgp_mono (r := r) (lt := lt) hp (Nat.le_refl r.2.2.1)
  unfold nTx nSz
  rw [List.length_append, xps_len]
  simp only [List.length_map, List.length_range]
  omega
theorem nPl_le {r : Rl} {lt : Nat → Nat} {sz pl : Nat} (w : wfC r) (hp : pl ≤ sz) : pl ≤ nPl r lt sz pl ∧ nPl r lt sz pl ≤ nSz r lt sz pl := by
  have mo := bgp_mono (r := r) (lt := lt) hp (Nat.le_refl r.2.2.1)
  have h6 := w.1.2.2.2.2.2.1
  have m := sWid_mono (w := fun i => wdt (bgp r lt sz pl) (sSr r) (sEr r) (pcr r i)) _ _ h6
  unfold nPl nSz
  omega
/-- letters alone -/
def ltr (tx : List Nat) : Prop := ∀ c ∈ tx, 97 ≤ c ∧ c ≤ 122
theorem ltr_gt {tx : List Nat} (h : ltr tx) {i : Nat} (hi : i < tx.length) : 97 ≤ gt tx i ∧ gt tx i ≤ 122 := by
  unfold gt
  rw [List.getD_eq_getElem?_getD, List.getElem?_eq_getElem hi]
  exact h _ (List.getElem_mem hi)
theorem nTx_ltr {r : Rl} {tx : List Nat} {pl : Nat} (w : wfC r) (h : ltr tx) (hp : pl ≤ tx.length) : ltr (nTx r (gt tx) tx.length pl) := by
  have xp : ∀ k, k ≤ r.2.2.2.2.2.1.length → ltr (xps (gt tx) (bgp r (gt tx) tx.length pl) (sSr r) (sEr r) (pcr r) ((List.range pl).map (gt tx)) k) := by
    intro k
    induction k with
    | zero =>
      intro _ c hc
      obtain ⟨i, hi, rfl⟩ := List.mem_map.mp hc
      have := List.mem_range.mp hi
      exact ltr_gt h (by omega)
    | succ k ih =>
      intro hk c hc
      rcases List.mem_append.mp hc with q | q
      · exact ih (by omega) c q
      · unfold xpd at q
        split at q
        · rename_i hm
          rw [List.mem_singleton.mp q]
          exact sml_le hm
        · rename_i hm
          have hm' : sml (pcr r k) = false := by simpa using hm
          obtain ⟨q1, q2, q3, q4, q5, q6⟩ := sg_at w (pcr_mem (show k < _ by omega)) hm'
          obtain ⟨i, hi, rfl⟩ := List.mem_map.mp q
          have hq2 := List.mem_range.mp hi
          unfold wdt at hq2
          simp only [hm', Bool.false_eq_true, if_false] at hq2
          have mo := bgp_mono (r := r) (lt := gt tx) hp (show sSr r (pcr r k - 49) ≤ sEr r (pcr r k - 49) by omega)
          exact ltr_gt h (by omega)
  intro c hc
  unfold nTx at hc
  rcases List.mem_append.mp hc with q | q
  · exact xp _ (Nat.le_refl _) c q
  · obtain ⟨i, hi, rfl⟩ := List.mem_map.mp q
    have hi2 := List.mem_range.mp hi
    exact ltr_gt h (by omega)
