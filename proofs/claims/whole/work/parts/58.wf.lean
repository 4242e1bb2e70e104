/-! what a rule that was read is like -/
theorem sCtx_len {t : Nat → Nat} {e : Nat} {mn : Nat → Int32} {N : Nat} : ∀ (f p : Nat) (els : List (Int32 × Nat × Nat)) (u : Bool) (p' : Nat) (els' : List (Int32 × Nat × Nat)) (u' : Bool), sCtx t e mn N f p els u = some (p', els', u') → ∃ more, els' = els ++ more ∧ ∀ y ∈ more, y.2.2 = 0 := by
  intro f
  induction f with
  | zero =>
    intro p els u p' els' u' h
    simp only [sCtx, Option.some.injEq, Prod.mk.injEq] at h
    obtain ⟨rfl, rfl, rfl⟩ := h
    exact ⟨[], by simp, fun y hy => by cases hy⟩
  | succ f ih =>
    intro p els u p' els' u' h
    unfold sCtx at h
    split at h
    · split at h
      · cases h
      · rename_i x s w hE
        obtain ⟨more, rfl, hm⟩ := ih _ _ _ _ _ _ h
        refine ⟨[(s, if qnt (sAt t e x) = true then sAt t e x else 0, 0)] ++ more, by simp, fun y hy => ?_⟩
        rcases List.mem_append.mp hy with q | q
        · rw [List.mem_singleton.mp q]
        · exact hm y q
    · simp only [Option.some.injEq, Prod.mk.injEq] at h
      obtain ⟨rfl, rfl, rfl⟩ := h
      exact ⟨[], by simp, fun y hy => by cases hy⟩
/-- the labels of the elements from k0 on, and the segments, as a reader inside a key has them -/
def seg (k0 : Nat) (els : List (Int32 × Nat × Nat)) (ins : Bool) (st : Nat) (sg : List (Nat × Nat)) : Prop := (∀ (d : Nat) (g : Nat × Nat), sg[d]? = some g → k0 ≤ g.1 ∧ g.1 < g.2 ∧ g.2 ≤ els.length ∧ (ins = true → g.2 ≤ st)) ∧ (∀ (d d' : Nat) (g g' : Nat × Nat), sg[d]? = some g → sg[d']? = some g' → d < d' → g.2 ≤ g'.1) ∧ (ins = true → k0 ≤ st ∧ st ≤ els.length) ∧ ∀ (i : Nat) (y : Int32 × Nat × Nat), els[i]? = some y → (y.2.2 = 0 ∧ (∀ (d : Nat) (g : Nat × Nat), sg[d]? = some g → ¬ (g.1 ≤ i ∧ i < g.2)) ∧ (ins = true → i < st)) ∨ (∃ d g, y.2.2 = d + 1 ∧ sg[d]? = some g ∧ g.1 ≤ i ∧ i < g.2) ∨ (ins = true ∧ st ≤ i ∧ y.2.2 = sg.length + 1)
theorem seg_open {k0 : Nat} {els : List (Int32 × Nat × Nat)} {st : Nat} {sg : List (Nat × Nat)} (h : seg k0 els false st sg) (hk : k0 ≤ els.length) : seg k0 els true els.length sg := by
  obtain ⟨h1, h2, h3, h4⟩ := h
  refine ⟨fun d g hg => ?_, h2, fun _ => ⟨hk, Nat.le_refl _⟩, fun i y hy => ?_⟩
  · have := h1 d g hg
    exact ⟨this.1, this.2.1, this.2.2.1, fun _ => this.2.2.1⟩
  · have hl := (List.getElem?_eq_some_iff.mp hy).1
    rcases h4 i y hy with ⟨q1, q2, -⟩ | q | ⟨q, -⟩
    · exact Or.inl ⟨q1, q2, fun _ => hl⟩
    · exact Or.inr (Or.inl q)
    · cases q
theorem seg_close {k0 : Nat} {els : List (Int32 × Nat × Nat)} {st : Nat} {sg : List (Nat × Nat)} (h : seg k0 els true st sg) (hs : st < els.length) : seg k0 els false st (sg ++ [(st, els.length)]) := by
  obtain ⟨h1, h2, h3, h4⟩ := h
  have at' : ∀ (d : Nat) (g : Nat × Nat), (sg ++ [(st, els.length)])[d]? = some g → (sg[d]? = some g ∧ d < sg.length) ∨ (d = sg.length ∧ g = (st, els.length)) := by
    intro d g hg
    by_cases hd : d < sg.length
    · rw [List.getElem?_append_left hd] at hg
      exact Or.inl ⟨hg, hd⟩
    · rw [List.getElem?_append_right (by omega)] at hg
      have hz : d - sg.length < 1 := (List.getElem?_eq_some_iff.mp hg).1
      rw [show d - sg.length = 0 by omega] at hg
      cases hg
      exact Or.inr ⟨by omega, rfl⟩
  have k3 := h3 rfl
  refine ⟨fun d g hg => ?_, fun d d' g g' hg hg' hdd => ?_, (fun q => by cases q), fun i y hy => ?_⟩
  · rcases at' d g hg with ⟨q, -⟩ | ⟨-, rfl⟩
    · have := h1 d g q
      exact ⟨this.1, this.2.1, this.2.2.1, fun z => by cases z⟩
    · exact ⟨k3.1, hs, Nat.le_refl _, fun z => by cases z⟩
  · rcases at' d g hg with ⟨q, qd⟩ | ⟨qd, rfl⟩ <;> rcases at' d' g' hg' with ⟨q', qd'⟩ | ⟨qd', rfl⟩
    · exact h2 d d' g g' q q' hdd
    · exact (h1 d g q).2.2.2 rfl
    · omega
    · omega
  · have hl := (List.getElem?_eq_some_iff.mp hy).1
    rcases h4 i y hy with ⟨q1, q2, q3⟩ | ⟨d, g, q1, q2, q3⟩ | ⟨-, q1, q2⟩
    · refine Or.inl ⟨q1, fun d g hg => ?_, fun z => by cases z⟩
      rcases at' d g hg with ⟨q, -⟩ | ⟨-, rfl⟩
      · exact q2 d g q
      · have := q3 rfl
        dsimp only
        omega
    · refine Or.inr (Or.inl ⟨d, g, q1, ?_, q3⟩)
      rw [List.getElem?_append_left (List.getElem?_eq_some_iff.mp q2).1]
      exact q2
    · refine Or.inr (Or.inl ⟨sg.length, (st, els.length), q2, ?_, q1, hl⟩)
      simp
theorem seg_push {k0 : Nat} {els : List (Int32 × Nat × Nat)} {ins : Bool} {st : Nat} {sg : List (Nat × Nat)} {s : Int32} {q : Nat} (h : seg k0 els ins st sg) : seg k0 (els ++ [(s, q, if ins = true then sg.length + 1 else 0)]) ins st sg := by
  obtain ⟨h1, h2, h3, h4⟩ := h
  refine ⟨fun d g hg => ?_, h2, fun z => ?_, fun i y hy => ?_⟩
  · have := h1 d g hg
    refine ⟨this.1, this.2.1, ?_, this.2.2.2⟩
    simp
    omega
  · have := h3 z
    simp
    omega
  · by_cases hi : i < els.length
    · rw [List.getElem?_append_left hi] at hy
      exact h4 i y hy
    · rw [List.getElem?_append_right (by omega)] at hy
      have hz : i - els.length < 1 := (List.getElem?_eq_some_iff.mp hy).1
      have hie : i = els.length := by omega
      rw [show i - els.length = 0 by omega] at hy
      cases hy
      cases hins : ins
      · left
        refine ⟨by simp, fun d g hg z => ?_, fun z => by cases z⟩
        have := h1 d g hg
        omega
      · right
        right
        refine ⟨rfl, ?_, by simp⟩
        have := h3 hins
        omega
theorem sKey_seg {t : Nat → Nat} {e : Nat} {mn : Nat → Int32} {N k0 : Nat} : ∀ (f p : Nat) (els : List (Int32 × Nat × Nat)) (u ins : Bool) (st : Nat) (sg : List (Nat × Nat)) (p' : Nat) (els' : List (Int32 × Nat × Nat)) (u' : Bool) (sg' : List (Nat × Nat)), sKey t e mn N f p els u ins st sg = some (p', els', u', false, sg') → k0 ≤ els.length → seg k0 els ins st sg → (∃ more, els' = els ++ more) ∧ ∃ st', seg k0 els' false st' sg' := by
  intro f
  induction f with
  | zero =>
    intro p els u ins st sg p' els' u' sg' h hk hs
    simp only [sKey, Option.some.injEq, Prod.mk.injEq] at h
    obtain ⟨rfl, rfl, rfl, rfl, rfl⟩ := h
    exact ⟨⟨[], by simp⟩, st, hs⟩
  | succ f ih =>
    intro p els u ins st sg p' els' u' sg' h hk hs
    unfold sKey at h
    split at h
    · rename_i hc
      obtain ⟨rfl, -⟩ := hc
      exact ih _ _ _ _ _ _ _ _ _ _ h hk (seg_open hs hk)
    · split at h
      · rename_i hc
        obtain ⟨rfl, hc, -⟩ := hc
        exact ih _ _ _ _ _ _ _ _ _ _ h hk (seg_close hs hc)
      · split at h
        · split at h
          · cases h
          · rename_i x s w hE
            obtain ⟨⟨more, hm⟩, q⟩ := ih _ _ _ _ _ _ _ _ _ _ h (by simp; omega) (seg_push hs)
            exact ⟨⟨_ :: more, by rw [hm, List.append_assoc]; rfl⟩, q⟩
        · simp only [Option.some.injEq, Prod.mk.injEq] at h
          obtain ⟨rfl, rfl, rfl, rfl, rfl⟩ := h
          exact ⟨⟨[], by simp⟩, st, hs⟩
theorem sRep_wf {t : Nat → Nat} {e : Nat} : ∀ (f p : Nat) (mk : Option Nat) (ps : List Nat) (ps' : List Nat) (mk' : Option Nat), sRep t e f p mk ps = some (ps', mk') → (∀ m, mk = some m → m ≤ ps.length) → ps'.length ≤ ps.length + f ∧ ps.length ≤ ps'.length ∧ (∀ m, mk' = some m → m ≤ ps'.length) ∧ ∀ c ∈ ps', c ∈ ps ∨ sml c = true ∨ (49 ≤ c ∧ c ≤ 51) := by
  intro f
  induction f with
  | zero =>
    intro p mk ps ps' mk' h hm
    simp only [sRep, Option.some.injEq, Prod.mk.injEq] at h
    obtain ⟨rfl, rfl⟩ := h
    exact ⟨by omega, Nat.le_refl _, hm, fun c hc => Or.inl hc⟩
  | succ f ih =>
    intro p mk ps ps' mk' h hm
    unfold sRep at h
    split at h
    · split at h
      · have := ih _ _ _ _ _ h (fun m hm2 => by cases hm2; exact Nat.le_refl _)
        exact ⟨by omega, this.2.1, this.2.2⟩
      · split at h
        · rename_i hc
          have := ih _ _ _ _ _ h (fun m hm2 => by have := hm m hm2; simp; omega)
          simp only [List.length_append, List.length_cons, List.length_nil] at this
          refine ⟨by omega, by omega, this.2.2.1, fun c hc2 => ?_⟩
          rcases this.2.2.2 c hc2 with q | q
          · rcases List.mem_append.mp q with q | q
            · exact Or.inl q
            · rw [List.mem_singleton.mp q]
              exact Or.inr hc
          · exact Or.inr q
        · cases h
    · simp only [Option.some.injEq, Prod.mk.injEq] at h
      obtain ⟨rfl, rfl⟩ := h
      exact ⟨by omega, Nat.le_refl _, hm, fun c hc => Or.inl hc⟩
theorem gdg_le : ∀ (ps : List Nat) (m : Nat), m ≤ 3 → (∀ c ∈ ps, sml c = true ∨ (49 ≤ c ∧ c ≤ 51)) → ps.foldl gdg m ≤ 3 := by
  intro ps
  induction ps with
  | nil => intro m hm _; exact hm
  | cons c ps ih =>
    intro m hm hc
    rw [List.foldl_cons]
    refine ih _ ?_ (fun d hd => hc d (List.mem_cons_of_mem _ hd))
    unfold gdg
    split
    · exact hm
    · rename_i q
      rcases hc c List.mem_cons_self with z | z
      · contradiction
      · omega
/-- all that is known of a rule that was read -/
def wfP (r : Rl) : Prop := r.2.1 < r.2.2.1 ∧ r.2.2.1 ≤ r.1.length ∧ r.1.length ≤ 48 ∧ r.2.2.2.1.length ≤ 48 ∧ r.2.2.2.2.2.1.length ≤ 48 ∧ r.2.2.2.2.2.2 ≤ r.2.2.2.2.2.1.length ∧ (∀ c ∈ r.2.2.2.2.2.1, sml c = true ∨ (49 ≤ c ∧ c ≤ 51)) ∧ ∃ els2 st more, r.1 = els2 ++ more ∧ els2.length = r.2.2.1 ∧ seg r.2.1 els2 false st r.2.2.2.1 ∧ ∀ y ∈ more, y.2.2 = 0
theorem cR2_wf {t : Nat → Nat} {n : Nat} {mn : Nat → Int32} {p : Nat} {els : List (Int32 × Nat × Nat)} {u : Bool} {r : Rl} (hn : n ≤ 48) (h : cR2 t n mn p els u = some r) (hp : p ≤ n) (hl : els.length ≤ p) (h0 : ∀ y ∈ els, y.2.2 = 0) : wfP r := by
  unfold cR2 at h
  split at h
  · cases h
  · rename_i p2 els2 u2 ins sg hK
    split at h
    · rename_i hc
      obtain ⟨rfl, hlt⟩ := hc
      have hle := sKey_le _ _ _ _ _ _ _ _ _ _ _ _ hK hp hl (Nat.zero_le _)
      have hs0 : seg els.length els false els.length [] := ⟨fun d g hg => by simp at hg, fun d d' g g' hg => by simp at hg, (fun q => by cases q), fun i y hy => Or.inl ⟨h0 y (List.mem_of_getElem? hy), fun d g hg => by simp at hg, fun q => by cases q⟩⟩
      obtain ⟨-, st', hsg⟩ := sKey_seg _ _ _ _ _ _ _ _ _ _ _ hK (Nat.le_refl _) hs0
      unfold cR3 at h
      split at h
      · cases h
      · rename_i p3 els3 u3 hA
        have h3 : p3 ≤ n ∧ els3.length ≤ p3 ∧ ∃ more, els3 = els2 ++ more ∧ ∀ y ∈ more, y.2.2 = 0 := by
          split at hA
          · rename_i hc
            have hpl := sAt_ne hc (by decide)
            have q1 := sCtx_le _ _ _ _ _ _ _ hA (by omega) (by omega)
            exact ⟨q1.2.1, q1.2.2, sCtx_len _ _ _ _ _ _ _ hA⟩
          · simp only [Option.some.injEq, Prod.mk.injEq] at hA
            obtain ⟨rfl, rfl, rfl⟩ := hA
            exact ⟨hle.2.1, hle.2.2.1, [], by simp, fun y hy => by cases hy⟩
        obtain ⟨h31, h32, more, rfl, hm⟩ := h3
        unfold cR4 at h
        split at h
        · split at h
          · cases h
          · rename_i ps mk hR
            cases h
            have q := sRep_wf _ _ _ _ _ _ hR (fun m hm => by cases hm)
            simp only [List.length_nil, Nat.zero_add] at q
            refine ⟨hlt, by simp, by show (els2 ++ more).length ≤ 48; omega, by show sg.length ≤ 48; omega, by show ps.length ≤ 48; omega, ?_, fun c hc => ?_, els2, st', more, rfl, rfl, hsg, hm⟩
            · show mk.getD ps.length ≤ ps.length
              cases mk with
              | none => exact Nat.le_refl _
              | some m => exact q.2.2.1 m rfl
            · rcases q.2.2.2 c hc with z | z
              · cases z
              · exact z
        · cases h
    · cases h
theorem cRule_wf {t : Nat → Nat} {n : Nat} {mn : Nat → Int32} {r : Rl} (hn : n ≤ 48) (h : cRule t n mn = some r) : wfP r := by
  unfold cRule at h
  split at h
  · split at h
    · cases h
    · rename_i p els u hA
      split at h
      · rename_i hc
        have hpl := sAt_ne hc (by decide)
        have q1 := sCtx_le _ _ _ _ _ _ _ hA (Nat.zero_le _) (Nat.zero_le _)
        obtain ⟨more, hm, hm2⟩ := sCtx_len _ _ _ _ _ _ _ hA
        refine cR2_wf hn h (by omega) (by omega) (fun y hy => hm2 y ?_)
        rw [hm] at hy
        simpa using hy
      · cases h
  · exact cR2_wf hn h (Nat.zero_le _) (Nat.le_refl _) (fun y hy => by cases hy)
