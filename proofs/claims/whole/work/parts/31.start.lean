/-! THE CLAIM OUT OF ONE WALK OF THE LAW'S BODY. Your part is whole_start (and what it stands on); all else here is the same for every law, but numbers. -/
def R_law : String := "CursorRewriterLaw"
def lw_P (b : Addr) (xs : List Int32) (args : Array Value) (s : State) : Prop := args = #[.ref b] ∧ s.IntsAt b xs ∧ xs.length ≤ 1536 ∧ (Jvm.Cond.and given_1 narrow_1).before args s = true
def lw_Q (_ : Array Value) (s : State) (o : Outcome) (t : State) : Prop := o = .returned (some (.int 1)) ∧ Framed s o t [] 600000 7302250
def lw_Z (below : List Frame) (a : Array Value) (s : State) : State → Prop := fun t => ∃ o, t.status = .running ∧ Ended t below o ∧ lw_Q a s o t
/-- the law's own end, with 1 on the stack, nothing written that was there before, its room as the claim has it -/
theorem lw_ret {p : Program} {l : Launch} {e : Env} {s : State} {m : MethodId} {below : List Frame} {meth : Method} {c : Code} {b : Nat} (hx : p.tables.exec = Jvm.exec) (hb : c.code = code) (hr : meth.sig.returnType = ret) (hlocks : meth.locks = false) {pc : Nat} {H : Heap} {ls : Array Slot} (hdg : decode code pc = .ok (.ireturn, 1)) : W p l e room_1 s m #[Value.ref b] below meth c H [] 600000 7302250 (lw_Z below #[Value.ref b] s) (F0 m pc ls [.int 1]) := by
  intro T hT X
  obtain ⟨fs, hret, hrun, hended, hW, hframe⟩ := X.leave (v := some (.int 1)) (hlocks := hlocks) (fun h => by rw [hr] at h; cases h)
  have hmeth' : T.vm.method? m = some meth := X.method'
  refine ⟨T.setFrames fs, ?_, .returned (some (.int 1)), hrun, hended, rfl, ⟨_, rfl⟩, hW, hframe⟩
  jvm_step X.here [X.here.top, hx, hb, hdg, hmeth', hr, ret, narrow_b1]
  (try refine ⟨rfl, ?_⟩); (try refine ⟨rfl, ?_⟩)
  first | (intro acts; rw [hret _ acts rfl rfl rfl]) | rw [hret _ _ rfl rfl rfl]
  exact Steps.refl _
/-- what holds at the law's entry: the machine, the code, the tables' words (any of lw_tbl by 'hts w (by decide +kernel)'), the script of L ints xs at the cell b, what the Statement gives of the start (any of its parts by flat_of_before) -/
def lw_At (p : Program) (s : State) (m : MethodId) (meth : Method) (c : Code) (b L : Nat) (xs : Nat → Int32) : Prop :=
  p.tables.exec = Jvm.exec ∧ c.code = code ∧ meth.sig.returnType = ret ∧ c.maxLocals = 4 ∧ s.vm.findClass R_law = some m.cls ∧ (∀ w ∈ lw_tbl, w.before #[Value.ref b] s = true) ∧ va_X b L xs s s.heap ∧ b < s.heap.size ∧ meth.locks = false ∧ (Jvm.Cond.and given_1 narrow_1).before #[Value.ref b] s = true
/-! the law's entry: the tables' words give classes and arrays; a run of the law's denotation that ends with 1 is the walk that is owed -/
theorem kv_arr {s : State} {args : Array Value} {ty : FieldType} (h : (Cond.arrayClass ty).before args s = true) (hn : ∀ C, ty ≠ .object C) : ∃ cA : ClassId, ArrOfT s cA ty ∧ va_RA s cA ty := by
  obtain ⟨c, k, comp, h1, h2, h3⟩ := Cond.arrayClass_spec h
  refine ⟨c, fun N z => ⟨(fun k h => by cases h), k, h2, comp, h3⟩, ?_⟩
  cases ty <;> first | exact absurd rfl (hn _) | exact h1
theorem kv_arrq {s : State} {args : Array Value} {C : String} (h : (Cond.arrayOver (.object C)).before args s = true) : ∃ cA : ClassId, ArrOfT s cA (.object C) ∧ va_RA s cA (.object C) := by
  obtain ⟨comp, c, k, h1, h2, h3, h4, h5⟩ := Cond.arrayOver_spec h
  exact ⟨c, fun N z => ⟨(fun k h => by cases h), k, h3, comp, h4⟩, k, comp, h3, h4, h1, h5⟩
theorem kv_tb_of {s : State} {args : Array Value} (hts : ∀ w ∈ lw_tbl, w.before args s = true) : ∀ w ∈ kv_tb, w.before args s = true := fun w hw => hts w (List.mem_filter.mp hw).1
theorem kv_nw_of {s : State} {args : Array Value} (hts : ∀ w ∈ lw_tbl, w.before args s = true) : kv_nw s := fun w hw => by
  have h1 := hts w (List.mem_append_right _ (List.mem_filter.mp hw).1)
  have h2 := (List.mem_filter.mp hw).2
  cases w <;> first | exact (Bool.false_ne_true h2).elim | exact va_Nw.of rfl h1 | (rename_i t; cases t <;> first | exact va_AO.of h1 | exact (Bool.false_ne_true h2).elim)
set_option maxRecDepth 100000 in
theorem kv_known {s : State} {args : Array Value} (hts : ∀ w ∈ lw_tbl, w.before args s = true) : ∃ (dC : Nat → ClassId) (dI : Nat → Nat → Nat) (dA : Nat → ClassId), va_K (dC, dI) vwCl (kv_T dA) s := by
  have hg := kv_tb_of hts
  obtain ⟨c0, i0, k0⟩ := u_known (C := RX0) (T := TX0) (N := 1) (n := 1) hg inX0 (hg _ mw_143)
  obtain ⟨c1, i1, k1⟩ := u_known (C := RX1) (T := TX1) (N := 14) (n := 14) hg inX1 (hg _ mw_51)
  obtain ⟨c2, i2, k2⟩ := u_known (C := RX2) (T := TX2) (N := 6) (n := 6) hg inX2 (hg _ mw_18)
  obtain ⟨c3, i3, k3⟩ := u_known (C := RX3) (T := TX3) (N := 4) (n := 4) hg inX3 (hg _ mw_119)
  obtain ⟨c4, i4, k4⟩ := u_known (C := RX4) (T := TX4) (N := 8) (n := 8) hg inX4 (hg _ mw_10)
  obtain ⟨c5, i5, k5⟩ := u_known (C := RX5) (T := TX5) (N := 32) (n := 32) hg inX5 (hg _ mw_414)
  obtain ⟨a0, g0⟩ := kv_arr (hg _ mw_48) (fun _ h => by cases h)
  obtain ⟨a1, g1⟩ := kv_arr (hg _ mw_47) (fun _ h => by cases h)
  obtain ⟨a2, g2⟩ := kv_arrq (va_AO.use (C := "CursorRewriter$Rule") (A := args) (kv_nw_of hts _ mw_50))
  refine ⟨fun k => match k with | 0 => c0 | 1 => c1 | 2 => c2 | 3 => c3 | 4 => c4 | _ => c5, fun k => match k with | 0 => i0 | 1 => i1 | 2 => i2 | 3 => i3 | 4 => i4 | _ => i5, fun k => match k with | 0 => a0 | 1 => a1 | _ => a2, fun c q hq => ?_, fun c q hq => ?_⟩
  · match c, hq with
    | 0, hq => cases hq; exact k0
    | 1, hq => cases hq; exact k1
    | 2, hq => cases hq; exact k2
    | 3, hq => cases hq; exact k3
    | 4, hq => cases hq; exact k4
    | 5, hq => cases hq; exact k5
    | n + 6, hq => simp at hq
  · match c, hq with
    | 0, hq => cases hq; exact g0
    | 1, hq => cases hq; exact g1
    | 2, hq => cases hq; exact g2
    | n + 3, hq => simp [kv_T, kv_tl] at hq
/-- the empty picture -/
def kv_0 : kv_H := (fun _ => .inr (0, []), 0, 0)
theorem kv_start {p : Program} {e : Env} {s : State} {m : MethodId} {below : List Frame} {meth : Method} {c : Code} (l : Launch) {b L : Nat} {xs : Nat → Int32} (hrun : ∃ h', eL_law L xs [some (.ref 0), none, none, none] [] kv_0 (some (.int 1)) h' ∧ h'.2.1 ≤ 600000 ∧ h'.2.2 ≤ 7302250) (C0 : lw_At p s m meth c b L xs) : W p l e room_1 s m #[Value.ref b] below meth c s.heap [] 0 0 (lw_Z below #[Value.ref b] s) (entryFrame m ([Value.ref b] : List Value).toArray 4) := by
  obtain ⟨h', hr, hb1, hb2⟩ := hrun
  obtain ⟨c1, c2, c3, c4, c5, c6, c7, c8, c9, c10⟩ := C0
  obtain ⟨dC, dI, dA, hK⟩ := kv_known c6
  obtain ⟨-, snd⟩ := eL_law_s L xs _ _ _ _ _ hr
  rw [lg_entry_eq]
  refine snd p l e room_1 s m #[Value.ref b] below meth c b s.heap.size 0 0 dC dI dA (lw_Z below #[Value.ref b] s) ⟨c1, c2, c4, c5, kv_tb_of c6, c3, (fun q => by cases q), (by decide), (by decide), ⟨hK, kv_nw_of c6⟩, rfl, fun N ys q => ?_⟩ hb1 hb2 ?_ _ s.heap [] 0 0 ⟨?_, ?_, rfl, va_S.rf, rfl, rfl⟩
  · cases q
    exact ⟨c7, c8, c8⟩
  · intro pc' ls' L' H' locs' cells' slots' hret Y'
    obtain ⟨y1, y2, y3, y4, y5, y6⟩ := Y'
    have hd : decode code pc' = .ok (.ireturn, 1) := by
      rcases hret with ⟨q, -⟩ | ⟨x, ty, q, -, -, d⟩ | ⟨a, ty, q, -⟩
      · cases q
      · exact d
      · cases q
    refine va_forget (fun q hq => y4.2.2 q hq) ?_
    refine W.widen (k := 600000) (n := 7302250) (by omega) (by omega) ?_
    exact lw_ret c1 c2 c3 c9 hd
  · have h9 := kv_entry (b := b) (S := s.heap.size) (nL := 4) (as := [.ref 0]) (fun x hx => by cases List.mem_singleton.mp hx; rfl) (by decide)
    exact h9
  · intro k q hq
    have hl := (List.getElem?_eq_some_iff.mp hq).1
    rw [kv_w_len] at hl
    exact absurd hl (Nat.not_lt_zero _)
