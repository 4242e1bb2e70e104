/-! A picture of the machine: cells are numbered from 1 on (0: the script), values, locals, stack and cells with these numbers; a denotation of 'from this pc to the return' is a relation. -/
abbrev kv_H : Type := (Nat → va_E) × Nat × Nat
abbrev kv_D : Type := List (Option Value) → List Value → kv_H → Option Value → kv_H → Prop
abbrev kv_M : Type := List Value → kv_H → Option Value → kv_H → Prop
abbrev kv_Y0 : Type := (Nat → Int32) ⊕ (Nat → Int64) ⊕ (Nat → UInt32) ⊕ (Nat → UInt64) ⊕ (Nat → Option Nat)
def kv_a (b S : Nat) (a : Nat) : Nat := match a with
  | 0 => b
  | k + 1 => S + k
def kv_v (b S : Nat) (v : Value) : Value := match v with
  | .ref a => .ref (kv_a b S a)
  | .int x => .int x
  | .long x => .long x
  | .float x => .float x
  | .double x => .double x
  | .null => .null
  | .retAddr x => .retAddr x
def kv_x (b S : Nat) (x : kv_Y0) : kv_Y0 := match x with
  | .inl f => .inl f
  | .inr (.inl f) => .inr (.inl f)
  | .inr (.inr (.inl f)) => .inr (.inr (.inl f))
  | .inr (.inr (.inr (.inl f))) => .inr (.inr (.inr (.inl f)))
  | .inr (.inr (.inr (.inr f))) => .inr (.inr (.inr (.inr (fun j => (f j).map (kv_a b S)))))
def kv_e (b S : Nat) (dA : Nat → ClassId) (e : va_E) : va_E := match e with
  | .inl q => .inl (dA q.1, q.2.1, kv_x b S q.2.2)
  | .inr q => .inr (q.1, q.2.map (kv_v b S))
def kv_w (b S : Nat) (dA : Nat → ClassId) (h : kv_H) : va_W := (List.range h.2.1).map (fun k => (S + k, kv_e b S dA (h.1 (k + 1))))
def kv_g (h : kv_H) (a : Nat) : Option va_E := if 1 ≤ a ∧ a ≤ h.2.1 then some (h.1 a) else none
def kv_p (h : kv_H) (a : Nat) (e : va_E) : kv_H := (va_up h.1 a e, h.2)
def kv_n (h : kv_H) (e : va_E) (z : Nat) : kv_H := (va_up h.1 (h.2.1 + 1) e, h.2.1 + 1, h.2.2 + z)
def kv_T (dA : Nat → ClassId) : List (ClassId × FieldType) := kv_tl.zipIdx.map (fun q => (dA q.2, q.1))
theorem kv_T_at {dA : Nat → ClassId} {t : Nat} {ty : FieldType} (h : kv_tl[t]? = some ty) : (kv_T dA)[t]? = some (dA t, ty) := by
  simp [kv_T, h]
theorem kv_cat (b S : Nat) (v : Value) : (kv_v b S v).category = v.category := by cases v <;> rfl
theorem kv_cats (b S : Nat) (l : List Value) : ((l.map (kv_v b S)).map fun v => v.category).sum = (l.map fun v => v.category).sum := by
  rw [List.map_map]
  congr 1
  apply List.map_congr_left
  intro v _
  exact kv_cat b S v
theorem kv_narrow {b S : Nat} {ty : FieldType} {v : Value} (h : narrow ty v = v) : narrow ty (kv_v b S v) = kv_v b S v := by
  cases v <;> first | exact h | (cases ty <;> rfl)
theorem kv_fits {b S : Nat} {ty : FieldType} {v : Value} (h : fits ty v = true) : fits ty (kv_v b S v) = true := by
  cases v <;> first | exact h | (cases ty <;> first | rfl | exact h)
theorem kv_g_le {h : kv_H} {a : Nat} {e : va_E} (hg : kv_g h a = some e) : 1 ≤ a ∧ a ≤ h.2.1 ∧ h.1 a = e := by
  unfold kv_g at hg
  split at hg
  · rename_i hc
    exact ⟨hc.1, hc.2, Option.some.inj hg⟩
  · cases hg
theorem kv_a_pos (b S : Nat) {a : Nat} (h : 1 ≤ a) : kv_a b S a = S + (a - 1) := by
  cases a with
  | zero => omega
  | succ k => simp [kv_a]
theorem kv_w_get {b S : Nat} {dA : Nat → ClassId} {h : kv_H} {a : Nat} {e : va_E} (hg : kv_g h a = some e) : (kv_w b S dA h)[a - 1]? = some (kv_a b S a, kv_e b S dA e) := by
  obtain ⟨h1, h2, rfl⟩ := kv_g_le hg
  unfold kv_w
  rw [List.getElem?_map, List.getElem?_range (by omega), kv_a_pos b S h1]
  simp [show a - 1 + 1 = a by omega]
theorem kv_w_len {b S : Nat} {dA : Nat → ClassId} {h : kv_H} : (kv_w b S dA h).length = h.2.1 := by simp [kv_w]
theorem kv_w_at {b S : Nat} {dA : Nat → ClassId} {h : kv_H} {k : Nat} {q : Nat × va_E} (hq : (kv_w b S dA h)[k]? = some q) : k < h.2.1 ∧ q = (S + k, kv_e b S dA (h.1 (k + 1))) := by
  have hl := (List.getElem?_eq_some_iff.mp hq).1
  rw [kv_w_len] at hl
  unfold kv_w at hq
  rw [List.getElem?_map, List.getElem?_range hl] at hq
  exact ⟨hl, (Option.some.inj hq).symm⟩
theorem kv_w_set {b S : Nat} {dA : Nat → ClassId} {h : kv_H} {a : Nat} {e0 : va_E} (e : va_E) (hg : kv_g h a = some e0) : (kv_w b S dA h).set (a - 1) (kv_a b S a, kv_e b S dA e) = kv_w b S dA (kv_p h a e) := by
  obtain ⟨h1, h2, -⟩ := kv_g_le hg
  apply List.ext_getElem?
  intro k
  by_cases hk : k < h.2.1
  · have hr : (kv_w b S dA (kv_p h a e))[k]? = some (S + k, kv_e b S dA (va_up h.1 a e (k + 1))) := by
      unfold kv_w
      rw [List.getElem?_map, List.getElem?_range (by exact hk)]
      rfl
    rw [hr]
    by_cases hka : k = a - 1
    · subst hka
      rw [List.getElem?_set_self (by rw [kv_w_len]; exact hk), kv_a_pos b S h1]
      rw [show a - 1 + 1 = a by omega, va_up_self]
    · rw [List.getElem?_set_ne (Ne.symm hka)]
      unfold kv_w
      rw [List.getElem?_map, List.getElem?_range hk, va_up_ne _ _ (by omega)]
      rfl
  · rw [List.getElem?_eq_none (by simp [kv_w_len]; omega), List.getElem?_eq_none (by rw [kv_w_len]; show h.2.1 ≤ k; omega)]
theorem kv_w_new {b S : Nat} {dA : Nat → ClassId} {h : kv_H} (e : va_E) (z : Nat) : kv_w b S dA (kv_n h e z) = kv_w b S dA h ++ [(S + h.2.1, kv_e b S dA e)] := by
  unfold kv_w kv_n
  simp only [List.range_succ, List.map_append, List.map_cons, List.map_nil, va_up_self]
  congr 1
  apply List.map_congr_left
  intro k hk
  rw [va_up_ne _ _ (by have := List.mem_range.mp hk; omega)]
theorem kv_w_D (b S : Nat) (dA : Nat → ClassId) (h : kv_H) : va_D (fun q => S ≤ q) (kv_w b S dA h) := by
  refine ⟨fun i j p q hi hj hpq => ?_, fun k q hk => ?_⟩
  · obtain ⟨-, rfl⟩ := kv_w_at hi
    obtain ⟨-, rfl⟩ := kv_w_at hj
    dsimp only at hpq
    omega
  · obtain ⟨-, rfl⟩ := kv_w_at hk
    show S ≤ S + k
    omega
/-! locals -/
def kv_L (b S : Nat) (ls : Array Slot) (nL : Nat) (L : List (Option Value)) : Prop := ls.size = nL ∧ lv_wf ls ∧ L.length = nL ∧ ∀ (i : Nat) (v : Value), L[i]? = some (some v) → v.category = 1 → ls[i]? = some (.val (kv_v b S v))
def kv_lv (b S nL : Nat) (L : List (Option Value)) : List (Nat × Value) := (List.range nL).filterMap (fun j => match L[j]? with
  | some (some v) => if v.category = 1 then some (j, kv_v b S v) else none
  | _ => none)
theorem kv_lv_mem {b S nL : Nat} {L : List (Option Value)} {j : Nat} {v : Value} (hj : j < nL) (h : L[j]? = some (some v)) (hc : v.category = 1) : (j, kv_v b S v) ∈ kv_lv b S nL L := by
  refine List.mem_filterMap.mpr ⟨j, List.mem_range.mpr hj, ?_⟩
  rw [h]
  simp [hc]
theorem kv_lv_has {b S nL : Nat} {ls : Array Slot} {L : List (Option Value)} (h : kv_L b S ls nL L) : lv_has ls nL (kv_lv b S nL L) := by
  obtain ⟨h1, h2, h3, h4⟩ := h
  refine ⟨h1, h2, fun q hq => ?_⟩
  obtain ⟨j, -, hj⟩ := List.mem_filterMap.mp hq
  split at hj
  · rename_i v hv
    split at hj
    · rename_i hc
      cases hj
      exact h4 j v hv hc
    · cases hj
  · cases hj
theorem kv_lv_set {b S nL : Nat} {ls ls' : Array Slot} {L : List (Option Value)} {i : Nat} {x : Value} (h : kv_L b S ls nL L) (h' : lv_has ls' nL ((i, kv_v b S x) :: (kv_lv b S nL L).filter (fun q => !(q.1 == i) && !(q.1 + 1 == i && q.2.category == 2)))) : kv_L b S ls' nL (L.set i (some x)) := by
  obtain ⟨h1, h2, h3, h4⟩ := h
  obtain ⟨g1, g2, g3⟩ := h'
  refine ⟨g1, g2, by rw [List.length_set]; exact h3, fun j v hv hc => ?_⟩
  by_cases hji : j = i
  · subst hji
    have hl : j < (L.set j (some x)).length := (List.getElem?_eq_some_iff.mp hv).1
    rw [List.length_set] at hl
    rw [List.getElem?_set_self hl] at hv
    cases hv
    exact g3 (j, kv_v b S x) List.mem_cons_self
  · rw [List.getElem?_set_ne (Ne.symm hji)] at hv
    have hl : j < L.length := (List.getElem?_eq_some_iff.mp hv).1
    have hm := kv_lv_mem (b := b) (S := S) (nL := nL) (by omega) hv hc
    refine g3 (j, kv_v b S v) (List.mem_cons_of_mem _ (List.mem_filter.mpr ⟨hm, ?_⟩))
    simp [hji, kv_cat, hc]
/-! words of private members of nest mates, and of arrays of objects: not words of a contract's list, so they stand in its premise -/
def kv_nw (U : State) : Prop := ∀ w ∈ kv_nl, w.before #[] U = true
theorem kv_nw_warm {s U : State} (hW : s.WarmedH U.vm) (h : kv_nw s) : kv_nw U := fun w hw => by
  have h1 := h w hw
  have h2 := (List.mem_filter.mp hw).2
  cases w <;> first | exact va_Nw.warmF hW h1 | exact va_Nw.warmM hW h1 | exact (Bool.false_ne_true h2).elim | (rename_i t; cases t <;> first | exact va_AO.moved hW.alike h1 | exact (Bool.false_ne_true h2).elim)
theorem kv_nw_vm {u U : State} (hv : u.vm = U.vm) (h : kv_nw u) : kv_nw U := fun w hw => by
  have h1 := h w hw
  have h2 := (List.mem_filter.mp hw).2
  have hal : u.vm.Alike U.vm := by rw [hv]; exact Vm.Alike.refl _
  cases w <;> first | exact (Bool.false_ne_true h2).elim | exact va_Nw.same rfl hv h1 | (rename_i t; cases t <;> first | exact va_AO.moved hal h1 | exact (Bool.false_ne_true h2).elim)
/-! the judgement -/
def kv_X (cc : ByteArray) (nL : Nat) (own : String) (Ts : List Cond) (ret : Option FieldType) (ini : Bool) (fr lo : Nat) (sc : Option (Nat × (Nat → Int32))) (p : Program) (R : Room) (s : State) (m : MethodId) (args : Array Value) (meth : Method) (c : Code) (b S n0 : Nat) (dC : Nat → ClassId) (dI : Nat → Nat → Nat) (dA : Nat → ClassId) : Prop :=
  p.tables.exec = Jvm.exec ∧ c.code = cc ∧ c.maxLocals = nL ∧ s.vm.findClass own = some m.cls ∧ (∀ w ∈ Ts, w.before args s = true) ∧ meth.sig.returnType = ret ∧ (ini = true → meth.name = "<init>") ∧ fr ≤ R.frames ∧ lo ≤ R.locals ∧ (va_K (dC, dI) vwCl (kv_T dA) s ∧ kv_nw s) ∧ s.heap.size = S + n0 ∧ ∀ (N : Nat) (xs : Nat → Int32), sc = some (N, xs) → va_X b N xs s s.heap ∧ b < s.heap.size ∧ b < S
def kv_Y (nL b S n0 z0 : Nat) (dC : Nat → ClassId) (dI : Nat → Nat → Nat) (dA : Nat → ClassId) (s : State) (L : List (Option Value)) (h : kv_H) (ls : Array Slot) (H : Heap) (locs : List Loc) (cells slots : Nat) : Prop :=
  kv_L b S ls nL L ∧ va_P (dC, dI) vwCl (kv_w b S dA h) H ∧ H.size = S + h.2.1 ∧ va_S (fun q => S ≤ q) s.heap H locs ∧ cells + n0 = h.2.1 ∧ slots + z0 = h.2.2
def kv_r (cc : ByteArray) (ret : Option FieldType) (pc : Nat) (v : Option Value) : Prop :=
  (v = none ∧ ret = none ∧ decode cc pc = .ok (.return_, 1)) ∨ (∃ (x : Int32) (ty : FieldType), v = some (.int x) ∧ ret = some ty ∧ narrow ty (.int x) = .int x ∧ decode cc pc = .ok (.ireturn, 1)) ∨ (∃ (a : Nat) (ty : FieldType), v = some (.ref a) ∧ ret = some ty ∧ ((∃ n, ty = .object n) ∨ ∃ t, ty = .array t) ∧ decode cc pc = .ok (.areturn, 1))
def kv_S (cc : ByteArray) (nL : Nat) (own : String) (Ts : List Cond) (ret : Option FieldType) (ini : Bool) (fr lo : Nat) (sc : Option (Nat × (Nat → Int32))) (pc : Nat) (F : kv_D) : Prop :=
  ∀ (L : List (Option Value)) (st : List Value) (h : kv_H) (v : Option Value) (h' : kv_H), F L st h v h' → (h.2.1 ≤ h'.2.1 ∧ h.2.2 ≤ h'.2.2) ∧
    ∀ (p : Program) (l : Launch) (e : Env) (R : Room) (s : State) (m : MethodId) (args : Array Value) (below : List Frame) (meth : Method) (c : Code) (b S n0 z0 : Nat) (dC : Nat → ClassId) (dI : Nat → Nat → Nat) (dA : Nat → ClassId) (Q : State → Prop),
      kv_X cc nL own Ts ret ini fr lo sc p R s m args meth c b S n0 dC dI dA → h'.2.1 ≤ R.cells + n0 → h'.2.2 ≤ R.slots + z0 →
      (∀ (pc' : Nat) (ls' : Array Slot) (L' : List (Option Value)) (H' : Heap) (locs' : List Loc) (cells' slots' : Nat), kv_r cc ret pc' v → kv_Y nL b S n0 z0 dC dI dA s L' h' ls' H' locs' cells' slots' → W p l e R s m args below meth c H' locs' cells' slots' Q (F0 m pc' ls' (v.toList.map (kv_v b S)))) →
      ∀ (ls : Array Slot) (H : Heap) (locs : List Loc) (cells slots : Nat), kv_Y nL b S n0 z0 dC dI dA s L h ls H locs cells slots → W p l e R s m args below meth c H locs cells slots Q (F0 m pc ls (st.map (kv_v b S)))
/-- a step of stack and locals alone -/
def kv_st (cc : ByteArray) (nL : Nat) (own : String) (Ts : List Cond) (ret : Option FieldType) (ini : Bool) (fr lo : Nat) (sc : Option (Nat × (Nat → Int32))) (pc : Nat) (L : List (Option Value)) (st : List Value) (h : kv_H) (pc' : Nat) (L' : List (Option Value)) (st' : List Value) : Prop :=
  ∀ (p : Program) (l : Launch) (e : Env) (R : Room) (s : State) (m : MethodId) (args : Array Value) (below : List Frame) (meth : Method) (c : Code) (b S n0 z0 : Nat) (dC : Nat → ClassId) (dI : Nat → Nat → Nat) (dA : Nat → ClassId) (Q : State → Prop),
      kv_X cc nL own Ts ret ini fr lo sc p R s m args meth c b S n0 dC dI dA →
      ∀ (ls : Array Slot) (H : Heap) (locs : List Loc) (cells slots : Nat), cells ≤ R.cells → slots ≤ R.slots → kv_Y nL b S n0 z0 dC dI dA s L h ls H locs cells slots →
      (∀ ls' : Array Slot, kv_L b S ls' nL L' → W p l e R s m args below meth c H locs cells slots Q (F0 m pc' ls' (st'.map (kv_v b S)))) →
      W p l e R s m args below meth c H locs cells slots Q (F0 m pc ls (st.map (kv_v b S)))
section KVA
variable {cc : ByteArray} {nL : Nat} {own : String} {Ts : List Cond} {ret : Option FieldType} {ini : Bool} {fr lo : Nat} {sc : Option (Nat × (Nat → Int32))} {pc : Nat}
theorem kv_mk {F : kv_D} (hF : ∀ (L : List (Option Value)) (st : List Value) (h : kv_H) (v : Option Value) (h' : kv_H), F L st h v h' → ∃ (pc' : Nat) (G : kv_D) (L' : List (Option Value)) (st' : List Value), kv_S cc nL own Ts ret ini fr lo sc pc' G ∧ G L' st' h v h' ∧ kv_st cc nL own Ts ret ini fr lo sc pc L st h pc' L' st') : kv_S cc nL own Ts ret ini fr lo sc pc F := by
  intro L st h v h' hf
  obtain ⟨pc', G, L', st', hG, g1, g2⟩ := hF L st h v h' hf
  obtain ⟨mono, snd⟩ := hG L' st' h v h' g1
  refine ⟨mono, ?_⟩
  intro p l e R s m args below meth c b S n0 z0 dC dI dA Q X hc hz kr ls H locs cells slots Y
  have Y0 := Y
  obtain ⟨y1, y2, y3, y4, y5, y6⟩ := Y
  refine g2 p l e R s m args below meth c b S n0 z0 dC dI dA Q X ls H locs cells slots (by omega) (by omega) Y0 (fun ls' hl' => ?_)
  exact snd p l e R s m args below meth c b S n0 z0 dC dI dA Q X hc hz kr ls' H locs cells slots ⟨hl', y2, y3, y4, y5, y6⟩
/-- what the machine's own book says of the heap's size -/
theorem kv_size {p : Program} {l : Launch} {e : Env} {R : Room} {s : State} {m : MethodId} {args : Array Value} {below : List Frame} {meth : Method} {c : Code} {H : Heap} {locs : List Loc} {cells slots : Nat} {Q : State → Prop} {g : JFrame} (kk : H.size ≤ s.heap.size + cells → W p l e R s m args below meth c H locs cells slots Q g) : W p l e R s m args below meth c H locs cells slots Q g :=
  fun T hT X => kk (by have h := X.same.2.2.1; rw [← hT]; exact h) T hT X
theorem kv_none : kv_S cc nL own Ts ret ini fr lo sc pc (fun _ _ _ _ _ => False) := fun _ _ _ _ _ h => h.elim
end KVA
