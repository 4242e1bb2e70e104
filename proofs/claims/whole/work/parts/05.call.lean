section KVE
variable {b S : Nat} {dC : Nat → ClassId} {dI : Nat → Nat → Nat} {dA : Nat → ClassId}
def kv_Q (b S : Nat) (dC : Nat → ClassId) (dI : Nat → Nat → Nat) (dA : Nat → ClassId) (v1 : Option Value) (h1 : kv_H) : Array Value → State → Outcome → State → Prop := fun _ st oc t => oc = .returned (v1.map (kv_v b S)) ∧ va_P (dC, dI) vwCl (kv_w b S dA h1) t.heap ∧ t.heap.size = S + h1.2.1 ∧ va_F (fun q => S ≤ q) st t
def kv_Pc (b S : Nat) (dC : Nat → ClassId) (dI : Nat → Nat → Nat) (dA : Nat → ClassId) (as : List Value) (h : kv_H) : Array Value → State → Prop := va_Pc (as.map (kv_v b S)) (fun U => va_P (dC, dI) vwCl (kv_w b S dA h) U.heap ∧ U.heap.size = S + h.2.1 ∧ va_K (dC, dI) vwCl (kv_T dA) U ∧ kv_nw U)
/-- a method's contract: what it relates, it does -/
def kv_CT (y : MethodName) (ws : List Cond) (fr lo : Nat) (M : kv_M) : Prop := ∀ (as : List Value) (h : kv_H) (v : Option Value) (h' : kv_H), M as h v h' → (h.2.1 ≤ h'.2.1 ∧ h.2.2 ≤ h'.2.2) ∧ ∀ (l : Launch) (b S : Nat) (dC : Nat → ClassId) (dI : Nat → Nat → Nat) (dA : Nat → ClassId) (mc ms : Nat), h.2.1 + mc = h'.2.1 → h.2.2 + ms = h'.2.2 → Met l y ws { frames := fr, cells := mc, slots := ms, locals := lo } (kv_Pc b S dC dI dA as h) (kv_Q b S dC dI dA v h') mc ms (fun q => S ≤ q)
theorem kv_blind {as : List Value} {h : kv_H} : FrameBlind (kv_Pc b S dC dI dA as h) := fun a U g mk q => by
  obtain ⟨q0, q1, q2, q3⟩ := q
  exact ⟨q0, q1, q2, va_K.moved (u := U) (U := U.calling g mk a) (Vm.Alike.refl U.vm) q3.1, kv_nw_vm (u := U) (U := U.calling g mk a) rfl q3.2⟩
theorem kv_sl {vs : List Value} (hc : ∀ x ∈ vs, x.category = 1) : lg_sl vs = vs.map Slot.val := by
  induction vs with
  | nil => rfl
  | cons x t ih =>
    have h1 := hc x List.mem_cons_self
    have h2 := ih (fun y hy => hc y (List.mem_cons_of_mem _ hy))
    unfold lg_sl at h2 ⊢
    rw [List.flatMap_cons, h2]
    simp [h1]
theorem kv_entry {nL : Nat} {as : List Value} (hc : ∀ x ∈ as, x.category = 1) (hk : as.length ≤ nL) : kv_L b S ((lg_sl (as.map (kv_v b S)) ++ List.replicate (nL - (lg_sl (as.map (kv_v b S))).length) Slot.unset).toArray) nL (as.map some ++ List.replicate (nL - as.length) none) := by
  have hc2 : ∀ x ∈ as.map (kv_v b S), x.category = 1 := fun x hx => by
    obtain ⟨y, hy, rfl⟩ := List.mem_map.mp hx
    rw [kv_cat]
    exact hc y hy
  have hsl := kv_sl hc2
  have hlen : (lg_sl (as.map (kv_v b S))).length = as.length := by rw [hsl]; simp
  obtain ⟨g1, g2, -⟩ := lv_entry (as.map (kv_v b S)) (n := nL) (by omega)
  refine ⟨g1, g2, by simp; omega, fun i v hi hv => ?_⟩
  by_cases hlt : i < as.length
  · rw [List.getElem?_append_left (by simpa using hlt), List.getElem?_map, List.getElem?_eq_getElem hlt] at hi
    simp only [Option.map_some, Option.some.injEq] at hi
    subst hi
    rw [hsl]
    simp only [List.map_map, List.getElem?_toArray]
    rw [List.getElem?_append_left (by simpa using hlt), List.getElem?_map, List.getElem?_eq_getElem hlt]
    rfl
  · rw [List.getElem?_append_right (by simpa using hlt), List.getElem?_replicate] at hi
    split at hi <;> cases hi
def kv_in (k nL : Nat) (F : kv_D) : kv_M := fun as h v h' => as.length = k ∧ (∀ x ∈ as, x.category = 1) ∧ F (as.map some ++ List.replicate (nL - k) none) [] h v h'
theorem kv_met {y : MethodName} {cc : ByteArray} {nL k fr lo : Nat} {own : String} {Ts Ts' : List Cond} {ret : Option FieldType} {ini : Bool} {F : kv_D} (hy : plainName y.cls = true) (hcls : y.cls = own) (hw : Ts = Cond.code y cc nL ret :: Ts') (hk : k ≤ nL) (hini : ini = true → y.name = "<init>") (sd : kv_S cc nL own Ts ret ini fr lo none 0 F) : kv_CT y Ts fr lo (kv_in k nL F) := by
  intro as h v h' hM
  obtain ⟨hlen, hcat, hF⟩ := hM
  obtain ⟨mono, snd⟩ := sd _ _ _ _ _ hF
  refine ⟨mono, ?_⟩
  intro l b S dC dI dA mc ms hmc hms
  refine Met.ofW (cc := cc) (maxL := nL) (ret := ret) hy hw ?_
  intro p e s m args below meth c s₁ B hml hv
  obtain ⟨rfl, hP, hz, hK⟩ := hv
  have hx := B.exec
  have hb := B.bytes
  have hr := B.returns
  have hts := atoms_spec (ws := Ts) B.pre
  have hown : s.vm.findClass own = some m.cls := by rw [← hcls]; exact findClass_of_methodNamed B.named
  have hlocks := B.notSynchronized
  have hin : meth.name = y.name := (name_of_methodNamed B.named B.method).1
  subst hlen
  rw [lg_entry_eq]
  refine snd p l e _ s m _ below meth c b S h.2.1 h.2.2 dC dI dA _ ⟨hx, hb, hml, hown, hts, hr, fun q => by rw [hin]; exact hini q, Nat.le_refl _, Nat.le_refl _, hK, hz, fun N xs q => by cases q⟩ (by show h'.2.1 ≤ mc + h.2.1; omega) (by show h'.2.2 ≤ ms + h.2.2; omega) ?_ _ s.heap [] 0 0 ⟨kv_entry hcat hk, hP, hz, va_S.rf, by omega, by omega⟩
  intro pc' ls' L' H' locs' cells' slots' hret Y'
  obtain ⟨y1, y2, y3, y4, y5, y6⟩ := Y'
  have e1 : cells' = mc := by omega
  have e2 : slots' = ms := by omega
  subst e1
  subst e2
  rcases hret with ⟨rfl, rr, d⟩ | ⟨x, ty, rfl, rr, hn, d⟩ | ⟨a, ty, rfl, rr, ho, d⟩
  · exact W.vret hx hb (hr.trans rr) (fun t ht hW => ⟨rfl, by rw [ht]; exact y2, by rw [ht]; exact y3, y4.F ht⟩) y4.2.2 d
  · exact W.zret hx hb (hr.trans rr) hn (fun t ht hW => ⟨rfl, by rw [ht]; exact y2, by rw [ht]; exact y3, y4.F ht⟩) y4.2.2 d
  · exact W.aret hx hb (hr.trans rr) ho (Or.inr ⟨_, rfl⟩) (fun t ht hW => ⟨rfl, by rw [ht]; exact y2, by rw [ht]; exact y3, y4.F ht⟩) y4.2.2 d
theorem kv_run {p : Program} {l : Launch} {e : Env} {R : Room} {s : State} {m : MethodId} {args : Array Value} {below : List Frame} {meth : Method} {c : Code} {H : Heap} {locs : List Loc} {cells slots mc ms pc : Nat} {Q : State → Prop} {ls : Array Slot} {st0 rest : List Value} {v1 : Option Value} {h1 : kv_H} {aa : Array Value} (hr : va_Run p l e R s m args below meth c H locs cells slots mc ms (F0 m pc ls st0) rest (kv_Q b S dC dI dA v1 h1 aa) (fun q => S ≤ q)) (hS : va_S (fun q => S ≤ q) s.heap H locs)
    (kk : ∀ (H1 : Heap) (locs1 : List Loc), va_P (dC, dI) vwCl (kv_w b S dA h1) H1 → H1.size = S + h1.2.1 → va_S (fun q => S ≤ q) s.heap H1 locs1 → W p l e R s m args below meth c H1 locs1 (cells + mc) (slots + ms) Q (F0 m (pc + 3) ls ((v1.map (kv_v b S)).toList ++ rest))) : W p l e R s m args below meth c H locs cells slots Q (F0 m pc ls st0) := by
  intro T hT X
  obtain ⟨v, st₀, t, T', L, h0, X', hL, e1, e2, ⟨hv, hp, hz, hF⟩, st⟩ := hr T hT X
  have hv2 : v = v1.map (kv_v b S) := by injection hv
  subst hv2
  rw [va_F, h0] at hF
  obtain ⟨t2, a1, b1⟩ := kk T'.heap (locs ++ L) (by rw [e1]; exact hp) (by rw [e1]; exact hz)
    ⟨Nat.le_trans hS.1 (by rw [e1]; exact hF.1), fun q q1 q2 => by rw [e1, hF.2 q (Nat.lt_of_lt_of_le q1 hS.1) q2]; exact hS.2.1 q q1 q2, fun q hq => by
      rcases List.mem_append.mp hq with h | h
      · exact hS.2.2 q h
      · exact hL q h⟩ T' rfl X'
  exact ⟨t2, st t2 a1, b1⟩
end KVE
section KVF
variable {cc : ByteArray} {nL : Nat} {own : String} {Ts : List Cond} {ret : Option FieldType} {ini : Bool} {fr lo : Nat} {sc : Option (Nat × (Nat → Int32))} {pc : Nat} {F G : kv_D}
def o_callV (ci k : Nat) (M : kv_M) (F : kv_D) : kv_D := fun L st h v h' => ∃ (As : List Value) (a : Nat) (r : List Value) (fs : List Value) (v1 : Option Value) (h1 : kv_H), st = As.reverse ++ .ref a :: r ∧ As.length = k ∧ (r.map fun v => v.category).sum ≤ 8 ∧ kv_g h a = some (.inr (ci, fs)) ∧ M (.ref a :: As) h v1 h1 ∧ F L (v1.toList ++ r) h1 v h'
def o_callI (k : Nat) (M : kv_M) (F : kv_D) : kv_D := fun L st h v h' => ∃ (As : List Value) (a : Nat) (r : List Value) (v1 : Option Value) (h1 : kv_H), st = As.reverse ++ .ref a :: r ∧ As.length = k ∧ (r.map fun v => v.category).sum ≤ 8 ∧ M (.ref a :: As) h v1 h1 ∧ F L (v1.toList ++ r) h1 v h'
def o_callS (k : Nat) (M : kv_M) (F : kv_D) : kv_D := fun L st h v h' => ∃ (As : List Value) (r : List Value) (v1 : Option Value) (h1 : kv_H), st = As.reverse ++ r ∧ As.length = k ∧ (r.map fun v => v.category).sum ≤ 8 ∧ M As h v1 h1 ∧ F L (v1.toList ++ r) h1 v h' 
theorem k_callV {y : MethodName} {ws ws' : List Cond} {bytes : ByteArray} {maxL fr2 lo2 kn index : Nat} {rt : Option FieldType} {M : kv_M} {ci : Nat} {q : vw_C} (d : decode cc pc = .ok (.invokevirtual index, 3)) (Ct : kv_CT y ws fr2 lo2 M) (hw : ws = Cond.code y bytes maxL rt :: ws') (hG : GoodIn Ts (wsV own index q.1 y ws)) (hd : y.cls = q.1 ∧ y.cls ≠ "java/lang/invoke/MethodHandle" ∧ y.cls ≠ "java/lang/invoke/VarHandle" ∧ (parseMethodDescriptor y.desc).map (fun d => d.parameters.length) = some kn) (hcl : vwCl[ci]? = some q) (hfr : fr2 + 1 ≤ fr) (hlo : 8 + (maxL + 11) + lo2 ≤ lo) (k : kv_S cc nL own Ts ret ini fr lo sc (pc + 3) F) : kv_S cc nL own Ts ret ini fr lo sc pc (o_callV ci kn M F) := by
  intro L st h v h' hF
  obtain ⟨As, a, r, fs, v1, h1, rfl, hn, hr, hg, hM, hF⟩ := hF
  obtain ⟨m1, met⟩ := Ct _ _ _ _ hM
  obtain ⟨mono, snd⟩ := k _ _ _ _ _ hF
  refine ⟨⟨by omega, by omega⟩, ?_⟩
  intro p l e R s m args below meth c b S n0 z0 dC dI dA Q X hc hz kr ls H locs cells slots Y
  have hx := X.2.2.2.2.1
  have hcc := Y.2.2.2.2.1
  have hzz := Y.2.2.2.2.2
  have hMet := met l b S dC dI dA (h1.2.1 - h.2.1) (h1.2.2 - h.2.2) (by omega) (by omega)
  refine kv_run (rest := r.map (kv_v b S)) (va_runV (b := kv_a b S a) (As := As.map (kv_v b S)) (rest := r.map (kv_v b S)) ⟨X.1, X.2.1, X.2.2.1, X.2.2.2.1, hx⟩ hMet (cwV kn hx hG hw rfl rfl hd ⟨by have := X.2.2.2.2.2.2.2.1; show fr2 + 1 ≤ _; omega, by have := X.2.2.2.2.2.2.2.2.1; show 8 + (maxL + 11) + lo2 ≤ _; omega⟩) ⟨kv_blind, va_recv X.2.2.2.2.2.2.2.2.2.1.1 Y.2.1 hcl (kv_w_get hg), fun U hU hW => ⟨rfl, by rw [hU]; exact Y.2.1, by rw [hU]; exact Y.2.2.1, va_K.moved hW.alike X.2.2.2.2.2.2.2.2.2.1.1, kv_nw_warm hW X.2.2.2.2.2.2.2.2.2.1.2⟩⟩ rfl (by rw [List.length_map]; exact hn) Y.1.1 (by simp [kv_v]) (lv_room (by rw [kv_cats]; exact hr)) d ⟨by omega, by omega⟩) (Y.2.2.2.1) (fun H1 locs1 g1 g2 g3 => ?_)
  have e9 : (v1.map (kv_v b S)).toList ++ r.map (kv_v b S) = (v1.toList ++ r).map (kv_v b S) := by cases v1 <;> rfl
  rw [e9]
  exact snd p l e R s m args below meth c b S n0 z0 dC dI dA Q X hc hz kr ls H1 locs1 _ _ ⟨Y.1, g1, g2, g3, by omega, by omega⟩
theorem k_callVN {y : MethodName} {ws ws' : List Cond} {bytes : ByteArray} {maxL fr2 lo2 kn index : Nat} {rt : Option FieldType} {M : kv_M} {ci : Nat} {q : vw_C} {host : String} (d : decode cc pc = .ok (.invokevirtual index, 3)) (Ct : kv_CT y ws fr2 lo2 M) (hw : ws = Cond.code y bytes maxL rt :: ws') (hG : GoodIn Ts ws) (hl : Cond.methodLinkNest own index y host ∈ kv_nl) (hini : Cond.initialized y.cls ∈ Ts) (him : Cond.instanceMethod y ∈ Ts) (hsel : Cond.selects q.1 y y ∈ Ts) (hd : y.cls ≠ "java/lang/invoke/MethodHandle" ∧ y.cls ≠ "java/lang/invoke/VarHandle" ∧ (parseMethodDescriptor y.desc).map (fun d => d.parameters.length) = some kn) (hcl : vwCl[ci]? = some q) (hfr : fr2 + 1 ≤ fr) (hlo : 8 + (maxL + 11) + lo2 ≤ lo) (k : kv_S cc nL own Ts ret ini fr lo sc (pc + 3) F) : kv_S cc nL own Ts ret ini fr lo sc pc (o_callV ci kn M F) := by
  intro L st h v h' hF
  obtain ⟨As, a, r, fs, v1, h1, rfl, hn, hr, hg, hM, hF⟩ := hF
  obtain ⟨m1, met⟩ := Ct _ _ _ _ hM
  obtain ⟨mono, snd⟩ := k _ _ _ _ _ hF
  refine ⟨⟨by omega, by omega⟩, ?_⟩
  intro p l e R s m args below meth c b S n0 z0 dC dI dA Q X hc hz kr ls H locs cells slots Y
  have hx := X.2.2.2.2.1
  have hcc := Y.2.2.2.2.1
  have hzz := Y.2.2.2.2.2
  have hMet := met l b S dC dI dA (h1.2.1 - h.2.1) (h1.2.2 - h.2.2) (by omega) (by omega)
  refine kv_run (rest := r.map (kv_v b S)) (va_runVN (b := kv_a b S a) (As := As.map (kv_v b S)) (rest := r.map (kv_v b S)) ⟨X.1, X.2.1, X.2.2.1, X.2.2.2.1, hx⟩ hMet ⟨va_cnB kn hx hG hw rfl rfl (X.2.2.2.2.2.2.2.2.2.1.2 _ hl) (hx _ hini) hd ⟨by have := X.2.2.2.2.2.2.2.1; show fr2 + 1 ≤ _; omega, by have := X.2.2.2.2.2.2.2.2.1; show 8 + (maxL + 11) + lo2 ≤ _; omega⟩, hx _ him, hx _ hsel⟩ ⟨kv_blind, va_recv X.2.2.2.2.2.2.2.2.2.1.1 Y.2.1 hcl (kv_w_get hg), fun U hU hW => ⟨rfl, by rw [hU]; exact Y.2.1, by rw [hU]; exact Y.2.2.1, va_K.moved hW.alike X.2.2.2.2.2.2.2.2.2.1.1, kv_nw_warm hW X.2.2.2.2.2.2.2.2.2.1.2⟩⟩ rfl (by rw [List.length_map]; exact hn) Y.1.1 (by simp [kv_v]) (lv_room (by rw [kv_cats]; exact hr)) d ⟨by omega, by omega⟩) (Y.2.2.2.1) (fun H1 locs1 g1 g2 g3 => ?_)
  have e9 : (v1.map (kv_v b S)).toList ++ r.map (kv_v b S) = (v1.toList ++ r).map (kv_v b S) := by cases v1 <;> rfl
  rw [e9]
  exact snd p l e R s m args below meth c b S n0 z0 dC dI dA Q X hc hz kr ls H1 locs1 _ _ ⟨Y.1, g1, g2, g3, by omega, by omega⟩
theorem k_callS {y : MethodName} {ws ws' : List Cond} {bytes : ByteArray} {maxL fr2 lo2 kn index : Nat} {rt : Option FieldType} {M : kv_M} (d : decode cc pc = .ok (.invokestatic index, 3)) (Ct : kv_CT y ws fr2 lo2 M) (hw : ws = Cond.code y bytes maxL rt :: ws') (hG : GoodIn Ts (wsS own index y ws)) (hd : y.cls = own ∧ y.cls ≠ "java/lang/invoke/MethodHandle" ∧ y.cls ≠ "java/lang/invoke/VarHandle" ∧ (parseMethodDescriptor y.desc).map (fun d => d.parameters.length) = some kn) (hfr : fr2 + 1 ≤ fr) (hlo : 8 + (maxL + 11) + lo2 ≤ lo) (k : kv_S cc nL own Ts ret ini fr lo sc (pc + 3) F) : kv_S cc nL own Ts ret ini fr lo sc pc (o_callS kn M F) := by
  intro L st h v h' hF
  obtain ⟨As, r, v1, h1, rfl, hn, hr, hM, hF⟩ := hF
  obtain ⟨m1, met⟩ := Ct _ _ _ _ hM
  obtain ⟨mono, snd⟩ := k _ _ _ _ _ hF
  refine ⟨⟨by omega, by omega⟩, ?_⟩
  intro p l e R s m args below meth c b S n0 z0 dC dI dA Q X hc hz kr ls H locs cells slots Y
  have hx := X.2.2.2.2.1
  have hcc := Y.2.2.2.2.1
  have hzz := Y.2.2.2.2.2
  have hMet := met l b S dC dI dA (h1.2.1 - h.2.1) (h1.2.2 - h.2.2) (by omega) (by omega)
  refine kv_run (rest := r.map (kv_v b S)) (va_runS (As := As.map (kv_v b S)) (rest := r.map (kv_v b S)) ⟨X.1, X.2.1, X.2.2.1, X.2.2.2.1, hx⟩ hMet (cwS kn hx hG hw rfl rfl hd ⟨by have := X.2.2.2.2.2.2.2.1; show fr2 + 1 ≤ _; omega, by have := X.2.2.2.2.2.2.2.2.1; show 8 + (maxL + 11) + lo2 ≤ _; omega⟩) ⟨kv_blind, fun U hU hW => ⟨rfl, by rw [hU]; exact Y.2.1, by rw [hU]; exact Y.2.2.1, va_K.moved hW.alike X.2.2.2.2.2.2.2.2.2.1.1, kv_nw_warm hW X.2.2.2.2.2.2.2.2.2.1.2⟩⟩ rfl (by rw [List.length_map]; exact hn) Y.1.1 (by simp [kv_v]) (lv_room (by rw [kv_cats]; exact hr)) d ⟨by omega, by omega⟩) (Y.2.2.2.1) (fun H1 locs1 g1 g2 g3 => ?_)
  have e9 : (v1.map (kv_v b S)).toList ++ r.map (kv_v b S) = (v1.toList ++ r).map (kv_v b S) := by cases v1 <;> rfl
  rw [e9]
  exact snd p l e R s m args below meth c b S n0 z0 dC dI dA Q X hc hz kr ls H1 locs1 _ _ ⟨Y.1, g1, g2, g3, by omega, by omega⟩
theorem k_callSN {y : MethodName} {ws ws' : List Cond} {bytes : ByteArray} {maxL fr2 lo2 kn index : Nat} {rt : Option FieldType} {M : kv_M} {host : String} (d : decode cc pc = .ok (.invokestatic index, 3)) (Ct : kv_CT y ws fr2 lo2 M) (hw : ws = Cond.code y bytes maxL rt :: ws') (hG : GoodIn Ts ws) (hl : Cond.methodLinkNest own index y host ∈ kv_nl) (hini : Cond.initialized y.cls ∈ Ts) (hst : Cond.static y ∈ Ts) (hd : y.cls ≠ "java/lang/invoke/MethodHandle" ∧ y.cls ≠ "java/lang/invoke/VarHandle" ∧ (parseMethodDescriptor y.desc).map (fun d => d.parameters.length) = some kn) (hfr : fr2 + 1 ≤ fr) (hlo : 8 + (maxL + 11) + lo2 ≤ lo) (k : kv_S cc nL own Ts ret ini fr lo sc (pc + 3) F) : kv_S cc nL own Ts ret ini fr lo sc pc (o_callS kn M F) := by
  intro L st h v h' hF
  obtain ⟨As, r, v1, h1, rfl, hn, hr, hM, hF⟩ := hF
  obtain ⟨m1, met⟩ := Ct _ _ _ _ hM
  obtain ⟨mono, snd⟩ := k _ _ _ _ _ hF
  refine ⟨⟨by omega, by omega⟩, ?_⟩
  intro p l e R s m args below meth c b S n0 z0 dC dI dA Q X hc hz kr ls H locs cells slots Y
  have hx := X.2.2.2.2.1
  have hcc := Y.2.2.2.2.1
  have hzz := Y.2.2.2.2.2
  have hMet := met l b S dC dI dA (h1.2.1 - h.2.1) (h1.2.2 - h.2.2) (by omega) (by omega)
  refine kv_run (rest := r.map (kv_v b S)) (va_runSN (As := As.map (kv_v b S)) (rest := r.map (kv_v b S)) ⟨X.1, X.2.1, X.2.2.1, X.2.2.2.1, hx⟩ hMet ⟨va_cnB kn hx hG hw rfl rfl (X.2.2.2.2.2.2.2.2.2.1.2 _ hl) (hx _ hini) hd ⟨by have := X.2.2.2.2.2.2.2.1; show fr2 + 1 ≤ _; omega, by have := X.2.2.2.2.2.2.2.2.1; show 8 + (maxL + 11) + lo2 ≤ _; omega⟩, hx _ hst, trivial⟩ ⟨kv_blind, fun U hU hW => ⟨rfl, by rw [hU]; exact Y.2.1, by rw [hU]; exact Y.2.2.1, va_K.moved hW.alike X.2.2.2.2.2.2.2.2.2.1.1, kv_nw_warm hW X.2.2.2.2.2.2.2.2.2.1.2⟩⟩ rfl (by rw [List.length_map]; exact hn) Y.1.1 (by simp [kv_v]) (lv_room (by rw [kv_cats]; exact hr)) d ⟨by omega, by omega⟩) (Y.2.2.2.1) (fun H1 locs1 g1 g2 g3 => ?_)
  have e9 : (v1.map (kv_v b S)).toList ++ r.map (kv_v b S) = (v1.toList ++ r).map (kv_v b S) := by cases v1 <;> rfl
  rw [e9]
  exact snd p l e R s m args below meth c b S n0 z0 dC dI dA Q X hc hz kr ls H1 locs1 _ _ ⟨Y.1, g1, g2, g3, by omega, by omega⟩
theorem k_callI {y : MethodName} {ws ws' : List Cond} {bytes : ByteArray} {maxL fr2 lo2 kn index : Nat} {M : kv_M} (d : decode cc pc = .ok (.invokespecial index, 3)) (Ct : kv_CT y ws fr2 lo2 M) (hw : ws = Cond.code y bytes maxL none :: ws') (hG : GoodIn Ts ws) (hl : Cond.methodLink own index y ∈ Ts) (hini : Cond.initialized y.cls ∈ Ts) (him : Cond.instanceMethod y ∈ Ts) (hnm : y.name = "<init>") (hd : y.cls ≠ "java/lang/invoke/MethodHandle" ∧ y.cls ≠ "java/lang/invoke/VarHandle" ∧ (parseMethodDescriptor y.desc).map (fun d => d.parameters.length) = some kn) (hfr : fr2 + 1 ≤ fr) (hlo : 8 + (maxL + 11) + lo2 ≤ lo) (k : kv_S cc nL own Ts ret ini fr lo sc (pc + 3) F) : kv_S cc nL own Ts ret ini fr lo sc pc (o_callI kn M F) := by
  intro L st h v h' hF
  obtain ⟨As, a, r, v1, h1, rfl, hn, hr, hM, hF⟩ := hF
  obtain ⟨m1, met⟩ := Ct _ _ _ _ hM
  obtain ⟨mono, snd⟩ := k _ _ _ _ _ hF
  refine ⟨⟨by omega, by omega⟩, ?_⟩
  intro p l e R s m args below meth c b S n0 z0 dC dI dA Q X hc hz kr ls H locs cells slots Y
  have hx := X.2.2.2.2.1
  have hcc := Y.2.2.2.2.1
  have hzz := Y.2.2.2.2.2
  have hMet := met l b S dC dI dA (h1.2.1 - h.2.1) (h1.2.2 - h.2.2) (by omega) (by omega)
  refine kv_run (rest := r.map (kv_v b S)) (va_runI (b := kv_a b S a) (As := As.map (kv_v b S)) (rest := r.map (kv_v b S)) ⟨X.1, X.2.1, X.2.2.1, X.2.2.2.1, hx⟩ hMet ⟨callB_of kn hx hG hw rfl rfl (hx _ hini) (hx _ hl) hd ⟨by have := X.2.2.2.2.2.2.2.1; show fr2 + 1 ≤ _; omega, by have := X.2.2.2.2.2.2.2.2.1; show 8 + (maxL + 11) + lo2 ≤ _; omega⟩, hnm, hx _ him⟩ ⟨kv_blind, fun U hU hW => ⟨rfl, by rw [hU]; exact Y.2.1, by rw [hU]; exact Y.2.2.1, va_K.moved hW.alike X.2.2.2.2.2.2.2.2.2.1.1, kv_nw_warm hW X.2.2.2.2.2.2.2.2.2.1.2⟩⟩ rfl (by rw [List.length_map]; exact hn) Y.1.1 (by simp [kv_v]) (lv_room (by rw [kv_cats]; exact hr)) d ⟨by omega, by omega⟩) (Y.2.2.2.1) (fun H1 locs1 g1 g2 g3 => ?_)
  have e9 : (v1.map (kv_v b S)).toList ++ r.map (kv_v b S) = (v1.toList ++ r).map (kv_v b S) := by cases v1 <;> rfl
  rw [e9]
  exact snd p l e R s m args below meth c b S n0 z0 dC dI dA Q X hc hz kr ls H1 locs1 _ _ ⟨Y.1, g1, g2, g3, by omega, by omega⟩
theorem k_callIN {y : MethodName} {ws ws' : List Cond} {bytes : ByteArray} {maxL fr2 lo2 kn index : Nat} {M : kv_M} {host : String} (d : decode cc pc = .ok (.invokespecial index, 3)) (Ct : kv_CT y ws fr2 lo2 M) (hw : ws = Cond.code y bytes maxL none :: ws') (hG : GoodIn Ts ws) (hl : Cond.methodLinkNest own index y host ∈ kv_nl) (hini : Cond.initialized y.cls ∈ Ts) (him : Cond.instanceMethod y ∈ Ts) (hnm : y.name = "<init>") (hd : y.cls ≠ "java/lang/invoke/MethodHandle" ∧ y.cls ≠ "java/lang/invoke/VarHandle" ∧ (parseMethodDescriptor y.desc).map (fun d => d.parameters.length) = some kn) (hfr : fr2 + 1 ≤ fr) (hlo : 8 + (maxL + 11) + lo2 ≤ lo) (k : kv_S cc nL own Ts ret ini fr lo sc (pc + 3) F) : kv_S cc nL own Ts ret ini fr lo sc pc (o_callI kn M F) := by
  intro L st h v h' hF
  obtain ⟨As, a, r, v1, h1, rfl, hn, hr, hM, hF⟩ := hF
  obtain ⟨m1, met⟩ := Ct _ _ _ _ hM
  obtain ⟨mono, snd⟩ := k _ _ _ _ _ hF
  refine ⟨⟨by omega, by omega⟩, ?_⟩
  intro p l e R s m args below meth c b S n0 z0 dC dI dA Q X hc hz kr ls H locs cells slots Y
  have hx := X.2.2.2.2.1
  have hcc := Y.2.2.2.2.1
  have hzz := Y.2.2.2.2.2
  have hMet := met l b S dC dI dA (h1.2.1 - h.2.1) (h1.2.2 - h.2.2) (by omega) (by omega)
  refine kv_run (rest := r.map (kv_v b S)) (va_runIN (b := kv_a b S a) (As := As.map (kv_v b S)) (rest := r.map (kv_v b S)) ⟨X.1, X.2.1, X.2.2.1, X.2.2.2.1, hx⟩ hMet ⟨va_cnB kn hx hG hw rfl rfl (X.2.2.2.2.2.2.2.2.2.1.2 _ hl) (hx _ hini) hd ⟨by have := X.2.2.2.2.2.2.2.1; show fr2 + 1 ≤ _; omega, by have := X.2.2.2.2.2.2.2.2.1; show 8 + (maxL + 11) + lo2 ≤ _; omega⟩, hnm, hx _ him⟩ ⟨kv_blind, fun U hU hW => ⟨rfl, by rw [hU]; exact Y.2.1, by rw [hU]; exact Y.2.2.1, va_K.moved hW.alike X.2.2.2.2.2.2.2.2.2.1.1, kv_nw_warm hW X.2.2.2.2.2.2.2.2.2.1.2⟩⟩ rfl (by rw [List.length_map]; exact hn) Y.1.1 (by simp [kv_v]) (lv_room (by rw [kv_cats]; exact hr)) d ⟨by omega, by omega⟩) (Y.2.2.2.1) (fun H1 locs1 g1 g2 g3 => ?_)
  have e9 : (v1.map (kv_v b S)).toList ++ r.map (kv_v b S) = (v1.toList ++ r).map (kv_v b S) := by cases v1 <;> rfl
  rw [e9]
  exact snd p l e R s m args below meth c b S n0 z0 dC dI dA Q X hc hz kr ls H1 locs1 _ _ ⟨Y.1, g1, g2, g3, by omega, by omega⟩
def kv_fix (B : (Nat → kv_D) → Nat → kv_D) : Nat → Nat → kv_D
  | 0 => fun _ _ _ _ _ _ => False
  | n + 1 => B (kv_fix B n)
def kv_lim (B : (Nat → kv_D) → Nat → kv_D) : Nat → kv_D := fun pc L st h v h' => ∃ n, kv_fix B n pc L st h v h'
theorem kv_lim_S {B : (Nat → kv_D) → Nat → kv_D} (hB : ∀ K : Nat → kv_D, (∀ pc, kv_S cc nL own Ts ret ini fr lo sc pc (K pc)) → ∀ pc, kv_S cc nL own Ts ret ini fr lo sc pc (B K pc)) : ∀ pc, kv_S cc nL own Ts ret ini fr lo sc pc (kv_lim B pc) := by
  intro pc L st h v h' hn
  obtain ⟨n, hn⟩ := hn
  have key : ∀ n pc, kv_S cc nL own Ts ret ini fr lo sc pc (kv_fix B n pc) := by
    intro n
    induction n with
    | zero => intro pc; exact kv_none
    | succ n ih => exact hB _ ih
  exact key n pc L st h v h' hn
theorem kv_lim_step {B : (Nat → kv_D) → Nat → kv_D} {q : Nat} {L : List (Option Value)} {st : List Value} {h : kv_H} {v : Option Value} {h' : kv_H} (hs : ∃ n, B (kv_fix B n) q L st h v h') : kv_lim B q L st h v h' := by
  obtain ⟨n, hn⟩ := hs
  exact ⟨n + 1, hn⟩
end KVF
