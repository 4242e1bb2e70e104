section KVC
theorem kv_RA_inj {U : State} {c1 c2 : ClassId} {ty : FieldType} (h1 : va_RA U c1 ty) (h2 : va_RA U c2 ty) : c1 = c2 := by
  cases ty with
  | object C =>
    obtain ⟨_, _, -, -, -, g1⟩ := h1
    obtain ⟨_, _, -, -, -, g2⟩ := h2
    exact Option.some.inj (g1.symm.trans g2)
  | _ => exact Option.some.inj (Eq.trans (Eq.symm h1) h2)
theorem kv_rf (b S : Nat) (r : Option Nat) : kv_v b S (va_rf r) = va_rf (r.map (kv_a b S)) := by cases r <;> rfl
theorem kv_Y_put {nL b S n0 z0 : Nat} {dC : Nat → ClassId} {dI : Nat → Nat → Nat} {dA : Nat → ClassId} {s : State} {L L' : List (Option Value)} {h h1 : kv_H} {ls ls' : Array Slot} {H H1 : Heap} {locs locs1 : List Loc} {cells slots : Nat} (hsz : s.heap.size = S + n0) (Y : kv_Y nL b S n0 z0 dC dI dA s L h ls H locs cells slots) (he : h1.2 = h.2) (hl : kv_L b S ls' nL L') (hP1 : va_P (dC, dI) vwCl (kv_w b S dA h1) H1) (hS1 : va_S (fun q => S ≤ q) H H1 locs1) (hb : H1.size ≤ s.heap.size + cells) : kv_Y nL b S n0 z0 dC dI dA s L' h1 ls' H1 locs1 cells slots := by
  obtain ⟨y1, y2, y3, y4, y5, y6⟩ := Y
  have g1 := hS1.1
  refine ⟨hl, hP1, by rw [he]; omega, ⟨Nat.le_trans y4.1 hS1.1, fun q q1 q2 => ?_, hS1.2.2⟩, by rw [he]; exact y5, by rw [he]; exact y6⟩
  rw [hS1.2.1 q (Nat.lt_of_lt_of_le q1 y4.1) q2]
  exact y4.2.1 q q1 q2
theorem kv_self {S : Nat} {H0 H : Heap} {locs : List Loc} (h : va_S (fun q => S ≤ q) H0 H locs) : va_S (fun q => S ≤ q) H H locs := ⟨Nat.le_refl _, fun _ _ _ => rfl, h.2.2⟩
theorem kv_new_q {b S : Nat} {dC : Nat → ClassId} {dI : Nat → Nat → Nat} {dA : Nat → ClassId} {h : kv_H} {q n : Nat} {e : va_E} {H1 : Heap} (hP : va_P (dC, dI) vwCl (kv_w b S dA h ++ [(q, e)]) H1) (hD : va_D (fun q => S ≤ q) (kv_w b S dA h ++ [(q, e)])) (hn : H1.size ≤ n) (hm : n = S + h.2.1 + 1) : q = S + h.2.1 ∧ H1.size = S + (h.2.1 + 1) := by
  have hl : (kv_w b S dA h ++ [(q, e)])[h.2.1]? = some (q, e) := by
    rw [List.getElem?_append_right (by rw [kv_w_len]; exact Nat.le_refl _), kv_w_len]
    simp
  have h1 : q < H1.size := (hP _ _ hl).lt
  have h2 : S ≤ q := hD.2 _ _ hl
  have h3 : ¬ q < S + h.2.1 := by
    intro hlt
    have hk : (kv_w b S dA h ++ [(q, e)])[q - S]? = some (S + (q - S), kv_e b S dA (h.1 (q - S + 1))) := by
      rw [List.getElem?_append_left (by rw [kv_w_len]; omega)]
      unfold kv_w
      rw [List.getElem?_map, List.getElem?_range (by omega)]
      rfl
    have := hD.1 _ _ _ _ hk hl (by dsimp only; omega)
    omega
  omega
theorem kv_Y_new {nL b S n0 z0 : Nat} {dC : Nat → ClassId} {dI : Nat → Nat → Nat} {dA : Nat → ClassId} {s : State} {L : List (Option Value)} {h : kv_H} {ls : Array Slot} {H H1 : Heap} {locs : List Loc} {cells slots q z : Nat} {e : va_E} (hsz : s.heap.size = S + n0) (Y : kv_Y nL b S n0 z0 dC dI dA s L h ls H locs cells slots) (hP : va_P (dC, dI) vwCl (kv_w b S dA h ++ [(q, kv_e b S dA e)]) H1) (hD : va_D (fun q => S ≤ q) (kv_w b S dA h ++ [(q, kv_e b S dA e)])) (hS : va_S (fun q => S ≤ q) s.heap H1 locs) (hb : H1.size ≤ s.heap.size + (cells + 1)) : q = S + h.2.1 ∧ kv_Y nL b S n0 z0 dC dI dA s L (kv_n h e z) ls H1 locs (cells + 1) (slots + z) := by
  obtain ⟨y1, y2, y3, y4, y5, y6⟩ := Y
  obtain ⟨rfl, g2⟩ := kv_new_q hP hD hb (by omega)
  refine ⟨rfl, y1, ?_, g2, hS, ?_, ?_⟩
  · rw [kv_w_new]
    exact hP
  · show cells + 1 + n0 = h.2.1 + 1
    omega
  · show slots + z + z0 = h.2.2 + z
    omega
end KVC
section KVD
variable {cc : ByteArray} {nL : Nat} {own : String} {Ts : List Cond} {ret : Option FieldType} {ini : Bool} {fr lo : Nat} {sc : Option (Nat × (Nat → Int32))} {pc : Nat} {F G : kv_D}
def o_getf (ci kf : Nat) (F : kv_D) : kv_D := fun L st h v h' => match st with
  | .ref a :: r => match kv_g h a with
    | some (.inr q) => q.1 = ci ∧ ∃ x, q.2[kf]? = some x ∧ F L (x :: r) h v h'
    | _ => False
  | _ => False
def o_putf (ci kf : Nat) (ty : FieldType) (F : kv_D) : kv_D := fun L st h v h' => match st with
  | x :: .ref a :: r => match kv_g h a with
    | some (.inr q) => (q.1 = ci ∧ kf < q.2.length ∧ narrow ty x = x ∧ fits ty x = true) ∧ F L r (kv_p h a (.inr (ci, q.2.set kf x))) v h'
    | _ => False
  | _ => False
theorem k_getf {C : String} {T : u_T} {N ci index kf : Nat} (d : decode cc pc = .ok (.getfield index, 3)) (hcl : vwCl[ci]? = some (C, T, N)) (hin : ∀ w ∈ u_ws C T N, w ∈ Ts) (hk : kf < N) (hlink : Cond.fieldLink own index (T kf).1 (T kf).2.1 (T kf).2.2.1 ∈ Ts) (k : kv_S cc nL own Ts ret ini fr lo sc (pc + 3) F) : kv_S cc nL own Ts ret ini fr lo sc pc (o_getf ci kf F) := kv_mk (fun L st h v h' hF => by
  unfold o_getf at hF
  split at hF
  · rename_i a r
    split at hF
    · rename_i q hg
      obtain ⟨rfl, x, hx, hF⟩ := hF
      refine ⟨_, F, _, _, k, hF, fun p l e R s m args below meth c b S n0 z0 dC dI dA Q X ls H locs cells slots hc hs Y kk => ?_⟩
      exact va_get (D := (dC, dI)) (v := kv_v b S x) X.1 X.2.1 X.2.2.2.2.1 hin X.2.2.2.1 X.2.2.2.2.2.2.2.2.2.1.1 Y.2.1 (a - 1) (kv_w_get hg) hcl kf hk (X.2.2.2.2.1 _ hlink) (fun _ h9 => h9) (by rw [List.getElem?_map, hx]; rfl) d (kk ls Y.1)
    · exact hF.elim
  · exact hF.elim)
theorem k_getN {C : String} {T : u_T} {N ci index kf : Nat} {host : String} (d : decode cc pc = .ok (.getfield index, 3)) (hcl : vwCl[ci]? = some (C, T, N)) (hin : ∀ w ∈ u_ws C T N, w ∈ Ts) (hk : kf < N) (hlink : Cond.fieldLinkNest own index (T kf).1 (T kf).2.1 (T kf).2.2.1 host ∈ kv_nl) (k : kv_S cc nL own Ts ret ini fr lo sc (pc + 3) F) : kv_S cc nL own Ts ret ini fr lo sc pc (o_getf ci kf F) := kv_mk (fun L st h v h' hF => by
  unfold o_getf at hF
  split at hF
  · rename_i a r
    split at hF
    · rename_i q hg
      obtain ⟨rfl, x, hx, hF⟩ := hF
      refine ⟨_, F, _, _, k, hF, fun p l e R s m args below meth c b S n0 z0 dC dI dA Q X ls H locs cells slots hc hs Y kk => ?_⟩
      exact va_getN (D := (dC, dI)) (v := kv_v b S x) X.1 X.2.1 X.2.2.2.2.1 hin X.2.2.2.1 X.2.2.2.2.2.2.2.2.2.1.1 Y.2.1 (a - 1) (kv_w_get hg) hcl kf hk (va_Nw.use rfl (X.2.2.2.2.2.2.2.2.2.1.2 _ hlink)) (fun _ h9 => h9) (by rw [List.getElem?_map, hx]; rfl) d (kk ls Y.1)
    · exact hF.elim
  · exact hF.elim)
theorem k_putf {C : String} {T : u_T} {N ci index kf : Nat} {ty : FieldType} (d : decode cc pc = .ok (.putfield index, 3)) (hcl : vwCl[ci]? = some (C, T, N)) (hin : ∀ w ∈ u_ws C T N, w ∈ Ts) (ty0 : Nat → FieldType) (hty : ∀ k, k < N → parseFieldDescriptor (T k).2.2.1 = some (ty0 k)) (hnm : ∀ a, a < N → ∀ b, b < N → a ≠ b → (T a).2.1 ≠ (T b).2.1) (hk : kf < N) (hlink : Cond.fieldLink own index (T kf).1 (T kf).2.1 (T kf).2.2.1 ∈ Ts) (hfin : (T kf).2.2.2 = false) (hd : ty0 kf = ty) (k : kv_S cc nL own Ts ret ini fr lo sc (pc + 3) F) : kv_S cc nL own Ts ret ini fr lo sc pc (o_putf ci kf ty F) := by
  intro L st h v h' hF
  unfold o_putf at hF
  split at hF
  · rename_i x a r
    split at hF
    · rename_i q hg
      obtain ⟨⟨rfl, hl, hn, hfit⟩, hF⟩ := hF
      obtain ⟨mono, snd⟩ := k _ _ _ _ _ hF
      refine ⟨mono, ?_⟩
      intro p l e R s m args below meth c b S n0 z0 dC dI dA Q X hc hz kr ls H locs cells slots Y
      refine va_put (D := (dC, dI)) (A := fun q => S ≤ q) (H0 := H) (v := kv_v b S x) (ty := ty) X.1 X.2.1 X.2.2.2.2.1 hin ty0 hty hnm X.2.2.2.1 X.2.2.2.2.2.2.2.2.2.1.1 Y.2.1 (kv_w_D b S dA h) (kv_self Y.2.2.2.1) (a - 1) (kv_w_get hg) hcl kf hk (X.2.2.2.2.1 _ hlink) (fun _ h9 => h9) hfin (by rw [← hd]; exact hty kf hk) (kv_narrow hn) (kv_fits hfit) (by rw [List.length_map]; exact hl) d (fun H1 locs1 hP1 hD1 hS1 => ?_)
      refine kv_size (fun hz1 => ?_)
      rw [← List.map_set] at hP1
      exact snd p l e R s m args below meth c b S n0 z0 dC dI dA Q X hc hz kr ls H1 locs1 cells slots (kv_Y_put X.2.2.2.2.2.2.2.2.2.2.1 Y rfl Y.1 (by rw [← kv_w_set (.inr (q.1, q.2.set kf x)) hg]; exact hP1) hS1 hz1)
    · exact hF.elim
  · exact hF.elim
theorem k_putN {C : String} {T : u_T} {N ci index kf : Nat} {ty : FieldType} {host : String} (d : decode cc pc = .ok (.putfield index, 3)) (hcl : vwCl[ci]? = some (C, T, N)) (hin : ∀ w ∈ u_ws C T N, w ∈ Ts) (ty0 : Nat → FieldType) (hty : ∀ k, k < N → parseFieldDescriptor (T k).2.2.1 = some (ty0 k)) (hnm : ∀ a, a < N → ∀ b, b < N → a ≠ b → (T a).2.1 ≠ (T b).2.1) (hk : kf < N) (hlink : Cond.fieldLinkNest own index (T kf).1 (T kf).2.1 (T kf).2.2.1 host ∈ kv_nl) (hfin : (T kf).2.2.2 = false) (hd : ty0 kf = ty) (k : kv_S cc nL own Ts ret ini fr lo sc (pc + 3) F) : kv_S cc nL own Ts ret ini fr lo sc pc (o_putf ci kf ty F) := by
  intro L st h v h' hF
  unfold o_putf at hF
  split at hF
  · rename_i x a r
    split at hF
    · rename_i q hg
      obtain ⟨⟨rfl, hl, hn, hfit⟩, hF⟩ := hF
      obtain ⟨mono, snd⟩ := k _ _ _ _ _ hF
      refine ⟨mono, ?_⟩
      intro p l e R s m args below meth c b S n0 z0 dC dI dA Q X hc hz kr ls H locs cells slots Y
      refine va_putN (D := (dC, dI)) (A := fun q => S ≤ q) (H0 := H) (v := kv_v b S x) (ty := ty) X.1 X.2.1 X.2.2.2.2.1 hin ty0 hty hnm X.2.2.2.1 X.2.2.2.2.2.2.2.2.2.1.1 Y.2.1 (kv_w_D b S dA h) (kv_self Y.2.2.2.1) (a - 1) (kv_w_get hg) hcl kf hk (va_Nw.use rfl (X.2.2.2.2.2.2.2.2.2.1.2 _ hlink)) (fun _ h9 => h9) hfin (by rw [← hd]; exact hty kf hk) (kv_narrow hn) (kv_fits hfit) (by rw [List.length_map]; exact hl) d (fun H1 locs1 hP1 hD1 hS1 => ?_)
      refine kv_size (fun hz1 => ?_)
      rw [← List.map_set] at hP1
      exact snd p l e R s m args below meth c b S n0 z0 dC dI dA Q X hc hz kr ls H1 locs1 cells slots (kv_Y_put X.2.2.2.2.2.2.2.2.2.2.1 Y rfl Y.1 (by rw [← kv_w_set (.inr (q.1, q.2.set kf x)) hg]; exact hP1) hS1 hz1)
    · exact hF.elim
  · exact hF.elim
theorem k_putF {C : String} {T : u_T} {N ci index kf : Nat} {ty : FieldType} (d : decode cc pc = .ok (.putfield index, 3)) (hcl : vwCl[ci]? = some (C, T, N)) (hin : ∀ w ∈ u_ws C T N, w ∈ Ts) (ty0 : Nat → FieldType) (hty : ∀ k, k < N → parseFieldDescriptor (T k).2.2.1 = some (ty0 k)) (hnm : ∀ a, a < N → ∀ b, b < N → a ≠ b → (T a).2.1 ≠ (T b).2.1) (hk : kf < N) (hlink : Cond.fieldLink own index (T kf).1 (T kf).2.1 (T kf).2.2.1 ∈ Ts) (hfin : (T kf).2.2.2 = true) (hini : ini = true) (hdecl : (T kf).1 = own) (hd : ty0 kf = ty) (k : kv_S cc nL own Ts ret ini fr lo sc (pc + 3) F) : kv_S cc nL own Ts ret ini fr lo sc pc (o_putf ci kf ty F) := by
  intro L st h v h' hF
  unfold o_putf at hF
  split at hF
  · rename_i x a r
    split at hF
    · rename_i q hg
      obtain ⟨⟨rfl, hl, hn, hfit⟩, hF⟩ := hF
      obtain ⟨mono, snd⟩ := k _ _ _ _ _ hF
      refine ⟨mono, ?_⟩
      intro p l e R s m args below meth c b S n0 z0 dC dI dA Q X hc hz kr ls H locs cells slots Y
      refine va_putF (D := (dC, dI)) (A := fun q => S ≤ q) (H0 := H) (v := kv_v b S x) (ty := ty) X.1 X.2.1 X.2.2.2.2.1 hin ty0 hty hnm X.2.2.2.1 X.2.2.2.2.2.2.2.2.2.1.1 Y.2.1 (kv_w_D b S dA h) (kv_self Y.2.2.2.1) (a - 1) (kv_w_get hg) hcl kf hk (X.2.2.2.2.1 _ hlink) (fun _ h9 => h9) hfin (X.2.2.2.2.2.2.1 hini) hdecl (by rw [← hd]; exact hty kf hk) (kv_narrow hn) (kv_fits hfit) (by rw [List.length_map]; exact hl) d (fun H1 locs1 hP1 hD1 hS1 => ?_)
      refine kv_size (fun hz1 => ?_)
      rw [← List.map_set] at hP1
      exact snd p l e R s m args below meth c b S n0 z0 dC dI dA Q X hc hz kr ls H1 locs1 cells slots (kv_Y_put X.2.2.2.2.2.2.2.2.2.2.1 Y rfl Y.1 (by rw [← kv_w_set (.inr (q.1, q.2.set kf x)) hg]; exact hP1) hS1 hz1)
    · exact hF.elim
  · exact hF.elim
def o_iald (t : Nat) (F : kv_D) : kv_D := fun L st h v h' => match st with
  | .int i :: .ref a :: r => match kv_g h a with
    | some (.inl (t', n, .inl f)) => (t' = t ∧ 0 ≤ i ∧ i.toNatClampNeg < n) ∧ F L (.int (f i.toNatClampNeg) :: r) h v h'
    | _ => False
  | _ => False
def o_iast (t : Nat) (nar : Int32 → Int32) (F : kv_D) : kv_D := fun L st h v h' => match st with
  | .int x :: .int i :: .ref a :: r => match kv_g h a with
    | some (.inl (t', n, .inl f)) => (t' = t ∧ 0 ≤ i ∧ i.toNatClampNeg < n) ∧ F L r (kv_p h a (.inl (t, n, .inl (upd f i.toNatClampNeg (nar x))))) v h'
    | _ => False
  | _ => False
theorem k_iald {t : Nat} (d : decode cc pc = .ok (.iaload, 1)) (ht : kv_tl[t]? = some .int) (k : kv_S cc nL own Ts ret ini fr lo sc (pc + 1) F) : kv_S cc nL own Ts ret ini fr lo sc pc (o_iald t F) := kv_mk (fun L st h v h' hF => by
  unfold o_iald at hF
  split at hF
  · rename_i i a r
    split at hF
    · rename_i t' n f hg
      obtain ⟨⟨rfl, hi⟩, hF⟩ := hF
      refine ⟨_, F, _, _, k, hF, fun p l e R s m args below meth c b S n0 z0 dC dI dA Q X ls H locs cells slots hc hs Y kk => ?_⟩
      exact va_iald (D := (dC, dI)) X.1 X.2.1 X.2.2.2.2.2.2.2.2.2.1.1 Y.2.1 (a - 1) t' (kv_w_get hg) (kv_T_at ht) (kv_in_of hi) d (kk ls Y.1)
    · exact hF.elim
  · exact hF.elim)
theorem k_cald {t : Nat} (d : decode cc pc = .ok (.caload, 1)) (ht : kv_tl[t]? = some .char) (k : kv_S cc nL own Ts ret ini fr lo sc (pc + 1) F) : kv_S cc nL own Ts ret ini fr lo sc pc (o_iald t F) := kv_mk (fun L st h v h' hF => by
  unfold o_iald at hF
  split at hF
  · rename_i i a r
    split at hF
    · rename_i t' n f hg
      obtain ⟨⟨rfl, hi⟩, hF⟩ := hF
      refine ⟨_, F, _, _, k, hF, fun p l e R s m args below meth c b S n0 z0 dC dI dA Q X ls H locs cells slots hc hs Y kk => ?_⟩
      exact va_cald (D := (dC, dI)) X.1 X.2.1 X.2.2.2.2.2.2.2.2.2.1.1 Y.2.1 (a - 1) t' (kv_w_get hg) (kv_T_at ht) (kv_in_of hi) d (kk ls Y.1)
    · exact hF.elim
  · exact hF.elim)
theorem k_zald {t : Nat} (d : decode cc pc = .ok (.baload, 1)) (ht : kv_tl[t]? = some .boolean) (k : kv_S cc nL own Ts ret ini fr lo sc (pc + 1) F) : kv_S cc nL own Ts ret ini fr lo sc pc (o_iald t F) := kv_mk (fun L st h v h' hF => by
  unfold o_iald at hF
  split at hF
  · rename_i i a r
    split at hF
    · rename_i t' n f hg
      obtain ⟨⟨rfl, hi⟩, hF⟩ := hF
      refine ⟨_, F, _, _, k, hF, fun p l e R s m args below meth c b S n0 z0 dC dI dA Q X ls H locs cells slots hc hs Y kk => ?_⟩
      exact va_zald (D := (dC, dI)) X.1 X.2.1 X.2.2.2.2.2.2.2.2.2.1.1 Y.2.1 (a - 1) t' (kv_w_get hg) (kv_T_at ht) (kv_in_of hi) d (kk ls Y.1)
    · exact hF.elim
  · exact hF.elim)
theorem k_iast {t : Nat} (d : decode cc pc = .ok (.iastore, 1)) (ht : kv_tl[t]? = some .int) (k : kv_S cc nL own Ts ret ini fr lo sc (pc + 1) F) : kv_S cc nL own Ts ret ini fr lo sc pc (o_iast t (fun x => x) F) := by
  intro L st h v h' hF
  unfold o_iast at hF
  split at hF
  · rename_i x i a r
    split at hF
    · rename_i t' n f hg
      obtain ⟨⟨rfl, hi⟩, hF⟩ := hF
      obtain ⟨mono, snd⟩ := k _ _ _ _ _ hF
      refine ⟨mono, ?_⟩
      intro p l e R s m args below meth c b S n0 z0 dC dI dA Q X hc hz kr ls H locs cells slots Y
      refine va_iast (D := (dC, dI)) (A := fun q => S ≤ q) (H0 := H) X.1 X.2.1 X.2.2.2.2.2.2.2.2.2.1.1 Y.2.1 (kv_w_D b S dA h) (kv_self Y.2.2.2.1) (a - 1) t' (kv_w_get hg) (kv_T_at ht) (kv_in_of hi) d (fun H1 locs1 hP1 hD1 hS1 => ?_)
      refine kv_size (fun hz1 => ?_)
      exact snd p l e R s m args below meth c b S n0 z0 dC dI dA Q X hc hz kr ls H1 locs1 cells slots (kv_Y_put X.2.2.2.2.2.2.2.2.2.2.1 Y rfl Y.1 (by rw [← kv_w_set _ hg]; exact hP1) hS1 hz1)
    · exact hF.elim
  · exact hF.elim
theorem k_cast {t : Nat} (d : decode cc pc = .ok (.castore, 1)) (ht : kv_tl[t]? = some .char) (k : kv_S cc nL own Ts ret ini fr lo sc (pc + 1) F) : kv_S cc nL own Ts ret ini fr lo sc pc (o_iast t (vp_nar .char) F) := by
  intro L st h v h' hF
  unfold o_iast at hF
  split at hF
  · rename_i x i a r
    split at hF
    · rename_i t' n f hg
      obtain ⟨⟨rfl, hi⟩, hF⟩ := hF
      obtain ⟨mono, snd⟩ := k _ _ _ _ _ hF
      refine ⟨mono, ?_⟩
      intro p l e R s m args below meth c b S n0 z0 dC dI dA Q X hc hz kr ls H locs cells slots Y
      refine va_cast (D := (dC, dI)) (A := fun q => S ≤ q) (H0 := H) X.1 X.2.1 X.2.2.2.2.2.2.2.2.2.1.1 Y.2.1 (kv_w_D b S dA h) (kv_self Y.2.2.2.1) (a - 1) t' (kv_w_get hg) (kv_T_at ht) (kv_in_of hi) d (fun H1 locs1 hP1 hD1 hS1 => ?_)
      refine kv_size (fun hz1 => ?_)
      exact snd p l e R s m args below meth c b S n0 z0 dC dI dA Q X hc hz kr ls H1 locs1 cells slots (kv_Y_put X.2.2.2.2.2.2.2.2.2.2.1 Y rfl Y.1 (by rw [← kv_w_set _ hg]; exact hP1) hS1 hz1)
    · exact hF.elim
  · exact hF.elim
theorem k_zast {t : Nat} (d : decode cc pc = .ok (.bastore, 1)) (ht : kv_tl[t]? = some .boolean) (k : kv_S cc nL own Ts ret ini fr lo sc (pc + 1) F) : kv_S cc nL own Ts ret ini fr lo sc pc (o_iast t (vp_nar .boolean) F) := by
  intro L st h v h' hF
  unfold o_iast at hF
  split at hF
  · rename_i x i a r
    split at hF
    · rename_i t' n f hg
      obtain ⟨⟨rfl, hi⟩, hF⟩ := hF
      obtain ⟨mono, snd⟩ := k _ _ _ _ _ hF
      refine ⟨mono, ?_⟩
      intro p l e R s m args below meth c b S n0 z0 dC dI dA Q X hc hz kr ls H locs cells slots Y
      refine va_zast (D := (dC, dI)) (A := fun q => S ≤ q) (H0 := H) X.1 X.2.1 X.2.2.2.2.2.2.2.2.2.1.1 Y.2.1 (kv_w_D b S dA h) (kv_self Y.2.2.2.1) (a - 1) t' (kv_w_get hg) (kv_T_at ht) (kv_in_of hi) d (fun H1 locs1 hP1 hD1 hS1 => ?_)
      refine kv_size (fun hz1 => ?_)
      exact snd p l e R s m args below meth c b S n0 z0 dC dI dA Q X hc hz kr ls H1 locs1 cells slots (kv_Y_put X.2.2.2.2.2.2.2.2.2.2.1 Y rfl Y.1 (by rw [← kv_w_set _ hg]; exact hP1) hS1 hz1)
    · exact hF.elim
  · exact hF.elim
def o_alen (F : kv_D) : kv_D := fun L st h v h' => match st with
  | .ref a :: r => match kv_g h a with
    | some (.inl q) => q.1 < kv_tl.length ∧ F L (.int (Int32.ofNat q.2.1) :: r) h v h'
    | _ => False
  | _ => False
theorem k_alen (d : decode cc pc = .ok (.arraylength, 1)) (k : kv_S cc nL own Ts ret ini fr lo sc (pc + 1) F) : kv_S cc nL own Ts ret ini fr lo sc pc (o_alen F) := kv_mk (fun L st h v h' hF => by
  unfold o_alen at hF
  split at hF
  · rename_i a r
    split at hF
    · rename_i q hg
      obtain ⟨ht, hF⟩ := hF
      refine ⟨_, F, _, _, k, hF, fun p l e R s m args below meth c b S n0 z0 dC dI dA Q X ls H locs cells slots hc hs Y kk => ?_⟩
      exact va_alen (D := (dC, dI)) X.1 X.2.1 X.2.2.2.2.2.2.2.2.2.1.1 Y.2.1 (a - 1) q.1 (kv_w_get hg) (kv_T_at (List.getElem?_eq_getElem ht)) rfl d (kk ls Y.1)
    · exact hF.elim
  · exact hF.elim)
def o_aald (t : Nat) (F : kv_D) : kv_D := fun L st h v h' => match st with
  | .int i :: .ref a :: r => match kv_g h a with
    | some (.inl (t', n, .inr (.inr (.inr (.inr f))))) => (t' = t ∧ 0 ≤ i ∧ i.toNatClampNeg < n) ∧ F L (va_rf (f i.toNatClampNeg) :: r) h v h'
    | _ => False
  | _ => False
theorem k_aald {t : Nat} {C : String} (d : decode cc pc = .ok (.aaload, 1)) (ht : kv_tl[t]? = some (.object C)) (k : kv_S cc nL own Ts ret ini fr lo sc (pc + 1) F) : kv_S cc nL own Ts ret ini fr lo sc pc (o_aald t F) := kv_mk (fun L st h v h' hF => by
  unfold o_aald at hF
  split at hF
  · rename_i i a r
    split at hF
    · rename_i t' n f hg
      obtain ⟨⟨rfl, hi⟩, hF⟩ := hF
      refine ⟨_, F, _, _, k, hF, fun p l e R s m args below meth c b S n0 z0 dC dI dA Q X ls H locs cells slots hc hs Y kk => ?_⟩
      have kk1 := kk ls Y.1
      rw [List.map_cons, kv_rf] at kk1
      exact va_aldq (D := (dC, dI)) (f := fun j => (f j).map (kv_a b S)) X.1 X.2.1 X.2.2.2.2.2.2.2.2.2.1.1 Y.2.1 (a - 1) t' (kv_w_get hg) (kv_T_at ht) (kv_in_of hi) d kk1
    · exact hF.elim
  · exact hF.elim)
def o_aast (t ci : Nat) (F : kv_D) : kv_D := fun L st h v h' => match st with
  | .ref x :: .int i :: .ref a :: r => match kv_g h a with
    | some (.inl (t', n, .inr (.inr (.inr (.inr f))))) => (t' = t ∧ 0 ≤ i ∧ i.toNatClampNeg < n ∧ ∃ fs, kv_g h x = some (.inr (ci, fs))) ∧ F L r (kv_p h a (.inl (t, n, .inr (.inr (.inr (.inr (va_up f i.toNatClampNeg (some x)))))))) v h'
    | _ => False
  | _ => False
theorem k_aast {t ci : Nat} {q : vw_C} (d : decode cc pc = .ok (.aastore, 1)) (ht : kv_tl[t]? = some (.object q.1)) (hcl : vwCl[ci]? = some q) (k : kv_S cc nL own Ts ret ini fr lo sc (pc + 1) F) : kv_S cc nL own Ts ret ini fr lo sc pc (o_aast t ci F) := by
  intro L st h v h' hF
  unfold o_aast at hF
  split at hF
  · rename_i x i a r
    split at hF
    · rename_i t' n f hg
      obtain ⟨⟨rfl, hi0, hi1, fs, hx⟩, hF⟩ := hF
      obtain ⟨mono, snd⟩ := k _ _ _ _ _ hF
      refine ⟨mono, ?_⟩
      intro p l e R s m args below meth c b S n0 z0 dC dI dA Q X hc hz kr ls H locs cells slots Y
      refine va_astq (D := (dC, dI)) (A := fun q => S ≤ q) (H0 := H) (f := fun j => (f j).map (kv_a b S)) X.1 X.2.1 X.2.2.2.2.2.2.2.2.2.1.1 Y.2.1 (kv_w_D b S dA h) (kv_self Y.2.2.2.1) (a - 1) t' (x - 1) ci (kv_w_get hg) (kv_T_at ht) (kv_w_get hx) hcl (kv_in_of ⟨hi0, hi1⟩) d (fun H1 locs1 hP1 hD1 hS1 => ?_)
      refine kv_size (fun hz1 => ?_)
      have e9 : (fun j => (va_up f i.toNatClampNeg (some x) j).map (kv_a b S)) = va_up (fun j => (f j).map (kv_a b S)) i.toNatClampNeg (some (kv_a b S x)) := by
        funext j
        unfold va_up
        split <;> rfl
      refine snd p l e R s m args below meth c b S n0 z0 dC dI dA Q X hc hz kr ls H1 locs1 cells slots (kv_Y_put X.2.2.2.2.2.2.2.2.2.2.1 Y rfl Y.1 (by rw [← kv_w_set _ hg]; show va_P _ _ (List.set _ _ (_, .inl (_, _, .inr (.inr (.inr (.inr (fun j => (va_up f i.toNatClampNeg (some x) j).map (kv_a b S)))))))) _; rw [e9]; exact hP1) hS1 hz1)
    · exact hF.elim
  · exact hF.elim
def o_copy (t : Nat) (ty : FieldType) (F : kv_D) : kv_D := fun L st h v h' => match st with
  | .int n :: .int dp :: .ref a :: .int sp :: .ref a0 :: r => match kv_g h a0, kv_g h a with
    | some (.inl (t0, n0, .inl f)), some (.inl (t1, n1, .inl g)) => ((t0 = t ∧ t1 = t) ∧ 0 ≤ sp ∧ 0 ≤ dp ∧ 0 ≤ n ∧ sp.toNatClampNeg + n.toNatClampNeg ≤ n0 ∧ dp.toNatClampNeg + n.toNatClampNeg ≤ n1 ∧ (∀ i, i < n.toNatClampNeg → fits ty (.int (f (sp.toNatClampNeg + i))) = true) ∧ (r.map fun v => v.category).sum ≤ 8) ∧ F L r (kv_p h a (.inl (t, n1, .inl (va_cpy f g sp.toNatClampNeg dp.toNatClampNeg n.toNatClampNeg)))) v h'
    | _, _ => False
  | _ => False
theorem k_copy {t index : Nat} {ty : FieldType} (d : decode cc pc = .ok (.invokestatic index, 3)) (ht : kv_tl[t]? = some ty) (hp : refKind ty = false) (h1 : Cond.methodLink own index arraycopyName ∈ Ts) (h2 : Cond.native arraycopyName ∈ Ts) (h3 : Cond.static arraycopyName ∈ Ts) (h4 : Cond.initialized "java/lang/System" ∈ Ts) (hfr : 1 ≤ fr) (hlo : 8 + (nativeFrameWords "java/lang/System" "arraycopy" 5 + 11) ≤ lo) (k : kv_S cc nL own Ts ret ini fr lo sc (pc + 3) F) : kv_S cc nL own Ts ret ini fr lo sc pc (o_copy t ty F) := by
  intro L st h v h' hF
  unfold o_copy at hF
  split at hF
  · rename_i n dp a sp a0 r
    split at hF
    · rename_i t0 n0 f t1 n1 g hg0 hg1
      obtain ⟨⟨⟨rfl, rfl⟩, q1, q2, q3, q4, q5, q6, q7⟩, hF⟩ := hF
      obtain ⟨mono, snd⟩ := k _ _ _ _ _ hF
      refine ⟨mono, ?_⟩
      intro p l e R s m args below meth c b S n0 z0 dC dI dA Q X hc hz kr ls H locs cells slots Y
      have hx := X.2.2.2.2.1
      have hlo1 := X.2.2.2.2.2.2.2.2.1
      refine va_copyi (D := (dC, dI)) (A := fun q => S ≤ q) (H0 := H) (ty := ty) X.1 X.2.1 (X.2.2.1.trans Y.1.1.symm) X.2.2.2.1 (hx _ h1) (hx _ h2) (hx _ h3) (hx _ h4) X.2.2.2.2.2.2.2.2.2.1.1 Y.2.1 (kv_w_D b S dA h) (kv_self Y.2.2.2.1) (a0 - 1) (a - 1) t1 t1 (kv_w_get hg0) (kv_w_get hg1) (kv_T_at ht) (kv_T_at ht) hp (Int32.not_lt.mpr q1) (Int32.not_lt.mpr q2) (Int32.not_lt.mpr q3) q4 q5 q6 (Nat.le_trans hfr X.2.2.2.2.2.2.2.1) (by rw [kv_cats]; omega) d (fun H1 locs1 hP1 hD1 hS1 => ?_)
      refine kv_size (fun hz1 => ?_)
      exact snd p l e R s m args below meth c b S n0 z0 dC dI dA Q X hc hz kr ls H1 locs1 cells slots (kv_Y_put X.2.2.2.2.2.2.2.2.2.2.1 Y rfl Y.1 (by rw [← kv_w_set _ hg1]; exact hP1) hS1 hz1)
    · exact hF.elim
  · exact hF.elim
def o_new (ci N : Nat) (fs : List Value) (F : kv_D) : kv_D := fun L st h v h' => F L (.ref (h.2.1 + 1) :: st) (kv_n h (.inr (ci, fs)) N) v h'
theorem k_new {C : String} {T : u_T} {N ci index : Nat} {fs : List Value} (d : decode cc pc = .ok (.new index, 3)) (hcl : vwCl[ci]? = some (C, T, N)) (hin : ∀ w ∈ u_ws C T N, w ∈ Ts) (ty : Nat → FieldType) (hty : ∀ k, k < N → parseFieldDescriptor (T k).2.2.1 = some (ty k)) (h1 : Cond.classLink own index C ∈ Ts) (h2 : Cond.instantiable C N ∈ Ts) (h3 : Cond.initialized C ∈ Ts) (hfs : ∀ j, j < N → defaultValue (ty j) = vp_V fs j) (hm : ∀ b S, fs.map (kv_v b S) = fs) (k : kv_S cc nL own Ts ret ini fr lo sc (pc + 3) F) : kv_S cc nL own Ts ret ini fr lo sc pc (o_new ci N fs F) := by
  intro L st h v h' hF
  obtain ⟨mono, snd⟩ := k _ _ _ _ _ hF
  have mono : h.2.1 + 1 ≤ h'.2.1 ∧ h.2.2 + N ≤ h'.2.2 := mono
  refine ⟨by omega, ?_⟩
  intro p l e R s m args below meth c b S n0 z0 dC dI dA Q X hc hz kr ls H locs cells slots Y
  have hx := X.2.2.2.2.1
  have hsz := X.2.2.2.2.2.2.2.2.2.2.1
  have hc1 := Y.2.2.2.2.1
  have hz1 := Y.2.2.2.2.2
  refine va_new (D := (dC, dI)) (A := fun q => S ≤ q) (H0 := s.heap) (fs := fs) X.1 X.2.1 hx hin ty hty X.2.2.2.1 (hx _ h1) (hx _ h2) (hx _ h3) X.2.2.2.2.2.2.2.2.2.1.1 Y.2.1 (kv_w_D b S dA h) Y.2.2.2.1 (fun q hq => by show S ≤ q; omega) hcl hfs (by omega) (by omega) d (fun q H1 hP1 hD1 hS1 => ?_)
  refine kv_size (fun hz1 => ?_)
  rw [← hm b S] at hP1 hD1
  obtain ⟨rfl, Y1⟩ := kv_Y_new (z := N) (e := .inr (ci, fs)) hsz Y hP1 hD1 hS1 hz1
  exact snd p l e R s m args below meth c b S n0 z0 dC dI dA Q X hc hz kr ls H1 locs (cells + 1) (slots + N) Y1
def o_newa (t : Nat) (ty : FieldType) (F : kv_D) : kv_D := fun L st h v h' => match st with
  | .int n :: r => (0 ≤ n ∧ n.toNatClampNeg * componentBytes ty ≤ 536870912) ∧ F L (.ref (h.2.1 + 1) :: r) (kv_n h (.inl (t, n.toNatClampNeg, .inl (fun _ => 0))) n.toNatClampNeg) v h'
  | _ => False
theorem k_newa {t : Nat} {ty : FieldType} {atype : ArrayType} (d : decode cc pc = .ok (.newarray atype, 2)) (hty : newarray.typeOf atype = ty) (ht : kv_tl[t]? = some ty) (hdv : defaultValue ty = .int 0) (h1 : Cond.arrayClass ty ∈ Ts) (k : kv_S cc nL own Ts ret ini fr lo sc (pc + 2) F) : kv_S cc nL own Ts ret ini fr lo sc pc (o_newa t ty F) := by
  intro L st h v h' hF
  unfold o_newa at hF
  split at hF
  · rename_i n r
    obtain ⟨⟨q1, q2⟩, hF⟩ := hF
    obtain ⟨mono, snd⟩ := k _ _ _ _ _ hF
    have mono : h.2.1 + 1 ≤ h'.2.1 ∧ h.2.2 + n.toNatClampNeg ≤ h'.2.2 := mono
    refine ⟨by omega, ?_⟩
    intro p l e R s m args below meth c b S n0 z0 dC dI dA Q X hc hz kr ls H locs cells slots Y
    have hx := X.2.2.2.2.1
    have hsz := X.2.2.2.2.2.2.2.2.2.2.1
    have hc1 := Y.2.2.2.2.1
    have hz1 := Y.2.2.2.2.2
    refine va_newa (D := (dC, dI)) (A := fun q => S ≤ q) (H0 := s.heap) (a0 := (n.toNatClampNeg, .inl (fun _ => 0))) X.1 X.2.1 (by rw [hty]; exact hx _ h1) hty X.2.2.2.2.2.2.2.2.2.1.1 Y.2.1 (kv_w_D b S dA h) Y.2.2.2.1 (fun q hq => by show S ≤ q; omega) (fun cA => by rw [hdv]; rfl) (Int32.not_lt.mpr q1) rfl q2 (by omega) (by omega) d (fun q cA H1 hK1 hP1 hD1 hS1 => ?_)
    refine kv_size (fun hz1 => ?_)
    have hl : (kv_T dA ++ [(cA, ty)])[kv_tl.length]? = some (cA, ty) := by
      rw [List.getElem?_append_right (by simp [kv_T])]
      simp [kv_T]
    have hcA : cA = dA t := kv_RA_inj (hK1.2 _ _ hl).2 (X.2.2.2.2.2.2.2.2.2.1.1.2 t _ (kv_T_at ht)).2
    subst hcA
    obtain ⟨rfl, Y1⟩ := kv_Y_new (z := n.toNatClampNeg) (e := .inl (t, n.toNatClampNeg, .inl (fun _ => 0))) hsz Y hP1 hD1 hS1 hz1
    exact snd p l e R s m args below meth c b S n0 z0 dC dI dA Q X hc hz kr ls H1 locs (cells + 1) (slots + n.toNatClampNeg) Y1
  · exact hF.elim
def o_newq (t : Nat) (F : kv_D) : kv_D := fun L st h v h' => match st with
  | .int n :: r => (0 ≤ n ∧ n.toNatClampNeg * 4 ≤ 536870912) ∧ F L (.ref (h.2.1 + 1) :: r) (kv_n h (.inl (t, n.toNatClampNeg, .inr (.inr (.inr (.inr (fun _ => none)))))) n.toNatClampNeg) v h'
  | _ => False
theorem k_newq {t index : Nat} {C : String} (d : decode cc pc = .ok (.anewarray index, 3)) (ht : kv_tl[t]? = some (.object C)) (h1 : Cond.classLink own index C ∈ Ts) (h2 : Cond.arrayOver (.object C) ∈ kv_nl) (k : kv_S cc nL own Ts ret ini fr lo sc (pc + 3) F) : kv_S cc nL own Ts ret ini fr lo sc pc (o_newq t F) := by
  intro L st h v h' hF
  unfold o_newq at hF
  split at hF
  · rename_i n r
    obtain ⟨⟨q1, q2⟩, hF⟩ := hF
    obtain ⟨mono, snd⟩ := k _ _ _ _ _ hF
    have mono : h.2.1 + 1 ≤ h'.2.1 ∧ h.2.2 + n.toNatClampNeg ≤ h'.2.2 := mono
    refine ⟨by omega, ?_⟩
    intro p l e R s m args below meth c b S n0 z0 dC dI dA Q X hc hz kr ls H locs cells slots Y
    have hx := X.2.2.2.2.1
    have hsz := X.2.2.2.2.2.2.2.2.2.2.1
    have hc1 := Y.2.2.2.2.1
    have hz1 := Y.2.2.2.2.2
    refine va_newq (D := (dC, dI)) (A := fun q => S ≤ q) (H0 := s.heap) X.1 X.2.1 X.2.2.2.1 (hx _ h1) (X.2.2.2.2.2.2.2.2.2.1.2 _ h2) X.2.2.2.2.2.2.2.2.2.1.1 Y.2.1 (kv_w_D b S dA h) Y.2.2.2.1 (fun q hq => by show S ≤ q; omega) (Int32.not_lt.mpr q1) rfl q2 (by omega) (by omega) d (fun q cA H1 hK1 hP1 hD1 hS1 => ?_)
    refine kv_size (fun hz1 => ?_)
    have hl : (kv_T dA ++ [(cA, FieldType.object C)])[kv_tl.length]? = some (cA, .object C) := by
      rw [List.getElem?_append_right (by simp [kv_T])]
      simp [kv_T]
    have hcA : cA = dA t := kv_RA_inj (hK1.2 _ _ hl).2 (X.2.2.2.2.2.2.2.2.2.1.1.2 t _ (kv_T_at ht)).2
    subst hcA
    obtain ⟨rfl, Y1⟩ := kv_Y_new (z := n.toNatClampNeg) (e := .inl (t, n.toNatClampNeg, .inr (.inr (.inr (.inr (fun _ => none)))))) hsz Y hP1 hD1 hS1 hz1
    exact snd p l e R s m args below meth c b S n0 z0 dC dI dA Q X hc hz kr ls H1 locs (cells + 1) (slots + n.toNatClampNeg) Y1
  · exact hF.elim
def o_obj (F : kv_D) : kv_D := fun L st h v h' => match st with
  | .ref a :: r => (r.map fun v => v.category).sum ≤ 8 ∧ F L r h v h'
  | _ => False
theorem k_obj {index : Nat} (d : decode cc pc = .ok (.invokespecial index, 3)) (h1 : Cond.methodLink own index Lib.objectInit ∈ Ts) (h2 : Cond.instanceMethod Lib.objectInit ∈ Ts) (h3 : Cond.code Lib.objectInit ⟨#[0xb1]⟩ 1 none ∈ Ts) (hfr : 1 ≤ fr) (hlo : 20 ≤ lo) (k : kv_S cc nL own Ts ret ini fr lo sc (pc + 3) F) : kv_S cc nL own Ts ret ini fr lo sc pc (o_obj F) := kv_mk (fun L st h v h' hF => by
  unfold o_obj at hF
  split at hF
  · refine ⟨_, F, _, _, k, hF.2, fun p l e R s m args below meth c b S n0 z0 dC dI dA Q X ls H locs cells slots hc hs Y kk => ?_⟩
    have hx := X.2.2.2.2.1
    have hlo1 := X.2.2.2.2.2.2.2.2.1
    have hr := hF.1
    exact W.objInit X.1 X.2.1 X.2.2.2.1 (hx _ h1) (hx _ h2) (hx _ h3) rfl (X.2.2.1.trans Y.1.1.symm).symm rfl d (Nat.le_trans hfr X.2.2.2.2.2.2.2.1) (by show 2 * 0 + _ + 12 ≤ _; rw [kv_cats]; omega) (kk ls Y.1)
  · exact hF.elim)
def o_tsw (a : Int) (Fs : List kv_D) (D : kv_D) : kv_D := fun L st h v h' => match st with
  | .int x :: r => if x.toInt < a ∨ a + Fs.length ≤ x.toInt then D L r h v h' else ∃ F, Fs[(x.toInt - a).toNat]? = some F ∧ F L r h v h'
  | _ => False
theorem k_tsw {a z dflt : Int} {offs : Array Int} {len td : Nat} {Fs : List kv_D} {D : kv_D} (d : decode cc pc = .ok (.tableswitch dflt a z offs, len)) (hz : z + 1 = a + Fs.length) (hd : (pc : Int) + dflt = (td : Int)) (kd : kv_S cc nL own Ts ret ini fr lo sc td D) (ks : ∀ (i : Nat) (F : kv_D), Fs[i]? = some F → ∃ (off : Int) (t : Nat), offs[i]? = some off ∧ (pc : Int) + off = (t : Int) ∧ kv_S cc nL own Ts ret ini fr lo sc t F) : kv_S cc nL own Ts ret ini fr lo sc pc (o_tsw a Fs D) := kv_mk (fun L st h v h' hF => by
  unfold o_tsw at hF
  split at hF
  · split at hF
    · rename_i hx
      exact ⟨_, D, _, _, kd, hF, fun p l e R s m args below meth c b S n0 z0 dC dI dA Q X ls H locs cells slots hc hs Y kk => lv_tableOut X.1 X.2.1 d (by omega) hd (kk ls Y.1)⟩
    · rename_i hx
      obtain ⟨F, hF1, hF⟩ := hF
      obtain ⟨off, t, g1, g2, g3⟩ := ks _ F hF1
      exact ⟨_, F, _, _, g3, hF, fun p l e R s m args below meth c b S n0 z0 dC dI dA Q X ls H locs cells slots hc hs Y kk => lv_tableIn X.1 X.2.1 d (by omega) (by omega) g1 g2 (kk ls Y.1)⟩
  · exact hF.elim)
end KVD
