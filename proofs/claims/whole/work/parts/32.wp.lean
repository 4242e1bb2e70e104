/-! a run with what holds at its end; each instruction as a rewriting -/
def wp (F : kv_D) (L : List (Option Value)) (st : List Value) (h : kv_H) (P : Option Value → kv_H → Prop) : Prop := ∃ v h', F L st h v h' ∧ P v h'
def wm (M : kv_M) (as : List Value) (h : kv_H) (P : Option Value → kv_H → Prop) : Prop := ∃ v h', M as h v h' ∧ P v h'
theorem wp_of {F G : kv_D} {L L' : List (Option Value)} {st st' : List Value} {h h0 : kv_H} {P : Option Value → kv_H → Prop} (k : ∀ v h', F L st h v h' → G L' st' h0 v h') (w : wp F L st h P) : wp G L' st' h0 P := by
  obtain ⟨v, h', h1, h2⟩ := w
  exact ⟨v, h', k v h' h1, h2⟩
theorem wm_of {M : kv_M} {as : List Value} {h : kv_H} {P Q : Option Value → kv_H → Prop} (w : wm M as h P) (k : ∀ v h', P v h' → Q v h') : wm M as h Q := by
  obtain ⟨v, h', h1, h2⟩ := w
  exact ⟨v, h', h1, k v h' h2⟩
theorem wp_mono {F : kv_D} {L : List (Option Value)} {st : List Value} {h : kv_H} {P Q : Option Value → kv_H → Prop} (w : wp F L st h P) (k : ∀ v h', P v h' → Q v h') : wp F L st h Q := by
  obtain ⟨v, h', h1, h2⟩ := w
  exact ⟨v, h', h1, k v h' h2⟩
theorem w_in {k nL : Nat} {F : kv_D} {as : List Value} {h : kv_H} {P : Option Value → kv_H → Prop} (h1 : as.length = k) (h2 : ∀ x ∈ as, x.category = 1) (hw : wp F (as.map some ++ List.replicate (nL - k) none) [] h P) : wm (kv_in k nL F) as h P := by
  obtain ⟨v, h', q1, q2⟩ := hw
  exact ⟨v, h', ⟨h1, h2, q1⟩, q2⟩
theorem w_and {c : Prop} {F : Option Value → kv_H → Prop} {P : Option Value → kv_H → Prop} : (∃ v h', (c ∧ F v h') ∧ P v h') = (c ∧ ∃ v h', F v h' ∧ P v h') := propext ⟨fun ⟨v, h', ⟨a, b⟩, d⟩ => ⟨a, v, h', b, d⟩, fun ⟨a, v, h', b, d⟩ => ⟨v, h', ⟨a, b⟩, d⟩⟩
theorem w_F {P : Option Value → kv_H → Prop} : (∃ (v : Option Value) (h' : kv_H), False ∧ P v h') = False := propext ⟨fun ⟨_, _, a, _⟩ => a, fun a => a.elim⟩
section KVW
variable {F G : kv_D} {L : List (Option Value)} {st r : List Value} {h : kv_H} {P : Option Value → kv_H → Prop}
theorem w_const {x : Int32} : wp (o_const x F) L st h P = (wp F L (.int x :: st) h P) := rfl
theorem w_iload {i : Nat} : wp (o_iload i F) L st h P = (match L[i]? with
  | some (some (.int x)) => wp F L (.int x :: st) h P
  | _ => False) := by
  unfold wp o_iload
  generalize L[i]? = z
  rcases z with _ | (_ | (x | x | x | x | _ | x | x)) <;> first | rfl | exact w_F
theorem w_aload {i : Nat} : wp (o_aload i F) L st h P = (match L[i]? with
  | some (some (.ref x)) => wp F L (.ref x :: st) h P
  | _ => False) := by
  unfold wp o_aload
  generalize L[i]? = z
  rcases z with _ | (_ | (x | x | x | x | _ | x | x)) <;> first | rfl | exact w_F
theorem w_iinc {i : Nat} {k : Int32} : wp (o_iinc i k F) L st h P = (match L[i]? with
  | some (some (.int x)) => wp F (L.set i (some (.int (x + k)))) st h P
  | _ => False) := by
  unfold wp o_iinc
  generalize L[i]? = z
  rcases z with _ | (_ | (x | x | x | x | _ | x | x)) <;> first | rfl | exact w_F
theorem w_istore {i : Nat} {x : Int32} : wp (o_istore i F) L (.int x :: r) h P = (wp F (L.set i (some (.int x))) r h P) := rfl
theorem w_astore {i : Nat} {x : Nat} : wp (o_astore i F) L (.ref x :: r) h P = (wp F (L.set i (some (.ref x))) r h P) := rfl
theorem w_iadd {x y : Int32} : wp (o_iadd F) L (.int y :: .int x :: r) h P = (wp F L (.int (x + y) :: r) h P) := rfl
theorem w_isub {x y : Int32} : wp (o_isub F) L (.int y :: .int x :: r) h P = (wp F L (.int (x - y) :: r) h P) := rfl
theorem w_imul {x y : Int32} : wp (o_imul F) L (.int y :: .int x :: r) h P = (wp F L (.int (x * y) :: r) h P) := rfl
theorem w_iand {x y : Int32} : wp (o_iand F) L (.int y :: .int x :: r) h P = (wp F L (.int (x &&& y) :: r) h P) := rfl
theorem w_ior {x y : Int32} : wp (o_ior F) L (.int y :: .int x :: r) h P = (wp F L (.int (x ||| y) :: r) h P) := rfl
theorem w_ixor {x y : Int32} : wp (o_ixor F) L (.int y :: .int x :: r) h P = (wp F L (.int (x ^^^ y) :: r) h P) := rfl
theorem w_ishl {x y : Int32} : wp (o_ishl F) L (.int y :: .int x :: r) h P = (wp F L (.int (x <<< (y &&& 31)) :: r) h P) := rfl
theorem w_ishr {x y : Int32} : wp (o_ishr F) L (.int y :: .int x :: r) h P = (wp F L (.int (x >>> (y &&& 31)) :: r) h P) := rfl
theorem w_ineg {x : Int32} : wp (o_ineg F) L (.int x :: r) h P = (wp F L (.int (-x) :: r) h P) := rfl
theorem w_i2c {x : Int32} : wp (o_i2c F) L (.int x :: r) h P = (wp F L (.int ((x.toUInt32 % 65536).toInt32) :: r) h P) := rfl
theorem w_dup {x : Value} : wp (o_dup F) L (x :: r) h P = (x.category = 1 ∧ wp F L (x :: x :: r) h P) := w_and
theorem w_pop {x : Value} : wp (o_pop F) L (x :: r) h P = (x.category = 1 ∧ wp F L r h P) := w_and
theorem w_dup_x1 {x y : Value} : wp (o_dup_x1 F) L (x :: y :: r) h P = ((x.category = 1 ∧ y.category = 1) ∧ wp F L (x :: y :: x :: r) h P) := w_and
theorem w_dup_x2 {x y z : Value} : wp (o_dup_x2 F) L (x :: y :: z :: r) h P = ((x.category = 1 ∧ y.category = 1 ∧ z.category = 1) ∧ wp F L (x :: y :: z :: x :: r) h P) := w_and
theorem w_dup2 {x y : Value} : wp (o_dup2 F) L (x :: y :: r) h P = ((x.category = 1 ∧ y.category = 1) ∧ wp F L (x :: y :: x :: y :: r) h P) := w_and
theorem w_ifeq {x : Int32} : wp (o_ifeq F G) L (.int x :: r) h P = (if x = 0 then wp F L r h P else wp G L r h P) := by
  unfold wp o_ifeq
  dsimp only
  split <;> rfl
theorem w_ifne {x : Int32} : wp (o_ifne F G) L (.int x :: r) h P = (if ¬ x = 0 then wp F L r h P else wp G L r h P) := by
  unfold wp o_ifne
  dsimp only
  split <;> rfl
theorem w_iflt {x : Int32} : wp (o_iflt F G) L (.int x :: r) h P = (if x < 0 then wp F L r h P else wp G L r h P) := by
  unfold wp o_iflt
  dsimp only
  split <;> rfl
theorem w_ifge {x : Int32} : wp (o_ifge F G) L (.int x :: r) h P = (if 0 ≤ x then wp F L r h P else wp G L r h P) := by
  unfold wp o_ifge
  dsimp only
  split <;> rfl
theorem w_ifgt {x : Int32} : wp (o_ifgt F G) L (.int x :: r) h P = (if 0 < x then wp F L r h P else wp G L r h P) := by
  unfold wp o_ifgt
  dsimp only
  split <;> rfl
theorem w_ifle {x : Int32} : wp (o_ifle F G) L (.int x :: r) h P = (if x ≤ 0 then wp F L r h P else wp G L r h P) := by
  unfold wp o_ifle
  dsimp only
  split <;> rfl
theorem w_iceq {x y : Int32} : wp (o_iceq F G) L (.int y :: .int x :: r) h P = (if x = y then wp F L r h P else wp G L r h P) := by
  unfold wp o_iceq
  dsimp only
  split <;> rfl
theorem w_icne {x y : Int32} : wp (o_icne F G) L (.int y :: .int x :: r) h P = (if ¬ x = y then wp F L r h P else wp G L r h P) := by
  unfold wp o_icne
  dsimp only
  split <;> rfl
theorem w_iclt {x y : Int32} : wp (o_iclt F G) L (.int y :: .int x :: r) h P = (if x < y then wp F L r h P else wp G L r h P) := by
  unfold wp o_iclt
  dsimp only
  split <;> rfl
theorem w_icge {x y : Int32} : wp (o_icge F G) L (.int y :: .int x :: r) h P = (if y ≤ x then wp F L r h P else wp G L r h P) := by
  unfold wp o_icge
  dsimp only
  split <;> rfl
theorem w_icgt {x y : Int32} : wp (o_icgt F G) L (.int y :: .int x :: r) h P = (if y < x then wp F L r h P else wp G L r h P) := by
  unfold wp o_icgt
  dsimp only
  split <;> rfl
theorem w_icle {x y : Int32} : wp (o_icle F G) L (.int y :: .int x :: r) h P = (if x ≤ y then wp F L r h P else wp G L r h P) := by
  unfold wp o_icle
  dsimp only
  split <;> rfl
theorem w_ret : wp (o_ret) L [] h P = (P none h) := propext ⟨fun ⟨v, h', ⟨_, e1, e2⟩, d⟩ => by rw [← e1, ← e2]; exact d, fun d => ⟨none, h, ⟨rfl, rfl, rfl⟩, d⟩⟩
theorem w_iret {ty : FieldType} {x : Int32} : wp (o_iret ty) L [.int x] h P = (narrow ty (.int x) = .int x ∧ P (some (.int x)) h) := propext ⟨fun ⟨v, h', ⟨e0, e1, e2⟩, d⟩ => ⟨e0, by rw [← e1, ← e2]; exact d⟩, fun d => ⟨some (.int x), h, ⟨d.1, rfl, rfl⟩, d.2⟩⟩
theorem w_aret {x : Nat} : wp (o_aret) L [.ref x] h P = (P (some (.ref x)) h) := propext ⟨fun ⟨v, h', ⟨e1, e2⟩, d⟩ => by rw [← e1, ← e2]; exact d, fun d => ⟨some (.ref x), h, ⟨rfl, rfl⟩, d⟩⟩
theorem w_max {x y : Int32} : wp (o_max F) L (.int y :: .int x :: r) h P = (((r.map fun v => v.category).sum + 13 ≤ 21) ∧ wp F L (.int (if x < y then y else x) :: r) h P) := w_and
theorem w_sld {N : Nat} {xs : Nat → Int32} {i : Int32} : wp (o_sld N xs F) L (.int i :: .ref 0 :: r) h P = ((0 ≤ i ∧ i.toNatClampNeg < N) ∧ wp F L (.int (xs i.toNatClampNeg) :: r) h P) := w_and
theorem w_slen {N : Nat} : wp (o_slen N F) L (.ref 0 :: r) h P = (wp F L (.int (Int32.ofNat N) :: r) h P) := rfl
theorem w_new {ci N : Nat} {fs : List Value} : wp (o_new ci N fs F) L st h P = (wp F L (.ref (h.2.1 + 1) :: st) (kv_n h (.inr (ci, fs)) N) P) := rfl
theorem w_newa {t : Nat} {ty : FieldType} {n : Int32} : wp (o_newa t ty F) L (.int n :: r) h P = ((0 ≤ n ∧ n.toNatClampNeg * componentBytes ty ≤ 536870912) ∧ wp F L (.ref (h.2.1 + 1) :: r) (kv_n h (.inl (t, n.toNatClampNeg, .inl (fun _ => 0))) n.toNatClampNeg) P) := w_and
theorem w_newq {t : Nat} {n : Int32} : wp (o_newq t F) L (.int n :: r) h P = ((0 ≤ n ∧ n.toNatClampNeg * 4 ≤ 536870912) ∧ wp F L (.ref (h.2.1 + 1) :: r) (kv_n h (.inl (t, n.toNatClampNeg, .inr (.inr (.inr (.inr (fun _ => none)))))) n.toNatClampNeg) P) := w_and
theorem w_obj {a : Nat} : wp (o_obj F) L (.ref a :: r) h P = ((r.map fun v => v.category).sum ≤ 8 ∧ wp F L r h P) := w_and
theorem w_getf {ci kf a : Nat} : wp (o_getf ci kf F) L (.ref a :: r) h P = (match kv_g h a with
  | some (.inr q) => q.1 = ci ∧ ∃ x, q.2[kf]? = some x ∧ wp F L (x :: r) h P
  | _ => False) := by
  unfold wp o_getf
  dsimp only
  generalize kv_g h a = z
  rcases z with _ | (q | q)
  · exact w_F
  · exact w_F
  · exact propext ⟨fun ⟨v, h', ⟨a1, x, a2, a3⟩, a4⟩ => ⟨a1, x, a2, v, h', a3, a4⟩, fun ⟨a1, x, a2, v, h', a3, a4⟩ => ⟨v, h', ⟨a1, x, a2, a3⟩, a4⟩⟩
theorem w_putf {ci kf a : Nat} {ty : FieldType} {x : Value} : wp (o_putf ci kf ty F) L (x :: .ref a :: r) h P = (match kv_g h a with
  | some (.inr q) => (q.1 = ci ∧ kf < q.2.length ∧ narrow ty x = x ∧ fits ty x = true) ∧ wp F L r (kv_p h a (.inr (ci, q.2.set kf x))) P
  | _ => False) := by
  unfold wp o_putf
  dsimp only
  generalize kv_g h a = z
  rcases z with _ | (⟨t', n, (f | f | f | f | f)⟩ | q) <;> first | exact w_and | exact w_F
theorem w_iald {t a : Nat} {i : Int32} : wp (o_iald t F) L (.int i :: .ref a :: r) h P = (match kv_g h a with
  | some (.inl (t', n, .inl f)) => (t' = t ∧ 0 ≤ i ∧ i.toNatClampNeg < n) ∧ wp F L (.int (f i.toNatClampNeg) :: r) h P
  | _ => False) := by
  unfold wp o_iald
  dsimp only
  generalize kv_g h a = z
  rcases z with _ | (⟨t', n, (f | f | f | f | f)⟩ | q) <;> first | exact w_and | exact w_F
theorem w_iast {t a : Nat} {nar : Int32 → Int32} {i x : Int32} : wp (o_iast t nar F) L (.int x :: .int i :: .ref a :: r) h P = (match kv_g h a with
  | some (.inl (t', n, .inl f)) => (t' = t ∧ 0 ≤ i ∧ i.toNatClampNeg < n) ∧ wp F L r (kv_p h a (.inl (t, n, .inl (upd f i.toNatClampNeg (nar x))))) P
  | _ => False) := by
  unfold wp o_iast
  dsimp only
  generalize kv_g h a = z
  rcases z with _ | (⟨t', n, (f | f | f | f | f)⟩ | q) <;> first | exact w_and | exact w_F
theorem w_alen {a : Nat} : wp (o_alen F) L (.ref a :: r) h P = (match kv_g h a with
  | some (.inl q) => q.1 < kv_tl.length ∧ wp F L (.int (Int32.ofNat q.2.1) :: r) h P
  | _ => False) := by
  unfold wp o_alen
  dsimp only
  generalize kv_g h a = z
  rcases z with _ | (⟨t', n, (f | f | f | f | f)⟩ | q) <;> first | exact w_and | exact w_F
theorem w_aald {t a : Nat} {i : Int32} : wp (o_aald t F) L (.int i :: .ref a :: r) h P = (match kv_g h a with
  | some (.inl (t', n, .inr (.inr (.inr (.inr f))))) => (t' = t ∧ 0 ≤ i ∧ i.toNatClampNeg < n) ∧ wp F L (va_rf (f i.toNatClampNeg) :: r) h P
  | _ => False) := by
  unfold wp o_aald
  dsimp only
  generalize kv_g h a = z
  rcases z with _ | (⟨t', n, (f | f | f | f | f)⟩ | q) <;> first | exact w_and | exact w_F
theorem w_aast {t ci a x : Nat} {i : Int32} : wp (o_aast t ci F) L (.ref x :: .int i :: .ref a :: r) h P = (match kv_g h a with
  | some (.inl (t', n, .inr (.inr (.inr (.inr f))))) => (t' = t ∧ 0 ≤ i ∧ i.toNatClampNeg < n ∧ ∃ fs, kv_g h x = some (.inr (ci, fs))) ∧ wp F L r (kv_p h a (.inl (t, n, .inr (.inr (.inr (.inr (va_up f i.toNatClampNeg (some x)))))))) P
  | _ => False) := by
  unfold wp o_aast
  dsimp only
  generalize kv_g h a = z
  rcases z with _ | (⟨t', n, (f | f | f | f | f)⟩ | q) <;> first | exact w_and | exact w_F
theorem w_copy {t a a0 : Nat} {ty : FieldType} {n dp sp : Int32} : wp (o_copy t ty F) L (.int n :: .int dp :: .ref a :: .int sp :: .ref a0 :: r) h P = (match kv_g h a0, kv_g h a with
  | some (.inl (t0, n0, .inl f)), some (.inl (t1, n1, .inl g)) => ((t0 = t ∧ t1 = t) ∧ 0 ≤ sp ∧ 0 ≤ dp ∧ 0 ≤ n ∧ sp.toNatClampNeg + n.toNatClampNeg ≤ n0 ∧ dp.toNatClampNeg + n.toNatClampNeg ≤ n1 ∧ (∀ i, i < n.toNatClampNeg → fits ty (.int (f (sp.toNatClampNeg + i))) = true) ∧ (r.map fun v => v.category).sum ≤ 8) ∧ wp F L r (kv_p h a (.inl (t, n1, .inl (va_cpy f g sp.toNatClampNeg dp.toNatClampNeg n.toNatClampNeg)))) P
  | _, _ => False) := by
  unfold wp o_copy
  dsimp only
  generalize kv_g h a0 = z
  generalize kv_g h a = y
  rcases z with _ | (⟨t0, n0, (f | f | f | f | f)⟩ | q) <;> rcases y with _ | (⟨t1, n1, (g | g | g | g | g)⟩ | q) <;> first | exact w_and | exact w_F
theorem w_callV0 {ci a : Nat} {fs : List Value} {M : kv_M} {Q : Option Value → kv_H → Prop} (hg : kv_g h a = some (.inr (ci, fs))) (hM : wm M [.ref a] h Q) (hr : (r.map fun v => v.category).sum ≤ 8) (k : ∀ v1 h1, Q v1 h1 → wp F L (v1.toList ++ r) h1 P) : wp (o_callV ci 0 M F) L (.ref a :: r) h P := by
  obtain ⟨v1, h1, q1, q2⟩ := hM
  obtain ⟨v, h', q3, q4⟩ := k v1 h1 q2
  exact ⟨v, h', e_callV0 hg q1 hr q3, q4⟩
theorem w_callI0 {a : Nat} {M : kv_M} {Q : Option Value → kv_H → Prop} (hM : wm M [.ref a] h Q) (hr : (r.map fun v => v.category).sum ≤ 8) (k : ∀ v1 h1, Q v1 h1 → wp F L (v1.toList ++ r) h1 P) : wp (o_callI 0 M F) L (.ref a :: r) h P := by
  obtain ⟨v1, h1, q1, q2⟩ := hM
  obtain ⟨v, h', q3, q4⟩ := k v1 h1 q2
  exact ⟨v, h', e_callI0 q1 hr q3, q4⟩
theorem w_callS0 {M : kv_M} {Q : Option Value → kv_H → Prop} (hM : wm M [] h Q) (hr : (r.map fun v => v.category).sum ≤ 8) (k : ∀ v1 h1, Q v1 h1 → wp F L (v1.toList ++ r) h1 P) : wp (o_callS 0 M F) L (r) h P := by
  obtain ⟨v1, h1, q1, q2⟩ := hM
  obtain ⟨v, h', q3, q4⟩ := k v1 h1 q2
  exact ⟨v, h', e_callS0 q1 hr q3, q4⟩
theorem w_callV1 {ci a : Nat} {fs : List Value} {M : kv_M} {Q : Option Value → kv_H → Prop} {x1 : Value} (hg : kv_g h a = some (.inr (ci, fs))) (hM : wm M [.ref a, x1] h Q) (hr : (r.map fun v => v.category).sum ≤ 8) (k : ∀ v1 h1, Q v1 h1 → wp F L (v1.toList ++ r) h1 P) : wp (o_callV ci 1 M F) L (x1 :: .ref a :: r) h P := by
  obtain ⟨v1, h1, q1, q2⟩ := hM
  obtain ⟨v, h', q3, q4⟩ := k v1 h1 q2
  exact ⟨v, h', e_callV1 hg q1 hr q3, q4⟩
theorem w_callI1 {a : Nat} {M : kv_M} {Q : Option Value → kv_H → Prop} {x1 : Value} (hM : wm M [.ref a, x1] h Q) (hr : (r.map fun v => v.category).sum ≤ 8) (k : ∀ v1 h1, Q v1 h1 → wp F L (v1.toList ++ r) h1 P) : wp (o_callI 1 M F) L (x1 :: .ref a :: r) h P := by
  obtain ⟨v1, h1, q1, q2⟩ := hM
  obtain ⟨v, h', q3, q4⟩ := k v1 h1 q2
  exact ⟨v, h', e_callI1 q1 hr q3, q4⟩
theorem w_callS1 {M : kv_M} {Q : Option Value → kv_H → Prop} {x1 : Value} (hM : wm M [x1] h Q) (hr : (r.map fun v => v.category).sum ≤ 8) (k : ∀ v1 h1, Q v1 h1 → wp F L (v1.toList ++ r) h1 P) : wp (o_callS 1 M F) L (x1 :: r) h P := by
  obtain ⟨v1, h1, q1, q2⟩ := hM
  obtain ⟨v, h', q3, q4⟩ := k v1 h1 q2
  exact ⟨v, h', e_callS1 q1 hr q3, q4⟩
theorem w_callV2 {ci a : Nat} {fs : List Value} {M : kv_M} {Q : Option Value → kv_H → Prop} {x1 x2 : Value} (hg : kv_g h a = some (.inr (ci, fs))) (hM : wm M [.ref a, x1, x2] h Q) (hr : (r.map fun v => v.category).sum ≤ 8) (k : ∀ v1 h1, Q v1 h1 → wp F L (v1.toList ++ r) h1 P) : wp (o_callV ci 2 M F) L (x2 :: x1 :: .ref a :: r) h P := by
  obtain ⟨v1, h1, q1, q2⟩ := hM
  obtain ⟨v, h', q3, q4⟩ := k v1 h1 q2
  exact ⟨v, h', e_callV2 hg q1 hr q3, q4⟩
theorem w_callI2 {a : Nat} {M : kv_M} {Q : Option Value → kv_H → Prop} {x1 x2 : Value} (hM : wm M [.ref a, x1, x2] h Q) (hr : (r.map fun v => v.category).sum ≤ 8) (k : ∀ v1 h1, Q v1 h1 → wp F L (v1.toList ++ r) h1 P) : wp (o_callI 2 M F) L (x2 :: x1 :: .ref a :: r) h P := by
  obtain ⟨v1, h1, q1, q2⟩ := hM
  obtain ⟨v, h', q3, q4⟩ := k v1 h1 q2
  exact ⟨v, h', e_callI2 q1 hr q3, q4⟩
theorem w_callS2 {M : kv_M} {Q : Option Value → kv_H → Prop} {x1 x2 : Value} (hM : wm M [x1, x2] h Q) (hr : (r.map fun v => v.category).sum ≤ 8) (k : ∀ v1 h1, Q v1 h1 → wp F L (v1.toList ++ r) h1 P) : wp (o_callS 2 M F) L (x2 :: x1 :: r) h P := by
  obtain ⟨v1, h1, q1, q2⟩ := hM
  obtain ⟨v, h', q3, q4⟩ := k v1 h1 q2
  exact ⟨v, h', e_callS2 q1 hr q3, q4⟩
theorem w_callV3 {ci a : Nat} {fs : List Value} {M : kv_M} {Q : Option Value → kv_H → Prop} {x1 x2 x3 : Value} (hg : kv_g h a = some (.inr (ci, fs))) (hM : wm M [.ref a, x1, x2, x3] h Q) (hr : (r.map fun v => v.category).sum ≤ 8) (k : ∀ v1 h1, Q v1 h1 → wp F L (v1.toList ++ r) h1 P) : wp (o_callV ci 3 M F) L (x3 :: x2 :: x1 :: .ref a :: r) h P := by
  obtain ⟨v1, h1, q1, q2⟩ := hM
  obtain ⟨v, h', q3, q4⟩ := k v1 h1 q2
  exact ⟨v, h', e_callV3 hg q1 hr q3, q4⟩
theorem w_callI3 {a : Nat} {M : kv_M} {Q : Option Value → kv_H → Prop} {x1 x2 x3 : Value} (hM : wm M [.ref a, x1, x2, x3] h Q) (hr : (r.map fun v => v.category).sum ≤ 8) (k : ∀ v1 h1, Q v1 h1 → wp F L (v1.toList ++ r) h1 P) : wp (o_callI 3 M F) L (x3 :: x2 :: x1 :: .ref a :: r) h P := by
  obtain ⟨v1, h1, q1, q2⟩ := hM
  obtain ⟨v, h', q3, q4⟩ := k v1 h1 q2
  exact ⟨v, h', e_callI3 q1 hr q3, q4⟩
theorem w_callS3 {M : kv_M} {Q : Option Value → kv_H → Prop} {x1 x2 x3 : Value} (hM : wm M [x1, x2, x3] h Q) (hr : (r.map fun v => v.category).sum ≤ 8) (k : ∀ v1 h1, Q v1 h1 → wp F L (v1.toList ++ r) h1 P) : wp (o_callS 3 M F) L (x3 :: x2 :: x1 :: r) h P := by
  obtain ⟨v1, h1, q1, q2⟩ := hM
  obtain ⟨v, h', q3, q4⟩ := k v1 h1 q2
  exact ⟨v, h', e_callS3 q1 hr q3, q4⟩
theorem w_callV4 {ci a : Nat} {fs : List Value} {M : kv_M} {Q : Option Value → kv_H → Prop} {x1 x2 x3 x4 : Value} (hg : kv_g h a = some (.inr (ci, fs))) (hM : wm M [.ref a, x1, x2, x3, x4] h Q) (hr : (r.map fun v => v.category).sum ≤ 8) (k : ∀ v1 h1, Q v1 h1 → wp F L (v1.toList ++ r) h1 P) : wp (o_callV ci 4 M F) L (x4 :: x3 :: x2 :: x1 :: .ref a :: r) h P := by
  obtain ⟨v1, h1, q1, q2⟩ := hM
  obtain ⟨v, h', q3, q4⟩ := k v1 h1 q2
  exact ⟨v, h', e_callV4 hg q1 hr q3, q4⟩
theorem w_callI4 {a : Nat} {M : kv_M} {Q : Option Value → kv_H → Prop} {x1 x2 x3 x4 : Value} (hM : wm M [.ref a, x1, x2, x3, x4] h Q) (hr : (r.map fun v => v.category).sum ≤ 8) (k : ∀ v1 h1, Q v1 h1 → wp F L (v1.toList ++ r) h1 P) : wp (o_callI 4 M F) L (x4 :: x3 :: x2 :: x1 :: .ref a :: r) h P := by
  obtain ⟨v1, h1, q1, q2⟩ := hM
  obtain ⟨v, h', q3, q4⟩ := k v1 h1 q2
  exact ⟨v, h', e_callI4 q1 hr q3, q4⟩
theorem w_callS4 {M : kv_M} {Q : Option Value → kv_H → Prop} {x1 x2 x3 x4 : Value} (hM : wm M [x1, x2, x3, x4] h Q) (hr : (r.map fun v => v.category).sum ≤ 8) (k : ∀ v1 h1, Q v1 h1 → wp F L (v1.toList ++ r) h1 P) : wp (o_callS 4 M F) L (x4 :: x3 :: x2 :: x1 :: r) h P := by
  obtain ⟨v1, h1, q1, q2⟩ := hM
  obtain ⟨v, h', q3, q4⟩ := k v1 h1 q2
  exact ⟨v, h', e_callS4 q1 hr q3, q4⟩
theorem w_callV5 {ci a : Nat} {fs : List Value} {M : kv_M} {Q : Option Value → kv_H → Prop} {x1 x2 x3 x4 x5 : Value} (hg : kv_g h a = some (.inr (ci, fs))) (hM : wm M [.ref a, x1, x2, x3, x4, x5] h Q) (hr : (r.map fun v => v.category).sum ≤ 8) (k : ∀ v1 h1, Q v1 h1 → wp F L (v1.toList ++ r) h1 P) : wp (o_callV ci 5 M F) L (x5 :: x4 :: x3 :: x2 :: x1 :: .ref a :: r) h P := by
  obtain ⟨v1, h1, q1, q2⟩ := hM
  obtain ⟨v, h', q3, q4⟩ := k v1 h1 q2
  exact ⟨v, h', e_callV5 hg q1 hr q3, q4⟩
theorem w_callI5 {a : Nat} {M : kv_M} {Q : Option Value → kv_H → Prop} {x1 x2 x3 x4 x5 : Value} (hM : wm M [.ref a, x1, x2, x3, x4, x5] h Q) (hr : (r.map fun v => v.category).sum ≤ 8) (k : ∀ v1 h1, Q v1 h1 → wp F L (v1.toList ++ r) h1 P) : wp (o_callI 5 M F) L (x5 :: x4 :: x3 :: x2 :: x1 :: .ref a :: r) h P := by
  obtain ⟨v1, h1, q1, q2⟩ := hM
  obtain ⟨v, h', q3, q4⟩ := k v1 h1 q2
  exact ⟨v, h', e_callI5 q1 hr q3, q4⟩
theorem w_callS5 {M : kv_M} {Q : Option Value → kv_H → Prop} {x1 x2 x3 x4 x5 : Value} (hM : wm M [x1, x2, x3, x4, x5] h Q) (hr : (r.map fun v => v.category).sum ≤ 8) (k : ∀ v1 h1, Q v1 h1 → wp F L (v1.toList ++ r) h1 P) : wp (o_callS 5 M F) L (x5 :: x4 :: x3 :: x2 :: x1 :: r) h P := by
  obtain ⟨v1, h1, q1, q2⟩ := hM
  obtain ⟨v, h', q3, q4⟩ := k v1 h1 q2
  exact ⟨v, h', e_callS5 q1 hr q3, q4⟩
end KVW
