section KVB
variable {cc : ByteArray} {nL : Nat} {own : String} {Ts : List Cond} {ret : Option FieldType} {ini : Bool} {fr lo : Nat} {sc : Option (Nat × (Nat → Int32))} {pc : Nat} {F G : kv_D}
def o_const (x : Int32) (F : kv_D) : kv_D := fun L st h v h' => F L (.int x :: st) h v h'
theorem k_iconst {n : Int} {x : Int32} (d : decode cc pc = .ok (.iconst n, 1)) (hx : Int32.ofInt n = x) (k : kv_S cc nL own Ts ret ini fr lo sc (pc + 1) F) : kv_S cc nL own Ts ret ini fr lo sc pc (o_const x F) := kv_mk (fun L st h v h' hF => ⟨_, F, _, _, k, hF, fun p l e R s m args below meth c b S n0 z0 dC dI dA Q X ls H locs cells slots hc hs Y kk => lv_iconst X.1 X.2.1 d hx (kk ls Y.1)⟩)
theorem k_bipush {n : Int} {x : Int32} (d : decode cc pc = .ok (.bipush n, 2)) (hx : (Int8.ofInt n).toInt32 = x) (k : kv_S cc nL own Ts ret ini fr lo sc (pc + 2) F) : kv_S cc nL own Ts ret ini fr lo sc pc (o_const x F) := kv_mk (fun L st h v h' hF => ⟨_, F, _, _, k, hF, fun p l e R s m args below meth c b S n0 z0 dC dI dA Q X ls H locs cells slots hc hs Y kk => lv_bipush X.1 X.2.1 d hx (kk ls Y.1)⟩)
theorem k_sipush {n : Int} {x : Int32} (d : decode cc pc = .ok (.sipush n, 3)) (hx : (Int16.ofInt n).toInt32 = x) (k : kv_S cc nL own Ts ret ini fr lo sc (pc + 3) F) : kv_S cc nL own Ts ret ini fr lo sc pc (o_const x F) := kv_mk (fun L st h v h' hF => ⟨_, F, _, _, k, hF, fun p l e R s m args below meth c b S n0 z0 dC dI dA Q X ls H locs cells slots hc hs Y kk => lv_sipush X.1 X.2.1 d hx (kk ls Y.1)⟩)
theorem k_ldc {index : Nat} {x : Int32} (d : decode cc pc = .ok (.ldc index, 2)) (hx : Cond.constant own index x ∈ Ts) (k : kv_S cc nL own Ts ret ini fr lo sc (pc + 2) F) : kv_S cc nL own Ts ret ini fr lo sc pc (o_const x F) := kv_mk (fun L st h v h' hF => ⟨_, F, _, _, k, hF, fun p l e R s m args below meth c b S n0 z0 dC dI dA Q X ls H locs cells slots hc hs Y kk => lv_ldc X.1 X.2.1 X.2.2.2.1 (X.2.2.2.2.1 _ hx) d (kk ls Y.1)⟩)
def o_iload (i : Nat) (F : kv_D) : kv_D := fun L st h v h' => match L[i]? with
  | some (some (.int x)) => F L (.int x :: st) h v h'
  | _ => False
def o_aload (i : Nat) (F : kv_D) : kv_D := fun L st h v h' => match L[i]? with
  | some (some (.ref x)) => F L (.ref x :: st) h v h'
  | _ => False
theorem k_iload_n {i : Nat} {q : Fin 4} (d : decode cc pc = .ok (.iload_n q, 1)) (hi : (q : Nat) = i) (k : kv_S cc nL own Ts ret ini fr lo sc (pc + 1) F) : kv_S cc nL own Ts ret ini fr lo sc pc (o_iload i F) := kv_mk (fun L st h v h' hF => by
  unfold o_iload at hF
  split at hF
  · rename_i x hx
    exact ⟨_, F, _, _, k, hF, fun p l e R s m args below meth c b S n0 z0 dC dI dA Q X ls H locs cells slots hc hs Y kk => lv_iload_n X.1 X.2.1 d hi (Y.1.2.2.2 i _ hx rfl) (kk ls Y.1)⟩
  · exact hF.elim)
theorem k_iload {i : Nat} (d : decode cc pc = .ok (.iload i, 2)) (k : kv_S cc nL own Ts ret ini fr lo sc (pc + 2) F) : kv_S cc nL own Ts ret ini fr lo sc pc (o_iload i F) := kv_mk (fun L st h v h' hF => by
  unfold o_iload at hF
  split at hF
  · rename_i x hx
    exact ⟨_, F, _, _, k, hF, fun p l e R s m args below meth c b S n0 z0 dC dI dA Q X ls H locs cells slots hc hs Y kk => lv_iload X.1 X.2.1 d (Y.1.2.2.2 i _ hx rfl) (kk ls Y.1)⟩
  · exact hF.elim)
theorem k_aload_n {i : Nat} {q : Fin 4} (d : decode cc pc = .ok (.aload_n q, 1)) (hi : (q : Nat) = i) (k : kv_S cc nL own Ts ret ini fr lo sc (pc + 1) F) : kv_S cc nL own Ts ret ini fr lo sc pc (o_aload i F) := kv_mk (fun L st h v h' hF => by
  unfold o_aload at hF
  split at hF
  · rename_i x hx
    exact ⟨_, F, _, _, k, hF, fun p l e R s m args below meth c b S n0 z0 dC dI dA Q X ls H locs cells slots hc hs Y kk => lv_aload_n X.1 X.2.1 d hi (Y.1.2.2.2 i _ hx rfl) (kk ls Y.1)⟩
  · exact hF.elim)
theorem k_aload {i : Nat} (d : decode cc pc = .ok (.aload i, 2)) (k : kv_S cc nL own Ts ret ini fr lo sc (pc + 2) F) : kv_S cc nL own Ts ret ini fr lo sc pc (o_aload i F) := kv_mk (fun L st h v h' hF => by
  unfold o_aload at hF
  split at hF
  · rename_i x hx
    exact ⟨_, F, _, _, k, hF, fun p l e R s m args below meth c b S n0 z0 dC dI dA Q X ls H locs cells slots hc hs Y kk => lv_aload X.1 X.2.1 d (Y.1.2.2.2 i _ hx rfl) (kk ls Y.1)⟩
  · exact hF.elim)
def o_istore (i : Nat) (F : kv_D) : kv_D := fun L st h v h' => match st with
  | .int x :: r => F (L.set i (some (.int x))) r h v h'
  | _ => False
def o_astore (i : Nat) (F : kv_D) : kv_D := fun L st h v h' => match st with
  | .ref x :: r => F (L.set i (some (.ref x))) r h v h'
  | _ => False
theorem k_istore_n {i : Nat} {q : Fin 4} (d : decode cc pc = .ok (.istore_n q, 1)) (hi : (q : Nat) = i) (hn : i < nL) (k : kv_S cc nL own Ts ret ini fr lo sc (pc + 1) F) : kv_S cc nL own Ts ret ini fr lo sc pc (o_istore i F) := kv_mk (fun L st h v h' hF => by
  unfold o_istore at hF
  split at hF
  · exact ⟨_, F, _, _, k, hF, fun p l e R s m args below meth c b S n0 z0 dC dI dA Q X ls H locs cells slots hc hs Y kk => lv_istore_n X.1 X.2.1 d hi (kv_lv_has Y.1) hn rfl (fun ls' h' => kk ls' (kv_lv_set Y.1 h'))⟩
  · exact hF.elim)
theorem k_istore {i : Nat} (d : decode cc pc = .ok (.istore i, 2)) (hn : i < nL) (k : kv_S cc nL own Ts ret ini fr lo sc (pc + 2) F) : kv_S cc nL own Ts ret ini fr lo sc pc (o_istore i F) := kv_mk (fun L st h v h' hF => by
  unfold o_istore at hF
  split at hF
  · exact ⟨_, F, _, _, k, hF, fun p l e R s m args below meth c b S n0 z0 dC dI dA Q X ls H locs cells slots hc hs Y kk => lv_istore X.1 X.2.1 d (kv_lv_has Y.1) hn rfl (fun ls' h' => kk ls' (kv_lv_set Y.1 h'))⟩
  · exact hF.elim)
theorem k_astore_n {i : Nat} {q : Fin 4} (d : decode cc pc = .ok (.astore_n q, 1)) (hi : (q : Nat) = i) (hn : i < nL) (k : kv_S cc nL own Ts ret ini fr lo sc (pc + 1) F) : kv_S cc nL own Ts ret ini fr lo sc pc (o_astore i F) := kv_mk (fun L st h v h' hF => by
  unfold o_astore at hF
  split at hF
  · exact ⟨_, F, _, _, k, hF, fun p l e R s m args below meth c b S n0 z0 dC dI dA Q X ls H locs cells slots hc hs Y kk => lv_astore_n X.1 X.2.1 d hi (kv_lv_has Y.1) hn rfl (fun ls' h' => kk ls' (kv_lv_set Y.1 h'))⟩
  · exact hF.elim)
theorem k_astore {i : Nat} (d : decode cc pc = .ok (.astore i, 2)) (hn : i < nL) (k : kv_S cc nL own Ts ret ini fr lo sc (pc + 2) F) : kv_S cc nL own Ts ret ini fr lo sc pc (o_astore i F) := kv_mk (fun L st h v h' hF => by
  unfold o_astore at hF
  split at hF
  · exact ⟨_, F, _, _, k, hF, fun p l e R s m args below meth c b S n0 z0 dC dI dA Q X ls H locs cells slots hc hs Y kk => lv_astore X.1 X.2.1 d (kv_lv_has Y.1) hn rfl (fun ls' h' => kk ls' (kv_lv_set Y.1 h'))⟩
  · exact hF.elim)
def o_iinc (i : Nat) (k : Int32) (F : kv_D) : kv_D := fun L st h v h' => match L[i]? with
  | some (some (.int x)) => F (L.set i (some (.int (x + k)))) st h v h'
  | _ => False
theorem k_iinc {i : Nat} {n : Int} {q : Int32} (d : decode cc pc = .ok (.iinc i n, 3)) (hq : Int32.ofInt n = q) (hn : i < nL) (k : kv_S cc nL own Ts ret ini fr lo sc (pc + 3) F) : kv_S cc nL own Ts ret ini fr lo sc pc (o_iinc i q F) := kv_mk (fun L st h v h' hF => by
  unfold o_iinc at hF
  split at hF
  · rename_i x hx
    refine ⟨_, F, _, _, k, hF, fun p l e R s m args below meth c b S n0 z0 dC dI dA Q X ls H locs cells slots hc hs Y kk => ?_⟩
    obtain ⟨j, hj⟩ := List.getElem?_of_mem (kv_lv_mem (b := b) (S := S) hn hx rfl)
    exact lv_iinc (x := x) (v := x + q) X.1 X.2.1 d (kv_lv_has Y.1) hj (by rw [hq]) hn rfl (fun ls' h' => kk ls' (kv_lv_set (x := .int (x + q)) Y.1 h'))
  · exact hF.elim)
def o_iadd (F : kv_D) : kv_D := fun L st h v h' => match st with
  | .int y :: .int x :: r => F L (.int (x + y) :: r) h v h'
  | _ => False
theorem k_iadd (d : decode cc pc = .ok (.iadd, 1)) (k : kv_S cc nL own Ts ret ini fr lo sc (pc + 1) F) : kv_S cc nL own Ts ret ini fr lo sc pc (o_iadd F) := kv_mk (fun L st h v h' hF => by
  unfold o_iadd at hF
  split at hF
  · exact ⟨_, F, _, _, k, hF, fun p l e R s m args below meth c b S n0 z0 dC dI dA Q X ls H locs cells slots hc hs Y kk => lv_iadd X.1 X.2.1 d (kk ls Y.1)⟩
  · exact hF.elim)
def o_isub (F : kv_D) : kv_D := fun L st h v h' => match st with
  | .int y :: .int x :: r => F L (.int (x - y) :: r) h v h'
  | _ => False
theorem k_isub (d : decode cc pc = .ok (.isub, 1)) (k : kv_S cc nL own Ts ret ini fr lo sc (pc + 1) F) : kv_S cc nL own Ts ret ini fr lo sc pc (o_isub F) := kv_mk (fun L st h v h' hF => by
  unfold o_isub at hF
  split at hF
  · exact ⟨_, F, _, _, k, hF, fun p l e R s m args below meth c b S n0 z0 dC dI dA Q X ls H locs cells slots hc hs Y kk => lv_isub X.1 X.2.1 d (kk ls Y.1)⟩
  · exact hF.elim)
def o_imul (F : kv_D) : kv_D := fun L st h v h' => match st with
  | .int y :: .int x :: r => F L (.int (x * y) :: r) h v h'
  | _ => False
theorem k_imul (d : decode cc pc = .ok (.imul, 1)) (k : kv_S cc nL own Ts ret ini fr lo sc (pc + 1) F) : kv_S cc nL own Ts ret ini fr lo sc pc (o_imul F) := kv_mk (fun L st h v h' hF => by
  unfold o_imul at hF
  split at hF
  · exact ⟨_, F, _, _, k, hF, fun p l e R s m args below meth c b S n0 z0 dC dI dA Q X ls H locs cells slots hc hs Y kk => lv_imul X.1 X.2.1 d (kk ls Y.1)⟩
  · exact hF.elim)
def o_iand (F : kv_D) : kv_D := fun L st h v h' => match st with
  | .int y :: .int x :: r => F L (.int (x &&& y) :: r) h v h'
  | _ => False
theorem k_iand (d : decode cc pc = .ok (.iand, 1)) (k : kv_S cc nL own Ts ret ini fr lo sc (pc + 1) F) : kv_S cc nL own Ts ret ini fr lo sc pc (o_iand F) := kv_mk (fun L st h v h' hF => by
  unfold o_iand at hF
  split at hF
  · exact ⟨_, F, _, _, k, hF, fun p l e R s m args below meth c b S n0 z0 dC dI dA Q X ls H locs cells slots hc hs Y kk => lv_iand X.1 X.2.1 d (kk ls Y.1)⟩
  · exact hF.elim)
def o_ior (F : kv_D) : kv_D := fun L st h v h' => match st with
  | .int y :: .int x :: r => F L (.int (x ||| y) :: r) h v h'
  | _ => False
theorem k_ior (d : decode cc pc = .ok (.ior, 1)) (k : kv_S cc nL own Ts ret ini fr lo sc (pc + 1) F) : kv_S cc nL own Ts ret ini fr lo sc pc (o_ior F) := kv_mk (fun L st h v h' hF => by
  unfold o_ior at hF
  split at hF
  · exact ⟨_, F, _, _, k, hF, fun p l e R s m args below meth c b S n0 z0 dC dI dA Q X ls H locs cells slots hc hs Y kk => lv_ior X.1 X.2.1 d (kk ls Y.1)⟩
  · exact hF.elim)
def o_ixor (F : kv_D) : kv_D := fun L st h v h' => match st with
  | .int y :: .int x :: r => F L (.int (x ^^^ y) :: r) h v h'
  | _ => False
theorem k_ixor (d : decode cc pc = .ok (.ixor, 1)) (k : kv_S cc nL own Ts ret ini fr lo sc (pc + 1) F) : kv_S cc nL own Ts ret ini fr lo sc pc (o_ixor F) := kv_mk (fun L st h v h' hF => by
  unfold o_ixor at hF
  split at hF
  · exact ⟨_, F, _, _, k, hF, fun p l e R s m args below meth c b S n0 z0 dC dI dA Q X ls H locs cells slots hc hs Y kk => lv_ixor X.1 X.2.1 d (kk ls Y.1)⟩
  · exact hF.elim)
def o_ishl (F : kv_D) : kv_D := fun L st h v h' => match st with
  | .int y :: .int x :: r => F L (.int (x <<< (y &&& 31)) :: r) h v h'
  | _ => False
theorem k_ishl (d : decode cc pc = .ok (.ishl, 1)) (k : kv_S cc nL own Ts ret ini fr lo sc (pc + 1) F) : kv_S cc nL own Ts ret ini fr lo sc pc (o_ishl F) := kv_mk (fun L st h v h' hF => by
  unfold o_ishl at hF
  split at hF
  · exact ⟨_, F, _, _, k, hF, fun p l e R s m args below meth c b S n0 z0 dC dI dA Q X ls H locs cells slots hc hs Y kk => lv_ishl X.1 X.2.1 d (kk ls Y.1)⟩
  · exact hF.elim)
def o_ishr (F : kv_D) : kv_D := fun L st h v h' => match st with
  | .int y :: .int x :: r => F L (.int (x >>> (y &&& 31)) :: r) h v h'
  | _ => False
theorem k_ishr (d : decode cc pc = .ok (.ishr, 1)) (k : kv_S cc nL own Ts ret ini fr lo sc (pc + 1) F) : kv_S cc nL own Ts ret ini fr lo sc pc (o_ishr F) := kv_mk (fun L st h v h' hF => by
  unfold o_ishr at hF
  split at hF
  · exact ⟨_, F, _, _, k, hF, fun p l e R s m args below meth c b S n0 z0 dC dI dA Q X ls H locs cells slots hc hs Y kk => lv_ishr X.1 X.2.1 d (kk ls Y.1)⟩
  · exact hF.elim)
def o_idiv (F : kv_D) : kv_D := fun L st h v h' => match st with
  | .int y :: .int x :: r => ¬ y = 0 ∧ F L (.int (x / y) :: r) h v h'
  | _ => False
theorem k_idiv (d : decode cc pc = .ok (.idiv, 1)) (k : kv_S cc nL own Ts ret ini fr lo sc (pc + 1) F) : kv_S cc nL own Ts ret ini fr lo sc pc (o_idiv F) := kv_mk (fun L st h v h' hF => by
  unfold o_idiv at hF
  split at hF
  · exact ⟨_, F, _, _, k, hF.2, fun p l e R s m args below meth c b S n0 z0 dC dI dA Q X ls H locs cells slots hc hs Y kk => lv_idiv X.1 X.2.1 d hF.1 (kk ls Y.1)⟩
  · exact hF.elim)
def o_irem (F : kv_D) : kv_D := fun L st h v h' => match st with
  | .int y :: .int x :: r => ¬ y = 0 ∧ F L (.int (x - x / y * y) :: r) h v h'
  | _ => False
theorem k_irem (d : decode cc pc = .ok (.irem, 1)) (k : kv_S cc nL own Ts ret ini fr lo sc (pc + 1) F) : kv_S cc nL own Ts ret ini fr lo sc pc (o_irem F) := kv_mk (fun L st h v h' hF => by
  unfold o_irem at hF
  split at hF
  · exact ⟨_, F, _, _, k, hF.2, fun p l e R s m args below meth c b S n0 z0 dC dI dA Q X ls H locs cells slots hc hs Y kk => lv_irem X.1 X.2.1 d hF.1 (kk ls Y.1)⟩
  · exact hF.elim)
def o_iushr (F : kv_D) : kv_D := fun L st h v h' => match st with
  | .int y :: .int x :: r => F L (.int ((x.toUInt32 >>> (y.toUInt32 &&& Int32.toUInt32 31)).toInt32) :: r) h v h'
  | _ => False
theorem k_iushr (d : decode cc pc = .ok (.iushr, 1)) (k : kv_S cc nL own Ts ret ini fr lo sc (pc + 1) F) : kv_S cc nL own Ts ret ini fr lo sc pc (o_iushr F) := kv_mk (fun L st h v h' hF => by
  unfold o_iushr at hF
  split at hF
  · exact ⟨_, F, _, _, k, hF, fun p l e R s m args below meth c b S n0 z0 dC dI dA Q X ls H locs cells slots hc hs Y kk => lv_iushr X.1 X.2.1 d rfl (kk ls Y.1)⟩
  · exact hF.elim)
def o_ineg (F : kv_D) : kv_D := fun L st h v h' => match st with
  | .int x :: r => F L (.int (-x) :: r) h v h'
  | _ => False
theorem k_ineg (d : decode cc pc = .ok (.ineg, 1)) (k : kv_S cc nL own Ts ret ini fr lo sc (pc + 1) F) : kv_S cc nL own Ts ret ini fr lo sc pc (o_ineg F) := kv_mk (fun L st h v h' hF => by
  unfold o_ineg at hF
  split at hF
  · exact ⟨_, F, _, _, k, hF, fun p l e R s m args below meth c b S n0 z0 dC dI dA Q X ls H locs cells slots hc hs Y kk => lv_ineg X.1 X.2.1 d (kk ls Y.1)⟩
  · exact hF.elim)
def o_i2c (F : kv_D) : kv_D := fun L st h v h' => match st with
  | .int x :: r => F L (.int ((x.toUInt32 % 65536).toInt32) :: r) h v h'
  | _ => False
theorem k_i2c (d : decode cc pc = .ok (.i2c, 1)) (k : kv_S cc nL own Ts ret ini fr lo sc (pc + 1) F) : kv_S cc nL own Ts ret ini fr lo sc pc (o_i2c F) := kv_mk (fun L st h v h' hF => by
  unfold o_i2c at hF
  split at hF
  · exact ⟨_, F, _, _, k, hF, fun p l e R s m args below meth c b S n0 z0 dC dI dA Q X ls H locs cells slots hc hs Y kk => lv_i2c X.1 X.2.1 d rfl (kk ls Y.1)⟩
  · exact hF.elim)
def o_dup (F : kv_D) : kv_D := fun L st h v h' => match st with
  | x :: r => x.category = 1 ∧ F L (x :: x :: r) h v h'
  | _ => False
def o_pop (F : kv_D) : kv_D := fun L st h v h' => match st with
  | x :: r => x.category = 1 ∧ F L r h v h'
  | _ => False
def o_dup_x1 (F : kv_D) : kv_D := fun L st h v h' => match st with
  | x :: y :: r => (x.category = 1 ∧ y.category = 1) ∧ F L (x :: y :: x :: r) h v h'
  | _ => False
def o_dup_x2 (F : kv_D) : kv_D := fun L st h v h' => match st with
  | x :: y :: z :: r => (x.category = 1 ∧ y.category = 1 ∧ z.category = 1) ∧ F L (x :: y :: z :: x :: r) h v h'
  | _ => False
def o_dup2 (F : kv_D) : kv_D := fun L st h v h' => match st with
  | x :: y :: r => (x.category = 1 ∧ y.category = 1) ∧ F L (x :: y :: x :: y :: r) h v h'
  | _ => False
theorem k_dup (d : decode cc pc = .ok (.dup, 1)) (k : kv_S cc nL own Ts ret ini fr lo sc (pc + 1) F) : kv_S cc nL own Ts ret ini fr lo sc pc (o_dup F) := kv_mk (fun L st h v h' hF => by
  unfold o_dup at hF
  split at hF
  · exact ⟨_, F, _, _, k, hF.2, fun p l e R s m args below meth c b S n0 z0 dC dI dA Q X ls H locs cells slots hc hs Y kk => lv_dup X.1 X.2.1 d (by rw [kv_cat]; exact hF.1) (kk ls Y.1)⟩
  · exact hF.elim)
theorem k_pop (d : decode cc pc = .ok (.pop, 1)) (k : kv_S cc nL own Ts ret ini fr lo sc (pc + 1) F) : kv_S cc nL own Ts ret ini fr lo sc pc (o_pop F) := kv_mk (fun L st h v h' hF => by
  unfold o_pop at hF
  split at hF
  · exact ⟨_, F, _, _, k, hF.2, fun p l e R s m args below meth c b S n0 z0 dC dI dA Q X ls H locs cells slots hc hs Y kk => lv_pop X.1 X.2.1 d (by rw [kv_cat]; exact hF.1) (kk ls Y.1)⟩
  · exact hF.elim)
theorem k_dup_x1 (d : decode cc pc = .ok (.dup_x1, 1)) (k : kv_S cc nL own Ts ret ini fr lo sc (pc + 1) F) : kv_S cc nL own Ts ret ini fr lo sc pc (o_dup_x1 F) := kv_mk (fun L st h v h' hF => by
  unfold o_dup_x1 at hF
  split at hF
  · exact ⟨_, F, _, _, k, hF.2, fun p l e R s m args below meth c b S n0 z0 dC dI dA Q X ls H locs cells slots hc hs Y kk => lv_dup_x1 X.1 X.2.1 d (by rw [kv_cat]; exact hF.1.1) (by rw [kv_cat]; exact hF.1.2) (kk ls Y.1)⟩
  · exact hF.elim)
theorem k_dup_x2 (d : decode cc pc = .ok (.dup_x2, 1)) (k : kv_S cc nL own Ts ret ini fr lo sc (pc + 1) F) : kv_S cc nL own Ts ret ini fr lo sc pc (o_dup_x2 F) := kv_mk (fun L st h v h' hF => by
  unfold o_dup_x2 at hF
  split at hF
  · exact ⟨_, F, _, _, k, hF.2, fun p l e R s m args below meth c b S n0 z0 dC dI dA Q X ls H locs cells slots hc hs Y kk => lv_dup_x2 X.1 X.2.1 d (by rw [kv_cat]; exact hF.1.1) (by rw [kv_cat]; exact hF.1.2.1) (by rw [kv_cat]; exact hF.1.2.2) (kk ls Y.1)⟩
  · exact hF.elim)
theorem k_dup2 (d : decode cc pc = .ok (.dup2, 1)) (k : kv_S cc nL own Ts ret ini fr lo sc (pc + 1) F) : kv_S cc nL own Ts ret ini fr lo sc pc (o_dup2 F) := kv_mk (fun L st h v h' hF => by
  unfold o_dup2 at hF
  split at hF
  · exact ⟨_, F, _, _, k, hF.2, fun p l e R s m args below meth c b S n0 z0 dC dI dA Q X ls H locs cells slots hc hs Y kk => lv_dup2_11 X.1 X.2.1 d (by rw [kv_cat]; exact hF.1.1) (by rw [kv_cat]; exact hF.1.2) (kk ls Y.1)⟩
  · exact hF.elim)
def o_ifeq (F G : kv_D) : kv_D := fun L st h v h' => match st with
  | .int x :: r => if x = 0 then F L r h v h' else G L r h v h'
  | _ => False
theorem k_ifeq {off : Int} {t : Nat} (d : decode cc pc = .ok (.ifCond .eq off, 3)) (ht : (pc : Int) + off = (t : Int)) (kt : kv_S cc nL own Ts ret ini fr lo sc t F) (k : kv_S cc nL own Ts ret ini fr lo sc (pc + 3) G) : kv_S cc nL own Ts ret ini fr lo sc pc (o_ifeq F G) := kv_mk (fun L st h v h' hF => by
  unfold o_ifeq at hF
  split at hF
  · split at hF
    · rename_i hx
      exact ⟨_, F, _, _, kt, hF, fun p l e R s m args below meth c b S n0 z0 dC dI dA Q X ls H locs cells slots hc hs Y kk => lv_if_eq X.1 X.2.1 d ht (fun _ => kk ls Y.1) (fun q => absurd hx q)⟩
    · rename_i hx
      exact ⟨_, G, _, _, k, hF, fun p l e R s m args below meth c b S n0 z0 dC dI dA Q X ls H locs cells slots hc hs Y kk => lv_if_eq X.1 X.2.1 d ht (fun q => absurd q hx) (fun _ => kk ls Y.1)⟩
  · exact hF.elim)
def o_ifne (F G : kv_D) : kv_D := fun L st h v h' => match st with
  | .int x :: r => if ¬ x = 0 then F L r h v h' else G L r h v h'
  | _ => False
theorem k_ifne {off : Int} {t : Nat} (d : decode cc pc = .ok (.ifCond .ne off, 3)) (ht : (pc : Int) + off = (t : Int)) (kt : kv_S cc nL own Ts ret ini fr lo sc t F) (k : kv_S cc nL own Ts ret ini fr lo sc (pc + 3) G) : kv_S cc nL own Ts ret ini fr lo sc pc (o_ifne F G) := kv_mk (fun L st h v h' hF => by
  unfold o_ifne at hF
  split at hF
  · split at hF
    · rename_i hx
      exact ⟨_, F, _, _, kt, hF, fun p l e R s m args below meth c b S n0 z0 dC dI dA Q X ls H locs cells slots hc hs Y kk => lv_if_ne X.1 X.2.1 d ht (fun _ => kk ls Y.1) (fun q => absurd q hx)⟩
    · rename_i hx
      exact ⟨_, G, _, _, k, hF, fun p l e R s m args below meth c b S n0 z0 dC dI dA Q X ls H locs cells slots hc hs Y kk => lv_if_ne X.1 X.2.1 d ht (fun q => absurd q hx) (fun _ => kk ls Y.1)⟩
  · exact hF.elim)
def o_iflt (F G : kv_D) : kv_D := fun L st h v h' => match st with
  | .int x :: r => if x < 0 then F L r h v h' else G L r h v h'
  | _ => False
theorem k_iflt {off : Int} {t : Nat} (d : decode cc pc = .ok (.ifCond .lt off, 3)) (ht : (pc : Int) + off = (t : Int)) (kt : kv_S cc nL own Ts ret ini fr lo sc t F) (k : kv_S cc nL own Ts ret ini fr lo sc (pc + 3) G) : kv_S cc nL own Ts ret ini fr lo sc pc (o_iflt F G) := kv_mk (fun L st h v h' hF => by
  unfold o_iflt at hF
  split at hF
  · split at hF
    · rename_i hx
      exact ⟨_, F, _, _, kt, hF, fun p l e R s m args below meth c b S n0 z0 dC dI dA Q X ls H locs cells slots hc hs Y kk => lv_if_lt X.1 X.2.1 d ht (fun _ => kk ls Y.1) (fun q => absurd hx q)⟩
    · rename_i hx
      exact ⟨_, G, _, _, k, hF, fun p l e R s m args below meth c b S n0 z0 dC dI dA Q X ls H locs cells slots hc hs Y kk => lv_if_lt X.1 X.2.1 d ht (fun q => absurd q hx) (fun _ => kk ls Y.1)⟩
  · exact hF.elim)
def o_ifge (F G : kv_D) : kv_D := fun L st h v h' => match st with
  | .int x :: r => if 0 ≤ x then F L r h v h' else G L r h v h'
  | _ => False
theorem k_ifge {off : Int} {t : Nat} (d : decode cc pc = .ok (.ifCond .ge off, 3)) (ht : (pc : Int) + off = (t : Int)) (kt : kv_S cc nL own Ts ret ini fr lo sc t F) (k : kv_S cc nL own Ts ret ini fr lo sc (pc + 3) G) : kv_S cc nL own Ts ret ini fr lo sc pc (o_ifge F G) := kv_mk (fun L st h v h' hF => by
  unfold o_ifge at hF
  split at hF
  · split at hF
    · rename_i hx
      exact ⟨_, F, _, _, kt, hF, fun p l e R s m args below meth c b S n0 z0 dC dI dA Q X ls H locs cells slots hc hs Y kk => lv_if_ge X.1 X.2.1 d ht (fun _ => kk ls Y.1) (fun q => absurd hx q)⟩
    · rename_i hx
      exact ⟨_, G, _, _, k, hF, fun p l e R s m args below meth c b S n0 z0 dC dI dA Q X ls H locs cells slots hc hs Y kk => lv_if_ge X.1 X.2.1 d ht (fun q => absurd q hx) (fun _ => kk ls Y.1)⟩
  · exact hF.elim)
def o_ifgt (F G : kv_D) : kv_D := fun L st h v h' => match st with
  | .int x :: r => if 0 < x then F L r h v h' else G L r h v h'
  | _ => False
theorem k_ifgt {off : Int} {t : Nat} (d : decode cc pc = .ok (.ifCond .gt off, 3)) (ht : (pc : Int) + off = (t : Int)) (kt : kv_S cc nL own Ts ret ini fr lo sc t F) (k : kv_S cc nL own Ts ret ini fr lo sc (pc + 3) G) : kv_S cc nL own Ts ret ini fr lo sc pc (o_ifgt F G) := kv_mk (fun L st h v h' hF => by
  unfold o_ifgt at hF
  split at hF
  · split at hF
    · rename_i hx
      exact ⟨_, F, _, _, kt, hF, fun p l e R s m args below meth c b S n0 z0 dC dI dA Q X ls H locs cells slots hc hs Y kk => lv_if_gt X.1 X.2.1 d ht (fun _ => kk ls Y.1) (fun q => absurd hx q)⟩
    · rename_i hx
      exact ⟨_, G, _, _, k, hF, fun p l e R s m args below meth c b S n0 z0 dC dI dA Q X ls H locs cells slots hc hs Y kk => lv_if_gt X.1 X.2.1 d ht (fun q => absurd q hx) (fun _ => kk ls Y.1)⟩
  · exact hF.elim)
def o_ifle (F G : kv_D) : kv_D := fun L st h v h' => match st with
  | .int x :: r => if x ≤ 0 then F L r h v h' else G L r h v h'
  | _ => False
theorem k_ifle {off : Int} {t : Nat} (d : decode cc pc = .ok (.ifCond .le off, 3)) (ht : (pc : Int) + off = (t : Int)) (kt : kv_S cc nL own Ts ret ini fr lo sc t F) (k : kv_S cc nL own Ts ret ini fr lo sc (pc + 3) G) : kv_S cc nL own Ts ret ini fr lo sc pc (o_ifle F G) := kv_mk (fun L st h v h' hF => by
  unfold o_ifle at hF
  split at hF
  · split at hF
    · rename_i hx
      exact ⟨_, F, _, _, kt, hF, fun p l e R s m args below meth c b S n0 z0 dC dI dA Q X ls H locs cells slots hc hs Y kk => lv_if_le X.1 X.2.1 d ht (fun _ => kk ls Y.1) (fun q => absurd hx q)⟩
    · rename_i hx
      exact ⟨_, G, _, _, k, hF, fun p l e R s m args below meth c b S n0 z0 dC dI dA Q X ls H locs cells slots hc hs Y kk => lv_if_le X.1 X.2.1 d ht (fun q => absurd q hx) (fun _ => kk ls Y.1)⟩
  · exact hF.elim)
def o_iceq (F G : kv_D) : kv_D := fun L st h v h' => match st with
  | .int y :: .int x :: r => if x = y then F L r h v h' else G L r h v h'
  | _ => False
theorem k_iceq {off : Int} {t : Nat} (d : decode cc pc = .ok (.if_icmp .eq off, 3)) (ht : (pc : Int) + off = (t : Int)) (kt : kv_S cc nL own Ts ret ini fr lo sc t F) (k : kv_S cc nL own Ts ret ini fr lo sc (pc + 3) G) : kv_S cc nL own Ts ret ini fr lo sc pc (o_iceq F G) := kv_mk (fun L st h v h' hF => by
  unfold o_iceq at hF
  split at hF
  · split at hF
    · rename_i hx
      exact ⟨_, F, _, _, kt, hF, fun p l e R s m args below meth c b S n0 z0 dC dI dA Q X ls H locs cells slots hc hs Y kk => lv_icmp_eq X.1 X.2.1 d ht (fun _ => kk ls Y.1) (fun q => absurd hx q)⟩
    · rename_i hx
      exact ⟨_, G, _, _, k, hF, fun p l e R s m args below meth c b S n0 z0 dC dI dA Q X ls H locs cells slots hc hs Y kk => lv_icmp_eq X.1 X.2.1 d ht (fun q => absurd q hx) (fun _ => kk ls Y.1)⟩
  · exact hF.elim)
def o_icne (F G : kv_D) : kv_D := fun L st h v h' => match st with
  | .int y :: .int x :: r => if ¬ x = y then F L r h v h' else G L r h v h'
  | _ => False
theorem k_icne {off : Int} {t : Nat} (d : decode cc pc = .ok (.if_icmp .ne off, 3)) (ht : (pc : Int) + off = (t : Int)) (kt : kv_S cc nL own Ts ret ini fr lo sc t F) (k : kv_S cc nL own Ts ret ini fr lo sc (pc + 3) G) : kv_S cc nL own Ts ret ini fr lo sc pc (o_icne F G) := kv_mk (fun L st h v h' hF => by
  unfold o_icne at hF
  split at hF
  · split at hF
    · rename_i hx
      exact ⟨_, F, _, _, kt, hF, fun p l e R s m args below meth c b S n0 z0 dC dI dA Q X ls H locs cells slots hc hs Y kk => lv_icmp_ne X.1 X.2.1 d ht (fun _ => kk ls Y.1) (fun q => absurd q hx)⟩
    · rename_i hx
      exact ⟨_, G, _, _, k, hF, fun p l e R s m args below meth c b S n0 z0 dC dI dA Q X ls H locs cells slots hc hs Y kk => lv_icmp_ne X.1 X.2.1 d ht (fun q => absurd q hx) (fun _ => kk ls Y.1)⟩
  · exact hF.elim)
def o_iclt (F G : kv_D) : kv_D := fun L st h v h' => match st with
  | .int y :: .int x :: r => if x < y then F L r h v h' else G L r h v h'
  | _ => False
theorem k_iclt {off : Int} {t : Nat} (d : decode cc pc = .ok (.if_icmp .lt off, 3)) (ht : (pc : Int) + off = (t : Int)) (kt : kv_S cc nL own Ts ret ini fr lo sc t F) (k : kv_S cc nL own Ts ret ini fr lo sc (pc + 3) G) : kv_S cc nL own Ts ret ini fr lo sc pc (o_iclt F G) := kv_mk (fun L st h v h' hF => by
  unfold o_iclt at hF
  split at hF
  · split at hF
    · rename_i hx
      exact ⟨_, F, _, _, kt, hF, fun p l e R s m args below meth c b S n0 z0 dC dI dA Q X ls H locs cells slots hc hs Y kk => lv_icmp_lt X.1 X.2.1 d ht (fun _ => kk ls Y.1) (fun q => absurd hx q)⟩
    · rename_i hx
      exact ⟨_, G, _, _, k, hF, fun p l e R s m args below meth c b S n0 z0 dC dI dA Q X ls H locs cells slots hc hs Y kk => lv_icmp_lt X.1 X.2.1 d ht (fun q => absurd q hx) (fun _ => kk ls Y.1)⟩
  · exact hF.elim)
def o_icge (F G : kv_D) : kv_D := fun L st h v h' => match st with
  | .int y :: .int x :: r => if y ≤ x then F L r h v h' else G L r h v h'
  | _ => False
theorem k_icge {off : Int} {t : Nat} (d : decode cc pc = .ok (.if_icmp .ge off, 3)) (ht : (pc : Int) + off = (t : Int)) (kt : kv_S cc nL own Ts ret ini fr lo sc t F) (k : kv_S cc nL own Ts ret ini fr lo sc (pc + 3) G) : kv_S cc nL own Ts ret ini fr lo sc pc (o_icge F G) := kv_mk (fun L st h v h' hF => by
  unfold o_icge at hF
  split at hF
  · split at hF
    · rename_i hx
      exact ⟨_, F, _, _, kt, hF, fun p l e R s m args below meth c b S n0 z0 dC dI dA Q X ls H locs cells slots hc hs Y kk => lv_icmp_ge X.1 X.2.1 d ht (fun _ => kk ls Y.1) (fun q => absurd hx q)⟩
    · rename_i hx
      exact ⟨_, G, _, _, k, hF, fun p l e R s m args below meth c b S n0 z0 dC dI dA Q X ls H locs cells slots hc hs Y kk => lv_icmp_ge X.1 X.2.1 d ht (fun q => absurd q hx) (fun _ => kk ls Y.1)⟩
  · exact hF.elim)
def o_icgt (F G : kv_D) : kv_D := fun L st h v h' => match st with
  | .int y :: .int x :: r => if y < x then F L r h v h' else G L r h v h'
  | _ => False
theorem k_icgt {off : Int} {t : Nat} (d : decode cc pc = .ok (.if_icmp .gt off, 3)) (ht : (pc : Int) + off = (t : Int)) (kt : kv_S cc nL own Ts ret ini fr lo sc t F) (k : kv_S cc nL own Ts ret ini fr lo sc (pc + 3) G) : kv_S cc nL own Ts ret ini fr lo sc pc (o_icgt F G) := kv_mk (fun L st h v h' hF => by
  unfold o_icgt at hF
  split at hF
  · split at hF
    · rename_i hx
      exact ⟨_, F, _, _, kt, hF, fun p l e R s m args below meth c b S n0 z0 dC dI dA Q X ls H locs cells slots hc hs Y kk => lv_icmp_gt X.1 X.2.1 d ht (fun _ => kk ls Y.1) (fun q => absurd hx q)⟩
    · rename_i hx
      exact ⟨_, G, _, _, k, hF, fun p l e R s m args below meth c b S n0 z0 dC dI dA Q X ls H locs cells slots hc hs Y kk => lv_icmp_gt X.1 X.2.1 d ht (fun q => absurd q hx) (fun _ => kk ls Y.1)⟩
  · exact hF.elim)
def o_icle (F G : kv_D) : kv_D := fun L st h v h' => match st with
  | .int y :: .int x :: r => if x ≤ y then F L r h v h' else G L r h v h'
  | _ => False
theorem k_icle {off : Int} {t : Nat} (d : decode cc pc = .ok (.if_icmp .le off, 3)) (ht : (pc : Int) + off = (t : Int)) (kt : kv_S cc nL own Ts ret ini fr lo sc t F) (k : kv_S cc nL own Ts ret ini fr lo sc (pc + 3) G) : kv_S cc nL own Ts ret ini fr lo sc pc (o_icle F G) := kv_mk (fun L st h v h' hF => by
  unfold o_icle at hF
  split at hF
  · split at hF
    · rename_i hx
      exact ⟨_, F, _, _, kt, hF, fun p l e R s m args below meth c b S n0 z0 dC dI dA Q X ls H locs cells slots hc hs Y kk => lv_icmp_le X.1 X.2.1 d ht (fun _ => kk ls Y.1) (fun q => absurd hx q)⟩
    · rename_i hx
      exact ⟨_, G, _, _, k, hF, fun p l e R s m args below meth c b S n0 z0 dC dI dA Q X ls H locs cells slots hc hs Y kk => lv_icmp_le X.1 X.2.1 d ht (fun q => absurd q hx) (fun _ => kk ls Y.1)⟩
  · exact hF.elim)
theorem k_goto {off : Int} {t : Nat} (d : decode cc pc = .ok (.goto off, 3)) (ht : (pc : Int) + off = (t : Int)) (kt : kv_S cc nL own Ts ret ini fr lo sc t F) : kv_S cc nL own Ts ret ini fr lo sc pc F := kv_mk (fun L st h v h' hF => ⟨_, F, _, _, kt, hF, fun p l e R s m args below meth c b S n0 z0 dC dI dA Q X ls H locs cells slots hc hs Y kk => lv_goto X.1 X.2.1 d ht (kk ls Y.1)⟩)
def o_ret : kv_D := fun L st h v h' => st = [] ∧ v = none ∧ h' = h
theorem k_ret (d : decode cc pc = .ok (.return_, 1)) (hr : ret = none) : kv_S cc nL own Ts ret ini fr lo sc pc o_ret := by
  intro L st h v h' hF
  obtain ⟨rfl, rfl, rfl⟩ := hF
  refine ⟨⟨Nat.le_refl _, Nat.le_refl _⟩, ?_⟩
  intro p l e R s m args below meth c b S n0 z0 dC dI dA Q X hc hz kr ls H locs cells slots Y
  exact kr pc ls L H locs cells slots (Or.inl ⟨rfl, hr, d⟩) Y
def o_iret (ty : FieldType) : kv_D := fun L st h v h' => match st with
  | [.int x] => narrow ty (.int x) = .int x ∧ v = some (.int x) ∧ h' = h
  | _ => False
theorem k_iret {ty : FieldType} (d : decode cc pc = .ok (.ireturn, 1)) (hr : ret = some ty) : kv_S cc nL own Ts ret ini fr lo sc pc (o_iret ty) := by
  intro L st h v h' hF
  unfold o_iret at hF
  split at hF
  · rename_i x
    obtain ⟨hn, rfl, rfl⟩ := hF
    refine ⟨⟨Nat.le_refl _, Nat.le_refl _⟩, ?_⟩
    intro p l e R s m args below meth c b S n0 z0 dC dI dA Q X hc hz kr ls H locs cells slots Y
    exact kr pc ls L H locs cells slots (Or.inr (Or.inl ⟨x, ty, rfl, hr, hn, d⟩)) Y
  · exact hF.elim
def o_aret : kv_D := fun L st h v h' => match st with
  | [.ref x] => v = some (.ref x) ∧ h' = h
  | _ => False
theorem k_aret {ty : FieldType} (d : decode cc pc = .ok (.areturn, 1)) (hr : ret = some ty) (ho : (∃ n, ty = .object n) ∨ ∃ t, ty = .array t) : kv_S cc nL own Ts ret ini fr lo sc pc o_aret := by
  intro L st h v h' hF
  unfold o_aret at hF
  split at hF
  · rename_i x
    obtain ⟨rfl, rfl⟩ := hF
    refine ⟨⟨Nat.le_refl _, Nat.le_refl _⟩, ?_⟩
    intro p l e R s m args below meth c b S n0 z0 dC dI dA Q X hc hz kr ls H locs cells slots Y
    exact kr pc ls L H locs cells slots (Or.inr (Or.inr ⟨x, ty, rfl, hr, ho, d⟩)) Y
  · exact hF.elim
def o_max (F : kv_D) : kv_D := fun L st h v h' => match st with
  | .int y :: .int x :: r => ((r.map fun v => v.category).sum + 13 ≤ 21) ∧ F L (.int (if x < y then y else x) :: r) h v h'
  | _ => False
theorem k_max {index : Nat} (d : decode cc pc = .ok (.invokestatic index, 3)) (h1 : Cond.methodLink own index Lib.Math.max.name ∈ Ts) (h2 : Cond.static Lib.Math.max.name ∈ Ts) (h3 : Cond.initialized "java/lang/Math" ∈ Ts) (h4 : Cond.code Lib.Math.max.name Lib.Math.max.code 2 (some .int) ∈ Ts) (hfr : 1 ≤ fr) (hlo : 21 ≤ lo) (k : kv_S cc nL own Ts ret ini fr lo sc (pc + 3) F) : kv_S cc nL own Ts ret ini fr lo sc pc (o_max F) := kv_mk (fun L st h v h' hF => by
  unfold o_max at hF
  split at hF
  · refine ⟨_, F, _, _, k, hF.2, fun p l e R s m args below meth c b S n0 z0 dC dI dA Q X ls H locs cells slots hc hs Y kk => ?_⟩
    have hx := X.2.2.2.2.1
    exact va_mmax X.1 X.2.1 (X.2.2.1.trans Y.1.1.symm) X.2.2.2.1 (hx _ h1) (hx _ h2) (hx _ h3) (hx _ h4) (Nat.le_trans hfr X.2.2.2.2.2.2.2.1) (by have := X.2.2.2.2.2.2.2.2.1; rw [kv_cats]; omega) hc hs d (kk ls Y.1)
  · exact hF.elim)
def o_sld (N : Nat) (xs : Nat → Int32) (F : kv_D) : kv_D := fun L st h v h' => match st with
  | .int i :: .ref 0 :: r => (0 ≤ i ∧ i.toNatClampNeg < N) ∧ F L (.int (xs i.toNatClampNeg) :: r) h v h'
  | _ => False
theorem kv_in_of {i : Int32} {n : Nat} (h : 0 ≤ i ∧ i.toNatClampNeg < n) : vp_in i n := fun q => by
  rcases q with q | q
  · exact absurd h.1 (Int32.not_le.mpr q)
  · omega
theorem k_sld {N : Nat} {xs : Nat → Int32} (d : decode cc pc = .ok (.iaload, 1)) (hsc : sc = some (N, xs)) (k : kv_S cc nL own Ts ret ini fr lo sc (pc + 1) F) : kv_S cc nL own Ts ret ini fr lo sc pc (o_sld N xs F) := kv_mk (fun L st h v h' hF => by
  unfold o_sld at hF
  split at hF
  · refine ⟨_, F, _, _, k, hF.2, fun p l e R s m args below meth c b S n0 z0 dC dI dA Q X ls H locs cells slots hc hs Y kk => ?_⟩
    obtain ⟨x1, x2, x3⟩ := X.2.2.2.2.2.2.2.2.2.2.2 N xs hsc
    exact va_sld (A := fun q => S ≤ q) X.1 X.2.1 x1 x2 (Nat.not_le.mpr x3) Y.2.2.2.1 (kv_in_of hF.1) d (kk ls Y.1)
  · exact hF.elim)
def o_slen (N : Nat) (F : kv_D) : kv_D := fun L st h v h' => match st with
  | .ref 0 :: r => F L (.int (Int32.ofNat N) :: r) h v h'
  | _ => False
theorem k_slen {N : Nat} {xs : Nat → Int32} (d : decode cc pc = .ok (.arraylength, 1)) (hsc : sc = some (N, xs)) (k : kv_S cc nL own Ts ret ini fr lo sc (pc + 1) F) : kv_S cc nL own Ts ret ini fr lo sc pc (o_slen N F) := kv_mk (fun L st h v h' hF => by
  unfold o_slen at hF
  split at hF
  · refine ⟨_, F, _, _, k, hF, fun p l e R s m args below meth c b S n0 z0 dC dI dA Q X ls H locs cells slots hc hs Y kk => ?_⟩
    obtain ⟨x1, x2, x3⟩ := X.2.2.2.2.2.2.2.2.2.2.2 N xs hsc
    exact va_slen (A := fun q => S ≤ q) X.1 X.2.1 x1 x2 (Nat.not_le.mpr x3) Y.2.2.2.1 d (kk ls Y.1)
  · exact hF.elim)
end KVB
