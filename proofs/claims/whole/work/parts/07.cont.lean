/-! a denotation asks its loop heads once, at its end: a loop's limit is its own unrolling -/
def kv_cn (G : (Nat → kv_D) → kv_D) : Prop := ∀ (Kn : Nat → Nat → kv_D) (L : List (Option Value)) (st : List Value) (h : kv_H) (v : Option Value) (h' : kv_H), G (fun t L st h v h' => ∃ n, Kn n t L st h v h') L st h v h' → ∃ n, G (Kn n) L st h v h'
theorem kv_un {B : (Nat → kv_D) → Nat → kv_D} {q : Nat} (hB : kv_cn (fun K => B K q)) {L : List (Option Value)} {st : List Value} {h : kv_H} {v : Option Value} {h' : kv_H} (hx : B (kv_lim B) q L st h v h') : kv_lim B q L st h v h' := by
  obtain ⟨n, hn⟩ := hB (kv_fix B) L st h v h' hx
  exact ⟨n + 1, hn⟩
theorem cn_K (t : Nat) : kv_cn (fun K => K t) := fun _ _ _ _ _ _ h => h
theorem cn_c (F : kv_D) : kv_cn (fun _ => F) := fun _ _ _ _ _ _ h => ⟨0, h⟩
section KVH
variable {G G1 G2 : (Nat → kv_D) → kv_D}
theorem cn_const (x : Int32) (c : kv_cn G) : kv_cn (fun K => o_const x (G K)) := fun Kn L st h v h' hF => by
  have hF : o_const x (G _) L st h v h' := hF
  show ∃ n, o_const x (G (Kn n)) L st h v h'
  unfold o_const at hF ⊢
  exact c Kn _ _ _ _ _ hF
theorem cn_new (a b : Nat) (fs : List Value) (c : kv_cn G) : kv_cn (fun K => o_new a b fs (G K)) := fun Kn L st h v h' hF => by
  have hF : o_new a b fs (G _) L st h v h' := hF
  show ∃ n, o_new a b fs (G (Kn n)) L st h v h'
  unfold o_new at hF ⊢
  exact c Kn _ _ _ _ _ hF
theorem cn_iload (i : Nat) (c : kv_cn G) : kv_cn (fun K => o_iload i (G K)) := fun Kn L st h v h' hF => by
  have hF : o_iload i (G _) L st h v h' := hF
  show ∃ n, o_iload i (G (Kn n)) L st h v h'
  unfold o_iload at hF ⊢
  split at hF
  · exact c Kn _ _ _ _ _ hF
  · exact hF.elim
theorem cn_aload (i : Nat) (c : kv_cn G) : kv_cn (fun K => o_aload i (G K)) := fun Kn L st h v h' hF => by
  have hF : o_aload i (G _) L st h v h' := hF
  show ∃ n, o_aload i (G (Kn n)) L st h v h'
  unfold o_aload at hF ⊢
  split at hF
  · exact c Kn _ _ _ _ _ hF
  · exact hF.elim
theorem cn_iinc (i : Nat) (k : Int32) (c : kv_cn G) : kv_cn (fun K => o_iinc i k (G K)) := fun Kn L st h v h' hF => by
  have hF : o_iinc i k (G _) L st h v h' := hF
  show ∃ n, o_iinc i k (G (Kn n)) L st h v h'
  unfold o_iinc at hF ⊢
  split at hF
  · exact c Kn _ _ _ _ _ hF
  · exact hF.elim
theorem cn_istore (i : Nat) (c : kv_cn G) : kv_cn (fun K => o_istore i (G K)) := fun Kn L st h v h' hF => by
  have hF : o_istore i (G _) L st h v h' := hF
  show ∃ n, o_istore i (G (Kn n)) L st h v h'
  unfold o_istore at hF ⊢
  split at hF
  · exact c Kn _ _ _ _ _ hF
  · exact hF.elim
theorem cn_astore (i : Nat) (c : kv_cn G) : kv_cn (fun K => o_astore i (G K)) := fun Kn L st h v h' hF => by
  have hF : o_astore i (G _) L st h v h' := hF
  show ∃ n, o_astore i (G (Kn n)) L st h v h'
  unfold o_astore at hF ⊢
  split at hF
  · exact c Kn _ _ _ _ _ hF
  · exact hF.elim
theorem cn_iadd (c : kv_cn G) : kv_cn (fun K => o_iadd (G K)) := fun Kn L st h v h' hF => by
  have hF : o_iadd (G _) L st h v h' := hF
  show ∃ n, o_iadd (G (Kn n)) L st h v h'
  unfold o_iadd at hF ⊢
  split at hF
  · exact c Kn _ _ _ _ _ hF
  · exact hF.elim
theorem cn_isub (c : kv_cn G) : kv_cn (fun K => o_isub (G K)) := fun Kn L st h v h' hF => by
  have hF : o_isub (G _) L st h v h' := hF
  show ∃ n, o_isub (G (Kn n)) L st h v h'
  unfold o_isub at hF ⊢
  split at hF
  · exact c Kn _ _ _ _ _ hF
  · exact hF.elim
theorem cn_imul (c : kv_cn G) : kv_cn (fun K => o_imul (G K)) := fun Kn L st h v h' hF => by
  have hF : o_imul (G _) L st h v h' := hF
  show ∃ n, o_imul (G (Kn n)) L st h v h'
  unfold o_imul at hF ⊢
  split at hF
  · exact c Kn _ _ _ _ _ hF
  · exact hF.elim
theorem cn_iand (c : kv_cn G) : kv_cn (fun K => o_iand (G K)) := fun Kn L st h v h' hF => by
  have hF : o_iand (G _) L st h v h' := hF
  show ∃ n, o_iand (G (Kn n)) L st h v h'
  unfold o_iand at hF ⊢
  split at hF
  · exact c Kn _ _ _ _ _ hF
  · exact hF.elim
theorem cn_ior (c : kv_cn G) : kv_cn (fun K => o_ior (G K)) := fun Kn L st h v h' hF => by
  have hF : o_ior (G _) L st h v h' := hF
  show ∃ n, o_ior (G (Kn n)) L st h v h'
  unfold o_ior at hF ⊢
  split at hF
  · exact c Kn _ _ _ _ _ hF
  · exact hF.elim
theorem cn_ixor (c : kv_cn G) : kv_cn (fun K => o_ixor (G K)) := fun Kn L st h v h' hF => by
  have hF : o_ixor (G _) L st h v h' := hF
  show ∃ n, o_ixor (G (Kn n)) L st h v h'
  unfold o_ixor at hF ⊢
  split at hF
  · exact c Kn _ _ _ _ _ hF
  · exact hF.elim
theorem cn_ishl (c : kv_cn G) : kv_cn (fun K => o_ishl (G K)) := fun Kn L st h v h' hF => by
  have hF : o_ishl (G _) L st h v h' := hF
  show ∃ n, o_ishl (G (Kn n)) L st h v h'
  unfold o_ishl at hF ⊢
  split at hF
  · exact c Kn _ _ _ _ _ hF
  · exact hF.elim
theorem cn_ishr (c : kv_cn G) : kv_cn (fun K => o_ishr (G K)) := fun Kn L st h v h' hF => by
  have hF : o_ishr (G _) L st h v h' := hF
  show ∃ n, o_ishr (G (Kn n)) L st h v h'
  unfold o_ishr at hF ⊢
  split at hF
  · exact c Kn _ _ _ _ _ hF
  · exact hF.elim
theorem cn_iushr (c : kv_cn G) : kv_cn (fun K => o_iushr (G K)) := fun Kn L st h v h' hF => by
  have hF : o_iushr (G _) L st h v h' := hF
  show ∃ n, o_iushr (G (Kn n)) L st h v h'
  unfold o_iushr at hF ⊢
  split at hF
  · exact c Kn _ _ _ _ _ hF
  · exact hF.elim
theorem cn_ineg (c : kv_cn G) : kv_cn (fun K => o_ineg (G K)) := fun Kn L st h v h' hF => by
  have hF : o_ineg (G _) L st h v h' := hF
  show ∃ n, o_ineg (G (Kn n)) L st h v h'
  unfold o_ineg at hF ⊢
  split at hF
  · exact c Kn _ _ _ _ _ hF
  · exact hF.elim
theorem cn_i2c (c : kv_cn G) : kv_cn (fun K => o_i2c (G K)) := fun Kn L st h v h' hF => by
  have hF : o_i2c (G _) L st h v h' := hF
  show ∃ n, o_i2c (G (Kn n)) L st h v h'
  unfold o_i2c at hF ⊢
  split at hF
  · exact c Kn _ _ _ _ _ hF
  · exact hF.elim
theorem cn_idiv (c : kv_cn G) : kv_cn (fun K => o_idiv (G K)) := fun Kn L st h v h' hF => by
  have hF : o_idiv (G _) L st h v h' := hF
  show ∃ n, o_idiv (G (Kn n)) L st h v h'
  unfold o_idiv at hF ⊢
  split at hF
  · obtain ⟨n, hn⟩ := c Kn _ _ _ _ _ hF.2
    exact ⟨n, hF.1, hn⟩
  · exact hF.elim
theorem cn_irem (c : kv_cn G) : kv_cn (fun K => o_irem (G K)) := fun Kn L st h v h' hF => by
  have hF : o_irem (G _) L st h v h' := hF
  show ∃ n, o_irem (G (Kn n)) L st h v h'
  unfold o_irem at hF ⊢
  split at hF
  · obtain ⟨n, hn⟩ := c Kn _ _ _ _ _ hF.2
    exact ⟨n, hF.1, hn⟩
  · exact hF.elim
theorem cn_dup (c : kv_cn G) : kv_cn (fun K => o_dup (G K)) := fun Kn L st h v h' hF => by
  have hF : o_dup (G _) L st h v h' := hF
  show ∃ n, o_dup (G (Kn n)) L st h v h'
  unfold o_dup at hF ⊢
  split at hF
  · obtain ⟨n, hn⟩ := c Kn _ _ _ _ _ hF.2
    exact ⟨n, hF.1, hn⟩
  · exact hF.elim
theorem cn_pop (c : kv_cn G) : kv_cn (fun K => o_pop (G K)) := fun Kn L st h v h' hF => by
  have hF : o_pop (G _) L st h v h' := hF
  show ∃ n, o_pop (G (Kn n)) L st h v h'
  unfold o_pop at hF ⊢
  split at hF
  · obtain ⟨n, hn⟩ := c Kn _ _ _ _ _ hF.2
    exact ⟨n, hF.1, hn⟩
  · exact hF.elim
theorem cn_dup_x1 (c : kv_cn G) : kv_cn (fun K => o_dup_x1 (G K)) := fun Kn L st h v h' hF => by
  have hF : o_dup_x1 (G _) L st h v h' := hF
  show ∃ n, o_dup_x1 (G (Kn n)) L st h v h'
  unfold o_dup_x1 at hF ⊢
  split at hF
  · obtain ⟨n, hn⟩ := c Kn _ _ _ _ _ hF.2
    exact ⟨n, hF.1, hn⟩
  · exact hF.elim
theorem cn_dup_x2 (c : kv_cn G) : kv_cn (fun K => o_dup_x2 (G K)) := fun Kn L st h v h' hF => by
  have hF : o_dup_x2 (G _) L st h v h' := hF
  show ∃ n, o_dup_x2 (G (Kn n)) L st h v h'
  unfold o_dup_x2 at hF ⊢
  split at hF
  · obtain ⟨n, hn⟩ := c Kn _ _ _ _ _ hF.2
    exact ⟨n, hF.1, hn⟩
  · exact hF.elim
theorem cn_dup2 (c : kv_cn G) : kv_cn (fun K => o_dup2 (G K)) := fun Kn L st h v h' hF => by
  have hF : o_dup2 (G _) L st h v h' := hF
  show ∃ n, o_dup2 (G (Kn n)) L st h v h'
  unfold o_dup2 at hF ⊢
  split at hF
  · obtain ⟨n, hn⟩ := c Kn _ _ _ _ _ hF.2
    exact ⟨n, hF.1, hn⟩
  · exact hF.elim
theorem cn_max (c : kv_cn G) : kv_cn (fun K => o_max (G K)) := fun Kn L st h v h' hF => by
  have hF : o_max (G _) L st h v h' := hF
  show ∃ n, o_max (G (Kn n)) L st h v h'
  unfold o_max at hF ⊢
  split at hF
  · obtain ⟨n, hn⟩ := c Kn _ _ _ _ _ hF.2
    exact ⟨n, hF.1, hn⟩
  · exact hF.elim
theorem cn_obj (c : kv_cn G) : kv_cn (fun K => o_obj (G K)) := fun Kn L st h v h' hF => by
  have hF : o_obj (G _) L st h v h' := hF
  show ∃ n, o_obj (G (Kn n)) L st h v h'
  unfold o_obj at hF ⊢
  split at hF
  · obtain ⟨n, hn⟩ := c Kn _ _ _ _ _ hF.2
    exact ⟨n, hF.1, hn⟩
  · exact hF.elim
theorem cn_sld (N : Nat) (xs : Nat → Int32) (c : kv_cn G) : kv_cn (fun K => o_sld N xs (G K)) := fun Kn L st h v h' hF => by
  have hF : o_sld N xs (G _) L st h v h' := hF
  show ∃ n, o_sld N xs (G (Kn n)) L st h v h'
  unfold o_sld at hF ⊢
  split at hF
  · obtain ⟨n, hn⟩ := c Kn _ _ _ _ _ hF.2
    exact ⟨n, hF.1, hn⟩
  · exact hF.elim
theorem cn_slen (N : Nat) (c : kv_cn G) : kv_cn (fun K => o_slen N (G K)) := fun Kn L st h v h' hF => by
  have hF : o_slen N (G _) L st h v h' := hF
  show ∃ n, o_slen N (G (Kn n)) L st h v h'
  unfold o_slen at hF ⊢
  split at hF
  · exact c Kn _ _ _ _ _ hF
  · exact hF.elim
theorem cn_newa (t : Nat) (ty : FieldType) (c : kv_cn G) : kv_cn (fun K => o_newa t ty (G K)) := fun Kn L st h v h' hF => by
  have hF : o_newa t ty (G _) L st h v h' := hF
  show ∃ n, o_newa t ty (G (Kn n)) L st h v h'
  unfold o_newa at hF ⊢
  split at hF
  · obtain ⟨n, hn⟩ := c Kn _ _ _ _ _ hF.2
    exact ⟨n, hF.1, hn⟩
  · exact hF.elim
theorem cn_newq (t : Nat) (c : kv_cn G) : kv_cn (fun K => o_newq t (G K)) := fun Kn L st h v h' hF => by
  have hF : o_newq t (G _) L st h v h' := hF
  show ∃ n, o_newq t (G (Kn n)) L st h v h'
  unfold o_newq at hF ⊢
  split at hF
  · obtain ⟨n, hn⟩ := c Kn _ _ _ _ _ hF.2
    exact ⟨n, hF.1, hn⟩
  · exact hF.elim
theorem cn_getf (a b : Nat) (c : kv_cn G) : kv_cn (fun K => o_getf a b (G K)) := fun Kn L st h v h' hF => by
  have hF : o_getf a b (G _) L st h v h' := hF
  show ∃ n, o_getf a b (G (Kn n)) L st h v h'
  unfold o_getf at hF ⊢
  split at hF
  · split at hF
    · obtain ⟨h1, x, h2, hF⟩ := hF
      obtain ⟨n, hn⟩ := c Kn _ _ _ _ _ hF
      exact ⟨n, h1, x, h2, hn⟩
    · exact hF.elim
  · exact hF.elim
theorem cn_putf (a b : Nat) (ty : FieldType) (c : kv_cn G) : kv_cn (fun K => o_putf a b ty (G K)) := fun Kn L st h v h' hF => by
  have hF : o_putf a b ty (G _) L st h v h' := hF
  show ∃ n, o_putf a b ty (G (Kn n)) L st h v h'
  unfold o_putf at hF ⊢
  split at hF
  · split at hF
    · obtain ⟨n, hn⟩ := c Kn _ _ _ _ _ hF.2
      exact ⟨n, hF.1, hn⟩
    · exact hF.elim
  · exact hF.elim
theorem cn_iald (t : Nat) (c : kv_cn G) : kv_cn (fun K => o_iald t (G K)) := fun Kn L st h v h' hF => by
  have hF : o_iald t (G _) L st h v h' := hF
  show ∃ n, o_iald t (G (Kn n)) L st h v h'
  unfold o_iald at hF ⊢
  split at hF
  · split at hF
    · obtain ⟨n, hn⟩ := c Kn _ _ _ _ _ hF.2
      exact ⟨n, hF.1, hn⟩
    · exact hF.elim
  · exact hF.elim
theorem cn_iast (t : Nat) (f : Int32 → Int32) (c : kv_cn G) : kv_cn (fun K => o_iast t f (G K)) := fun Kn L st h v h' hF => by
  have hF : o_iast t f (G _) L st h v h' := hF
  show ∃ n, o_iast t f (G (Kn n)) L st h v h'
  unfold o_iast at hF ⊢
  split at hF
  · split at hF
    · obtain ⟨n, hn⟩ := c Kn _ _ _ _ _ hF.2
      exact ⟨n, hF.1, hn⟩
    · exact hF.elim
  · exact hF.elim
theorem cn_alen (c : kv_cn G) : kv_cn (fun K => o_alen (G K)) := fun Kn L st h v h' hF => by
  have hF : o_alen (G _) L st h v h' := hF
  show ∃ n, o_alen (G (Kn n)) L st h v h'
  unfold o_alen at hF ⊢
  split at hF
  · split at hF
    · obtain ⟨n, hn⟩ := c Kn _ _ _ _ _ hF.2
      exact ⟨n, hF.1, hn⟩
    · exact hF.elim
  · exact hF.elim
theorem cn_aald (t : Nat) (c : kv_cn G) : kv_cn (fun K => o_aald t (G K)) := fun Kn L st h v h' hF => by
  have hF : o_aald t (G _) L st h v h' := hF
  show ∃ n, o_aald t (G (Kn n)) L st h v h'
  unfold o_aald at hF ⊢
  split at hF
  · split at hF
    · obtain ⟨n, hn⟩ := c Kn _ _ _ _ _ hF.2
      exact ⟨n, hF.1, hn⟩
    · exact hF.elim
  · exact hF.elim
theorem cn_aast (t a : Nat) (c : kv_cn G) : kv_cn (fun K => o_aast t a (G K)) := fun Kn L st h v h' hF => by
  have hF : o_aast t a (G _) L st h v h' := hF
  show ∃ n, o_aast t a (G (Kn n)) L st h v h'
  unfold o_aast at hF ⊢
  split at hF
  · split at hF
    · obtain ⟨n, hn⟩ := c Kn _ _ _ _ _ hF.2
      exact ⟨n, hF.1, hn⟩
    · exact hF.elim
  · exact hF.elim
theorem cn_copy (t : Nat) (ty : FieldType) (c : kv_cn G) : kv_cn (fun K => o_copy t ty (G K)) := fun Kn L st h v h' hF => by
  have hF : o_copy t ty (G _) L st h v h' := hF
  show ∃ n, o_copy t ty (G (Kn n)) L st h v h'
  unfold o_copy at hF ⊢
  split at hF
  · split at hF
    · obtain ⟨n, hn⟩ := c Kn _ _ _ _ _ hF.2
      exact ⟨n, hF.1, hn⟩
    · exact hF.elim
  · exact hF.elim
theorem cn_callV (a b : Nat) (M : kv_M) (c : kv_cn G) : kv_cn (fun K => o_callV a b M (G K)) := fun Kn L st h v h' hF => by
  have hF : o_callV a b M (G _) L st h v h' := hF
  show ∃ n, o_callV a b M (G (Kn n)) L st h v h'
  unfold o_callV at hF ⊢
  obtain ⟨As, a, r, fs, v1, h1, g1, g2, g3, g4, g5, hF⟩ := hF
  obtain ⟨n, hn⟩ := c Kn _ _ _ _ _ hF
  exact ⟨n, As, a, r, fs, v1, h1, g1, g2, g3, g4, g5, hn⟩
theorem cn_callI (b : Nat) (M : kv_M) (c : kv_cn G) : kv_cn (fun K => o_callI b M (G K)) := fun Kn L st h v h' hF => by
  have hF : o_callI b M (G _) L st h v h' := hF
  show ∃ n, o_callI b M (G (Kn n)) L st h v h'
  unfold o_callI at hF ⊢
  obtain ⟨As, a, r, v1, h1, g1, g2, g3, g4, hF⟩ := hF
  obtain ⟨n, hn⟩ := c Kn _ _ _ _ _ hF
  exact ⟨n, As, a, r, v1, h1, g1, g2, g3, g4, hn⟩
theorem cn_callS (b : Nat) (M : kv_M) (c : kv_cn G) : kv_cn (fun K => o_callS b M (G K)) := fun Kn L st h v h' hF => by
  have hF : o_callS b M (G _) L st h v h' := hF
  show ∃ n, o_callS b M (G (Kn n)) L st h v h'
  unfold o_callS at hF ⊢
  obtain ⟨As, r, v1, h1, g1, g2, g3, g4, hF⟩ := hF
  obtain ⟨n, hn⟩ := c Kn _ _ _ _ _ hF
  exact ⟨n, As, r, v1, h1, g1, g2, g3, g4, hn⟩
theorem cn_ifeq (c1 : kv_cn G1) (c2 : kv_cn G2) : kv_cn (fun K => o_ifeq (G1 K) (G2 K)) := fun Kn L st h v h' hF => by
  have hF : o_ifeq (G1 _) (G2 _) L st h v h' := hF
  show ∃ n, o_ifeq (G1 (Kn n)) (G2 (Kn n)) L st h v h'
  unfold o_ifeq at hF ⊢
  split at hF
  · split at hF
    · rename_i q
      obtain ⟨n, hn⟩ := c1 Kn _ _ _ _ _ hF
      exact ⟨n, by rw [if_pos q]; exact hn⟩
    · rename_i q
      obtain ⟨n, hn⟩ := c2 Kn _ _ _ _ _ hF
      exact ⟨n, by rw [if_neg q]; exact hn⟩
  · exact hF.elim
theorem cn_ifne (c1 : kv_cn G1) (c2 : kv_cn G2) : kv_cn (fun K => o_ifne (G1 K) (G2 K)) := fun Kn L st h v h' hF => by
  have hF : o_ifne (G1 _) (G2 _) L st h v h' := hF
  show ∃ n, o_ifne (G1 (Kn n)) (G2 (Kn n)) L st h v h'
  unfold o_ifne at hF ⊢
  split at hF
  · split at hF
    · rename_i q
      obtain ⟨n, hn⟩ := c1 Kn _ _ _ _ _ hF
      exact ⟨n, by rw [if_pos q]; exact hn⟩
    · rename_i q
      obtain ⟨n, hn⟩ := c2 Kn _ _ _ _ _ hF
      exact ⟨n, by rw [if_neg q]; exact hn⟩
  · exact hF.elim
theorem cn_iflt (c1 : kv_cn G1) (c2 : kv_cn G2) : kv_cn (fun K => o_iflt (G1 K) (G2 K)) := fun Kn L st h v h' hF => by
  have hF : o_iflt (G1 _) (G2 _) L st h v h' := hF
  show ∃ n, o_iflt (G1 (Kn n)) (G2 (Kn n)) L st h v h'
  unfold o_iflt at hF ⊢
  split at hF
  · split at hF
    · rename_i q
      obtain ⟨n, hn⟩ := c1 Kn _ _ _ _ _ hF
      exact ⟨n, by rw [if_pos q]; exact hn⟩
    · rename_i q
      obtain ⟨n, hn⟩ := c2 Kn _ _ _ _ _ hF
      exact ⟨n, by rw [if_neg q]; exact hn⟩
  · exact hF.elim
theorem cn_ifge (c1 : kv_cn G1) (c2 : kv_cn G2) : kv_cn (fun K => o_ifge (G1 K) (G2 K)) := fun Kn L st h v h' hF => by
  have hF : o_ifge (G1 _) (G2 _) L st h v h' := hF
  show ∃ n, o_ifge (G1 (Kn n)) (G2 (Kn n)) L st h v h'
  unfold o_ifge at hF ⊢
  split at hF
  · split at hF
    · rename_i q
      obtain ⟨n, hn⟩ := c1 Kn _ _ _ _ _ hF
      exact ⟨n, by rw [if_pos q]; exact hn⟩
    · rename_i q
      obtain ⟨n, hn⟩ := c2 Kn _ _ _ _ _ hF
      exact ⟨n, by rw [if_neg q]; exact hn⟩
  · exact hF.elim
theorem cn_ifgt (c1 : kv_cn G1) (c2 : kv_cn G2) : kv_cn (fun K => o_ifgt (G1 K) (G2 K)) := fun Kn L st h v h' hF => by
  have hF : o_ifgt (G1 _) (G2 _) L st h v h' := hF
  show ∃ n, o_ifgt (G1 (Kn n)) (G2 (Kn n)) L st h v h'
  unfold o_ifgt at hF ⊢
  split at hF
  · split at hF
    · rename_i q
      obtain ⟨n, hn⟩ := c1 Kn _ _ _ _ _ hF
      exact ⟨n, by rw [if_pos q]; exact hn⟩
    · rename_i q
      obtain ⟨n, hn⟩ := c2 Kn _ _ _ _ _ hF
      exact ⟨n, by rw [if_neg q]; exact hn⟩
  · exact hF.elim
theorem cn_ifle (c1 : kv_cn G1) (c2 : kv_cn G2) : kv_cn (fun K => o_ifle (G1 K) (G2 K)) := fun Kn L st h v h' hF => by
  have hF : o_ifle (G1 _) (G2 _) L st h v h' := hF
  show ∃ n, o_ifle (G1 (Kn n)) (G2 (Kn n)) L st h v h'
  unfold o_ifle at hF ⊢
  split at hF
  · split at hF
    · rename_i q
      obtain ⟨n, hn⟩ := c1 Kn _ _ _ _ _ hF
      exact ⟨n, by rw [if_pos q]; exact hn⟩
    · rename_i q
      obtain ⟨n, hn⟩ := c2 Kn _ _ _ _ _ hF
      exact ⟨n, by rw [if_neg q]; exact hn⟩
  · exact hF.elim
theorem cn_iceq (c1 : kv_cn G1) (c2 : kv_cn G2) : kv_cn (fun K => o_iceq (G1 K) (G2 K)) := fun Kn L st h v h' hF => by
  have hF : o_iceq (G1 _) (G2 _) L st h v h' := hF
  show ∃ n, o_iceq (G1 (Kn n)) (G2 (Kn n)) L st h v h'
  unfold o_iceq at hF ⊢
  split at hF
  · split at hF
    · rename_i q
      obtain ⟨n, hn⟩ := c1 Kn _ _ _ _ _ hF
      exact ⟨n, by rw [if_pos q]; exact hn⟩
    · rename_i q
      obtain ⟨n, hn⟩ := c2 Kn _ _ _ _ _ hF
      exact ⟨n, by rw [if_neg q]; exact hn⟩
  · exact hF.elim
theorem cn_icne (c1 : kv_cn G1) (c2 : kv_cn G2) : kv_cn (fun K => o_icne (G1 K) (G2 K)) := fun Kn L st h v h' hF => by
  have hF : o_icne (G1 _) (G2 _) L st h v h' := hF
  show ∃ n, o_icne (G1 (Kn n)) (G2 (Kn n)) L st h v h'
  unfold o_icne at hF ⊢
  split at hF
  · split at hF
    · rename_i q
      obtain ⟨n, hn⟩ := c1 Kn _ _ _ _ _ hF
      exact ⟨n, by rw [if_pos q]; exact hn⟩
    · rename_i q
      obtain ⟨n, hn⟩ := c2 Kn _ _ _ _ _ hF
      exact ⟨n, by rw [if_neg q]; exact hn⟩
  · exact hF.elim
theorem cn_iclt (c1 : kv_cn G1) (c2 : kv_cn G2) : kv_cn (fun K => o_iclt (G1 K) (G2 K)) := fun Kn L st h v h' hF => by
  have hF : o_iclt (G1 _) (G2 _) L st h v h' := hF
  show ∃ n, o_iclt (G1 (Kn n)) (G2 (Kn n)) L st h v h'
  unfold o_iclt at hF ⊢
  split at hF
  · split at hF
    · rename_i q
      obtain ⟨n, hn⟩ := c1 Kn _ _ _ _ _ hF
      exact ⟨n, by rw [if_pos q]; exact hn⟩
    · rename_i q
      obtain ⟨n, hn⟩ := c2 Kn _ _ _ _ _ hF
      exact ⟨n, by rw [if_neg q]; exact hn⟩
  · exact hF.elim
theorem cn_icge (c1 : kv_cn G1) (c2 : kv_cn G2) : kv_cn (fun K => o_icge (G1 K) (G2 K)) := fun Kn L st h v h' hF => by
  have hF : o_icge (G1 _) (G2 _) L st h v h' := hF
  show ∃ n, o_icge (G1 (Kn n)) (G2 (Kn n)) L st h v h'
  unfold o_icge at hF ⊢
  split at hF
  · split at hF
    · rename_i q
      obtain ⟨n, hn⟩ := c1 Kn _ _ _ _ _ hF
      exact ⟨n, by rw [if_pos q]; exact hn⟩
    · rename_i q
      obtain ⟨n, hn⟩ := c2 Kn _ _ _ _ _ hF
      exact ⟨n, by rw [if_neg q]; exact hn⟩
  · exact hF.elim
theorem cn_icgt (c1 : kv_cn G1) (c2 : kv_cn G2) : kv_cn (fun K => o_icgt (G1 K) (G2 K)) := fun Kn L st h v h' hF => by
  have hF : o_icgt (G1 _) (G2 _) L st h v h' := hF
  show ∃ n, o_icgt (G1 (Kn n)) (G2 (Kn n)) L st h v h'
  unfold o_icgt at hF ⊢
  split at hF
  · split at hF
    · rename_i q
      obtain ⟨n, hn⟩ := c1 Kn _ _ _ _ _ hF
      exact ⟨n, by rw [if_pos q]; exact hn⟩
    · rename_i q
      obtain ⟨n, hn⟩ := c2 Kn _ _ _ _ _ hF
      exact ⟨n, by rw [if_neg q]; exact hn⟩
  · exact hF.elim
theorem cn_icle (c1 : kv_cn G1) (c2 : kv_cn G2) : kv_cn (fun K => o_icle (G1 K) (G2 K)) := fun Kn L st h v h' hF => by
  have hF : o_icle (G1 _) (G2 _) L st h v h' := hF
  show ∃ n, o_icle (G1 (Kn n)) (G2 (Kn n)) L st h v h'
  unfold o_icle at hF ⊢
  split at hF
  · split at hF
    · rename_i q
      obtain ⟨n, hn⟩ := c1 Kn _ _ _ _ _ hF
      exact ⟨n, by rw [if_pos q]; exact hn⟩
    · rename_i q
      obtain ⟨n, hn⟩ := c2 Kn _ _ _ _ _ hF
      exact ⟨n, by rw [if_neg q]; exact hn⟩
  · exact hF.elim
theorem cn_tsw (a : Int) {Gs : List ((Nat → kv_D) → kv_D)} {D : (Nat → kv_D) → kv_D} (cs : ∀ G ∈ Gs, kv_cn G) (cd : kv_cn D) : kv_cn (fun K => o_tsw a (Gs.map (fun G => G K)) (D K)) := fun Kn L st h v h' hF => by
  dsimp only at hF
  show ∃ n, o_tsw a (Gs.map (fun G => G (Kn n))) (D (Kn n)) L st h v h'
  unfold o_tsw at hF ⊢
  split at hF
  · split at hF
    · rename_i x r q
      obtain ⟨n, hn⟩ := cd Kn _ _ _ _ _ hF
      refine ⟨n, ?_⟩
      rw [if_pos (by simpa using q)]
      exact hn
    · rename_i x r q
      obtain ⟨F, hF1, hF⟩ := hF
      rw [List.getElem?_map] at hF1
      cases hg : Gs[(x.toInt - a).toNat]? with
      | none => rw [hg] at hF1; cases hF1
      | some G =>
        rw [hg] at hF1
        cases hF1
        obtain ⟨n, hn⟩ := cs G (List.mem_of_getElem? hg) Kn _ _ _ _ _ hF
        refine ⟨n, ?_⟩
        rw [if_neg (by simpa using q)]
        exact ⟨G (Kn n), by rw [List.getElem?_map, hg]; rfl, hn⟩
  · exact hF.elim
end KVH
