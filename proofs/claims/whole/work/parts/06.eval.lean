section KVG
variable {h h1 h' : kv_H} {a c z : Nat} {e e0 : va_E} {F : kv_D} {M : kv_M} {L : List (Option Value)} {r : List Value} {v v1 : Option Value}
theorem kv_g_of (h1 : 1 ≤ a) (h2 : a ≤ h.2.1) (h3 : h.1 a = e) : kv_g h a = some e := by
  unfold kv_g
  rw [if_pos ⟨h1, h2⟩, h3]
theorem kv_gp_self (hg : kv_g h a = some e0) : kv_g (kv_p h a e) a = some e := by
  obtain ⟨h1, h2, -⟩ := kv_g_le hg
  exact kv_g_of h1 h2 (va_up_self _ _ _)
theorem kv_gp_ne (hne : c ≠ a) : kv_g (kv_p h a e) c = kv_g h c := by
  unfold kv_g kv_p
  simp only [va_up_ne _ _ hne]
theorem kv_gn_self : kv_g (kv_n h e z) (h.2.1 + 1) = some e := kv_g_of (by omega) (Nat.le_refl _) (va_up_self _ _ _)
theorem kv_gn_old (hg : kv_g h a = some e0) : kv_g (kv_n h e z) a = some e0 := by
  obtain ⟨h1, h2, h3⟩ := kv_g_le hg
  exact kv_g_of h1 (by show a ≤ h.2.1 + 1; omega) (by show va_up h.1 (h.2.1 + 1) e a = e0; rw [va_up_ne _ _ (by omega)]; exact h3)
/-- what changed: the cells of P alone -/
def kv_fr (P : Nat → Prop) (h h' : kv_H) : Prop := h'.2 = h.2 ∧ ∀ a, ¬ P a → kv_g h' a = kv_g h a
theorem kv_fr.rf {P : Nat → Prop} : kv_fr P h h := ⟨rfl, fun _ _ => rfl⟩
theorem kv_fr.tr {P : Nat → Prop} (x : kv_fr P h h1) (y : kv_fr P h1 h') : kv_fr P h h' := ⟨y.1.trans x.1, fun a ha => (y.2 a ha).trans (x.2 a ha)⟩
theorem kv_fr.mono {P Q : Nat → Prop} (x : kv_fr P h h1) (hpq : ∀ a, P a → Q a) : kv_fr Q h h1 := ⟨x.1, fun a ha => x.2 a (fun q => ha (hpq a q))⟩
theorem kv_fr.p {P : Nat → Prop} (x : kv_fr P h h1) (hp : P a) : kv_fr P h (kv_p h1 a e) := ⟨x.1, fun c hc => by
  rw [kv_gp_ne (fun q => hc (by rw [q]; exact hp))]
  exact x.2 c hc⟩
theorem kv_fr.at {P : Nat → Prop} (x : kv_fr P h h1) (hg : kv_g h a = some e) (hp : ¬ P a) : kv_g h1 a = some e := (x.2 a hp).trans hg
theorem e_callV0 {ci : Nat} {fs : List Value} (hg : kv_g h a = some (.inr (ci, fs))) (hM : M [.ref a] h v1 h1) (hr : (r.map fun v => v.category).sum ≤ 8) (hF : F L (v1.toList ++ r) h1 v h') : o_callV ci 0 M F L (.ref a :: r) h v h' := ⟨[], a, r, fs, v1, h1, rfl, rfl, hr, hg, hM, hF⟩
theorem e_callI0 (hM : M [.ref a] h v1 h1) (hr : (r.map fun v => v.category).sum ≤ 8) (hF : F L (v1.toList ++ r) h1 v h') : o_callI 0 M F L (.ref a :: r) h v h' := ⟨[], a, r, v1, h1, rfl, rfl, hr, hM, hF⟩
theorem e_callS0 (hM : M [] h v1 h1) (hr : (r.map fun v => v.category).sum ≤ 8) (hF : F L (v1.toList ++ r) h1 v h') : o_callS 0 M F L (r) h v h' := ⟨[], r, v1, h1, rfl, rfl, hr, hM, hF⟩
theorem e_callV1 {ci : Nat} {fs : List Value} {x1 : Value} (hg : kv_g h a = some (.inr (ci, fs))) (hM : M [.ref a, x1] h v1 h1) (hr : (r.map fun v => v.category).sum ≤ 8) (hF : F L (v1.toList ++ r) h1 v h') : o_callV ci 1 M F L (x1 :: .ref a :: r) h v h' := ⟨[x1], a, r, fs, v1, h1, rfl, rfl, hr, hg, hM, hF⟩
theorem e_callI1 {x1 : Value} (hM : M [.ref a, x1] h v1 h1) (hr : (r.map fun v => v.category).sum ≤ 8) (hF : F L (v1.toList ++ r) h1 v h') : o_callI 1 M F L (x1 :: .ref a :: r) h v h' := ⟨[x1], a, r, v1, h1, rfl, rfl, hr, hM, hF⟩
theorem e_callS1 {x1 : Value} (hM : M [x1] h v1 h1) (hr : (r.map fun v => v.category).sum ≤ 8) (hF : F L (v1.toList ++ r) h1 v h') : o_callS 1 M F L (x1 :: r) h v h' := ⟨[x1], r, v1, h1, rfl, rfl, hr, hM, hF⟩
theorem e_callV2 {ci : Nat} {fs : List Value} {x1 x2 : Value} (hg : kv_g h a = some (.inr (ci, fs))) (hM : M [.ref a, x1, x2] h v1 h1) (hr : (r.map fun v => v.category).sum ≤ 8) (hF : F L (v1.toList ++ r) h1 v h') : o_callV ci 2 M F L (x2 :: x1 :: .ref a :: r) h v h' := ⟨[x1, x2], a, r, fs, v1, h1, rfl, rfl, hr, hg, hM, hF⟩
theorem e_callI2 {x1 x2 : Value} (hM : M [.ref a, x1, x2] h v1 h1) (hr : (r.map fun v => v.category).sum ≤ 8) (hF : F L (v1.toList ++ r) h1 v h') : o_callI 2 M F L (x2 :: x1 :: .ref a :: r) h v h' := ⟨[x1, x2], a, r, v1, h1, rfl, rfl, hr, hM, hF⟩
theorem e_callS2 {x1 x2 : Value} (hM : M [x1, x2] h v1 h1) (hr : (r.map fun v => v.category).sum ≤ 8) (hF : F L (v1.toList ++ r) h1 v h') : o_callS 2 M F L (x2 :: x1 :: r) h v h' := ⟨[x1, x2], r, v1, h1, rfl, rfl, hr, hM, hF⟩
theorem e_callV3 {ci : Nat} {fs : List Value} {x1 x2 x3 : Value} (hg : kv_g h a = some (.inr (ci, fs))) (hM : M [.ref a, x1, x2, x3] h v1 h1) (hr : (r.map fun v => v.category).sum ≤ 8) (hF : F L (v1.toList ++ r) h1 v h') : o_callV ci 3 M F L (x3 :: x2 :: x1 :: .ref a :: r) h v h' := ⟨[x1, x2, x3], a, r, fs, v1, h1, rfl, rfl, hr, hg, hM, hF⟩
theorem e_callI3 {x1 x2 x3 : Value} (hM : M [.ref a, x1, x2, x3] h v1 h1) (hr : (r.map fun v => v.category).sum ≤ 8) (hF : F L (v1.toList ++ r) h1 v h') : o_callI 3 M F L (x3 :: x2 :: x1 :: .ref a :: r) h v h' := ⟨[x1, x2, x3], a, r, v1, h1, rfl, rfl, hr, hM, hF⟩
theorem e_callS3 {x1 x2 x3 : Value} (hM : M [x1, x2, x3] h v1 h1) (hr : (r.map fun v => v.category).sum ≤ 8) (hF : F L (v1.toList ++ r) h1 v h') : o_callS 3 M F L (x3 :: x2 :: x1 :: r) h v h' := ⟨[x1, x2, x3], r, v1, h1, rfl, rfl, hr, hM, hF⟩
theorem e_callV4 {ci : Nat} {fs : List Value} {x1 x2 x3 x4 : Value} (hg : kv_g h a = some (.inr (ci, fs))) (hM : M [.ref a, x1, x2, x3, x4] h v1 h1) (hr : (r.map fun v => v.category).sum ≤ 8) (hF : F L (v1.toList ++ r) h1 v h') : o_callV ci 4 M F L (x4 :: x3 :: x2 :: x1 :: .ref a :: r) h v h' := ⟨[x1, x2, x3, x4], a, r, fs, v1, h1, rfl, rfl, hr, hg, hM, hF⟩
theorem e_callI4 {x1 x2 x3 x4 : Value} (hM : M [.ref a, x1, x2, x3, x4] h v1 h1) (hr : (r.map fun v => v.category).sum ≤ 8) (hF : F L (v1.toList ++ r) h1 v h') : o_callI 4 M F L (x4 :: x3 :: x2 :: x1 :: .ref a :: r) h v h' := ⟨[x1, x2, x3, x4], a, r, v1, h1, rfl, rfl, hr, hM, hF⟩
theorem e_callS4 {x1 x2 x3 x4 : Value} (hM : M [x1, x2, x3, x4] h v1 h1) (hr : (r.map fun v => v.category).sum ≤ 8) (hF : F L (v1.toList ++ r) h1 v h') : o_callS 4 M F L (x4 :: x3 :: x2 :: x1 :: r) h v h' := ⟨[x1, x2, x3, x4], r, v1, h1, rfl, rfl, hr, hM, hF⟩
theorem e_callV5 {ci : Nat} {fs : List Value} {x1 x2 x3 x4 x5 : Value} (hg : kv_g h a = some (.inr (ci, fs))) (hM : M [.ref a, x1, x2, x3, x4, x5] h v1 h1) (hr : (r.map fun v => v.category).sum ≤ 8) (hF : F L (v1.toList ++ r) h1 v h') : o_callV ci 5 M F L (x5 :: x4 :: x3 :: x2 :: x1 :: .ref a :: r) h v h' := ⟨[x1, x2, x3, x4, x5], a, r, fs, v1, h1, rfl, rfl, hr, hg, hM, hF⟩
theorem e_callI5 {x1 x2 x3 x4 x5 : Value} (hM : M [.ref a, x1, x2, x3, x4, x5] h v1 h1) (hr : (r.map fun v => v.category).sum ≤ 8) (hF : F L (v1.toList ++ r) h1 v h') : o_callI 5 M F L (x5 :: x4 :: x3 :: x2 :: x1 :: .ref a :: r) h v h' := ⟨[x1, x2, x3, x4, x5], a, r, v1, h1, rfl, rfl, hr, hM, hF⟩
theorem e_callS5 {x1 x2 x3 x4 x5 : Value} (hM : M [x1, x2, x3, x4, x5] h v1 h1) (hr : (r.map fun v => v.category).sum ≤ 8) (hF : F L (v1.toList ++ r) h1 v h') : o_callS 5 M F L (x5 :: x4 :: x3 :: x2 :: x1 :: r) h v h' := ⟨[x1, x2, x3, x4, x5], r, v1, h1, rfl, rfl, hr, hM, hF⟩
end KVG
