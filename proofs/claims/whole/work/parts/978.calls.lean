/-! the calls, side by side -/
/-- both objects stand, alike; Z: cells and slots in use -/
def vW (h : kv_H) (Z : Nat × Nat) : Prop := ∃ t n mn mn2 rs, ∃ s : Ws, vL h t n mn rs s.2.2.1 s.2.2.2.1 s.2.2.2.2 s.1 s.2.1 ∧ vQ h t n mn2 rs s.2.2.1 s.2.2.2.1 s.2.2.2.2 s.1 s.2.1 ∧ n ≤ 48 ∧ (∀ i, t i < 128) ∧ rs.length ≤ 8 ∧ (∀ r ∈ rs, wfK r) ∧ okM mn ∧ (∀ j, j < 26 → mn2 j = mn j) ∧ okW s ∧ h.2 = Z
/-- a call on both that answers the same int -/
def bo (M4 M5 : kv_M) (as : List Value) (h : kv_H) (Z : Nat × Nat) : Prop := ∃ fs, kv_g h 1 = some (.inr (4, fs)) ∧ wm M4 (.ref 1 :: as) h (fun v h1 => ∃ a gs, v = some (.int a) ∧ kv_g h1 74 = some (.inr (5, gs)) ∧ wm M5 (.ref 74 :: as) h1 (fun v2 h2 => v2 = some (.int a) ∧ vW h2 Z))
/-- a call on both that answers nothing -/
def bv (M4 M5 : kv_M) (h : kv_H) (Z : Nat × Nat) : Prop := ∃ fs, kv_g h 1 = some (.inr (4, fs)) ∧ wm M4 [.ref 1] h (fun v h1 => ∃ gs, v = none ∧ kv_g h1 74 = some (.inr (5, gs)) ∧ wm M5 [.ref 74] h1 (fun v2 h2 => v2 = none ∧ vW h2 Z))
section CA
variable {h : kv_H} {Z : Nat × Nat}
theorem vQ_X {h' : kv_H} {t : Nat → Nat} {n : Nat} {mn : Nat → Int32} {rs : List Rl} {ap : Nat} {lat : Int32} {sk : Nat} {tx : List Nat} {pl : Nat} (V : vQ h t n mn rs ap lat sk tx pl) (f : kv_fr inX h h') : vQ h' t n mn rs ap lat sk tx pl := by
  obtain ⟨y, B, H, q⟩ := V
  exact ⟨y, B, vY_fr H f (fun a h1 h2 z => by unfold inX at z; omega), q⟩
theorem vL_Y {P : Nat → Prop} {h' : kv_H} {t : Nat → Nat} {n : Nat} {mn : Nat → Int32} {rs : List Rl} {ap : Nat} {lat : Int32} {sk : Nat} {tx : List Nat} {pl : Nat} (V : vL h t n mn rs ap lat sk tx pl) (f : kv_fr P h h') (hP : ∀ a, P a → 74 ≤ a) : vL h' t n mn rs ap lat sk tx pl := vL_eq V (fun a ha => f.2 a (fun q => by have := hP a q; omega))
theorem bo_rules (V : vW h Z) : bo mX4_rules mX5_rules [] h Z := by
  obtain ⟨t, n, mn, mn2, rs, s, ⟨lt, hct, C⟩, ⟨y, B, H, q0, q1, q2, q5, qR, q6, qT, q7, q8, q9, q10⟩, -⟩ := id V
  refine ⟨_, C.1, wm_of (p_rules C) ?_⟩
  rintro v h' ⟨rfl, rfl⟩
  refine ⟨_, _, rfl, vY_74 H, wm_of (r_rules H) ?_⟩
  rintro v h' ⟨rfl, rfl⟩
  exact ⟨by rw [q5], V⟩
theorem bo_length (V : vW h Z) : bo mX4_length mX5_length [] h Z := by
  obtain ⟨t, n, mn, mn2, rs, s, ⟨lt, hct, C⟩, ⟨y, B, H, q0, q1, q2, q5, qR, q6, qT, q7, q8, q9, q10⟩, -⟩ := id V
  refine ⟨_, C.1, wm_of (p_length C) ?_⟩
  rintro v h' ⟨rfl, rfl⟩
  refine ⟨_, _, rfl, vY_74 H, wm_of (r_length H) ?_⟩
  rintro v h' ⟨rfl, rfl⟩
  exact ⟨by rw [q6], V⟩
theorem bo_cursor (V : vW h Z) : bo mX4_cursor mX5_cursor [] h Z := by
  obtain ⟨t, n, mn, mn2, rs, s, ⟨lt, hct, C⟩, ⟨y, B, H, q0, q1, q2, q5, qR, q6, qT, q7, q8, q9, q10⟩, -⟩ := id V
  refine ⟨_, C.1, wm_of (p_cursor C) ?_⟩
  rintro v h' ⟨rfl, rfl⟩
  refine ⟨_, _, rfl, vY_74 H, wm_of (r_cursor H) ?_⟩
  rintro v h' ⟨rfl, rfl⟩
  exact ⟨by rw [q7], V⟩
theorem bo_applied (V : vW h Z) : bo mX4_applied mX5_applied [] h Z := by
  obtain ⟨t, n, mn, mn2, rs, s, ⟨lt, hct, C⟩, ⟨y, B, H, q0, q1, q2, q5, qR, q6, qT, q7, q8, q9, q10⟩, -⟩ := id V
  refine ⟨_, C.1, wm_of (p_applied C) ?_⟩
  rintro v h' ⟨rfl, rfl⟩
  refine ⟨_, _, rfl, vY_74 H, wm_of (r_applied H) ?_⟩
  rintro v h' ⟨rfl, rfl⟩
  exact ⟨by rw [q8], V⟩
theorem bo_latest (V : vW h Z) : bo mX4_latest mX5_latest [] h Z := by
  obtain ⟨t, n, mn, mn2, rs, s, ⟨lt, hct, C⟩, ⟨y, B, H, q0, q1, q2, q5, qR, q6, qT, q7, q8, q9, q10⟩, -⟩ := id V
  refine ⟨_, C.1, wm_of (p_latest C) ?_⟩
  rintro v h' ⟨rfl, rfl⟩
  refine ⟨_, _, rfl, vY_74 H, wm_of (r_latest H) ?_⟩
  rintro v h' ⟨rfl, rfl⟩
  exact ⟨by rw [q9], V⟩
theorem sk_b {k : Nat} (hk : k < 2) : nI k = nI (decide (k = 1)).toNat := by
  rcases (show k = 0 ∨ k = 1 by omega) with rfl | rfl <;> rfl
theorem bo_stuck (V : vW h Z) : bo mX4_stuck mX5_stuck [] h Z := by
  obtain ⟨t, n, mn, mn2, rs, s, ⟨lt, hct, C⟩, ⟨y, B, H, q0, q1, q2, q5, qR, q6, qT, q7, q8, q9, q10⟩, -, -, -, -, -, -, o, -⟩ := id V
  have o5 := o.2.2.2.2
  refine ⟨_, C.1, wm_of (p_stuck C o5) ?_⟩
  rintro v h' ⟨rfl, rfl⟩
  refine ⟨_, _, rfl, vY_74 H, wm_of (r_stuck (sk := decide (s.2.2.2.2 = 1)) H (q10.trans (sk_b o5))) ?_⟩
  rintro v h' ⟨rfl, rfl⟩
  exact ⟨by rw [← sk_b o5], V⟩
theorem bo_letter (V : vW h Z) (i : Int32) : bo mX4_letter mX5_letter [.int i] h Z := by
  obtain ⟨t, n, mn, mn2, rs, s, ⟨lt, hct, C⟩, ⟨y, B, H, q0, q1, q2, q5, qR, q6, qT, q7, q8, q9, q10⟩, -, -, -, -, -, -, o, -⟩ := id V
  have o1 := o.1
  refine ⟨_, C.1, wm_of (p_letter C o1 i) ?_⟩
  rintro v h' ⟨rfl, rfl⟩
  refine ⟨_, _, rfl, vY_74 H, wm_of (r_letter H q6 o1 i) ?_⟩
  rintro v h' ⟨rfl, rfl⟩
  refine ⟨?_, V⟩
  congr 2
  unfold cLet
  by_cases e1 : i < nI 0
  · rw [if_pos e1, if_neg (fun z => Int32.not_le.mpr e1 z.1)]
  · rw [if_neg e1]
    by_cases e2 : i < nI s.1.length
    · rw [if_pos e2, if_pos ⟨Int32.not_lt.mp e1, e2⟩]
      obtain ⟨j, hj, rfl⟩ := nI_of (show ¬ i < 0 from e1)
      have g1 : j < 2147483648 := hj
      rw [q_lt g1 (by omega)] at e2
      rw [q_clamp g1, fY_lt qT e2, ct_gt hct e2]
    · rw [if_neg e2, if_neg (fun z => e2 z.2)]
theorem bo_settle (V : vW h Z) : bo mX4_settle mX5_settle [] h Z := by
  obtain ⟨t, n, mn, mn2, rs, s, VL, VQ, z1, z2, z3, z4, z5, z6, o, hz⟩ := id V
  obtain ⟨lt, hct, C⟩ := id VL
  refine ⟨_, C.1, wm_of (p_settle z3 (fun r hr => (z4 r hr).1) VL o) ?_⟩
  rintro v h1 ⟨rfl, V1, o1, f1⟩
  have VQ1 := vQ_X VQ f1
  obtain ⟨y, B, H, -⟩ := id VQ1
  refine ⟨_, _, rfl, vY_74 H, wm_of (r_settle z3 z4 VQ1 o) ?_⟩
  rintro v h2 ⟨rfl, V2, f2⟩
  exact ⟨rfl, t, n, mn, mn2, rs, wAll rs false s, vL_Y V1 f2 (fun a q => by unfold inYw at q; omega), V2, z1, z2, z3, z4, z5, z6, o1, f2.1.trans (f1.1.trans hz)⟩
theorem bo_finish (V : vW h Z) : bo mX4_finish mX5_finish [] h Z := by
  obtain ⟨t, n, mn, mn2, rs, s, VL, VQ, z1, z2, z3, z4, z5, z6, o, hz⟩ := id V
  obtain ⟨lt, hct, C⟩ := id VL
  refine ⟨_, C.1, wm_of (p_finish z3 (fun r hr => (z4 r hr).1) VL o) ?_⟩
  rintro v h1 ⟨rfl, V1, o1, f1⟩
  have VQ1 := vQ_X VQ f1
  obtain ⟨y, B, H, -⟩ := id VQ1
  refine ⟨_, _, rfl, vY_74 H, wm_of (r_finish z3 z4 VQ1 o) ?_⟩
  rintro v h2 ⟨rfl, V2, f2⟩
  exact ⟨rfl, t, n, mn, mn2, rs, wAll rs true s, vL_Y V1 f2 (fun a q => by unfold inYw at q; omega), V2, z1, z2, z3, z4, z5, z6, o1, f2.1.trans (f1.1.trans hz)⟩
theorem bo_probe (V : vW h Z) (i : Int32) (last : Bool) : bo mX4_probe mX5_probe [.int i, .int (nI last.toNat)] h Z := by
  obtain ⟨t, n, mn, mn2, rs, s, VL, VQ, z1, z2, z3, z4, z5, z6, o, hz⟩ := id V
  obtain ⟨lt, hct, C⟩ := id VL
  refine ⟨_, C.1, wm_of (p_probe (i := i) (last := last) z3 (fun r hr => (z4 r hr).1) VL o) ?_⟩
  rintro v h1 ⟨rfl, V1, f1⟩
  have VQ1 := vQ_X VQ f1
  obtain ⟨y, B, H, -⟩ := id VQ1
  refine ⟨_, _, rfl, vY_74 H, wm_of (r_probe (i := i) (last := last) VQ1 z3 z4 o.1 o.2.1 o.2.2.1) ?_⟩
  rintro v h2 ⟨rfl, V2, f2⟩
  exact ⟨rfl, t, n, mn, mn2, rs, s, vL_Y V1 f2 (fun a q => by unfold inYw at q; omega), V2, z1, z2, z3, z4, z5, z6, o, f2.1.trans (f1.1.trans hz)⟩
theorem bo_code (V : vW h Z) {c : Nat} (hc : c < 65536) : bo mX4_code mX5_code [.int (nI c)] h Z := by
  obtain ⟨t, n, mn, mn2, rs, s, VL, VQ, z1, z2, z3, z4, z5, z6, o, hz⟩ := id V
  obtain ⟨lt, hct, C⟩ := id VL
  have hwR : ∀ r ∈ rs, wfR r := fun r hr => wfC_R (z4 r hr).1
  refine ⟨_, C.1, wm_of (p_code C z1 z2 z3 hwR hc) ?_⟩
  rintro v h1 ⟨a, t', n', mn', rs', rfl, X, C', f1⟩
  obtain ⟨y, B, H, q0, q1, q2, q5, qR, q6, qT, q7, q8, q9, q10⟩ := vQ_X VQ f1
  subst q2
  refine ⟨_, _, rfl, vY_74 H, wm_of (r_code (sg := sgOf (cRule t n mn)) H z2 q1 (okM_cg z5 z6) z1 q0 z3 q5 qR hwR hc) ?_⟩
  rintro v h2 ⟨a2, t2, n2, y', B', rfl, H2, f2, b0, y0, ky, kB, R', Y⟩
  obtain ⟨e1, e2, e3, e4, e5, e6, e7, e8, e9, e10, e11⟩ := code_same z1 z2 z3 z4 z5 z6 X Y R'
  subst e1
  subst e2
  subst e3
  have V1 : vL h1 t' n' mn' rs' s.2.2.1 s.2.2.2.1 s.2.2.2.2 s.1 s.2.1 := ⟨lt, hct, C'⟩
  refine ⟨rfl, t', n', mn', B' 1, rs', s, vL_Y V1 f2 (fun a q => q.1), ⟨y', B', H2, y0, b0, rfl, e5, e6, (ky 6 (by decide)).trans q6, by rw [kB 16 (by decide)]; exact qT, (ky 7 (by decide)).trans q7, (ky 8 (by decide)).trans q8, (ky 9 (by decide)).trans q9, (ky 10 (by decide)).trans q10⟩, e10, e11, e7, e8, e9, e4, o, f2.1.trans (f1.1.trans hz)⟩
theorem okW_0 : okW ([], 0, 0, -nI 1, 0) := ⟨Nat.zero_le _, Nat.le_refl _, (fun c hc => by cases hc), Nat.zero_le _, by decide⟩
theorem bv_restart (V : vW h Z) : bv mX4_restart mX5_restart h Z := by
  obtain ⟨t, n, mn, mn2, rs, s, VL, VQ, z1, z2, z3, z4, z5, z6, o, hz⟩ := id V
  obtain ⟨lt, hct, C⟩ := id VL
  refine ⟨_, C.1, wm_of (p_restart C) ?_⟩
  rintro v h1 ⟨rfl, C', f1⟩
  obtain ⟨y, B, H, q0, q1, q2, q5, qR, q6, qT, q7, q8, q9, q10⟩ := vQ_X VQ f1
  refine ⟨_, rfl, vY_74 H, wm_of (r_restart H) ?_⟩
  rintro v h2 ⟨rfl, f2, y', H2, e6, e7, e8, e9, e10, ky⟩
  have V1 : vL h1 t n mn rs 0 (-nI 1) 0 [] 0 := ⟨lt, (fun i hi => by cases hi), C'⟩
  exact ⟨rfl, t, n, mn, mn2, rs, ([], 0, 0, -nI 1, 0), vL_Y V1 f2 (fun a q => by unfold inYo at q; omega), ⟨y', B, H2, (ky 0 (by decide)).trans q0, q1, q2, (ky 5 (by decide)).trans q5, qR, e6, (fun i c q => by cases q), e7, e8, e9, e10⟩, z1, z2, z3, z4, z5, z6, okW_0, f2.1.trans (f1.1.trans hz)⟩
theorem bv_forget (V : vW h Z) : bv mX4_forget mX5_forget h Z := by
  obtain ⟨t, n, mn, mn2, rs, s, VL, VQ, z1, z2, z3, z4, z5, z6, o, hz⟩ := id V
  obtain ⟨lt, hct, C⟩ := id VL
  refine ⟨_, C.1, wm_of (p_forget C) ?_⟩
  rintro v h1 ⟨rfl, mn', hm', C', f1⟩
  obtain ⟨y, B, H, q0, q1, q2, q5, qR, q6, qT, q7, q8, q9, q10⟩ := vQ_X VQ f1
  refine ⟨_, rfl, vY_74 H, wm_of (r_forget H) ?_⟩
  rintro v h2 ⟨rfl, f2, y', B', H2, e0, e5, e6, e7, e8, e9, e10, b1, kB, ky⟩
  have V1 : vL h1 t 0 mn' [] 0 (-nI 1) 0 [] 0 := ⟨lt, (fun i hi => by cases hi), C'⟩
  exact ⟨rfl, t, 0, mn', B' 1, [], ([], 0, 0, -nI 1, 0), vL_Y V1 f2 (fun a q => by unfold inYf at q; omega), ⟨y', B', H2, e0, (kB 0 (by decide)).trans q1, rfl, e5, (fun j r q => by simp at q), e6, (fun i c q => by cases q), e7, e8, e9, e10⟩, by decide, z2, by decide, (fun r hr => by cases hr), fun j hj => Or.inl (hm' j hj), fun j hj => by rw [b1 j hj, hm' j hj], okW_0, f2.1.trans (f1.1.trans hz)⟩
theorem bo_write (V : vW h Z) {c : Nat} (hc : c < 65536) : bo mX4_write mX5_write [.int (nI c)] h Z := by
  obtain ⟨t, n, mn, mn2, rs, s, VL, VQ, z1, z2, z3, z4, z5, z6, o, hz⟩ := id V
  obtain ⟨lt, hct, C⟩ := id VL
  obtain ⟨tx, pl, ap, lat, sk⟩ := s
  obtain ⟨o1, o2, o3, o4, o5⟩ := id o
  dsimp only at VL VQ hct C o1 o2 o3 o4 o5
  refine ⟨_, C.1, wm_of (p_write C o1 o5 hc) ?_⟩
  rintro v h1 ⟨rfl, C', f1⟩
  have VQ1 := vQ_X VQ f1
  obtain ⟨y, B, H, q0, q1, q2, q5, qR, q6, qT, q7, q8, q9, q10⟩ := id VQ1
  refine ⟨_, _, rfl, vY_74 H, wm_of (r_write (sk := decide (sk = 1)) H hc q6 o1 (q10.trans (sk_b o5))) ?_⟩
  intro v h2 Y
  by_cases e : sk = 0 ∧ sml c = true ∧ tx.length < 60
  · rw [if_pos ⟨e.2.1, e.2.2, by rw [e.1]; rfl⟩] at Y
    obtain ⟨rfl, f2, H2⟩ := Y
    rw [if_pos e, if_pos e] at C'
    have hct2 : ct (tx ++ [c]) (va_up lt tx.length c) := by
      intro i hi
      unfold va_up
      by_cases q : i = tx.length
      · subst q
        rw [if_pos rfl]
        simp
      · rw [if_neg q]
        rw [List.length_append, List.length_singleton] at hi
        rw [List.getElem?_append_left (by omega)]
        exact hct i (by omega)
    have V1 : vL h1 t n mn rs ap lat sk (tx ++ [c]) pl := ⟨_, hct2, by rw [List.length_append, List.length_singleton]; exact C'⟩
    refine ⟨by rw [decide_eq_true e]; rfl, t, n, mn, mn2, rs, (tx ++ [c], pl, ap, lat, sk), vL_Y V1 f2 (fun a q => by omega), ⟨_, _, H2, q0, q1, q2, q5, fun j r hr => yR_6 (qR j r hr) (fun k h1 h2 => va_up_ne _ _ (by omega)), ?_, ?_, q7, q8, q9, q10⟩, z1, z2, z3, z4, z5, z6, ⟨?_, ?_, ?_, o4, o5⟩, f2.1.trans (f1.1.trans hz)⟩
    · rw [List.length_append, List.length_singleton]
      rfl
    · exact fY_push qT c
    · show (tx ++ [c]).length ≤ 60
      rw [List.length_append, List.length_singleton]
      omega
    · show pl ≤ (tx ++ [c]).length
      rw [List.length_append]
      omega
    · intro d hd
      rcases List.mem_append.mp hd with q | q
      · exact o3 d q
      · rw [List.mem_singleton.mp q]
        exact sml_le e.2.1
  · rw [if_neg (fun z => e ⟨by have := z.2.2; rw [decide_eq_false_iff_not] at this; omega, z.1, z.2.1⟩)] at Y
    obtain ⟨rfl, rfl⟩ := Y
    rw [if_neg e, if_neg e] at C'
    exact ⟨by rw [decide_eq_false e]; rfl, t, n, mn, mn2, rs, (tx, pl, ap, lat, sk), ⟨lt, hct, C'⟩, VQ1, z1, z2, z3, z4, z5, z6, o, f1.1.trans hz⟩
end CA
