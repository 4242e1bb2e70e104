/-! numbers as nI of a natural number -/
theorem l_0 : (0 : Int32) = nI 0 := rfl
theorem l_1 : (1 : Int32) = nI 1 := rfl
theorem l_2 : (2 : Int32) = nI 2 := rfl
theorem l_3 : (3 : Int32) = nI 3 := rfl
theorem l_4 : (4 : Int32) = nI 4 := rfl
theorem l_8 : (8 : Int32) = nI 8 := rfl
theorem l_9 : (9 : Int32) = nI 9 := rfl
theorem l_10 : (10 : Int32) = nI 10 := rfl
theorem l_12 : (12 : Int32) = nI 12 := rfl
theorem l_13 : (13 : Int32) = nI 13 := rfl
theorem l_15 : (15 : Int32) = nI 15 := rfl
theorem l_26 : (26 : Int32) = nI 26 := rfl
theorem l_32 : (32 : Int32) = nI 32 := rfl
theorem l_40 : (40 : Int32) = nI 40 := rfl
theorem l_41 : (41 : Int32) = nI 41 := rfl
theorem l_42 : (42 : Int32) = nI 42 := rfl
theorem l_43 : (43 : Int32) = nI 43 := rfl
theorem l_45 : (45 : Int32) = nI 45 := rfl
theorem l_46 : (46 : Int32) = nI 46 := rfl
theorem l_48 : (48 : Int32) = nI 48 := rfl
theorem l_49 : (49 : Int32) = nI 49 := rfl
theorem l_50 : (50 : Int32) = nI 50 := rfl
theorem l_51 : (51 : Int32) = nI 51 := rfl
theorem l_59 : (59 : Int32) = nI 59 := rfl
theorem l_60 : (60 : Int32) = nI 60 := rfl
theorem l_61 : (61 : Int32) = nI 61 := rfl
theorem l_62 : (62 : Int32) = nI 62 := rfl
theorem l_63 : (63 : Int32) = nI 63 := rfl
theorem l_65 : (65 : Int32) = nI 65 := rfl
theorem l_90 : (90 : Int32) = nI 90 := rfl
theorem l_91 : (91 : Int32) = nI 91 := rfl
theorem l_93 : (93 : Int32) = nI 93 := rfl
theorem l_94 : (94 : Int32) = nI 94 := rfl
theorem l_96 : (96 : Int32) = nI 96 := rfl
theorem l_97 : (97 : Int32) = nI 97 := rfl
theorem l_100 : (100 : Int32) = nI 100 := rfl
theorem l_122 : (122 : Int32) = nI 122 := rfl
theorem l_123 : (123 : Int32) = nI 123 := rfl
theorem l_124 : (124 : Int32) = nI 124 := rfl
theorem l_125 : (125 : Int32) = nI 125 := rfl
theorem l_126 : (126 : Int32) = nI 126 := rfl
theorem l_161 : (161 : Int32) = nI 161 := rfl
theorem l_1000 : (1000 : Int32) = nI 1000 := rfl
theorem l_67108863 : (67108863 : Int32) = nI 67108863 := rfl
theorem q_lt {a b : Nat} (ha : a < 2147483648) (hb : b < 2147483648) : (nI a < nI b) = (a < b) := propext (nI_ltI ha hb)
theorem q_le {a b : Nat} (ha : a < 2147483648) (hb : b < 2147483648) : (nI a ≤ nI b) = (a ≤ b) := propext (nI_leI ha hb)
theorem q_eq {a b : Nat} (ha : a < 2147483648) (hb : b < 2147483648) : (nI a = nI b) = (a = b) := propext (nI_eq ha hb)
theorem q_clamp {a : Nat} (ha : a < 2147483648) : (nI a).toNatClampNeg = a := nI_clamp ha
theorem q_add (a b : Nat) : nI a + nI b = nI (a + b) := nI_add a b
theorem q_sub {a b : Nat} (h : b ≤ a) : nI a - nI b = nI (a - b) := by
  have : nI a = nI (a - b) + nI b := by rw [q_add, Nat.sub_add_cancel h]
  rw [this, Int32.add_sub_cancel]
theorem q_nc {a : Nat} (ha : a < 65536) : narrow .char (.int (nI a)) = .int (nI a) := by
  have h8 : (UInt32.ofNat a).toUInt16.toUInt32 = UInt32.ofNat a := by
    apply UInt32.toNat_inj.mp
    simp only [UInt16.toNat_toUInt32, UInt32.toNat_toUInt16, UInt32.toNat_ofNat']
    omega
  have h9 : (nI a).toUInt32.toUInt16.toUInt32.toInt32 = nI a := by
    show (UInt32.ofNat a).toUInt16.toUInt32.toInt32 = (UInt32.ofNat a).toInt32
    rw [h8]
  show Value.int _ = _
  rw [h9]
theorem q_nar {a : Nat} (ha : a < 65536) : vp_nar .char (nI a) = nI a := by
  unfold vp_nar
  rw [q_nc ha]
theorem q_nb {a : Nat} (ha : a < 2) : narrow .boolean (.int (nI a)) = .int (nI a) := by
  rcases (show a = 0 ∨ a = 1 by omega) with rfl | rfl <;> rfl
theorem q_fb {a : Nat} (ha : a < 2) : fits .boolean (.int (nI a)) = true := by
  rcases (show a = 0 ∨ a = 1 by omega) with rfl | rfl <;> rfl
theorem q_ni (x : Int32) : (narrow .int (.int x) = .int x) = True := eq_true rfl
theorem q_fi (x : Int32) : (fits .int (.int x) = true) = True := eq_true rfl
theorem q_fc {a : Nat} (ha : a < 65536) : fits .char (.int (nI a)) = true := by
  have h1 : (0 : Int32) ≤ nI a := nI_pos' (by omega)
  have h2 : nI a ≤ 65535 := by
    show nI a ≤ nI 65535
    rw [q_le (by omega) (by decide)]
    omega
  simp [fits, h1, h2]
theorem q_upd (t : Nat → Nat) (k v : Nat) : upd (fun i => nI (t i)) k (nI v) = fun i => nI (va_up t k v i) := by
  funext i
  unfold upd va_up
  split <;> rfl
theorem q_nb0 : (narrow .boolean (.int (nI 0)) = .int (nI 0)) = True := eq_true rfl
theorem q_nb1 : (narrow .boolean (.int (nI 1)) = .int (nI 1)) = True := eq_true rfl
theorem q_fb0 : (fits .boolean (.int (nI 0)) = true) = True := eq_true rfl
theorem q_fb1 : (fits .boolean (.int (nI 1)) = true) = True := eq_true rfl
