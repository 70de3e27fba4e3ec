/-! carry-save sums, shifts, clamps: the words of one digit -/
theorem n_csa : ∀ n a b c : Nat, a < 2 ^ n → b < 2 ^ n → c < 2 ^ n → ((a ^^^ b) ^^^ c) + 2 * (((a &&& b) ||| (a &&& c)) ||| (b &&& c)) = a + b + c := by
  intro n
  induction n with
  | zero =>
    intro a b c ha hb hc
    have e1 : a = 0 := by omega
    have e2 : b = 0 := by omega
    have e3 : c = 0 := by omega
    subst e1; subst e2; subst e3; rfl
  | succ n ih =>
    intro a b c ha hb hc
    rw [Nat.pow_succ] at ha hb hc
    have ih := ih (a / 2) (b / 2) (c / 2) (by omega) (by omega) (by omega)
    have x1 : ((a ^^^ b) ^^^ c) / 2 = (a / 2 ^^^ b / 2) ^^^ c / 2 := by rw [Nat.xor_div_two, Nat.xor_div_two]
    have m1 : (((a &&& b) ||| (a &&& c)) ||| (b &&& c)) / 2 = ((a / 2 &&& b / 2) ||| (a / 2 &&& c / 2)) ||| (b / 2 &&& c / 2) := by rw [Nat.or_div_two, Nat.or_div_two, Nat.and_div_two, Nat.and_div_two, Nat.and_div_two]
    have x0 : ((a ^^^ b) ^^^ c) % 2 = (a % 2 ^^^ b % 2) ^^^ c % 2 := by
      have h := Nat.xor_mod_two_pow (a := a ^^^ b) (b := c) (n := 1)
      have h2 := Nat.xor_mod_two_pow (a := a) (b := b) (n := 1)
      rw [Nat.pow_one] at h h2
      rw [h, h2]
    have m0 : (((a &&& b) ||| (a &&& c)) ||| (b &&& c)) % 2 = ((a % 2 &&& b % 2) ||| (a % 2 &&& c % 2)) ||| (b % 2 &&& c % 2) := by
      have h := Nat.or_mod_two_pow (a := (a &&& b) ||| (a &&& c)) (b := b &&& c) (n := 1)
      have h1 := Nat.or_mod_two_pow (a := (a &&& b)) (b := (a &&& c)) (n := 1)
      have h2 := Nat.and_mod_two_pow (a := a) (b := b) (n := 1)
      have h3 := Nat.and_mod_two_pow (a := a) (b := c) (n := 1)
      have h4 := Nat.and_mod_two_pow (a := b) (b := c) (n := 1)
      rw [Nat.pow_one] at h h1 h2 h3 h4
      rw [h, h1, h2, h3, h4]
    have lo : ∀ x, x < 2 → ∀ y, y < 2 → ∀ z, z < 2 → ((x ^^^ y) ^^^ z) + 2 * (((x &&& y) ||| (x &&& z)) ||| (y &&& z)) = x + y + z := by decide
    have lo := lo (a % 2) (by omega) (b % 2) (by omega) (c % 2) (by omega)
    rw [← x1, ← m1] at ih
    rw [← x0, ← m0] at lo
    omega
theorem wb_xorN {a b : Nat} (ha : a < 2 ^ 64) (hb : b < 2 ^ 64) : lN a ^^^ lN b = lN (a ^^^ b) := by
  apply wb_inj
  rw [Int64.toBitVec_xor, wb_tb, wb_tb, wb_tb]
  apply BitVec.eq_of_toNat_eq
  rw [BitVec.toNat_xor, BitVec.toNat_ofNat, BitVec.toNat_ofNat, BitVec.toNat_ofNat, Nat.mod_eq_of_lt ha, Nat.mod_eq_of_lt hb, Nat.mod_eq_of_lt (Nat.xor_lt_two_pow ha hb)]
theorem l_csa (x y z : Int64) : ((x ^^^ y) ^^^ z) + 2 * (((x &&& y) ||| (x &&& z)) ||| (y &&& z)) = x + y + z := by
  obtain ⟨a, ha, rfl⟩ := wb_of x
  obtain ⟨b, hb, rfl⟩ := wb_of y
  obtain ⟨c, hc, rfl⟩ := wb_of z
  have e2 : (2 : Int64) = lN 2 := rfl
  rw [wb_xorN ha hb, wb_xorN (Nat.xor_lt_two_pow ha hb) hc, wb_and ha hb, wb_and ha hc, wb_and hb hc, wb_or (Nat.and_lt_two_pow a hb) (Nat.and_lt_two_pow a hc), wb_or (Nat.or_lt_two_pow (Nat.and_lt_two_pow a hb) (Nat.and_lt_two_pow a hc)) (Nat.and_lt_two_pow b hc), e2, lN_mul, lN_add, lN_add, lN_add, n_csa 64 a b c ha hb hc]
theorem shl2 (x : Int64) : x <<< (((2 : Int32)).toInt64 &&& 63) = 4 * x := by
  obtain ⟨a, ha, rfl⟩ := wb_of x
  have e2 : (2 : Int32) = nI 2 := rfl
  have e4 : (4 : Int64) = lN 4 := rfl
  rw [e2, wb_shl a (by decide), e4, lN_mul, Nat.mul_comm]
theorem shl1 (x : Int64) : x <<< (((1 : Int32)).toInt64 &&& 63) = 2 * x := by
  obtain ⟨a, ha, rfl⟩ := wb_of x
  have e2 : (1 : Int32) = nI 1 := rfl
  have e4 : (2 : Int64) = lN 2 := rfl
  rw [e2, wb_shl a (by decide), e4, lN_mul, Nat.mul_comm]
theorem mul8 {k : Int32} (h1 : -2 ≤ k.toInt) (h2 : k.toInt ≤ 2) : ((-8) * k).toInt64 = (-8) * k.toInt64 := by
  rcases d5 h1 h2 with rfl | rfl | rfl | rfl | rfl <;> decide
theorem clamp_eq (x : Int32) : (if (-64) < (if x < 63 then x else 63) then (if x < 63 then x else 63) else (-64)) = (if (-64) ≤ x then (if x ≤ 63 then x else 63) else (-64)) := by
  have e1 : (-64 : Int32).toInt = -64 := rfl
  have e2 : (63 : Int32).toInt = 63 := rfl
  by_cases h1 : x < 63
  · have h1' := i_lt h1
    rw [if_pos h1, if_pos (c := x ≤ 63) (Int32.le_iff_toInt_le.mpr (by omega))]
    by_cases h2 : (-64) ≤ x
    · rw [if_pos h2]
      have h2' := i_le h2
      by_cases h3 : (-64) < x
      · rw [if_pos h3]
      · rw [if_neg h3]
        have h3' := i_nlt h3
        exact Int32.toInt_inj.mp (by omega)
    · have h2' := i_nle h2
      rw [if_neg h2, if_neg (fun q => by have := i_lt q; omega)]
  · have h1' := i_nlt h1
    rw [if_neg h1, if_pos (by decide), if_pos (Int32.le_iff_toInt_le.mpr (by omega))]
    by_cases h2 : x ≤ 63
    · rw [if_pos h2]
      have h2' := i_le h2
      exact Int32.toInt_inj.mp (by omega)
    · rw [if_neg h2]
/-! longs by their ints -/
theorem l_lt {x y : Int64} : x < y ↔ x.toInt < y.toInt := Int64.lt_iff_toInt_lt
theorem l_le {x y : Int64} : x ≤ y ↔ x.toInt ≤ y.toInt := Int64.le_iff_toInt_le
theorem l_add {x y : Int64} (h1 : -9223372036854775808 ≤ x.toInt + y.toInt) (h2 : x.toInt + y.toInt < 9223372036854775808) : (x + y).toInt = x.toInt + y.toInt := by
  rw [Int64.toInt_add]
  exact Int.bmod_eq_of_le (m := 18446744073709551616) (by omega) (by omega)
theorem l_mul {x y : Int64} (h1 : -9223372036854775808 ≤ x.toInt * y.toInt) (h2 : x.toInt * y.toInt < 9223372036854775808) : (x * y).toInt = x.toInt * y.toInt := by
  rw [Int64.toInt_mul]
  generalize x.toInt * y.toInt = z at h1 h2 ⊢
  exact Int.bmod_eq_of_le (m := 18446744073709551616) (by omega) (by omega)
theorem l_neg {x : Int64} (h1 : -9223372036854775808 < x.toInt) : (-x).toInt = -x.toInt := by
  have h2 := Int64.toInt_lt x
  rw [Int64.toInt_neg]
  exact Int.bmod_eq_of_le (m := 18446744073709551616) (by omega) (by omega)
/-- the two tests of the bound agree where nothing wraps -/
theorem left_eq {w : Int64} {D : Nat} (hD : D < 4294967296) (h1 : -4611686018427387904 < 3 * w.toInt) (h2 : 3 * w.toInt < 4611686018427387904) :
    ((3 * (if 0 < w then w else -w) ≤ 16 * lN D ↔ 3 * w.toInt.natAbs ≤ 16 * D) ∧ (((16 * lN D) / 3 < w) ↔ (16 * D : Int) < 3 * w.toInt) ∧ (-((16 * lN D) / 3) ≤ w ↔ -(16 * D : Int) ≤ 3 * w.toInt)) := by
  have e16 : (16 : Int64) = lN 16 := rfl
  have e3 : (3 : Int64) = lN 3 := rfl
  have eD : (16 * lN D).toInt = 16 * D := by rw [e16, lN_mul, pk_lT (by omega)]; omega
  have eQ : ((16 * lN D) / 3).toInt = ((16 * D / 3 : Nat) : Int) := by rw [e16, lN_mul, e3, pk_lDiv (by omega) (by decide) (by decide), pk_lT (by omega)]
  have t3 : (3 : Int64).toInt = 3 := rfl
  have t0 : (0 : Int64).toInt = 0 := rfl
  refine ⟨?_, ?_, ?_⟩
  · by_cases q : 0 < w
    · have q' := l_lt.mp q
      rw [if_pos q, l_le, eD, l_mul (by rw [t3]; omega) (by rw [t3]; omega), t3]
      omega
    · have q' : ¬ (0 : Int64).toInt < w.toInt := fun z => q (l_lt.mpr z)
      have en := l_neg (x := w) (by omega)
      rw [if_neg q, l_le, eD, l_mul (by rw [t3, en]; omega) (by rw [t3, en]; omega), t3, en]
      omega
  · rw [l_lt, eQ]
    omega
  · rw [l_le, l_neg (by rw [eQ]; omega), eQ]
    omega
