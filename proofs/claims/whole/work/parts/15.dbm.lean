theorem dbm_b {V i : Nat} (hV : V ≤ 2147483648) (hi : i ≤ 31) : V * 2 ^ i < 2 ^ 63 := by
  have : 2 ^ i ≤ 2 ^ 31 := Nat.pow_le_pow_right (by decide) hi
  calc V * 2 ^ i ≤ 2147483648 * 2 ^ 31 := Nat.mul_le_mul hV this
    _ < 2 ^ 63 := by decide
theorem dbm_step {V i : Nat} {w : Int64} (iw : w = lN (V * 2 ^ i)) : 2 * w = lN (V * 2 ^ (i + 1)) := by
  have e : (2 : Int64) = lN 2 := rfl
  rw [iw, e, lN_mul, Nat.pow_succ, Nat.mul_comm 2, Nat.mul_assoc]
theorem dbm_cmp {V i : Nat} {w : Int64} (hV : V ≤ 2147483648) (hi : i ≤ 31) (iw : w = lN (V * 2 ^ i)) : (2147483648 : Int64) ≤ w ↔ 2147483648 ≤ V * 2 ^ i := by
  have e : (2147483648 : Int64) = lN 2147483648 := rfl
  rw [iw, e, pk_lLE (by decide) (dbm_b hV hi)]
theorem dbm_lt {V i : Nat} {w : Int64} (hV : V ≤ 2147483648) (hV1 : 1 ≤ V) (hi : i ≤ 31) (iw : w = lN (V * 2 ^ i)) (c : ¬ (2147483648 : Int64) ≤ w) : i < 31 := by
  rw [dbm_cmp hV hi iw] at c
  rcases Nat.lt_or_ge i 31 with h | h
  · exact h
  · have e : i = 31 := by omega
    subst e
    omega
theorem dbm_stop {V i : Nat} {w : Int64} (hV : V ≤ 2147483648) (hi : i ≤ 31) (iw : w = lN (V * 2 ^ i)) (c : (2147483648 : Int64) ≤ w) : ¬ V * 2 ^ (i + 1) < 4294967296 := by
  rw [dbm_cmp hV hi iw] at c
  rw [Nat.pow_succ, ← Nat.mul_assoc]
  omega
theorem dbm_go {V i : Nat} {w : Int64} (hV : V ≤ 2147483648) (hi : i < 31) (iw : w = lN (V * 2 ^ i)) (c : ¬ (2147483648 : Int64) ≤ w) : dblF V (31 - (i + 1)) (i + 1) = dblF V (31 - i) i := by
  rw [dbm_cmp hV (by omega) iw] at c
  have h : V * 2 ^ (i + 1) < 4294967296 := by rw [Nat.pow_succ, ← Nat.mul_assoc]; omega
  rw [show 31 - i = 31 - (i + 1) + 1 by omega, dblF_go h]
