theorem wb_tb (n : Nat) : (lN n).toBitVec = BitVec.ofNat 64 n := rfl
theorem wb_inj {a b : Int64} (h : a.toBitVec = b.toBitVec) : a = b := Int64.toBitVec_inj.mp h
theorem wb_tn {n : Nat} (h : n < 2 ^ 64) : (lN n).toBitVec.toNat = n := by rw [wb_tb, BitVec.toNat_ofNat, Nat.mod_eq_of_lt h]
theorem wb_of (x : Int64) : ∃ n, n < 2 ^ 64 ∧ x = lN n := ⟨x.toBitVec.toNat, x.toBitVec.isLt, wb_inj (by rw [wb_tb]; simp)⟩
theorem wb_of32 (x : Int32) : ∃ n, n < 2 ^ 32 ∧ x = nI n := ⟨x.toBitVec.toNat, x.toBitVec.isLt, Int32.toBitVec_inj.mp (by show _ = BitVec.ofNat 32 _; simp)⟩
theorem wb_c : ∀ k, k < 64 → ((nI k).toInt64 &&& 63) = lN k := by decide +kernel
theorem wb_cu : ∀ k, k < 64 → ((nI k).toInt64.toUInt64 &&& Int64.toUInt64 63) = UInt64.ofNat k := by decide +kernel
theorem wb_sm : ∀ k, k < 64 → (BitVec.ofNat 64 k).smod 64 = BitVec.ofNat 64 k := by decide +kernel
theorem wb_pw {a b : Nat} (h : a ≤ b) : 2 ^ b = 2 ^ a * 2 ^ (b - a) := by rw [← Nat.pow_add]; congr 1; omega
theorem wb_lt2 {a b : Nat} (h : a < b) : 2 ^ a < 2 ^ b := Nat.pow_lt_pow_right (by decide) h
theorem wb_mod (n : Nat) : lN n = lN (n % 2 ^ 64) := wb_inj (by rw [wb_tb, wb_tb]; apply BitVec.eq_of_toNat_eq; rw [BitVec.toNat_ofNat, BitVec.toNat_ofNat, Nat.mod_mod])
theorem wb_shr {n k : Nat} (hn : n < 2 ^ 64) (hk : k < 64) : ((lN n).toUInt64 >>> ((nI k).toInt64.toUInt64 &&& Int64.toUInt64 63)).toInt64 = lN (n / 2 ^ k) := by
  rw [wb_cu k hk]
  apply wb_inj
  apply BitVec.eq_of_toNat_eq
  show ((lN n).toUInt64 >>> UInt64.ofNat k).toNat = (BitVec.ofNat 64 _).toNat
  have h1 : (UInt64.ofNat k).toNat = k := by
    show (BitVec.ofNat 64 k).toNat = k
    rw [BitVec.toNat_ofNat, Nat.mod_eq_of_lt (by omega)]
  have h2 : (lN n).toUInt64.toNat = n := wb_tn hn
  rw [UInt64.toNat_shiftRight, h1, h2, Nat.mod_eq_of_lt hk, Nat.shiftRight_eq_div_pow, BitVec.toNat_ofNat, Nat.mod_eq_of_lt (Nat.lt_of_le_of_lt (Nat.div_le_self _ _) hn)]
theorem wb_shl (n : Nat) {k : Nat} (hk : k < 64) : lN n <<< ((nI k).toInt64 &&& 63) = lN (n * 2 ^ k) := by
  rw [wb_c k hk]
  apply wb_inj
  rw [Int64.toBitVec_shiftLeft, wb_tb, wb_tb, wb_tb, wb_sm k hk]
  apply BitVec.eq_of_toNat_eq
  rw [BitVec.shiftLeft_eq', BitVec.toNat_shiftLeft, BitVec.toNat_ofNat, BitVec.toNat_ofNat, BitVec.toNat_ofNat, Nat.mod_eq_of_lt (show k < 2 ^ 64 by omega), Nat.shiftLeft_eq, Nat.mul_mod, Nat.mod_mod, ← Nat.mul_mod]
theorem wb_and {a b : Nat} (ha : a < 2 ^ 64) (hb : b < 2 ^ 64) : lN a &&& lN b = lN (a &&& b) := by
  apply wb_inj
  rw [Int64.toBitVec_and, wb_tb, wb_tb, wb_tb]
  apply BitVec.eq_of_toNat_eq
  rw [BitVec.toNat_and, BitVec.toNat_ofNat, BitVec.toNat_ofNat, BitVec.toNat_ofNat, Nat.mod_eq_of_lt ha, Nat.mod_eq_of_lt hb, Nat.mod_eq_of_lt (Nat.and_lt_two_pow _ hb)]
theorem wb_or {a b : Nat} (ha : a < 2 ^ 64) (hb : b < 2 ^ 64) : lN a ||| lN b = lN (a ||| b) := by
  apply wb_inj
  rw [Int64.toBitVec_or, wb_tb, wb_tb, wb_tb]
  apply BitVec.eq_of_toNat_eq
  rw [BitVec.toNat_or, BitVec.toNat_ofNat, BitVec.toNat_ofNat, BitVec.toNat_ofNat, Nat.mod_eq_of_lt ha, Nat.mod_eq_of_lt hb, Nat.mod_eq_of_lt (Nat.or_lt_two_pow ha hb)]
theorem wb_mask {n k : Nat} (hn : n < 2 ^ 64) (hk : k < 64) : lN n &&& lN (2 ^ k - 1) = lN (n % 2 ^ k) := by
  rw [wb_and hn (by have := wb_lt2 hk; omega), Nat.and_two_pow_sub_one_eq_mod]
theorem wb_a1 {n : Nat} (hn : n < 2 ^ 64) : lN n &&& 1 = lN (n % 2) := wb_mask (k := 1) hn (by decide)
theorem wb_bit {n k : Nat} (hn : n < 2 ^ 64) (hk : k < 64) : ((lN n).toUInt64 >>> ((nI k).toInt64.toUInt64 &&& Int64.toUInt64 63)).toInt64 &&& 1 = lN (n / 2 ^ k % 2) := by
  rw [wb_shr hn hk, wb_a1 (Nat.lt_of_le_of_lt (Nat.div_le_self _ _) hn)]
theorem wb_xor {q k : Nat} (hk : k < 63) (h : 2 ^ k ≤ q) (h2 : q < 2 ^ (k + 1)) : lN q ^^^ lN (2 ^ k) = lN (q - 2 ^ k) := by
  obtain ⟨r, rfl⟩ : ∃ r, q = 2 ^ k + r := ⟨q - 2 ^ k, by omega⟩
  have hr : r < 2 ^ k := by rw [Nat.pow_succ] at h2; omega
  have hx : (2 ^ k + r) ^^^ 2 ^ k = r := by
    apply Nat.eq_of_testBit_eq
    intro i
    rw [Nat.testBit_xor, Nat.testBit_two_pow]
    rcases Nat.lt_trichotomy i k with h | h | h
    · rw [Nat.testBit_two_pow_add_gt h]
      simp [show ¬ k = i by omega]
    · subst h
      rw [Nat.testBit_two_pow_add_eq]
      simp
    · have a1 : 2 ^ (k + 1) ≤ 2 ^ i := Nat.pow_le_pow_right (by decide) h
      rw [Nat.testBit_lt_two_pow (show 2 ^ k + r < 2 ^ i by omega), Nat.testBit_lt_two_pow (show r < 2 ^ i by omega)]
      simp [show ¬ k = i by omega]
  have b1 := wb_lt2 (show k + 1 < 64 by omega)
  have b2 := wb_lt2 (show k < 64 by omega)
  apply wb_inj
  rw [Int64.toBitVec_xor, wb_tb, wb_tb, wb_tb]
  apply BitVec.eq_of_toNat_eq
  rw [BitVec.toNat_xor, BitVec.toNat_ofNat, BitVec.toNat_ofNat, BitVec.toNat_ofNat, Nat.mod_eq_of_lt (by omega : 2 ^ k + r < 2 ^ 64), Nat.mod_eq_of_lt b2, hx, Nat.add_sub_cancel_left, Nat.mod_eq_of_lt (by omega)]
/-! shifts of sizes, the row, the number of digits -/
theorem l_shr {D k : Nat} (hD : D < 2 ^ 63) (hk : k < 64) : lN D >>> ((nI k).toInt64 &&& 63) = lN (D / 2 ^ k) := by
  rw [wb_c k hk]
  apply wb_inj
  rw [Int64.toBitVec_shiftRight, wb_tb k, wb_sm k hk, BitVec.sshiftRight_eq', BitVec.toNat_ofNat, Nat.mod_eq_of_lt (show k < 2 ^ 64 by omega)]
  apply BitVec.eq_of_toInt_eq
  rw [BitVec.toInt_sshiftRight]
  show (lN D).toInt >>> k = (lN (D / 2 ^ k)).toInt
  have h1 : D / 2 ^ k ≤ D := Nat.div_le_self _ _
  rw [pk_lT hD, pk_lT (by omega)]
  show ((D >>> k : Nat) : Int) = _
  rw [Nat.shiftRight_eq_div_pow]
def rowN (M : Nat) : Nat := M * 2 ^ dbl M / 2 ^ 27 % 16
theorem rowN_lt (M : Nat) : rowN M < 16 := Nat.mod_lt _ (by decide)
theorem d_eq {M : Nat} {p : Int64} (hp : p = lN M) : p <<< ((nI (dbl M)).toInt64 &&& 63) = lN (M * 2 ^ dbl M) := by
  rw [hp, wb_shl M (by have := dbl_le M; omega)]
theorem d_sh {M : Nat} {p : Int64} (hp : p = lN M) (h2 : M ≤ 2147483648) : ((p <<< ((nI (dbl M)).toInt64 &&& 63)) >>> (((27 : Int32)).toInt64 &&& 63)).toInt32 = nI (M * 2 ^ dbl M / 2 ^ 27) := by
  have h := dbl_lt h2
  have e : (27 : Int32) = nI 27 := rfl
  rw [d_eq hp, e, l_shr (by omega) (by decide), lN_i]
theorem row_C {M : Nat} {p : Int64} (hp : p = lN M) (h2 : M ≤ 2147483648) : fX0_begin_c75 M p = nI (rowN M) := by
  unfold fX0_begin_c75
  rw [d_sh hp h2]
  have h := dbl_lt h2
  exact pk_andN (by omega) (m := 15) 4 (by decide)
theorem row_M {M : Nat} {p : Int64} (hp : p = lN M) (h2 : M ≤ 2147483648) : (((p <<< ((nI (dbl M)).toInt64 &&& 63)) >>> (((27 : Int32)).toInt64 &&& 63)).toInt32) - (((p <<< ((nI (dbl M)).toInt64 &&& 63)) >>> (((27 : Int32)).toInt64 &&& 63)).toInt32) / 16 * 16 = nI (rowN M) := by
  have h := dbl_lt h2
  have e : (16 : Int32) = nI 16 := rfl
  rw [d_sh hp h2, e, pk_rem (by omega) (by decide) (by decide)]
  rfl
theorem work_n {P M : Nat} (h : dbl P ≤ dbl M) : (((nI (dbl M)) - (nI (dbl P))) + (if (((nI (dbl M)) - (nI (dbl P))) - ((nI (dbl M)) - (nI (dbl P))) / 2 * 2) = 0 then 2 else 3)) / 2 = nI (nN P M) := by
  have h2 := dbl_le M
  unfold nN
  generalize dbl M = b at h h2 ⊢
  generalize dbl P = a at h ⊢
  have key : ∀ b, b < 32 → ∀ a, a < 32 → a ≤ b → (((nI b) - (nI a)) + (if (((nI b) - (nI a)) - ((nI b) - (nI a)) / 2 * 2) = 0 then 2 else 3)) / 2 = nI ((b - a + (if (b - a) % 2 = 0 then 2 else 3)) / 2) := by decide +kernel
  exact key b (by omega) a (by omega) h
theorem le_of_n64 {P M : Nat} {p m : Int64} (hp : p = lN P) (hm : m = lN M) (hP : P ≤ 2147483648) (hM : M ≤ 2147483648) (h : ¬ p < m) : M ≤ P := by
  rw [hp, hm, pk_lLT (by omega) (by omega)] at h
  omega
theorem clampM (x : Int32) : ∃ k : Nat, k < 128 ∧ (if (-64) ≤ x then (if x ≤ 63 then x else 63) else (-64)) = nI k - 64 := by
  have e2 : (-64 : Int32).toInt = -64 := rfl
  have e3 : (63 : Int32).toInt = 63 := rfl
  by_cases h : (-64) ≤ x
  · rw [if_pos h]
    by_cases h' : x ≤ 63
    · rw [if_pos h']; exact col_of (by have := i_le h; omega) (by have := i_le h'; omega)
    · rw [if_neg h']; exact col_of (by omega) (by omega)
  · rw [if_neg h]; exact col_of (by omega) (by omega)
theorem next_in {S : MV} {x : Int32} {M : Nat} (hu : vp_in (mv1 S) 4) (hr : mv3 S = nI (rowN M)) : vp_in (fX2_cellAt (mv1 S) (mv3 S) (fX2_nextDigit_j68 S x)) 8192 := by
  obtain ⟨k, hk, ek⟩ := clampM (fX2_nextDigit_c40 S x)
  have e2 : fX2_nextDigit_j68 S x = nI k - 64 := ek
  obtain ⟨t, ht, et⟩ := vp_in_of hu (by decide)
  have := rowN_lt M
  rw [hr, e2, et, cM]
  exact vp_in_nI (by omega) (by decide)
theorem next_1 (S : MV) (x : Int32) (d : Int64) : mv1 (gX2_nextDigit S x d) = mv1 S := by unfold gX2_nextDigit; (repeat' split) <;> rfl
theorem next_2 (S : MV) (x : Int32) (d : Int64) : mv2 (gX2_nextDigit S x d) = mv2 S := by unfold gX2_nextDigit; (repeat' split) <;> rfl
theorem next_3 (S : MV) (x : Int32) (d : Int64) : mv3 (gX2_nextDigit S x d) = mv3 S := by unfold gX2_nextDigit; (repeat' split) <;> rfl
theorem next_5 (S : MV) (x : Int32) (d : Int64) : mv5 (gX2_nextDigit S x d) = mv5 S := by unfold gX2_nextDigit; (repeat' split) <;> rfl
