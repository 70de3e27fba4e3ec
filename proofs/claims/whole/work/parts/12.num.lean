/-! numbers: ranges of cells, of tables, of doublings -/
theorem i_lt {x y : Int32} (h : x < y) : x.toInt < y.toInt := Int32.lt_iff_toInt_lt.mp h
theorem i_le {x y : Int32} (h : x ≤ y) : x.toInt ≤ y.toInt := Int32.le_iff_toInt_le.mp h
theorem i_nlt {x y : Int32} (h : ¬ x < y) : y.toInt ≤ x.toInt := by
  have : ¬ x.toInt < y.toInt := fun q => h (Int32.lt_iff_toInt_lt.mpr q)
  omega
theorem i_nle {x y : Int32} (h : ¬ x ≤ y) : y.toInt < x.toInt := by
  have : ¬ x.toInt ≤ y.toInt := fun q => h (Int32.le_iff_toInt_le.mpr q)
  omega
theorem i_rng (x : Int32) : -2147483648 ≤ x.toInt ∧ x.toInt < 2147483648 := ⟨Int32.le_toInt x, Int32.toInt_lt x⟩
theorem mt_vp {x : Int32} (h : ¬ fX2_isTable x = 0) : vp_in x 4 := by
  rw [vp_in_iff]
  unfold fX2_isTable fX2_in at h
  split at h
  · exact absurd rfl h
  · split at h
    · exact absurd rfl h
    · rename_i h1 h2
      have h1 := i_nlt h1
      have h2 := i_nlt h2
      have e0 : (0 : Int32).toInt = 0 := rfl
      have e3 : (3 : Int32).toInt = 3 := rfl
      omega
theorem mt_no {x : Int32} (h : fX2_isTable x = 0) : ¬ vp_in x 4 := by
  rw [vp_in_iff]
  intro ⟨q1, q2⟩
  unfold fX2_isTable fX2_in at h
  have e0 : (0 : Int32).toInt = 0 := rfl
  have e3 : (3 : Int32).toInt = 3 := rfl
  rw [if_neg (fun q => by have := i_lt q; omega), if_neg (fun q => by have := i_lt q; omega)] at h
  exact absurd h (by decide)
theorem ct_vp {x : Int32} (h : ¬ fX1_isTable x = 0) : vp_in x 4 := by
  rw [vp_in_iff]
  unfold fX1_isTable at h
  split at h
  · exact absurd rfl h
  · split at h
    · exact absurd rfl h
    · rename_i h1 h2
      have h1 := i_nlt h1
      have h2 := i_nle h2
      have e0 : (0 : Int32).toInt = 0 := rfl
      have e3 : (4 : Int32).toInt = 4 := rfl
      omega
theorem ct_no {x : Int32} (h : fX1_isTable x = 0) : ¬ vp_in x 4 := by
  rw [vp_in_iff]
  intro ⟨q1, q2⟩
  unfold fX1_isTable at h
  have e0 : (0 : Int32).toInt = 0 := rfl
  have e3 : (4 : Int32).toInt = 4 := rfl
  rw [if_neg (fun q => by have := i_lt q; omega), if_neg (fun q => by have := i_le q; omega)] at h
  exact absurd h (by decide)
theorem tb_eq (x : Int32) : fX1_isTable x = fX2_isTable x := by
  rcases fX1_isTable_01 x with h | h <;> rcases fX2_isTable_01 x with h' | h' <;> rw [h, h']
  · exact absurd (mt_vp (by rw [h']; decide)) (ct_no h)
  · exact absurd (ct_vp (by rw [h]; decide)) (mt_no h')
theorem mul_nI {a : Nat} {K : Int32} (k : Nat) (hK : K = nI k) : K * nI a = nI (k * a) := by rw [hK, pk_mul]
theorem mt_in {x : Int32} {i : Nat} (h : vp_in x 4) (hi : i < 2048) : vp_in ((2048 * x) + nI i) 8192 := by
  obtain ⟨j, hj, rfl⟩ := vp_in_of h (by decide)
  rw [mul_nI (K := 2048) 2048 rfl, nI_add]
  exact vp_in_nI (by omega) (by decide)
theorem fl_in {x : Int32} {i j : Nat} (h : vp_in x 4) (hi : i < 16) (hj : j < 128) : vp_in (((2048 * x) + (128 * (nI i))) + (nI j)) 8192 := by
  obtain ⟨k, hk, rfl⟩ := vp_in_of h (by decide)
  rw [mul_nI (K := 2048) 2048 rfl, mul_nI (K := 128) 128 rfl, nI_add, nI_add]
  exact vp_in_nI (by omega) (by decide)
theorem col_of {c : Int32} (h1 : -64 ≤ c.toInt) (h2 : c.toInt ≤ 63) : ∃ k : Nat, k < 128 ∧ c = nI k - 64 := by
  refine ⟨(c.toInt + 64).toNat, by omega, ?_⟩
  apply Int32.toInt_inj.mp
  have e : (64 : Int32) = nI 64 := rfl
  rw [e, pk_sub_toInt (by omega) (by omega)]
  omega
theorem col_sub {k : Nat} (hk : k < 128) : (nI k - 64).toInt = (k : Int) - 64 := by
  have e : (64 : Int32) = nI 64 := rfl
  rw [e, pk_sub_toInt (by omega) (by omega)]
  rfl
theorem col_inj {k j : Nat} (hk : k < 128) (hj : j < 128) (h : nI k - 64 = nI j - 64) : k = j := by
  have := congrArg Int32.toInt h
  rw [col_sub hk, col_sub hj] at this
  omega
theorem cC (ρ k : Nat) : fX1_cellAt (nI ρ) (nI k - 64) = nI (128 * ρ + k) := by
  unfold fX1_cellAt
  have e : (128 : Int32) = nI 128 := rfl
  rw [Int32.sub_neg, Int32.add_assoc, Int32.sub_add_cancel, e, pk_mul, nI_add, Nat.mul_comm]
theorem cM (t ρ k : Nat) : fX2_cellAt (nI t) (nI ρ) (nI k - 64) = nI (2048 * t + 128 * ρ + k) := by
  unfold fX2_cellAt
  rw [Int32.add_assoc _ (nI k - 64) 64, Int32.sub_add_cancel, mul_nI (K := 2048) 2048 rfl, mul_nI (K := 128) 128 rfl, nI_add, nI_add]
theorem cell_C {r c : Int32} (h : ¬ fX1_isCell r c = 0) : ∃ ρ k : Nat, ρ < 16 ∧ k < 128 ∧ r = nI ρ ∧ c = nI k - 64 := by
  unfold fX1_isCell at h
  split at h
  · exact absurd rfl h
  split at h
  · exact absurd rfl h
  split at h
  · exact absurd rfl h
  split at h
  · exact absurd rfl h
  rename_i h1 h2 h3 h4
  have h1' := i_nlt h1
  have h2' := i_nle h2
  have h3' := i_nlt h3
  have h4' := i_nlt h4
  have e0 : (0 : Int32).toInt = 0 := rfl
  have e1 : (16 : Int32).toInt = 16 := rfl
  have e2 : (-64 : Int32).toInt = -64 := rfl
  have e3 : (63 : Int32).toInt = 63 := rfl
  obtain ⟨k, hk, rfl⟩ := col_of (c := c) (by omega) (by omega)
  obtain ⟨ρ, hρ, rfl⟩ := vp_in_of (x := r) (n := 16) (vp_in_iff.mpr (by omega)) (by decide)
  exact ⟨ρ, k, hρ, hk, rfl, rfl⟩
theorem cell_Cn {ρ k : Nat} (hρ : ρ < 16) (hk : k < 128) : fX1_isCell (nI ρ) (nI k - 64) = 1 := by
  unfold fX1_isCell
  have e0 : (0 : Int32).toInt = 0 := rfl
  have e1 : (16 : Int32).toInt = 16 := rfl
  have e2 : (-64 : Int32).toInt = -64 := rfl
  have e3 : (63 : Int32).toInt = 63 := rfl
  have hr := nI_toInt (n := ρ) (by omega)
  have hc := col_sub hk
  rw [if_neg (fun q => by have := i_lt q; omega), if_neg (fun q => by have := i_le q; omega), if_neg (fun q => by have := i_lt q; omega), if_neg (fun q => by have := i_lt q; omega)]
theorem cell_Mn {ρ k : Nat} (hρ : ρ < 16) (hk : k < 128) : fX2_isCell (nI ρ) (nI k - 64) = 1 := by
  unfold fX2_isCell fX2_in
  have e0 : (0 : Int32).toInt = 0 := rfl
  have e1 : (15 : Int32).toInt = 15 := rfl
  have e2 : (-64 : Int32).toInt = -64 := rfl
  have e3 : (63 : Int32).toInt = 63 := rfl
  have hr := nI_toInt (n := ρ) (by omega)
  have hc := col_sub hk
  rw [if_neg (c := nI ρ < 0) (fun q => by have := i_lt q; omega), if_neg (c := (15 : Int32) < nI ρ) (fun q => by have := i_lt q; omega), if_neg (c := (1 : Int32) = 0) (by decide), if_neg (c := nI k - 64 < (-64)) (fun q => by have := i_lt q; omega), if_neg (c := (63 : Int32) < nI k - 64) (fun q => by have := i_lt q; omega), if_neg (c := (1 : Int32) = 0) (by decide)]
theorem cell_M {r c : Int32} (h : ¬ fX2_isCell r c = 0) : ∃ ρ k : Nat, ρ < 16 ∧ k < 128 ∧ r = nI ρ ∧ c = nI k - 64 := by
  unfold fX2_isCell fX2_in at h
  have e0 : (0 : Int32).toInt = 0 := rfl
  have e1 : (15 : Int32).toInt = 15 := rfl
  have e2 : (-64 : Int32).toInt = -64 := rfl
  have e3 : (63 : Int32).toInt = 63 := rfl
  by_cases h1 : r < 0
  · rw [if_pos h1] at h; exact absurd rfl h
  by_cases h2 : 15 < r
  · rw [if_neg h1, if_pos h2] at h; exact absurd rfl h
  rw [if_neg h1, if_neg h2, if_neg (c := (1 : Int32) = 0) (by decide)] at h
  by_cases h3 : c < (-64)
  · rw [if_pos h3] at h; exact absurd rfl h
  by_cases h4 : 63 < c
  · rw [if_neg h3, if_pos h4] at h; exact absurd rfl h
  have h1' := i_nlt h1
  have h2' := i_nlt h2
  have h3' := i_nlt h3
  have h4' := i_nlt h4
  obtain ⟨k, hk, rfl⟩ := col_of (c := c) (by omega) (by omega)
  obtain ⟨ρ, hρ, rfl⟩ := vp_in_of (x := r) (n := 16) (vp_in_iff.mpr (by omega)) (by decide)
  exact ⟨ρ, k, hρ, hk, rfl, rfl⟩
theorem cell_eq (r c : Int32) : fX1_isCell r c = fX2_isCell r c := by
  rcases fX1_isCell_01 r c with h | h <;> rcases fX2_isCell_01 r c with h' | h' <;> rw [h, h']
  · obtain ⟨ρ, k, h1, h2, rfl, rfl⟩ := cell_M (r := r) (c := c) (by rw [h']; decide)
    rw [cell_Cn h1 h2] at h; exact absurd h (by decide)
  · obtain ⟨ρ, k, h1, h2, rfl, rfl⟩ := cell_C (r := r) (c := c) (by rw [h]; decide)
    rw [cell_Mn h1 h2] at h'; exact absurd h' (by decide)
theorem mc_in {t r c : Int32} (ht : vp_in t 4) (h : ¬ fX2_isCell r c = 0) : vp_in (fX2_cellAt t r c) 8192 := by
  obtain ⟨ρ, k, h1, h2, rfl, rfl⟩ := cell_M h
  obtain ⟨j, hj, rfl⟩ := vp_in_of ht (by decide)
  rw [cM]
  exact vp_in_nI (by omega) (by decide)
theorem cc_in {r c : Int32} (h : ¬ fX1_isCell r c = 0) : vp_in (fX1_cellAt r c) 2048 := by
  obtain ⟨ρ, k, h1, h2, rfl, rfl⟩ := cell_C h
  rw [cC]
  exact vp_in_nI (by omega) (by decide)
theorem ax_off {c i n N : Nat} {K : Int32} (hK : K = nI c) (hi : i < n) (h : c + n ≤ N) (hN : N < 2 ^ 31) : vp_in (K + nI i) N := by
  rw [hK, nI_add]
  exact vp_in_nI (by omega) hN
theorem dblF_le (V : Nat) : ∀ n t, dblF V n t ≤ t + n := by
  intro n
  induction n with
  | zero => intro t; exact Nat.le_refl _
  | succ n ih =>
    intro t
    by_cases h : V * 2 ^ (t + 1) < 4294967296
    · rw [dblF_go h]; have := ih (t + 1); omega
    · rw [dblF_stop h]; omega
theorem dblF_spec (V : Nat) : ∀ n t, V * 2 ^ t < 4294967296 → V * 2 ^ (dblF V n t) < 4294967296 ∧ (dblF V n t = t + n ∨ ¬ V * 2 ^ (dblF V n t + 1) < 4294967296) := by
  intro n
  induction n with
  | zero => intro t h; exact ⟨h, Or.inl rfl⟩
  | succ n ih =>
    intro t h0
    by_cases h : V * 2 ^ (t + 1) < 4294967296
    · rw [dblF_go h]
      obtain ⟨a, b⟩ := ih (t + 1) h
      exact ⟨a, b.elim (fun q => Or.inl (by omega)) Or.inr⟩
    · rw [dblF_stop h]; exact ⟨h0, Or.inr h⟩
theorem dbl_le (V : Nat) : dbl V ≤ 31 := by have := dblF_le V 31 0; unfold dbl; omega
theorem dbl_lt {V : Nat} (h2 : V ≤ 2147483648) : V * 2 ^ dbl V < 4294967296 := (dblF_spec V 31 0 (by omega)).1
theorem dbl_stop {V : Nat} (h2 : V ≤ 2147483648) (h : dbl V < 31) : ¬ V * 2 ^ (dbl V + 1) < 4294967296 := by
  rcases (dblF_spec V 31 0 (by omega)).2 with q | q
  · have : dbl V = 0 + 31 := q
    omega
  · exact q
theorem dbl_ge {V : Nat} (h1 : 1 ≤ V) (h2 : V ≤ 2147483648) : 2147483648 ≤ V * 2 ^ dbl V := by
  rcases Nat.lt_or_ge (dbl V) 31 with h | h
  · have := dbl_stop h2 h
    rw [Nat.pow_succ, ← Nat.mul_assoc] at this
    omega
  · have e : dbl V = 31 := by have := dbl_le V; omega
    rw [e]
    omega
theorem dbl_mono {P M : Nat} (hP : P ≤ 2147483648) (h : M ≤ P) : dbl P ≤ dbl M := by
  rcases Nat.lt_or_ge (dbl M) (dbl P) with q | q
  · have hM : M ≤ 2147483648 := by omega
    have h1 := dbl_stop hM (by have := dbl_le P; omega)
    have h2 := dbl_lt hP
    have h3 : 2 ^ (dbl M + 1) ≤ 2 ^ dbl P := Nat.pow_le_pow_right (by decide) q
    have h4 : M * 2 ^ (dbl M + 1) ≤ P * 2 ^ dbl P := Nat.mul_le_mul h h3
    omega
  · exact q
theorem nabs_le (x : Int32) : x.toInt.natAbs ≤ 2147483648 := by have := i_rng x; omega
theorem ax_neg64 (x : Int32) : (-x.toInt64).toInt = -x.toInt := by
  rw [Int64.toInt_neg, Int32.toInt_toInt64]
  have := i_rng x
  rw [Int.bmod_eq_of_le (by omega) (by omega)]
theorem ax_abs (x : Int32) : (if 0 < x.toInt64 then x.toInt64 else -x.toInt64) = lN x.toInt.natAbs := by
  apply Int64.toInt_inj.mp
  have hr := i_rng x
  rw [pk_lT (by omega)]
  split
  · rename_i h
    have h := Int64.lt_iff_toInt_lt.mp h
    rw [Int32.toInt_toInt64] at h ⊢
    have e : (0 : Int64).toInt = 0 := rfl
    omega
  · rename_i h
    have h : ¬ (0 : Int64).toInt < x.toInt64.toInt := fun q => h (Int64.lt_iff_toInt_lt.mpr q)
    rw [ax_neg64]
    rw [Int32.toInt_toInt64] at h
    have e : (0 : Int64).toInt = 0 := rfl
    omega
theorem ax_size (x : Int32) : fX2_sizeOf x = lN x.toInt.natAbs := by
  unfold fX2_sizeOf fX2_sizeOf_j12
  apply Int64.toInt_inj.mp
  have hr := i_rng x
  have e : (0 : Int32).toInt = 0 := rfl
  rw [pk_lT (by omega)]
  split
  · rename_i h
    have h := i_le h
    rw [Int32.toInt_toInt64]
    omega
  · rename_i h
    have h := i_nle h
    rw [ax_neg64]
    omega
def nN (P M : Nat) : Nat := (dbl M - dbl P + (if (dbl M - dbl P) % 2 = 0 then 2 else 3)) / 2
theorem nN_le (P M : Nat) : nN P M ≤ 17 := by
  unfold nN
  have := dbl_le M
  split <;> omega
theorem begin_n {P M : Nat} (h : dbl P ≤ dbl M) : fX0_begin_m51 P M = nI (nN P M) := by
  have h2 := dbl_le M
  unfold fX0_begin_m51 fX0_begin_j39 nN
  generalize dbl M = b at h h2 ⊢
  generalize dbl P = a at h ⊢
  revert a
  have : b < 32 := by omega
  revert b
  have key : ∀ b, b < 32 → ∀ a, a < 32 → a ≤ b → (if (17 : Int32) < ((((nI b) - (nI a)) + (if (((nI b) - (nI a)) - ((nI b) - (nI a)) / 2 * 2) = 0 then 2 else 3)) / 2) then 17 else ((((nI b) - (nI a)) + (if (((nI b) - (nI a)) - ((nI b) - (nI a)) / 2 * 2) = 0 then 2 else 3)) / 2)) = nI ((b - a + (if (b - a) % 2 = 0 then 2 else 3)) / 2) := by decide +kernel
  intro b h2 h3 a h
  exact key b h3 a (by omega) h
theorem begin_row (M : Nat) (p1 : Int64) : ∃ ρ : Nat, ρ < 16 ∧ fX0_begin_c75 M p1 = nI ρ := by
  obtain ⟨j, h1, h2⟩ := pk_andE ((((p1 <<< ((nI (dbl M)).toInt64 &&& 63)) >>> (((27 : Int32)).toInt64 &&& 63)).toInt32)) (m := 15) 4 (by decide)
  exact ⟨j, h1, h2⟩
theorem ne_shl8 {x : Int32} {t : Nat} (hx : x = nI t) (ht : t ≤ 31) : ¬ ((8 : Int64) <<< (x.toInt64 &&& 63)) = 0 := by
  rw [hx]
  have key : ∀ t, t < 32 → ¬ ((8 : Int64) <<< ((nI t).toInt64 &&& 63)) = 0 := by decide +kernel
  exact key t (by omega)
theorem clampC (x : Int32) : ∃ k : Nat, k < 128 ∧ (if (-64) < (if x < 63 then x else 63) then (if x < 63 then x else 63) else (-64)) = nI k - 64 := by
  have e2 : (-64 : Int32).toInt = -64 := rfl
  have e3 : (63 : Int32).toInt = 63 := rfl
  obtain ⟨y, hy, ey⟩ : ∃ y : Int32, y.toInt ≤ 63 ∧ (if x < 63 then x else 63) = y := by
    by_cases h : x < 63
    · exact ⟨x, by have := i_lt h; omega, if_pos h⟩
    · exact ⟨63, by omega, if_neg h⟩
  rw [ey]
  by_cases h : (-64) < y
  · rw [if_pos h]; exact col_of (by have := i_lt h; omega) hy
  · rw [if_neg h]; exact col_of (by omega) (by omega)
theorem take_in {S : DV} {x : Int32} {ρ : Nat} (h : ρ < 16) (e : dv6 S = nI ρ) : vp_in (fX1_cellAt (dv6 S) (fX0_takeDigit_m47 S x)) 2048 := by
  obtain ⟨k, hk, ek⟩ := clampC (fX0_takeDigit_c36 S x)
  have e2 : fX0_takeDigit_m47 S x = nI k - 64 := ek
  rw [e, e2, cC]
  exact vp_in_nI (by omega) (by decide)
theorem lpred (i : Nat) : nI (i + 1) - 1 = nI i := nI_pred i
theorem vp_pred {i N : Nat} (h : i < N) (hN : N < 2 ^ 31) : vp_in (nI (i + 1) - 1) N := by rw [lpred]; exact vp_in_nI h hN
theorem take_9 (S : DV) (tb : Nat → Int32) (x : Int32) (d : Int64) : dv9 (gX0_takeDigit S tb x d) = dv9 S := by unfold gX0_takeDigit; (repeat' split) <;> rfl
theorem take_6 (S : DV) (tb : Nat → Int32) (x : Int32) (d : Int64) : dv6 (gX0_takeDigit S tb x d) = dv6 S := by unfold gX0_takeDigit; (repeat' split) <;> rfl
theorem take_8 (S : DV) (tb : Nat → Int32) (x : Int32) (d : Int64) : dv8 (gX0_takeDigit S tb x d) = dv8 S := by unfold gX0_takeDigit; (repeat' split) <;> rfl
theorem ne_64 {x : Int32} (h : ¬ x = 0) : ¬ x.toInt64 = 0 := fun q => h (by
  apply Int32.toInt_inj.mp
  have := congrArg Int64.toInt q
  rw [Int32.toInt_toInt64] at this
  exact this)
theorem nabs_pos {x : Int32} (h : ¬ x = 0) : 1 ≤ x.toInt.natAbs := by
  have : x.toInt ≠ 0 := fun q => h (Int32.toInt_inj.mp q)
  omega
theorem le_of_64 {P M : Nat} {p m : Int64} (hp : p = lN P) (hm : m = lN M) (hP : P ≤ 2147483648) (hM : M ≤ 2147483648) (h : m ≤ p) : M ≤ P := by
  rw [hp, hm, pk_lLE (by omega) (by omega)] at h
  exact h
/-- the row that a divisor stands at -/
noncomputable def rowX (b : Int32) : Nat := (begin_row b.toInt.natAbs (if 0 < b.toInt64 then b.toInt64 else -b.toInt64)).choose
theorem rowX_lt (b : Int32) : rowX b < 16 := (begin_row b.toInt.natAbs (if 0 < b.toInt64 then b.toInt64 else -b.toInt64)).choose_spec.1
theorem rowX_eq (b : Int32) : fX0_begin_c75 b.toInt.natAbs (if 0 < b.toInt64 then b.toInt64 else -b.toInt64) = nI (rowX b) := (begin_row b.toInt.natAbs (if 0 < b.toInt64 then b.toInt64 else -b.toInt64)).choose_spec.2
