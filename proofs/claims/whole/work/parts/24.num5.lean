/-- the digits in the order in which a table is made -/
def dnf (j : Nat) : Int32 := ([0, 1, -1, 2, -2] : List Int32).getD j 0
theorem fg_step {i : Nat} {w : Int32} (iv : w = nI i - 2) : w + 1 = nI (i + 1) - 2 := by
  rw [iv, ← nI_1, Int32.sub_eq_add_neg, Int32.sub_eq_add_neg, Int32.add_assoc, Int32.add_comm (-2) 1, ← Int32.add_assoc]
theorem fg_int {i : Nat} (h : i ≤ 5) : (nI i - 2).toInt = (i : Int) - 2 := by
  have e : (2 : Int32) = nI 2 := rfl
  rw [e, pk_sub_toInt (by omega) (by omega)]
  rfl
theorem fg_end {i : Nat} {w : Int32} (hi : i ≤ 5) (iv : w = nI i - 2) (c : 2 < w) : i = 5 := by
  have h := i_lt c
  rw [iv, fg_int hi] at h
  have e : (2 : Int32).toInt = 2 := rfl
  omega
theorem fg_more {i : Nat} {w : Int32} (hi : i ≤ 5) (iv : w = nI i - 2) (c : ¬ 2 < w) : i < 5 := by
  have h := i_nlt c
  rw [iv, fg_int hi] at h
  have e : (2 : Int32).toInt = 2 := rfl
  omega
theorem many_C {x : Int32} (h1 : ¬ x < 1) (h2 : ¬ 300 < x) : x = nI x.toNatClampNeg ∧ x.toNatClampNeg ≤ 300 := by
  have h1 := i_nlt h1
  have h2 := i_nlt h2
  have e1 : (1 : Int32).toInt = 1 := rfl
  have e3 : (300 : Int32).toInt = 300 := rfl
  obtain ⟨j, hj, rfl⟩ := vp_in_of (x := x) (n := 301) (vp_in_iff.mpr (by omega)) (by decide)
  rw [nI_clamp (by omega)]
  exact ⟨rfl, by omega⟩
theorem st_in {x n : Int32} {nn : Nat} (hnn : nn ≤ 17) (hn : n = nI nn) (h1 : ¬ x < 1) (h2 : x ≤ n) : vp_in x 18 := by
  have h1 := i_nlt h1
  have h2 := i_le h2
  rw [hn, nI_toInt (by omega)] at h2
  have e1 : (1 : Int32).toInt = 1 := rfl
  rw [vp_in_iff]
  omega
theorem st_in0 {x n : Int32} {nn : Nat} (hnn : nn ≤ 17) (hn : n = nI nn) (h1 : ¬ x < 0) (h2 : x ≤ n) : vp_in x 18 := by
  have h1 := i_nlt h1
  have h2 := i_le h2
  rw [hn, nI_toInt (by omega)] at h2
  have e1 : (0 : Int32).toInt = 0 := rfl
  rw [vp_in_iff]
  omega
