theorem in_of {x lo hi : Int32} (h : ¬ fX2_in x lo hi = 0) : lo.toInt ≤ x.toInt ∧ x.toInt ≤ hi.toInt := by
  unfold fX2_in at h
  by_cases h1 : x < lo
  · rw [if_pos h1] at h; exact absurd rfl h
  by_cases h2 : hi < x
  · rw [if_neg h1, if_pos h2] at h; exact absurd rfl h
  exact ⟨i_nlt h1, i_nlt h2⟩
theorem in_no {x lo hi : Int32} (h : fX2_in x lo hi = 0) : x.toInt < lo.toInt ∨ hi.toInt < x.toInt := by
  unfold fX2_in at h
  by_cases h1 : x < lo
  · exact Or.inl (i_lt h1)
  by_cases h2 : hi < x
  · exact Or.inr (i_lt h2)
  rw [if_neg h1, if_neg h2] at h
  exact absurd h (by decide)
theorem in_n20 {x lo hi : Int32} {nn : Nat} (hnn : nn ≤ 17) (hn : hi = nI nn) (h : ¬ fX2_in x lo hi = 0) (hlo : 0 ≤ lo.toInt := by decide) : vp_in x 20 := by
  have h9 := in_of h
  rw [hn, nI_toInt (by omega)] at h9
  rw [vp_in_iff]
  omega
theorem ax_fb {v : Int32} (h : v = 0 ∨ v = 1) : fits .boolean (.int v) = true := by rcases h with rfl | rfl <;> rfl
theorem ite01 {c : Prop} [Decidable c] : (if c then (1 : Int32) else 0) = 0 ∨ (if c then (1 : Int32) else 0) = 1 := by split <;> simp
