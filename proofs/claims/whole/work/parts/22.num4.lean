theorem ke_it (S : MV) : ∀ n, mv0 (it_keX2 S n) = mv0 S ∧ mv1 (it_keX2 S n) = mv1 S ∧ mv2 (it_keX2 S n) = mv2 S := by
  intro n
  induction n with
  | zero => exact ⟨rfl, rfl, rfl⟩
  | succ n ih => exact ⟨ih.1, ih.2.1, ih.2.2⟩
theorem keep_o (w : MV) : mv0 (gX2_keep_o w) = mv0 w ∧ mv1 (gX2_keep_o w) = mv1 w := ⟨rfl, rfl⟩
theorem keep_1 (S : MV) : mv1 (gX2_keep S) = mv1 S := (keep_o (it_keX2 S 20)).2.trans (ke_it S 20).2.1
theorem keep_0 (S : MV) : mv0 (gX2_keep S) = mv0 S := (keep_o (it_keX2 S 20)).1.trans (ke_it S 20).1
theorem wk_1 (S : MV) (a b : Int32) : ∀ n, mv1 (it_wkX2 S a b n) = mv1 S := by
  intro n
  induction n with
  | zero => rfl
  | succ n ih => exact (next_1 _ _ _).trans ih
theorem work_1 (S : MV) (a b : Int32) : mv1 (gX2_work S a b) = mv1 S := by
  unfold gX2_work
  split
  · rfl
  · exact wk_1 S a b _
theorem many_N {x : Int32} (h : ¬ fX2_in x 1 300 = 0) : x = nI x.toNatClampNeg ∧ x.toNatClampNeg ≤ 300 := by
  have h9 := in_of h
  have e1 : (1 : Int32).toInt = 1 := rfl
  have e3 : (300 : Int32).toInt = 300 := rfl
  obtain ⟨j, hj, rfl⟩ := vp_in_of (x := x) (n := 301) (vp_in_iff.mpr (by omega)) (by decide)
  rw [nI_clamp (by omega)]
  exact ⟨rfl, by omega⟩
