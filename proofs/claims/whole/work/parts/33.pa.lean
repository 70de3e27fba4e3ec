/-! refusals, single cells, told and the rest -/
section REL
variable {M : Nat → Nat → Int32} {gd : Nat → Int32} {ui : Int32} {SL SS : DV} {S : MV}
theorem dig_eq (x : Int32) : fX1_isDigit x = fX2_in x (-2) 2 := rfl
theorem upd_self (f : Nat → Int32) (k : Nat) (x : Int32) : upd f k x k = x := if_pos rfl
theorem upd_ne (f : Nat → Int32) {k j : Nat} (x : Int32) (h : ¬ j = k) : upd f k x j = f j := if_neg h
theorem updL_self (f : Nat → Int64) (k : Nat) (x : Int64) : vp_updL f k x k = x := if_pos rfl
theorem updL_ne (f : Nat → Int64) {k j : Nat} (x : Int64) (h : ¬ j = k) : vp_updL f k x j = f j := if_neg h
theorem dig_rng {x : Int32} (h : ¬ fX1_isDigit x = 0) : -2 ≤ x.toInt ∧ x.toInt ≤ 2 := by
  rw [dig_eq] at h
  have := in_of h
  have e0 : (-2 : Int32).toInt = -2 := rfl
  have e1 : (2 : Int32).toInt = 2 := rfl
  omega
theorem L_digit (h : RR M gd ui SL S) (a b c : Int32) : fX1_digit M a b c = fX2_digit S a b c := by
  unfold fX1_digit fX2_digit fX2_digit_j31
  rw [tb_eq, cell_eq]
  by_cases h1 : fX2_isTable a = 0
  · rw [if_pos h1, if_pos h1]
  rw [if_neg h1, if_neg h1]
  by_cases h2 : fX2_isCell b c = 0
  · rw [if_pos h2, if_pos h2]
  rw [if_neg h2, if_neg h2]
  obtain ⟨t, ht, rfl⟩ := vp_in_of (mt_vp h1) (by decide)
  obtain ⟨ρ, k, hρ, hk, rfl, rfl⟩ := cell_M h2
  rw [cC, cM, nI_clamp (by omega), nI_clamp (by omega), nI_clamp (by omega), (h.1 t (128 * ρ + k) ht (by omega)).1, Nat.add_assoc]
/-- a table's cell written on both sides -/
theorem RT_up {S' : MV} (h : RT M S) {t c : Nat} {v : Int32} (ht : t < 4) (hc : c < 2048) (hv : -2 ≤ v.toInt ∧ v.toInt ≤ 2) (e : mv0 S' = upd (mv0 S) (2048 * t + c) v) : RT (va_up M t (upd (M t) c v)) S' := by
  intro u d hu hd
  rw [e]
  by_cases q : u = t
  · subst q
    rw [va_up_self]
    by_cases q2 : d = c
    · subst q2
      rw [upd_self, upd_self]
      exact ⟨rfl, hv⟩
    · rw [upd_ne _ _ q2, upd_ne _ _ (by omega)]
      exact h u d hu hd
  · rw [va_up_ne _ _ q, upd_ne _ _ (by omega)]
    exact h u d hu hd
/-- the reference's last division is the same -/
def SM (S S' : MV) : Prop := (mv2 S' = mv2 S ∧ mv3 S' = mv3 S ∧ mv4 S' = mv4 S ∧ mv5 S' = mv5 S ∧ mv6 S' = mv6 S ∧ mv7 S' = mv7 S ∧ mv8 S' = mv8 S ∧ mv9 S' = mv9 S) ∧ ∀ j, j < 20 → mv10 S' j = mv10 S j ∧ mv11 S' j = mv11 S j ∧ mv12 S' j = mv12 S j ∧ mv13 S' j = mv13 S j ∧ mv14 S' j = mv14 S j ∧ mv15 S' j = mv15 S j
theorem SM.refl (S : MV) : SM S S := ⟨⟨rfl, rfl, rfl, rfl, rfl, rfl, rfl, rfl⟩, fun _ _ => ⟨rfl, rfl, rfl, rfl, rfl, rfl⟩⟩
theorem SM.trans {S S' S'' : MV} (h : SM S S') (k : SM S' S'') : SM S S'' := by
  obtain ⟨⟨a1, a2, a3, a4, a5, a6, a7, a8⟩, ha⟩ := h
  obtain ⟨⟨b1, b2, b3, b4, b5, b6, b7, b8⟩, hb⟩ := k
  refine ⟨⟨b1.trans a1, b2.trans a2, b3.trans a3, b4.trans a4, b5.trans a5, b6.trans a6, b7.trans a7, b8.trans a8⟩, fun j hj => ?_⟩
  obtain ⟨c1, c2, c3, c4, c5, c6⟩ := ha j hj
  obtain ⟨d1, d2, d3, d4, d5, d6⟩ := hb j hj
  exact ⟨d1.trans c1, d2.trans c2, d3.trans c3, d4.trans c4, d5.trans c5, d6.trans c6⟩
theorem tl_congr {S S' : MV} : ∀ (n : Nat), n ≤ 17 → (∀ j, 1 ≤ j → j ≤ n → mv10 S' j = mv10 S j) → it_tlX2 S' n = it_tlX2 S n
  | 0, _, _ => rfl
  | n + 1, hn, e => by
    show st_tlX2 S' n _ = st_tlX2 S n _
    rw [tl_congr n (by omega) (fun j h1 h2 => e j h1 (by omega))]
    unfold st_tlX2 fX2_told_j27
    rw [nI_clamp (by omega), e (n + 1) (by omega) (by omega)]
theorem RD_congr {S' : MV} (h : RD SL S) (e : SM S S') : RD SL S' := by
  obtain ⟨nn, hI, hE, hA⟩ := h
  obtain ⟨⟨a1, a2, a3, a4, a5, a6, a7, a8⟩, ha⟩ := e
  obtain ⟨i0, i1, i2, i3, i4, i5, i6, i7, i8, i9⟩ := hI
  refine ⟨nn, ⟨i0, i1, a1.trans i2, i3.trans a2.symm, i4.trans a3.symm, i5.trans a4.symm, i6.trans a5.symm, i7.trans a6.symm, i8.trans a7.symm, i9.trans (tl_congr nn i0 (fun j h1 h2 => (ha j (by omega)).1)).symm⟩, fun j h1 h2 => ?_, ?_⟩
  · obtain ⟨c1, c2, c3, c4, c5, c6⟩ := ha j (by omega)
    exact ⟨(hE j h1 h2).1.trans c1.symm, (hE j h1 h2).2.trans c2.symm⟩
  · rcases hA with ⟨h9, hA⟩ | ⟨h9, h0, hA⟩
    · refine Or.inl ⟨a8.trans h9, fun j hj => ?_⟩
      obtain ⟨c1, c2, c3, c4, c5, c6⟩ := ha j (by omega)
      obtain ⟨d1, d2, d3, d4⟩ := hA j hj
      exact ⟨d1.trans c3.symm, d2.trans c4.symm, d3.trans c5.symm, d4.trans c6.symm⟩
    · exact Or.inr ⟨a8.trans h9, h0, hA⟩
theorem L_set (h : RR M gd ui SL S) (a b c d : Int32) : (gX1_set M a b c d).1 = (gX2_set S a b c d).1 ∧ RR (gX1_set M a b c d).2 gd ui SL (gX2_set S a b c d).2 := by
  unfold gX1_set gX2_set
  rw [tb_eq, cell_eq, dig_eq]
  by_cases h1 : fX2_isTable a = 0
  · rw [if_pos h1, if_pos h1]; exact ⟨rfl, h⟩
  rw [if_neg h1, if_neg h1]
  by_cases h2 : fX2_isCell b c = 0
  · rw [if_pos h2, if_pos h2]; exact ⟨rfl, h⟩
  rw [if_neg h2, if_neg h2]
  by_cases h3 : fX2_in d (-2) 2 = 0
  · rw [if_pos h3, if_pos h3]; exact ⟨rfl, h⟩
  rw [if_neg h3, if_neg h3]
  obtain ⟨t, ht, rfl⟩ := vp_in_of (mt_vp h1) (by decide)
  obtain ⟨ρ, k, hρ, hk, rfl, rfl⟩ := cell_M h2
  rw [cC, cM, nI_clamp (by omega), nI_clamp (by omega), nI_clamp (by omega), Nat.add_assoc]
  exact ⟨(h.1 t (128 * ρ + k) ht (by omega)).1, RT_up h.1 ht (by omega) (dig_rng h3) rfl, h.2.1, h.2.2.1, h.2.2.2.1, RD_congr h.2.2.2.2 (SM.refl S)⟩
theorem L_use (h : RR M gd ui SL S) (a : Int32) : (gX1_use ui a).1 = (gX2_use S a).1 ∧ RR M gd (gX1_use ui a).2 SL (gX2_use S a).2 := by
  unfold gX1_use gX2_use
  rw [tb_eq]
  by_cases h1 : fX2_isTable a = 0
  · rw [if_pos h1, if_pos h1]; exact ⟨rfl, h⟩
  rw [if_neg h1, if_neg h1]
  exact ⟨h.2.2.1, h.1, h.2.1, rfl, mt_vp h1, RD_congr h.2.2.2.2 (SM.refl S)⟩
theorem L_quotient (h : RR M gd ui SL S) : fX1_quotient SL = fX2_quotient S := by
  obtain ⟨-, -, -, -, nn, hI, -, -⟩ := h
  exact hI.2.2.2.2.2.2.2.1
theorem L_rest (h : RR M gd ui SL S) : fX1_rest SL = fX2_rest S := by
  obtain ⟨-, -, -, -, nn, hI, -, -⟩ := h
  exact hI.2.2.2.2.2.2.2.2.1
theorem L_left (h : RR M gd ui SL S) : fX1_left SL = fX2_left S := by
  obtain ⟨-, -, -, -, nn, hI, -, -⟩ := h
  exact hI.2.2.2.2.2.2.1
theorem L_step (h : RR M gd ui SL S) (a b : Int32) : fX1_step SL a b = fX2_step S a b := by
  obtain ⟨-, -, -, -, nn, hI, hE, -⟩ := h
  unfold fX1_step fX2_step fX2_step_j45
  have e1 : (1 : Int32).toInt = 1 := rfl
  have e0 : (0 : Int32).toInt = 0 := rfl
  rw [hI.2.1, hI.2.2.1]
  by_cases h1 : a < 1
  · rw [if_pos h1, if_pos (show fX2_in a 1 (nI nn) = 0 by unfold fX2_in; rw [if_pos h1])]
  rw [if_neg h1]
  by_cases h2 : a ≤ nI nn
  · rw [if_pos h2, if_neg (show ¬ fX2_in a 1 (nI nn) = 0 from fun q => by
      rcases in_no q with q | q
      · have := i_nlt h1; omega
      · have := i_le h2; omega)]
    have h1' := i_nlt h1
    have h2' := i_le h2
    have hnn := hI.1
    rw [nI_toInt (by omega)] at h2'
    obtain ⟨j, hj, rfl⟩ := vp_in_of (x := a) (n := 18) (vp_in_iff.mpr (by omega)) (by decide)
    rw [nI_toInt (by omega)] at h1' h2'
    have hh := hE j (by omega) (by omega)
    rw [nI_clamp (by omega), hh.1, hh.2]
    by_cases h3 : b = 0
    · rw [if_pos h3, if_neg (show ¬ fX2_in b 0 1 = 0 by rw [h3]; decide), if_pos h3]
    rw [if_neg h3]
    by_cases h4 : b = 1
    · rw [if_pos h4, if_neg (show ¬ fX2_in b 0 1 = 0 by rw [h4]; decide), if_neg h3]
    rw [if_neg h4, if_pos]
    by_cases q : fX2_in b 0 1 = 0
    · exact q
    · exfalso
      have := in_of q
      have : b.toInt ≠ 0 := fun q => h3 (Int32.toInt_inj.mp q)
      have : b.toInt ≠ 1 := fun q => h4 (Int32.toInt_inj.mp q)
      omega
  · rw [if_neg h2, if_pos]
    unfold fX2_in
    rw [if_neg h1, if_pos (Int32.lt_iff_toInt_lt.mpr (i_nle h2))]
theorem L_state (h : RR M gd ui SL S) (a b : Int32) : fX1_state SL a b = fX2_state S a b := by
  obtain ⟨-, -, -, -, nn, hI, -, hA⟩ := h
  unfold fX1_state fX2_state fX2_state_j77
  have e0 : (0 : Int32).toInt = 0 := rfl
  rw [hI.2.1, hI.2.2.1]
  by_cases h1 : a < 0
  · rw [if_pos h1, if_pos (show fX2_in a 0 (nI nn) = 0 by unfold fX2_in; rw [if_pos h1]), ite_self]
  rw [if_neg h1]
  by_cases h2 : a ≤ nI nn
  · rw [if_pos h2, if_neg (show ¬ fX2_in a 0 (nI nn) = 0 from fun q => by
      rcases in_no q with q | q
      · have := i_nlt h1; omega
      · have := i_le h2; omega)]
    have h1' := i_nlt h1
    have h2' := i_le h2
    have hnn := hI.1
    rw [nI_toInt (by omega)] at h2'
    obtain ⟨j, hj, rfl⟩ := vp_in_of (x := a) (n := 18) (vp_in_iff.mpr (by omega)) (by decide)
    rw [nI_toInt (by omega)] at h2'
    rw [nI_clamp (by omega)]
    rcases hA with ⟨h9, hA⟩ | ⟨h9, h0, hA⟩
    · obtain ⟨a1, a2, a3, a4⟩ := hA j (by omega)
      rw [h9, if_neg (show ¬ (1 : Int32) = 0 by decide), a1, a2, a3, a4]
    · have hj0 : j = 0 := by omega
      subst hj0
      rw [h9, if_pos rfl, hA.1, hA.2.1, hA.2.2.1, hA.2.2.2]
      (repeat' split) <;> rfl
  · rw [if_neg h2, if_pos (show fX2_in a 0 (nI nn) = 0 by unfold fX2_in; rw [if_neg h1, if_pos (Int32.lt_iff_toInt_lt.mpr (i_nle h2))]), ite_self]
theorem L_told (h : RR M gd ui SL S) {nn : Nat} (hnn : nn ≤ 17) (hn : mv2 S = nI nn) (a : Int32) : fX1_told SL a = fX2_told S nn a := by
  obtain ⟨-, -, -, -, n2, hI, -, -⟩ := h
  have e : n2 = nn := by
    have := hI.2.2.1.symm.trans hn
    have h17 := hI.1
    exact (nI_eq (by omega) (by omega)).mp this
  subst e
  unfold fX1_told fX2_told fX2_told_j92
  rw [hI.2.2.2.1, hI.2.2.2.2.1, hI.2.2.2.2.2.1, hI.2.1, hI.2.2.1, hI.2.2.2.2.2.2.2.2.2]
end REL
