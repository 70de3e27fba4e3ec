/-! one digit of the class and of the reference -/
def est (x y : Int64) : Int32 := (((4 * x) >>> (((31 : Int32)).toInt64 &&& 63)) + ((4 * y) >>> (((31 : Int32)).toInt64 &&& 63))).toInt32
def colx (e : Int32) : Int32 := if (-64) ≤ e then (if e ≤ 63 then e else 63) else (-64)
def nsum (x y z : Int64) : Int64 := ((4 * x) ^^^ (4 * y)) ^^^ z
def ncar (x y z : Int64) : Int64 := 2 * ((((4 * x) &&& (4 * y)) ||| ((4 * x) &&& z)) ||| ((4 * y) &&& z))
def nq (q r : Int64) (k : Int32) : Int64 := if k < 0 then ((4 * r) + 4) + k.toInt64 else (4 * q) + k.toInt64
def nr (q r : Int64) (k : Int32) : Int64 := if k ≤ 0 then ((4 * r) + 3) + k.toInt64 else ((4 * q) + k.toInt64) - 1
def nz (k : Int32) (d : Int64) : Int64 := ((-8) * k.toInt64) * d
section TAKE
variable (w : DV) (tb : Nat → Int32) (p : Int32) (d : Int64)
def kC : Int32 := tb (fX1_cellAt (dv6 w) (fX0_takeDigit_m47 w p)).toNatClampNeg
theorem tk0 : dv0 (gX0_takeDigit w tb p d) = upd (dv0 w) p.toNatClampNeg (kC w tb p) := by unfold gX0_takeDigit kC; (repeat' split) <;> rfl
theorem tk1 : dv1 (gX0_takeDigit w tb p d) = upd (dv1 w) p.toNatClampNeg (fX0_takeDigit_c36 w p) := by unfold gX0_takeDigit; (repeat' split) <;> rfl
theorem tk2 : dv2 (gX0_takeDigit w tb p d) = vp_updL (dv2 w) p.toNatClampNeg (fX0_takeDigit_c105 w tb p d) := by unfold gX0_takeDigit; (repeat' split) <;> rfl
theorem tk3 : dv3 (gX0_takeDigit w tb p d) = vp_updL (dv3 w) p.toNatClampNeg (fX0_takeDigit_c130 w tb p d) := by unfold gX0_takeDigit; (repeat' split) <;> rfl
theorem tk4 : dv4 (gX0_takeDigit w tb p d) = vp_updL (dv4 w) p.toNatClampNeg (nq (dv4 w (p - 1).toNatClampNeg) (dv5 w (p - 1).toNatClampNeg) (kC w tb p)) := by unfold gX0_takeDigit; (repeat' split) <;> rfl
theorem tk5 : dv5 (gX0_takeDigit w tb p d) = vp_updL (dv5 w) p.toNatClampNeg (nr (dv4 w (p - 1).toNatClampNeg) (dv5 w (p - 1).toNatClampNeg) (kC w tb p)) := by unfold gX0_takeDigit; (repeat' split) <;> rfl
theorem tk7 : dv7 (gX0_takeDigit w tb p d) = dv7 w := by unfold gX0_takeDigit; (repeat' split) <;> rfl
theorem tk10 : dv10 (gX0_takeDigit w tb p d) = if kC w tb p = 0 then dv10 w else dv10 w + 1 := by
  unfold gX0_takeDigit
  by_cases h : kC w tb p = 0
  · rw [if_pos h, if_pos (show tb _ = 0 from h)]; (repeat' split) <;> rfl
  · rw [if_neg h, if_neg (show ¬ tb _ = 0 from h)]; (repeat' split) <;> rfl
theorem tk11 : dv11 (gX0_takeDigit w tb p d) = if dv11 w = 0 then (if 3 * (if 0 < fX0_takeDigit_c105 w tb p d + fX0_takeDigit_c130 w tb p d then fX0_takeDigit_c105 w tb p d + fX0_takeDigit_c130 w tb p d else -(fX0_takeDigit_c105 w tb p d + fX0_takeDigit_c130 w tb p d)) ≤ 16 * d then 0 else p) else dv11 w := by
  have e : fX0_takeDigit_m176 w tb p d = (if 0 < fX0_takeDigit_c105 w tb p d + fX0_takeDigit_c130 w tb p d then fX0_takeDigit_c105 w tb p d + fX0_takeDigit_c130 w tb p d else -(fX0_takeDigit_c105 w tb p d + fX0_takeDigit_c130 w tb p d)) := by
    show (if 0 < vp_updL (dv2 w) p.toNatClampNeg (fX0_takeDigit_c105 w tb p d) p.toNatClampNeg + vp_updL (dv3 w) p.toNatClampNeg (fX0_takeDigit_c130 w tb p d) p.toNatClampNeg then vp_updL (dv2 w) p.toNatClampNeg (fX0_takeDigit_c105 w tb p d) p.toNatClampNeg + vp_updL (dv3 w) p.toNatClampNeg (fX0_takeDigit_c130 w tb p d) p.toNatClampNeg else -(vp_updL (dv2 w) p.toNatClampNeg (fX0_takeDigit_c105 w tb p d) p.toNatClampNeg + vp_updL (dv3 w) p.toNatClampNeg (fX0_takeDigit_c130 w tb p d) p.toNatClampNeg)) = _
    rw [updL_self, updL_self]
  have hw : dv11 (gX0_writeQuotient (fX0_takeDigit_s135 w tb p d) p (tb (fX1_cellAt (dv6 w) (fX0_takeDigit_m47 w p)).toNatClampNeg)) = dv11 w := rfl
  unfold gX0_takeDigit
  rw [e, hw]
  generalize (if 0 < fX0_takeDigit_c105 w tb p d + fX0_takeDigit_c130 w tb p d then fX0_takeDigit_c105 w tb p d + fX0_takeDigit_c130 w tb p d else -(fX0_takeDigit_c105 w tb p d + fX0_takeDigit_c130 w tb p d)) = A
  by_cases h1 : dv11 w = 0
  · rw [if_pos h1, if_pos h1, if_pos h1]
    by_cases h2 : 3 * A ≤ 16 * d
    · rw [if_pos h2, if_pos h2, if_pos h2]
      split <;> exact h1
    · rw [if_neg h2, if_neg h2, if_neg h2]
      split <;> rfl
  · rw [if_neg h1, if_neg h1, if_neg h1]
    split <;> rfl
end TAKE
section NEXT
variable (v : MV) (p : Int32) (d : Int64)
theorem nx0 : mv0 (gX2_nextDigit v p d) = mv0 v := by unfold gX2_nextDigit; (repeat' split) <;> rfl
theorem nx4 : mv4 (gX2_nextDigit v p d) = mv4 v := by unfold gX2_nextDigit; (repeat' split) <;> rfl
theorem nx9 : mv9 (gX2_nextDigit v p d) = mv9 v := by unfold gX2_nextDigit; (repeat' split) <;> rfl
theorem nx10 : mv10 (gX2_nextDigit v p d) = upd (mv10 v) p.toNatClampNeg (fX2_nextDigit_c88 v p) := by unfold gX2_nextDigit; (repeat' split) <;> rfl
theorem nx11 : mv11 (gX2_nextDigit v p d) = upd (mv11 v) p.toNatClampNeg (fX2_nextDigit_c40 v p) := by unfold gX2_nextDigit; (repeat' split) <;> rfl
theorem nx12 : mv12 (gX2_nextDigit v p d) = vp_updL (mv12 v) p.toNatClampNeg (fX2_nextDigit_c114 v p d) := by unfold gX2_nextDigit; (repeat' split) <;> rfl
theorem nx13 : mv13 (gX2_nextDigit v p d) = vp_updL (mv13 v) p.toNatClampNeg (fX2_nextDigit_c141 v p d) := by unfold gX2_nextDigit; (repeat' split) <;> rfl
theorem nx14 : mv14 (gX2_nextDigit v p d) = vp_updL (mv14 v) p.toNatClampNeg (nq (mv14 v (p - 1).toNatClampNeg) (mv15 v (p - 1).toNatClampNeg) (fX2_nextDigit_c88 v p)) := by unfold gX2_nextDigit; (repeat' split) <;> rfl
theorem nx15 : mv15 (gX2_nextDigit v p d) = vp_updL (mv15 v) p.toNatClampNeg (nr (mv14 v (p - 1).toNatClampNeg) (mv15 v (p - 1).toNatClampNeg) (fX2_nextDigit_c88 v p)) := by unfold gX2_nextDigit; (repeat' split) <;> rfl
theorem nx16 : mv16 (gX2_nextDigit v p d) = mv16 v := by unfold gX2_nextDigit; (repeat' split) <;> rfl
theorem nx17 : mv17 (gX2_nextDigit v p d) = mv17 v := by unfold gX2_nextDigit; (repeat' split) <;> rfl
theorem nx6 : mv6 (gX2_nextDigit v p d) = if mv6 v = 0 then (if (16 * d) / 3 < fX2_nextDigit_c114 v p d + fX2_nextDigit_c141 v p d then p else if -((16 * d) / 3) ≤ fX2_nextDigit_c114 v p d + fX2_nextDigit_c141 v p d then 0 else p) else mv6 v := by
  have e : fX2_nextDigit_c269 v p d = fX2_nextDigit_c114 v p d + fX2_nextDigit_c141 v p d := by
    unfold fX2_nextDigit_c269
    rw [updL_self, updL_self]
  unfold gX2_nextDigit
  rw [e]
  by_cases h1 : mv6 v = 0
  · rw [if_pos h1, if_pos h1]
    by_cases h2 : (16 * d) / 3 < fX2_nextDigit_c114 v p d + fX2_nextDigit_c141 v p d
    · rw [if_pos h2, if_pos h2]
    · rw [if_neg h2, if_neg h2]
      by_cases h3 : -((16 * d) / 3) ≤ fX2_nextDigit_c114 v p d + fX2_nextDigit_c141 v p d
      · rw [if_pos h3, if_pos h3]; exact h1
      · rw [if_neg h3, if_neg h3]
  · rw [if_neg h1, if_neg h1]
end NEXT
theorem tk_est (w : DV) {j : Nat} (hj : j < 2 ^ 30) : fX0_takeDigit_c36 w (nI (j + 1)) = est (dv2 w j) (dv3 w j) := by
  unfold fX0_takeDigit_c36
  rw [lpred, nI_clamp (by omega), shl2, shl2]
  rfl
theorem nx_est (v : MV) {j : Nat} (hj : j < 2 ^ 30) : fX2_nextDigit_c40 v (nI (j + 1)) = est (mv12 v j) (mv13 v j) := by
  unfold fX2_nextDigit_c40
  rw [lpred, nI_clamp (by omega)]
  rfl
theorem tk_col (w : DV) {j : Nat} (hj : j < 2 ^ 30) : fX0_takeDigit_m47 w (nI (j + 1)) = colx (est (dv2 w j) (dv3 w j)) := by
  unfold fX0_takeDigit_m47 fX0_takeDigit_m44
  rw [tk_est w hj, clamp_eq]
  rfl
theorem nx_col (v : MV) {j : Nat} (hj : j < 2 ^ 30) : fX2_nextDigit_j68 v (nI (j + 1)) = colx (est (mv12 v j) (mv13 v j)) := by
  unfold fX2_nextDigit_j68
  rw [nx_est v hj]
  rfl
theorem tk_sum (w : DV) (tb : Nat → Int32) (d : Int64) {j : Nat} (hj : j < 2 ^ 30) (hk : -2 ≤ (kC w tb (nI (j + 1))).toInt ∧ (kC w tb (nI (j + 1))).toInt ≤ 2) : fX0_takeDigit_c105 w tb (nI (j + 1)) d = nsum (dv2 w j) (dv3 w j) (nz (kC w tb (nI (j + 1))) d) ∧ fX0_takeDigit_c130 w tb (nI (j + 1)) d = ncar (dv2 w j) (dv3 w j) (nz (kC w tb (nI (j + 1))) d) := by
  have e : fX0_takeDigit_c74 w tb (nI (j + 1)) d = nz (kC w tb (nI (j + 1))) d := by
    show ((-8) * kC w tb (nI (j + 1))).toInt64 * d = _
    rw [mul8 hk.1 hk.2]
    rfl
  unfold fX0_takeDigit_c105 fX0_takeDigit_c130
  rw [e, lpred, nI_clamp (by omega), shl2, shl2, shl1]
  exact ⟨rfl, rfl⟩
theorem nx_sum (v : MV) (d : Int64) {j : Nat} (hj : j < 2 ^ 30) : fX2_nextDigit_c114 v (nI (j + 1)) d = nsum (mv12 v j) (mv13 v j) (nz (fX2_nextDigit_c88 v (nI (j + 1))) d) ∧ fX2_nextDigit_c141 v (nI (j + 1)) d = ncar (mv12 v j) (mv13 v j) (nz (fX2_nextDigit_c88 v (nI (j + 1))) d) := by
  unfold fX2_nextDigit_c114 fX2_nextDigit_c141
  rw [lpred, nI_clamp (by omega)]
  exact ⟨rfl, rfl⟩
/-- sum and carry of one digit: their long, and its size -/
theorem sc_new {x y : Int64} {k : Int32} {D : Nat} (hD : D < 4294967296) (h1 : -2 ≤ k.toInt) (h2 : k.toInt ≤ 2) (hb : 3 * (x + y).toInt.natAbs ≤ 16 * D) : -4611686018427387904 < 3 * (nsum x y (nz k (lN D)) + ncar x y (nz k (lN D))).toInt ∧ 3 * (nsum x y (nz k (lN D)) + ncar x y (nz k (lN D))).toInt < 4611686018427387904 := by
  unfold nsum ncar
  rw [l_csa, ← Int64.mul_add]
  have t4 : (4 : Int64).toInt = 4 := rfl
  have eD : (lN D).toInt = D := pk_lT (by omega)
  have e4 : (4 * (x + y)).toInt = 4 * (x + y).toInt := by rw [l_mul (by rw [t4]; omega) (by rw [t4]; omega), t4]
  have hz : -(16 * D : Int) ≤ (nz k (lN D)).toInt ∧ (nz k (lN D)).toInt ≤ 16 * D := by
    unfold nz
    have c1 : ((-8) * (-2 : Int32).toInt64).toInt = 16 := by decide
    have c2 : ((-8) * (-1 : Int32).toInt64).toInt = 8 := by decide
    have c3 : ((-8) * (0 : Int32).toInt64).toInt = 0 := by decide
    have c4 : ((-8) * (1 : Int32).toInt64).toInt = -8 := by decide
    have c5 : ((-8) * (2 : Int32).toInt64).toInt = -16 := by decide
    rcases d5 h1 h2 with rfl | rfl | rfl | rfl | rfl
    · rw [l_mul (by rw [c1, eD]; omega) (by rw [c1, eD]; omega), c1, eD]; omega
    · rw [l_mul (by rw [c2, eD]; omega) (by rw [c2, eD]; omega), c2, eD]; omega
    · rw [l_mul (by rw [c3, eD]; omega) (by rw [c3, eD]; omega), c3, eD]; omega
    · rw [l_mul (by rw [c4, eD]; omega) (by rw [c4, eD]; omega), c4, eD]; omega
    · rw [l_mul (by rw [c5, eD]; omega) (by rw [c5, eD]; omega), c5, eD]; omega
  rw [l_add (by rw [e4]; omega) (by rw [e4]; omega), e4]
  omega
/-- class and reference behind j digits -/
def ST (S : MV) (D ρ j : Nat) (w : DV) (v : MV) : Prop :=
  (dv6 w = nI ρ ∧ mv3 v = nI ρ ∧ mv0 v = mv0 S ∧ mv1 v = mv1 S) ∧
  (∀ i, i ≤ j → dv2 w i = mv12 v i ∧ dv3 w i = mv13 v i ∧ dv4 w i = mv14 v i ∧ dv5 w i = mv15 v i) ∧
  (∀ i, 1 ≤ i → i ≤ j → dv0 w i = mv10 v i ∧ dv1 w i = mv11 v i) ∧
  (dv11 w = mv6 v ∧ (dv11 w = 0 → 3 * (dv2 w j + dv3 w j).toInt.natAbs ≤ 16 * D) ∧ dv10 w = it_tlX2 v j)
theorem ST_step {S : MV} {D ρ j u : Nat} {w : DV} {v : MV} {tb : Nat → Int32} (hD : D < 4294967296) (hρ : ρ < 16) (hj : j + 1 ≤ 17) (hu : u < 4) (e1 : mv1 S = nI u) (htb : ∀ c, c < 2048 → tb c = mv0 S (2048 * u + c) ∧ -2 ≤ (tb c).toInt ∧ (tb c).toInt ≤ 2) (h : ST S D ρ j w v) : ST S D ρ (j + 1) (gX0_takeDigit w tb (nI (j + 1)) (lN D)) (gX2_nextDigit v (nI (j + 1)) (lN D)) := by
  obtain ⟨⟨a1, a2, a3, a4⟩, hs, hd, hl, hb, ht⟩ := h
  obtain ⟨s2, s3, s4, s5⟩ := hs j (Nat.le_refl _)
  obtain ⟨c, hc, ec⟩ := clampM (est (dv2 w j) (dv3 w j))
  have ec : colx (est (dv2 w j) (dv3 w j)) = nI c - 64 := ec
  have hk : kC w tb (nI (j + 1)) = fX2_nextDigit_c88 v (nI (j + 1)) ∧ -2 ≤ (kC w tb (nI (j + 1))).toInt ∧ (kC w tb (nI (j + 1))).toInt ≤ 2 := by
    unfold kC fX2_nextDigit_c88
    rw [tk_col w (by omega), nx_col v (by omega), ← s2, ← s3, ec, a1, a2, a3, a4, e1, cC, cM, nI_clamp (by omega), nI_clamp (by omega), Nat.add_assoc]
    exact htb _ (by omega)
  obtain ⟨hk, k1, k2⟩ := hk
  have cl : (nI (j + 1)).toNatClampNeg = j + 1 := nI_clamp (by omega)
  have cl0 : (nI (j + 1) - 1).toNatClampNeg = j := by rw [lpred, nI_clamp (by omega)]
  obtain ⟨u1, u2⟩ := tk_sum w tb (lN D) (j := j) (by omega) ⟨k1, k2⟩
  obtain ⟨v1, v2⟩ := nx_sum v (lN D) (j := j) (by omega)
  rw [← s2, ← s3, ← hk] at v1 v2
  generalize hkk : kC w tb (nI (j + 1)) = k at *
  refine ⟨⟨?_, ?_, ?_, ?_⟩, fun i hi => ?_, fun i h1 hi => ?_, ?_, ?_, ?_⟩
  · rw [take_6, a1]
  · rw [next_3, a2]
  · rw [nx0, a3]
  · rw [next_1, a4]
  · rw [tk2, tk3, tk4, tk5, nx12, nx13, nx14, nx15, cl, cl0, u1, u2, v1, v2]
    by_cases q : i = j + 1
    · subst q
      rw [updL_self, updL_self, updL_self, updL_self, updL_self, updL_self, updL_self, updL_self, s4, s5, ← hk, hkk]
      exact ⟨rfl, rfl, rfl, rfl⟩
    · rw [updL_ne _ _ q, updL_ne _ _ q, updL_ne _ _ q, updL_ne _ _ q, updL_ne _ _ q, updL_ne _ _ q, updL_ne _ _ q, updL_ne _ _ q]
      exact hs i (by omega)
  · rw [tk0, tk1, nx10, nx11, cl, tk_est w (by omega), nx_est v (by omega), ← s2, ← s3]
    by_cases q : i = j + 1
    · subst q
      rw [upd_self, upd_self, upd_self, upd_self, ← hk, hkk]
      exact ⟨rfl, rfl⟩
    · rw [upd_ne _ _ q, upd_ne _ _ q, upd_ne _ _ q, upd_ne _ _ q]
      exact hd i h1 (by omega)
  · rw [tk11, nx6, u1, u2, v1, v2, ← hl]
    by_cases q : dv11 w = 0
    · rw [if_pos q, if_pos q]
      obtain ⟨b1, b2⟩ := sc_new (x := dv2 w j) (y := dv3 w j) (k := k) hD k1 k2 (hb q)
      obtain ⟨t1, t2, t3⟩ := left_eq hD b1 b2
      generalize nsum (dv2 w j) (dv3 w j) (nz k (lN D)) + ncar (dv2 w j) (dv3 w j) (nz k (lN D)) = W at *
      by_cases g : 3 * W.toInt.natAbs ≤ 16 * D
      · rw [if_pos (t1.mpr g), if_neg (fun z => by have := t2.mp z; omega), if_pos (t3.mpr (by omega))]
      · rw [if_neg (fun z => g (t1.mp z))]
        by_cases g2 : (16 * D : Int) < 3 * W.toInt
        · rw [if_pos (t2.mpr g2)]
        · rw [if_neg (fun z => g2 (t2.mp z)), if_neg (fun z => by have := t3.mp z; omega)]
    · rw [if_neg q, if_neg q]
  · rw [tk11, tk2, tk3, cl, updL_self, updL_self, u1, u2]
    intro z
    by_cases q : dv11 w = 0
    · rw [if_pos q] at z
      obtain ⟨b1, b2⟩ := sc_new (x := dv2 w j) (y := dv3 w j) (k := k) hD k1 k2 (hb q)
      obtain ⟨t1, t2, t3⟩ := left_eq hD b1 b2
      generalize nsum (dv2 w j) (dv3 w j) (nz k (lN D)) + ncar (dv2 w j) (dv3 w j) (nz k (lN D)) = W at *
      by_cases g : 3 * W.toInt.natAbs ≤ 16 * D
      · exact g
      · rw [if_neg (fun z => g (t1.mp z))] at z
        exact absurd z (nI_ne0 (by omega) (by omega))
    · rw [if_neg q] at z
      exact absurd z q
  · show _ = st_tlX2 _ j (it_tlX2 _ j)
    rw [tl_congr (S := v) j (by omega) (fun i h1 h2 => by rw [nx10, cl, upd_ne _ _ (by omega)]), ← ht, tk10]
    unfold st_tlX2 fX2_told_j27
    rw [nx10, cl, upd_self, ← hk]
    by_cases q : k = 0
    · rw [if_pos (by rw [hkk]; exact q), if_pos q, Int32.add_zero]
    · rw [if_neg (by rw [hkk]; exact q), if_neg q]
