/-! a whole division of the class and of the reference -/
theorem e_rng {P M : Nat} : fX0_begin_j39 P M = 2 ∨ fX0_begin_j39 P M = 3 := by
  unfold fX0_begin_j39
  split
  · exact Or.inl rfl
  · exact Or.inr rfl
/-- the first state's size -/
theorem st0 {P M D : Nat} {p : Int64} (hp : p = lN P) (hP : P ≤ 2147483648) (hD : 2147483648 ≤ D) : 3 * (fX0_begin_c96 P M p + 0).toInt.natAbs ≤ 16 * D := by
  have hl := dbl_lt hP
  unfold fX0_begin_c96
  have e8 : (8 : Int64) = lN 8 := rfl
  rw [Int64.add_zero, d_eq hp, e8, lN_mul]
  rcases e_rng (P := P) (M := M) with h | h
  · rw [h, show (2 : Int32) = nI 2 from rfl, l_shr (by omega) (by decide), pk_lT (by omega)]
    omega
  · rw [h, show (3 : Int32) = nI 3 from rfl, l_shr (by omega) (by decide), pk_lT (by omega)]
    omega
/-- what stays through the digits -/
def CO (S : MV) (a b : Int32) (w : DV) (v : MV) : Prop :=
  (dv7 w = nI (dbl a.toInt.natAbs) ∧ dv8 w = nI (dbl b.toInt.natAbs) ∧ dv9 w = nI (nN a.toInt.natAbs b.toInt.natAbs)) ∧
  (mv2 v = nI (nN a.toInt.natAbs b.toInt.natAbs) ∧ mv4 v = nI (dbl a.toInt.natAbs) ∧ mv5 v = nI (dbl b.toInt.natAbs) ∧ mv9 v = 1) ∧ mv16 v = mv16 S ∧ mv17 v = mv17 S
theorem CO_step {S : MV} {a b : Int32} {w : DV} {v : MV} (h : CO S a b w v) (tb : Nat → Int32) (p : Int32) (d : Int64) : CO S a b (gX0_takeDigit w tb p d) (gX2_nextDigit v p d) := by
  obtain ⟨⟨h1, h2, h3⟩, ⟨h4, h5, h6, h7⟩, h8, h9⟩ := h
  refine ⟨⟨?_, ?_, ?_⟩, ⟨?_, ?_, ?_, ?_⟩, ?_, ?_⟩
  · rw [tk7, h1]
  · rw [take_8, h2]
  · rw [take_9, h3]
  · rw [next_2, h4]
  · rw [nx4, h5]
  · rw [next_5, h6]
  · rw [nx9, h7]
  · rw [nx16, h8]
  · rw [nx17, h9]
section RUN
variable {S : MV} {a b : Int32} {u : Nat} {tb : Nat → Int32}
theorem run0 (SL : DV) (hb : ¬ b = 0) (hab : b.toInt.natAbs ≤ a.toInt.natAbs) : ST S (b.toInt.natAbs * 2 ^ dbl b.toInt.natAbs) (rowN b.toInt.natAbs) 0 (it_runX0 SL tb a b 0) (it_wkX2 S a b 0) ∧ CO S a b (it_runX0 SL tb a b 0) (it_wkX2 S a b 0) := by
  have hP := nabs_le a
  have hM := nabs_le b
  have hM1 := nabs_pos hb
  have hd := dbl_mono hP hab
  have m2 : fX0_run_m2 a = lN a.toInt.natAbs := ax_abs a
  have m9 : fX0_run_m9 b = lN b.toInt.natAbs := ax_abs b
  have es : fX2_work_c177 a b = fX0_begin_c96 a.toInt.natAbs b.toInt.natAbs (fX0_run_m2 a) := by
    unfold fX2_work_c177 fX0_begin_c96
    rw [m2, ax_size]
    rfl
  refine ⟨⟨⟨?_, ?_, rfl, rfl⟩, fun i hi => ?_, fun i h1 h2 => by omega, rfl, fun _ => ?_, rfl⟩, ⟨rfl, rfl, ?_⟩, ⟨?_, rfl, rfl, rfl⟩, rfl, rfl⟩
  · show fX0_begin_c75 b.toInt.natAbs (fX0_run_m9 b) = _
    exact row_C m9 hM
  · show fX2_work_c156 b = _
    exact row_M (ax_size b) hM
  · have : i = 0 := by omega
    subst this
    refine ⟨?_, rfl, rfl, rfl⟩
    show fX0_begin_c96 a.toInt.natAbs b.toInt.natAbs (fX0_run_m2 a) = fX2_work_c177 a b
    rw [es]
  · show 3 * (fX0_begin_c96 a.toInt.natAbs b.toInt.natAbs (fX0_run_m2 a) + 0).toInt.natAbs ≤ _
    exact st0 m2 hP (dbl_ge hM1 hM)
  · exact begin_n hd
  · show fX2_work_c134 a b = _
    unfold fX2_work_c134 fX2_work_j124
    exact work_n hd
theorem run_it (SL : DV) (hb : ¬ b = 0) (hab : b.toInt.natAbs ≤ a.toInt.natAbs) (hu : u < 4) (e1 : mv1 S = nI u) (htb : ∀ c, c < 2048 → tb c = mv0 S (2048 * u + c) ∧ -2 ≤ (tb c).toInt ∧ (tb c).toInt ≤ 2) : ∀ n, n ≤ 17 → ST S (b.toInt.natAbs * 2 ^ dbl b.toInt.natAbs) (rowN b.toInt.natAbs) n (it_runX0 SL tb a b n) (it_wkX2 S a b n) ∧ CO S a b (it_runX0 SL tb a b n) (it_wkX2 S a b n) := by
  have hM := nabs_le b
  have m9 : fX0_run_m9 b = lN b.toInt.natAbs := ax_abs b
  intro n
  induction n with
  | zero => intro _; exact run0 SL hb hab
  | succ n ih =>
    intro hn
    obtain ⟨i1, i2⟩ := ih (by omega)
    have d1 : fX0_run_c45 SL a b = lN (b.toInt.natAbs * 2 ^ dbl b.toInt.natAbs) := d_eq m9
    have d2 : (fX2_sizeOf b) <<< ((nI (dbl (b.toInt.natAbs))).toInt64 &&& 63) = lN (b.toInt.natAbs * 2 ^ dbl b.toInt.natAbs) := d_eq (ax_size b)
    show ST _ _ _ _ (st_runX0 SL tb a b n (it_runX0 SL tb a b n)) (st_wkX2 b n (it_wkX2 S a b n)) ∧ CO S a b (st_runX0 SL tb a b n (it_runX0 SL tb a b n)) (st_wkX2 b n (it_wkX2 S a b n))
    unfold st_runX0 st_wkX2
    rw [d1, d2]
    exact ⟨ST_step (dbl_lt hM) (rowN_lt _) hn hu e1 htb i1, CO_step i2 _ _ _⟩
/-- the last words of a division -/
def finV (b a : Int32) (V : MV) (d : Int64) (n : Nat) : MV := ((mv0 V), (mv1 V), (mv2 V), (mv3 V), (mv4 V), (mv5 V), (mv6 V), (if (fX2_work_j297 a) = (fX2_work_j306 b) then (if 0 ≤ mv12 V n + mv13 V n then mv14 V n else mv15 V n) else -(if 0 ≤ mv12 V n + mv13 V n then mv14 V n else mv15 V n)).toInt32, (if 0 ≤ a then (if 0 ≤ mv12 V n + mv13 V n then mv12 V n + mv13 V n else mv12 V n + mv13 V n + 8 * d) / (8 <<< ((mv5 V).toInt64 &&& 63)) else -((if 0 ≤ mv12 V n + mv13 V n then mv12 V n + mv13 V n else mv12 V n + mv13 V n + 8 * d) / (8 <<< ((mv5 V).toInt64 &&& 63)))).toInt32, (mv9 V), (mv10 V), (mv11 V), (mv12 V), (mv13 V), (mv14 V), (mv15 V), (mv16 V), (mv17 V))
theorem fin_RD {D ρ n : Nat} {W : DV} {V : MV} (hn : n ≤ 17) (h : ST S D ρ n W V) (h9 : dv9 W = nI n) (h2 : mv2 V = nI n) (h7 : dv7 W = mv4 V) (h8 : dv8 W = mv5 V) (hv : mv9 V = 1) : RD (gX0_finish W (lN D) (fX0_run_j103 a b) (fX0_run_j112 a)) (finV b a V (lN D) n) := by
  obtain ⟨⟨a1, a2, a3, a4⟩, hs, hd, hl, hbd, ht⟩ := h
  obtain ⟨s2, s3, s4, s5⟩ := hs n (Nat.le_refl _)
  have c9 : (dv9 W).toNatClampNeg = n := by rw [h9, nI_clamp (by omega)]
  refine ⟨n, ⟨hn, h9, h2, a1.trans a2.symm, h7, h8, hl, ?_, ?_, ?_⟩, fun j h1 h2 => hd j h1 h2, Or.inl ⟨hv, fun j hj => hs j hj⟩⟩
  · show (fX0_finish_j95 W (fX0_run_j103 a b)).toInt32 = (if (fX2_work_j297 a) = (fX2_work_j306 b) then (if 0 ≤ mv12 V n + mv13 V n then mv14 V n else mv15 V n) else -(if 0 ≤ mv12 V n + mv13 V n then mv14 V n else mv15 V n)).toInt32
    unfold fX0_finish_j95 fX0_finish_j49 fX0_run_j103
    rw [c9, s2, s3, s4, s5]
    show (if (if (fX2_work_j297 a) = (fX2_work_j306 b) then (0 : Int32) else 1) = 0 then _ else _ : Int64).toInt32 = _
    by_cases q : (fX2_work_j297 a) = (fX2_work_j306 b)
    · rw [if_pos q, if_pos q, if_pos rfl]
    · rw [if_neg q, if_neg q, if_neg (by decide)]
  · show (fX0_finish_j113 W (lN D) (fX0_run_j112 a)).toInt32 = (if 0 ≤ a then (if 0 ≤ mv12 V n + mv13 V n then mv12 V n + mv13 V n else mv12 V n + mv13 V n + 8 * lN D) / (8 <<< ((mv5 V).toInt64 &&& 63)) else -((if 0 ≤ mv12 V n + mv13 V n then mv12 V n + mv13 V n else mv12 V n + mv13 V n + 8 * lN D) / (8 <<< ((mv5 V).toInt64 &&& 63)))).toInt32
    unfold fX0_finish_j113 fX0_finish_j71 fX0_run_j112
    rw [c9, s2, s3, h8]
    by_cases q : 0 ≤ a
    · rw [if_pos q, if_pos q, if_pos rfl]
    · rw [if_neg q, if_neg q, if_neg (by decide)]
  · show dv10 W = _
    rw [ht]
    exact (tl_congr (S := V) (S' := finV b a V (lN D) n) n hn (fun j _ _ => rfl)).symm
theorem work_fin (hc : ¬ fX2_sizeOf a < fX2_sizeOf b) (h2 : mv2 (it_wkX2 S a b (nN a.toInt.natAbs b.toInt.natAbs)) = nI (nN a.toInt.natAbs b.toInt.natAbs)) : gX2_work S a b = finV b a (it_wkX2 S a b (nN a.toInt.natAbs b.toInt.natAbs)) (lN (b.toInt.natAbs * 2 ^ dbl b.toInt.natAbs)) (nN a.toInt.natAbs b.toInt.natAbs) := by
  have d2 : (fX2_sizeOf b) <<< ((nI (dbl (b.toInt.natAbs))).toInt64 &&& 63) = lN (b.toInt.natAbs * 2 ^ dbl b.toInt.natAbs) := d_eq (ax_size b)
  have hn := nN_le a.toInt.natAbs b.toInt.natAbs
  unfold gX2_work fX2_work_j317_1 fX2_work_j334_1 fX2_work_c285 fX2_work_j276 fX2_work_j253 fX2_work_c223
  rw [if_neg hc, d2]
  generalize it_wkX2 S a b (nN a.toInt.natAbs b.toInt.natAbs) = V at h2 ⊢
  rw [h2, nI_clamp (by omega)]
  unfold finV
  rw [h2]
/-- a division, on both sides, whatever stood there before -/
theorem run_sim (SL : DV) (hb : ¬ b = 0) (hu : u < 4) (e1 : mv1 S = nI u) (htb : ∀ c, c < 2048 → tb c = mv0 S (2048 * u + c) ∧ -2 ≤ (tb c).toInt ∧ (tb c).toInt ≤ 2) : RD (gX0_run SL tb a b) (gX2_work S a b) ∧ mv0 (gX2_work S a b) = mv0 S ∧ mv1 (gX2_work S a b) = mv1 S ∧ mv16 (gX2_work S a b) = mv16 S ∧ mv17 (gX2_work S a b) = mv17 S := by
  have hP := nabs_le a
  have hM := nabs_le b
  have m2 : fX0_run_m2 a = lN a.toInt.natAbs := ax_abs a
  have m9 : fX0_run_m9 b = lN b.toInt.natAbs := ax_abs b
  have s1 := ax_size a
  have s2 := ax_size b
  by_cases hab : b.toInt.natAbs ≤ a.toInt.natAbs
  · have c1 : fX0_run_m9 b ≤ fX0_run_m2 a := by rw [m2, m9]; exact (pk_lLE (by omega) (by omega)).mpr hab
    have c2 : ¬ fX2_sizeOf a < fX2_sizeOf b := by rw [s1, s2]; intro q; have := (pk_lLT (by omega) (by omega)).mp q; omega
    have hn := nN_le a.toInt.natAbs b.toInt.natAbs
    obtain ⟨i1, i2⟩ := run_it SL hb hab hu e1 htb (nN a.toInt.natAbs b.toInt.natAbs) hn
    have d1 : fX0_run_c45 SL a b = lN (b.toInt.natAbs * 2 ^ dbl b.toInt.natAbs) := d_eq m9
    rw [work_fin c2 i2.2.1.1]
    unfold gX0_run
    rw [if_pos c1, d1]
    generalize it_runX0 SL tb a b (nN a.toInt.natAbs b.toInt.natAbs) = W at i1 i2 ⊢
    generalize it_wkX2 S a b (nN a.toInt.natAbs b.toInt.natAbs) = V at i1 i2 ⊢
    exact ⟨fin_RD hn i1 i2.1.2.2 i2.2.1.1 (i2.1.1.trans i2.2.1.2.1.symm) (i2.1.2.1.trans i2.2.1.2.2.1.symm) i2.2.1.2.2.2, i1.1.2.2.1, i1.1.2.2.2, i2.2.2.1, i2.2.2.2⟩
  · have c1 : ¬ fX0_run_m9 b ≤ fX0_run_m2 a := by rw [m2, m9]; intro q; exact hab ((pk_lLE (by omega) (by omega)).mp q)
    have c2 : fX2_sizeOf a < fX2_sizeOf b := by rw [s1, s2]; exact (pk_lLT (by omega) (by omega)).mpr (by omega)
    unfold gX0_run gX2_work
    rw [if_neg c1, if_pos c2]
    refine ⟨⟨0, ⟨by decide, rfl, rfl, rfl, rfl, rfl, rfl, ?_, ?_, rfl⟩, fun j h1 h2 => by omega, Or.inl ⟨rfl, fun j hj => ?_⟩⟩, rfl, rfl, rfl, rfl⟩
    · show (0 : Int32) = (fX2_work_j317 a b).toInt32
      unfold fX2_work_j317
      split <;> rfl
    · show a = (fX2_work_j334 a).toInt32
      unfold fX2_work_j334 fX2_sizeOf fX2_sizeOf_j12
      by_cases q : 0 ≤ a
      · rw [if_pos q, if_pos q, Int32.toInt32_toInt64]
      · rw [if_neg q, if_neg q, Int64.neg_neg, Int32.toInt32_toInt64]
    · have : j = 0 := by omega
      subst this
      exact ⟨rfl, rfl, rfl, rfl⟩
end RUN
section REL
variable {M : Nat → Nat → Int32} {gd : Nat → Int32} {ui : Int32} {SL SS : DV} {S : MV}
theorem RT_tb (hT : RT M S) (hv : vp_in ui 4) (e : ui = mv1 S) : ∃ u, u < 4 ∧ mv1 S = nI u ∧ M ui.toNatClampNeg = M u ∧ ∀ c, c < 2048 → M u c = mv0 S (2048 * u + c) ∧ -2 ≤ (M u c).toInt ∧ (M u c).toInt ≤ 2 := by
  obtain ⟨u, hu, rfl⟩ := vp_in_of hv (by decide)
  exact ⟨u, hu, e.symm, by rw [nI_clamp (by omega)], fun c hc => hT u c hu hc⟩
theorem L_divide (h : RR M gd ui SL S) (a b : Int32) : (gX1_divide M SL ui a b).1 = (gX2_divide S a b).1 ∧ RR M gd ui (gX1_divide M SL ui a b).2 (gX2_divide S a b).2 := by
  obtain ⟨hT, hG, e, hv, hD⟩ := h
  unfold gX1_divide gX2_divide
  by_cases hb : b = 0
  · rw [if_pos hb, if_pos hb]
    exact ⟨rfl, hT, hG, e, hv, hD⟩
  rw [if_neg hb, if_neg hb]
  obtain ⟨u, hu, e1, e2, htb⟩ := RT_tb hT hv e
  rw [e2]
  obtain ⟨r1, r2, r3, r4, r5⟩ := run_sim (a := a) SL hb hu e1 htb
  generalize gX0_run SL (M u) a b = W at r1 ⊢
  generalize gX2_work S a b = V at r1 r2 r3 r4 r5 ⊢
  refine ⟨?_, ?_, hG, e.trans r3.symm, hv, r1⟩
  · obtain ⟨nn, hI, -, -⟩ := r1
    exact hI.2.1.trans hI.2.2.1.symm
  · intro t c ht hc
    show M t c = mv0 V (2048 * t + c) ∧ _
    rw [r2]
    exact hT t c ht hc
end REL
