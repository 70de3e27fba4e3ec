/-! a sweep: what is kept and laid back, and the count -/
theorem i64_div (x y : Int32) : (x.toInt64 / y.toInt64).toInt32 = x / y := by
  apply Int32.toInt_inj.mp
  rw [Int64.toInt_toInt32, Int64.toInt_div, Int32.toInt_div, Int32.toInt_toInt64, Int32.toInt_toInt64, Int.bmod_bmod_of_dvd (by decide)]
theorem i64_rem (x y : Int32) : (x.toInt64 - x.toInt64 / y.toInt64 * y.toInt64).toInt32 = x - x / y * y := by
  rw [Int64.toInt32_sub, Int64.toInt32_mul, i64_div, Int32.toInt32_toInt64, Int32.toInt32_toInt64]
theorem cl20 {i : Nat} (h : i < 20) : (20 + nI i).toNatClampNeg = 20 + i := by
  rw [show (20 : Int32) = nI 20 from rfl, nI_add, nI_clamp (by omega)]
theorem cl40 {i : Nat} (h : i < 20) : (40 + nI i).toNatClampNeg = 40 + i := by
  rw [show (40 : Int32) = nI 40 from rfl, nI_add, nI_clamp (by omega)]
theorem cl60 {i : Nat} (h : i < 20) : (60 + nI i).toNatClampNeg = 60 + i := by
  rw [show (60 : Int32) = nI 60 from rfl, nI_add, nI_clamp (by omega)]
/-- the last division as it stands in the two places kept -/
def KP (S : MV) (f : Nat → Int32) (g : Nat → Int64) (n : Nat) : Prop := ∀ i, i < n → f i = mv10 S i ∧ f (20 + i) = mv11 S i ∧ g i = mv12 S i ∧ g (20 + i) = mv13 S i ∧ g (40 + i) = mv14 S i ∧ g (60 + i) = mv15 S i
theorem ke_spec (S : MV) : ∀ n, n ≤ 20 → KP S (mv16 (it_keX2 S n)) (mv17 (it_keX2 S n)) n ∧ SM S (it_keX2 S n) := by
  intro n
  induction n with
  | zero => intro _; exact ⟨fun i hi => by omega, SM.refl S⟩
  | succ n ih =>
    intro hn
    obtain ⟨h1, h2⟩ := ih (by omega)
    show KP S (mv16 (st_keX2 n (it_keX2 S n))) (mv17 (st_keX2 n (it_keX2 S n))) (n + 1) ∧ SM S (st_keX2 n (it_keX2 S n))
    generalize it_keX2 S n = w at h1 h2 ⊢
    refine ⟨fun i hi => ?_, h2.trans (SM.refl w)⟩
    show upd (upd (mv16 w) (nI n).toNatClampNeg (mv10 w (nI n).toNatClampNeg)) (20 + nI n).toNatClampNeg (mv11 w (nI n).toNatClampNeg) i = _ ∧ upd (upd (mv16 w) (nI n).toNatClampNeg (mv10 w (nI n).toNatClampNeg)) (20 + nI n).toNatClampNeg (mv11 w (nI n).toNatClampNeg) (20 + i) = _ ∧ vp_updL (vp_updL (vp_updL (vp_updL (mv17 w) (nI n).toNatClampNeg (mv12 w (nI n).toNatClampNeg)) (20 + nI n).toNatClampNeg (mv13 w (nI n).toNatClampNeg)) (40 + nI n).toNatClampNeg (mv14 w (nI n).toNatClampNeg)) (60 + nI n).toNatClampNeg (mv15 w (nI n).toNatClampNeg) i = _ ∧ vp_updL (vp_updL (vp_updL (vp_updL (mv17 w) (nI n).toNatClampNeg (mv12 w (nI n).toNatClampNeg)) (20 + nI n).toNatClampNeg (mv13 w (nI n).toNatClampNeg)) (40 + nI n).toNatClampNeg (mv14 w (nI n).toNatClampNeg)) (60 + nI n).toNatClampNeg (mv15 w (nI n).toNatClampNeg) (20 + i) = _ ∧ vp_updL (vp_updL (vp_updL (vp_updL (mv17 w) (nI n).toNatClampNeg (mv12 w (nI n).toNatClampNeg)) (20 + nI n).toNatClampNeg (mv13 w (nI n).toNatClampNeg)) (40 + nI n).toNatClampNeg (mv14 w (nI n).toNatClampNeg)) (60 + nI n).toNatClampNeg (mv15 w (nI n).toNatClampNeg) (40 + i) = _ ∧ vp_updL (vp_updL (vp_updL (vp_updL (mv17 w) (nI n).toNatClampNeg (mv12 w (nI n).toNatClampNeg)) (20 + nI n).toNatClampNeg (mv13 w (nI n).toNatClampNeg)) (40 + nI n).toNatClampNeg (mv14 w (nI n).toNatClampNeg)) (60 + nI n).toNatClampNeg (mv15 w (nI n).toNatClampNeg) (60 + i) = _
    rw [cl20 (by omega), cl40 (by omega), cl60 (by omega), nI_clamp (by omega)]
    obtain ⟨c1, c2, c3, c4, c5, c6⟩ := h2.2 n (by omega)
    by_cases q : i = n
    · subst q
      rw [upd_ne _ _ (by omega), upd_self, upd_self, updL_ne _ _ (by omega), updL_ne _ _ (by omega), updL_ne _ _ (by omega), updL_self, updL_ne _ _ (by omega), updL_ne _ _ (by omega), updL_self, updL_ne _ _ (by omega), updL_self, updL_self]
      exact ⟨c1, c2, c3, c4, c5, c6⟩
    · rw [upd_ne _ _ (by omega), upd_ne _ _ (by omega), upd_ne _ _ (by omega), upd_ne _ _ (by omega)]
      iterate 16 rw [updL_ne _ _ (by omega)]
      exact h1 i (by omega)
theorem ba_spec (V : MV) : ∀ n, n ≤ 20 → (mv16 (it_baX2 V n) = mv16 V ∧ mv17 (it_baX2 V n) = mv17 V ∧ mv0 (it_baX2 V n) = mv0 V ∧ mv1 (it_baX2 V n) = mv1 V) ∧ ∀ i, i < n → mv10 (it_baX2 V n) i = mv16 V i ∧ mv11 (it_baX2 V n) i = mv16 V (20 + i) ∧ mv12 (it_baX2 V n) i = mv17 V i ∧ mv13 (it_baX2 V n) i = mv17 V (20 + i) ∧ mv14 (it_baX2 V n) i = mv17 V (40 + i) ∧ mv15 (it_baX2 V n) i = mv17 V (60 + i) := by
  intro n
  induction n with
  | zero => intro _; exact ⟨⟨rfl, rfl, rfl, rfl⟩, fun i hi => by omega⟩
  | succ n ih =>
    intro hn
    obtain ⟨⟨h1, h2, h3, h4⟩, h5⟩ := ih (by omega)
    show (mv16 (st_baX2 n (it_baX2 V n)) = mv16 V ∧ mv17 (st_baX2 n (it_baX2 V n)) = mv17 V ∧ mv0 (st_baX2 n (it_baX2 V n)) = mv0 V ∧ mv1 (st_baX2 n (it_baX2 V n)) = mv1 V) ∧ ∀ i, i < n + 1 → mv10 (st_baX2 n (it_baX2 V n)) i = mv16 V i ∧ mv11 (st_baX2 n (it_baX2 V n)) i = mv16 V (20 + i) ∧ mv12 (st_baX2 n (it_baX2 V n)) i = mv17 V i ∧ mv13 (st_baX2 n (it_baX2 V n)) i = mv17 V (20 + i) ∧ mv14 (st_baX2 n (it_baX2 V n)) i = mv17 V (40 + i) ∧ mv15 (st_baX2 n (it_baX2 V n)) i = mv17 V (60 + i)
    generalize it_baX2 V n = w at h1 h2 h3 h4 h5 ⊢
    refine ⟨⟨h1, h2, h3, h4⟩, fun i hi => ?_⟩
    show upd (mv10 w) (nI n).toNatClampNeg (mv16 w (nI n).toNatClampNeg) i = _ ∧ upd (mv11 w) (nI n).toNatClampNeg (mv16 w (20 + nI n).toNatClampNeg) i = _ ∧ vp_updL (mv12 w) (nI n).toNatClampNeg (mv17 w (nI n).toNatClampNeg) i = _ ∧ vp_updL (mv13 w) (nI n).toNatClampNeg (mv17 w (20 + nI n).toNatClampNeg) i = _ ∧ vp_updL (mv14 w) (nI n).toNatClampNeg (mv17 w (40 + nI n).toNatClampNeg) i = _ ∧ vp_updL (mv15 w) (nI n).toNatClampNeg (mv17 w (60 + nI n).toNatClampNeg) i = _
    rw [cl20 (by omega), cl40 (by omega), cl60 (by omega), nI_clamp (by omega), h1, h2]
    by_cases q : i = n
    · subst q
      rw [upd_self, upd_self, updL_self, updL_self, updL_self, updL_self]
      exact ⟨rfl, rfl, rfl, rfl, rfl, rfl⟩
    · rw [upd_ne _ _ q, upd_ne _ _ q, updL_ne _ _ q, updL_ne _ _ q, updL_ne _ _ q, updL_ne _ _ q]
      exact h5 i (by omega)
/-- what keep writes -/
theorem keep_spec {S w : MV} (h : KP S (mv16 w) (mv17 w) 20 ∧ SM S w) : KP S (mv16 (gX2_keep_o w)) (mv17 (gX2_keep_o w)) 20 ∧ mv16 (gX2_keep_o w) 40 = mv2 S ∧ mv16 (gX2_keep_o w) 41 = mv3 S ∧ mv16 (gX2_keep_o w) 42 = mv4 S ∧ mv16 (gX2_keep_o w) 43 = mv5 S ∧ mv16 (gX2_keep_o w) 44 = mv6 S ∧ mv16 (gX2_keep_o w) 45 = mv7 S ∧ mv16 (gX2_keep_o w) 46 = mv8 S ∧ mv16 (gX2_keep_o w) 47 = if mv9 S = 0 then 0 else 1 := by
  obtain ⟨h1, ⟨a1, a2, a3, a4, a5, a6, a7, a8⟩, -⟩ := h
  have e : mv16 (gX2_keep_o w) = upd (upd (upd (upd (upd (upd (upd (upd (mv16 w) 40 (mv2 w)) 41 (mv3 w)) 42 (mv4 w)) 43 (mv5 w)) 44 (mv6 w)) 45 (mv7 w)) 46 (mv8 w)) 47 (if mv9 w = 0 then 0 else 1) := rfl
  rw [e]
  refine ⟨fun i hi => ?_, ?_, ?_, ?_, ?_, ?_, ?_, ?_, ?_⟩
  · obtain ⟨b1, b2, b3⟩ := h1 i hi
    iterate 16 rw [upd_ne _ _ (by omega)]
    exact ⟨b1, b2, b3⟩
  · iterate 7 rw [upd_ne _ _ (by omega)]
    rw [upd_self]; exact a1
  · iterate 6 rw [upd_ne _ _ (by omega)]
    rw [upd_self]; exact a2
  · iterate 5 rw [upd_ne _ _ (by omega)]
    rw [upd_self]; exact a3
  · iterate 4 rw [upd_ne _ _ (by omega)]
    rw [upd_self]; exact a4
  · iterate 3 rw [upd_ne _ _ (by omega)]
    rw [upd_self]; exact a5
  · iterate 2 rw [upd_ne _ _ (by omega)]
    rw [upd_self]; exact a6
  · rw [upd_ne _ _ (by omega), upd_self]; exact a7
  · rw [upd_self, a8]
theorem back_o {S k V W : MV} (h9 : mv9 S = 0 ∨ mv9 S = 1) (hk : KP S (mv16 k) (mv17 k) 20 ∧ mv16 k 40 = mv2 S ∧ mv16 k 41 = mv3 S ∧ mv16 k 42 = mv4 S ∧ mv16 k 43 = mv5 S ∧ mv16 k 44 = mv6 S ∧ mv16 k 45 = mv7 S ∧ mv16 k 46 = mv8 S ∧ mv16 k 47 = if mv9 S = 0 then 0 else 1) (e16 : mv16 V = mv16 k) (e17 : mv17 V = mv17 k) (e0 : mv0 V = mv0 S) (e1 : mv1 V = mv1 S)
    (hW : (mv16 W = mv16 V ∧ mv17 W = mv17 V ∧ mv0 W = mv0 V ∧ mv1 W = mv1 V) ∧ ∀ i, i < 20 → mv10 W i = mv16 V i ∧ mv11 W i = mv16 V (20 + i) ∧ mv12 W i = mv17 V i ∧ mv13 W i = mv17 V (20 + i) ∧ mv14 W i = mv17 V (40 + i) ∧ mv15 W i = mv17 V (60 + i)) : SM S (gX2_back_o W) ∧ mv0 (gX2_back_o W) = mv0 S ∧ mv1 (gX2_back_o W) = mv1 S := by
  obtain ⟨k0, k1, k2, k3, k4, k5, k6, k7, k8⟩ := hk
  obtain ⟨⟨w1, w2, w3, w4⟩, w5⟩ := hW
  have e : mv16 W = mv16 k := w1.trans e16
  rw [e16, e17] at w5
  refine ⟨⟨⟨?_, ?_, ?_, ?_, ?_, ?_, ?_, ?_⟩, fun i hi => ?_⟩, w3.trans e0, w4.trans e1⟩
  · show mv16 W 40 = _; rw [e]; exact k1
  · show mv16 W 41 = _; rw [e]; exact k2
  · show mv16 W 42 = _; rw [e]; exact k3
  · show mv16 W 43 = _; rw [e]; exact k4
  · show mv16 W 44 = _; rw [e]; exact k5
  · show mv16 W 45 = _; rw [e]; exact k6
  · show mv16 W 46 = _; rw [e]; exact k7
  · show (if mv16 W 47 = 1 then 1 else 0) = mv9 S
    rw [e, k8]
    rcases h9 with h | h <;> rw [h] <;> rfl
  · obtain ⟨c1, c2, c3, c4, c5, c6⟩ := w5 i hi
    obtain ⟨d1, d2, d3, d4, d5, d6⟩ := k0 i hi
    exact ⟨c1.trans d1, c2.trans d2, c3.trans d3, c4.trans d4, c5.trans d5, c6.trans d6⟩
section REL
variable {M : Nat → Nat → Int32} {gd : Nat → Int32} {ui : Int32} {SL SS : DV} {S : MV}
theorem sw_it (hT : RT M S) (hv : vp_in ui 4) (e : ui = mv1 S) {k : MV} (hk : gX2_keep S = k) (k0 : mv0 k = mv0 S) (k1 : mv1 k = mv1 S) (SS : DV) (a c : Int32) (hc : ¬ c = 0) : ∀ n, (it_swX1 M SS ui a c n).1 = (it_swX2 S a c n).1 ∧ mv0 (it_swX2 S a c n).2 = mv0 S ∧ mv1 (it_swX2 S a c n).2 = mv1 S ∧ mv16 (it_swX2 S a c n).2 = mv16 k ∧ mv17 (it_swX2 S a c n).2 = mv17 k := by
  intro n
  induction n with
  | zero =>
    show (0 : Int32) = 0 ∧ mv0 (gX2_keep S) = mv0 S ∧ mv1 (gX2_keep S) = mv1 S ∧ mv16 (gX2_keep S) = mv16 k ∧ mv17 (gX2_keep S) = mv17 k
    rw [hk]
    exact ⟨rfl, k0, k1, rfl, rfl⟩
  | succ n ih =>
    show (st_swX1 M ui a c n (it_swX1 M SS ui a c n).1 (it_swX1 M SS ui a c n).2).1 = (st_swX2 a c n (it_swX2 S a c n).1 (it_swX2 S a c n).2).1 ∧ mv0 (gX2_work (it_swX2 S a c n).2 (a + nI n) c) = mv0 S ∧ mv1 (gX2_work (it_swX2 S a c n).2 (a + nI n) c) = mv1 S ∧ mv16 (gX2_work (it_swX2 S a c n).2 (a + nI n) c) = mv16 k ∧ mv17 (gX2_work (it_swX2 S a c n).2 (a + nI n) c) = mv17 k
    generalize it_swX1 M SS ui a c n = w at ih ⊢
    generalize it_swX2 S a c n = v at ih ⊢
    obtain ⟨i1, i2, i3, i4, i5⟩ := ih
    have hT2 : RT M v.2 := fun t d ht hd => by rw [i2]; exact hT t d ht hd
    obtain ⟨u, hu, e1, e2, htb⟩ := RT_tb hT2 hv (e.trans i3.symm)
    obtain ⟨r1, r2, r3, r4, r5⟩ := run_sim (a := a + nI n) w.2 hc hu e1 htb
    unfold st_swX1 st_swX2 fX2_sweep_j81
    rw [e2, i64_div, i64_rem]
    generalize gX0_run w.2 (M u) (a + nI n) c = W at r1 ⊢
    generalize gX2_work v.2 (a + nI n) c = V at r1 r2 r3 r4 r5 ⊢
    obtain ⟨nn, ⟨-, -, -, -, -, -, -, q7, q8, -⟩, -, -⟩ := r1
    refine ⟨?_, r2.trans i2, r3.trans i3, r4.trans i4, r5.trans i5⟩
    rw [q7, q8, i1]
    by_cases g1 : mv7 V = (a + nI n) / c
    · rw [if_pos g1, if_pos g1]
      by_cases g2 : mv8 V = (a + nI n) - (a + nI n) / c * c
      · rw [if_pos g2, if_pos g2]
        show v.1 = v.1 + 0
        rw [Int32.add_zero]
      · rw [if_neg g2, if_neg g2]
    · rw [if_neg g1, if_neg g1]
theorem sw_o {n : Nat} {w : Int32 × DV} {v : Int32 × MV} (h : RR M gd ui SL S) {b c : Int32} {SS : DV} (q : ¬ c = 0 → w.1 = v.1 ∧ SM S (gX2_back v.2) ∧ mv0 (gX2_back v.2) = mv0 S ∧ mv1 (gX2_back v.2) = mv1 S) :
    (if b < 1 then ((-1 : Int32), SS) else if 300 < b then ((-1), SS) else if c = 0 then ((-1), SS) else (w.1, w.2)).1 = (if fX2_in b 1 300 = 0 then ((-1 : Int32), S) else if c = 0 then ((-1), S) else (v.1, gX2_back v.2)).1 ∧ RR M gd ui SL (if fX2_in b 1 300 = 0 then ((-1 : Int32), S) else if c = 0 then ((-1), S) else (v.1, gX2_back v.2)).2 := by
  by_cases h1 : b < 1
  · rw [if_pos h1, if_pos (show fX2_in b 1 300 = 0 by unfold fX2_in; rw [if_pos h1])]
    exact ⟨rfl, h⟩
  rw [if_neg h1]
  by_cases h2 : 300 < b
  · rw [if_pos h2, if_pos (show fX2_in b 1 300 = 0 by unfold fX2_in; rw [if_neg h1, if_pos h2])]
    exact ⟨rfl, h⟩
  rw [if_neg h2, if_neg (show ¬ fX2_in b 1 300 = 0 by unfold fX2_in; rw [if_neg h1, if_neg h2]; decide)]
  by_cases h3 : c = 0
  · rw [if_pos h3, if_pos h3]
    exact ⟨rfl, h⟩
  rw [if_neg h3, if_neg h3]
  obtain ⟨q1, q2, q3, q4⟩ := q h3
  obtain ⟨hT, hG, e, hv, hD⟩ := h
  generalize gX2_back v.2 = B at q2 q3 q4 ⊢
  refine ⟨q1, fun t d ht hd => ?_, hG, e.trans q4.symm, hv, RD_congr hD q2⟩
  show M t d = mv0 B (2048 * t + d) ∧ _
  rw [q3]
  exact hT t d ht hd
theorem L_sweep (h : RR M gd ui SL S) (SS : DV) (a b c : Int32) : (gX1_sweep M SS ui a b c).1 = (gX2_sweep S a b c).1 ∧ RR M gd ui SL (gX2_sweep S a b c).2 := by
  unfold gX1_sweep gX2_sweep
  refine sw_o (n := 0) h (fun hc => ?_)
  have h9 : mv9 S = 0 ∨ mv9 S = 1 := by
    obtain ⟨-, -, -, -, nn, -, -, hA⟩ := h
    rcases hA with ⟨q, -⟩ | ⟨q, -⟩
    · exact Or.inr q
    · exact Or.inl q
  have hk := keep_spec (ke_spec S 20 (Nat.le_refl _))
  have k0 := keep_0 S
  have k1 := keep_1 S
  obtain ⟨k, ek⟩ : ∃ k, gX2_keep S = k := ⟨_, rfl⟩
  have ek2 : gX2_keep_o (it_keX2 S 20) = k := ek
  rw [ek2] at hk
  rw [ek] at k0 k1
  obtain ⟨i1, i2, i3, i4, i5⟩ := sw_it h.1 h.2.2.2.1 h.2.2.1 ek k0 k1 SS a c hc b.toNatClampNeg
  generalize it_swX1 M SS ui a c b.toNatClampNeg = w at i1 ⊢
  generalize it_swX2 S a c b.toNatClampNeg = v at i1 i2 i3 i4 i5 ⊢
  exact ⟨i1, back_o h9 hk i4 i5 i2 i3 (ba_spec v.2 20 (Nat.le_refl _))⟩
end REL
