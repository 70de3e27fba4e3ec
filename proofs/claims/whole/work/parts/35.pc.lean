theorem d5 {d : Int32} (h1 : -2 ≤ d.toInt) (h2 : d.toInt ≤ 2) : d = -2 ∨ d = -1 ∨ d = 0 ∨ d = 1 ∨ d = 2 := by
  have e1 : (-2 : Int32).toInt = -2 := rfl
  have e2 : (-1 : Int32).toInt = -1 := rfl
  have e3 : (0 : Int32).toInt = 0 := rfl
  have e4 : (1 : Int32).toInt = 1 := rfl
  have e5 : (2 : Int32).toInt = 2 := rfl
  rcases (show d.toInt = -2 ∨ d.toInt = -1 ∨ d.toInt = 0 ∨ d.toInt = 1 ∨ d.toInt = 2 by omega) with h | h | h | h | h
  · exact Or.inl (Int32.toInt_inj.mp (h.trans e1.symm))
  · exact Or.inr (Or.inl (Int32.toInt_inj.mp (h.trans e2.symm)))
  · exact Or.inr (Or.inr (Or.inl (Int32.toInt_inj.mp (h.trans e3.symm))))
  · exact Or.inr (Or.inr (Or.inr (Or.inl (Int32.toInt_inj.mp (h.trans e4.symm)))))
  · exact Or.inr (Or.inr (Or.inr (Or.inr (Int32.toInt_inj.mp (h.trans e5.symm)))))
theorem good_eq {gd : Nat → Int32} {ρ k : Nat} (hρ : ρ < 16) (hk : k < 128) (hG : gd (128 * ρ + k) = fX1_init_c82 (128 * ρ + k)) {d : Int32} (h1 : -2 ≤ d.toInt) (h2 : d.toInt ≤ 2) : fX1_isGood gd (nI (128 * ρ + k)) d = fX2_isGood (nI ρ) (nI k - 64) d := by
  have h := gd_all hρ hk
  unfold gdr at h
  rw [Bool.and_eq_true, Bool.and_eq_true, Bool.and_eq_true, Bool.and_eq_true] at h
  obtain ⟨⟨⟨⟨a1, a2⟩, a3⟩, a4⟩, a5⟩ := h
  unfold fX1_isGood
  rw [nI_clamp (by omega), hG]
  rcases d5 h1 h2 with rfl | rfl | rfl | rfl | rfl
  · exact eq_of_beq a1
  · exact eq_of_beq a2
  · exact eq_of_beq a3
  · exact eq_of_beq a4
  · exact eq_of_beq a5
/-- the digit that make writes into cell c -/
def mdv (c : Nat) : Int32 := fX2_madeOf (nI (c / 128)) (nI (c % 128) - 64)
theorem made_eq {gd : Nat → Int32} {ρ k : Nat} (hρ : ρ < 16) (hk : k < 128) (hG : gd (128 * ρ + k) = fX1_init_c82 (128 * ρ + k)) : fX1_madeDigit gd (nI (128 * ρ + k)) = fX2_madeOf (nI ρ) (nI k - 64) := by
  unfold fX1_madeDigit fX2_madeOf
  rw [show dnf (0 : Int32).toNatClampNeg = 0 from rfl, show dnf (1 : Int32).toNatClampNeg = 1 from rfl, show dnf (2 : Int32).toNatClampNeg = -1 from rfl, show dnf (3 : Int32).toNatClampNeg = 2 from rfl, show dnf (4 : Int32).toNatClampNeg = -2 from rfl, show (-0 : Int32) = 0 from rfl]
  rw [good_eq hρ hk hG (d := 0) (by decide) (by decide), good_eq hρ hk hG (d := 1) (by decide) (by decide), good_eq hρ hk hG (d := -1) (by decide) (by decide), good_eq hρ hk hG (d := 2) (by decide) (by decide), good_eq hρ hk hG (d := -2) (by decide) (by decide)]
  by_cases h : fX2_isGood (nI ρ) (nI k - 64) 0 = 0
  · rw [if_pos h, if_pos h]
  · rw [if_neg h, if_neg h]
theorem made_rng (a b : Int32) : -2 ≤ (fX2_madeOf a b).toInt ∧ (fX2_madeOf a b).toInt ≤ 2 := by
  unfold fX2_madeOf
  (repeat' split) <;> decide
theorem made_c {gd : Nat → Int32} {c : Nat} (hc : c < 2048) (hG : gd c = fX1_init_c82 c) : fX1_madeDigit gd (nI c) = mdv c := by
  have e : 128 * (c / 128) + c % 128 = c := Nat.div_add_mod c 128
  have := made_eq (gd := gd) (ρ := c / 128) (k := c % 128) (by omega) (by omega) (by rw [e]; exact hG)
  rwa [e] at this
theorem mdv_rng (c : Nat) : -2 ≤ (mdv c).toInt ∧ (mdv c).toInt ≤ 2 := made_rng _ _
section REL
variable {M : Nat → Nat → Int32} {gd : Nat → Int32} {ui : Int32} {SL SS : DV} {S : MV}
theorem L_good (h : RR M gd ui SL S) (a b c : Int32) : fX1_good gd a b c = fX2_good a b c := by
  unfold fX1_good fX2_good fX2_good_j36 fX1_good_j35
  rw [cell_eq, dig_eq]
  by_cases h2 : fX2_isCell a b = 0
  · rw [if_pos h2, if_pos h2]
  rw [if_neg h2, if_neg h2]
  by_cases h3 : fX2_in c (-2) 2 = 0
  · rw [if_pos h3, if_pos h3]
  rw [if_neg h3, if_neg h3]
  obtain ⟨ρ, k, hρ, hk, rfl, rfl⟩ := cell_M h2
  have hr := dig_rng h3
  rw [cC, good_eq hρ hk (h.2.1 _ (by omega)) hr.1 hr.2]
theorem L_holds (a b : Int32) : fX1_holds a b = fX2_holds a b := by
  unfold fX1_holds fX2_holds fX2_holds_j25 fX1_holds_j23
  rw [cell_eq]
  by_cases h2 : fX2_isCell a b = 0
  · rw [if_pos h2, if_pos h2]
  rw [if_neg h2, if_neg h2]
  obtain ⟨ρ, k, hρ, hk, rfl, rfl⟩ := cell_M h2
  rw [hd_all ρ hρ k hk]
/-- one cell put, on both sides -/
theorem rep_sim {S' : MV} (h : RT M S) {t c : Nat} {v : Int32} (ht : t < 4) (hc : c < 2048) (hv : -2 ≤ v.toInt ∧ v.toInt ≤ 2) (e : mv0 S' = upd (mv0 S) (2048 * t + c) v) : (gX1_replace M (nI t) (nI c) v).1 = (if mv0 S (2048 * t + c) = v then 0 else 1) ∧ RT (gX1_replace M (nI t) (nI c) v).2 S' := by
  unfold gX1_replace
  rw [nI_clamp (by omega), nI_clamp (by omega), (h t c ht hc).1]
  by_cases q : mv0 S (2048 * t + c) = v
  · rw [if_pos q, if_pos q]
    refine ⟨rfl, fun u d hu hd => ?_⟩
    rw [e]
    by_cases q2 : 2048 * u + d = 2048 * t + c
    · rw [q2, upd_self]
      refine ⟨?_, (h u d hu hd).2⟩
      show M u d = v
      rw [(h u d hu hd).1, q2]; exact q
    · rw [upd_ne _ _ q2]; exact h u d hu hd
  · rw [if_neg q, if_neg q]
    exact ⟨rfl, RT_up h ht hc hv e⟩
/-- count and tables of a loop over both sides; the last division and the table in use stay -/
def QQ (S : MV) (w : Int32 × (Nat → Nat → Int32)) (v : Int32 × MV) : Prop := w.1 = v.1 ∧ RT w.2 v.2 ∧ SM S v.2 ∧ mv1 v.2 = mv1 S
theorem mk_in (hG : RG gd) {t ρ : Nat} (ht : t < 4) (hρ : ρ < 16) {v : Int32 × MV} (h : QQ S (it_mkX1 M gd (nI t) (128 * ρ)) v) : ∀ k, k ≤ 128 → QQ S (it_mkX1 M gd (nI t) (128 * ρ + k)) (it_flB (nI t) ρ v.1 v.2 k) := by
  intro k
  induction k with
  | zero => intro _; exact h
  | succ k ih =>
    intro hk
    have ih := ih (by omega)
    show QQ S (st_mkX1 gd (nI t) (128 * ρ + k) (it_mkX1 M gd (nI t) (128 * ρ + k)).1 (it_mkX1 M gd (nI t) (128 * ρ + k)).2) (st_flB (nI t) ρ k (it_flB (nI t) ρ v.1 v.2 k).1 (it_flB (nI t) ρ v.1 v.2 k).2)
    generalize it_mkX1 M gd (nI t) (128 * ρ + k) = w at ih ⊢
    generalize it_flB (nI t) ρ v.1 v.2 k = v2 at ih ⊢
    obtain ⟨i1, i2, i3, i4⟩ := ih
    unfold st_mkX1 st_flB fX2_fill_j66
    have ea : (((2048 * nI t) + (128 * nI ρ)) + nI k).toNatClampNeg = 2048 * t + (128 * ρ + k) := by
      rw [mul_nI (K := 2048) 2048 rfl, mul_nI (K := 128) 128 rfl, nI_add, nI_add, nI_clamp (by omega), Nat.add_assoc]
    rw [ea, made_eq hρ (by omega) (hG _ (by omega))]
    have r := rep_sim (S' := (upd (mv0 v2.2) (2048 * t + (128 * ρ + k)) (fX2_madeOf (nI ρ) (nI k - 64)), (mv1 v2.2), (mv2 v2.2), (mv3 v2.2), (mv4 v2.2), (mv5 v2.2), (mv6 v2.2), (mv7 v2.2), (mv8 v2.2), (mv9 v2.2), (mv10 v2.2), (mv11 v2.2), (mv12 v2.2), (mv13 v2.2), (mv14 v2.2), (mv15 v2.2), (mv16 v2.2), (mv17 v2.2))) i2 (t := t) (c := 128 * ρ + k) ht (by omega) (made_rng (nI ρ) (nI k - 64)) rfl
    exact ⟨by rw [i1, r.1], r.2, i3, i4⟩
theorem mk_sim (hG : RG gd) (hT : RT M S) {t : Nat} (ht : t < 4) : ∀ ρ, ρ ≤ 16 → QQ S (it_mkX1 M gd (nI t) (128 * ρ)) (it_flA S (nI t) ρ) := by
  intro ρ
  induction ρ with
  | zero => intro _; exact ⟨rfl, hT, SM.refl S, rfl⟩
  | succ ρ ih =>
    intro hρ
    have := mk_in hG ht (by omega) (ih (by omega)) 128 (by omega)
    rw [show 128 * (ρ + 1) = 128 * ρ + 128 by omega]
    exact this
theorem fill_sim (hG : RG gd) (hT : RT M S) {t : Nat} (ht : t < 4) : QQ S (it_mkX1 M gd (nI t) 2048) (gX2_fill S (nI t)) := by
  have h := mk_sim hG hT ht 16 (by omega)
  rw [show 128 * 16 = 2048 from rfl] at h
  unfold gX2_fill
  exact h
theorem make_o {a : Int32} {w : Int32 × (Nat → Nat → Int32)} {v : Int32 × MV} (h : RR M gd ui SL S) (q : ¬ fX2_isTable a = 0 → QQ S w v) : (gX1_make_o M a w.1 w.2).1 = (if fX2_isTable a = 0 then ((-1 : Int32), S) else (v.1, v.2)).1 ∧ RR (gX1_make_o M a w.1 w.2).2 gd ui SL (if fX2_isTable a = 0 then ((-1 : Int32), S) else (v.1, v.2)).2 := by
  unfold gX1_make_o
  rw [tb_eq]
  by_cases h1 : fX2_isTable a = 0
  · rw [if_pos h1, if_pos h1]; exact ⟨rfl, h⟩
  rw [if_neg h1, if_neg h1]
  obtain ⟨i1, i2, i3, i4⟩ := q h1
  exact ⟨i1, i2, h.2.1, h.2.2.1.trans i4.symm, h.2.2.2.1, RD_congr h.2.2.2.2 i3⟩
theorem L_make (h : RR M gd ui SL S) (a : Int32) : (gX1_make M gd a).1 = (gX2_make S a).1 ∧ RR (gX1_make M gd a).2 gd ui SL (gX2_make S a).2 := by
  unfold gX1_make gX2_make
  refine make_o h (fun h1 => ?_)
  obtain ⟨t, ht, rfl⟩ := vp_in_of (mt_vp h1) (by decide)
  exact fill_sim h.2.1 h.1 ht
theorem cp_sim (hT : RT M S) {a b : Nat} (ha : a < 4) (hb : b < 4) : ∀ n, n ≤ 2048 → QQ S (it_cpX1 M (nI a) (nI b) n) (it_cpX2 S (nI a) (nI b) n) := by
  intro n
  induction n with
  | zero => intro _; exact ⟨rfl, hT, SM.refl S, rfl⟩
  | succ n ih =>
    intro hn
    have ih := ih (by omega)
    show QQ S (st_cpX1 (nI a) (nI b) n (it_cpX1 M (nI a) (nI b) n).1 (it_cpX1 M (nI a) (nI b) n).2) (st_cpX2 (nI a) (nI b) n (it_cpX2 S (nI a) (nI b) n).1 (it_cpX2 S (nI a) (nI b) n).2)
    generalize it_cpX1 M (nI a) (nI b) n = w at ih ⊢
    generalize it_cpX2 S (nI a) (nI b) n = v2 at ih ⊢
    obtain ⟨i1, i2, i3, i4⟩ := ih
    unfold st_cpX1 st_cpX2 fX1_copy_c47 fX2_copy_j64
    have e1 : ((2048 * nI a) + nI n).toNatClampNeg = 2048 * a + n := by
      rw [mul_nI (K := 2048) 2048 rfl, nI_add, nI_clamp (by omega)]
    have e2 : ((2048 * nI b) + nI n).toNatClampNeg = 2048 * b + n := by
      rw [mul_nI (K := 2048) 2048 rfl, nI_add, nI_clamp (by omega)]
    have hr := i2 a n ha (by omega)
    rw [e1, e2, nI_clamp (n := a) (by omega), nI_clamp (n := n) (by omega), ← hr.1]
    have r := rep_sim (S' := (upd (mv0 v2.2) (2048 * b + n) (w.2 a n), (mv1 v2.2), (mv2 v2.2), (mv3 v2.2), (mv4 v2.2), (mv5 v2.2), (mv6 v2.2), (mv7 v2.2), (mv8 v2.2), (mv9 v2.2), (mv10 v2.2), (mv11 v2.2), (mv12 v2.2), (mv13 v2.2), (mv14 v2.2), (mv15 v2.2), (mv16 v2.2), (mv17 v2.2))) i2 (t := b) (c := n) hb (by omega) hr.2 rfl
    exact ⟨by rw [i1, r.1], r.2, i3, i4⟩
theorem copy_o {a b : Int32} {w : Int32 × (Nat → Nat → Int32)} {v : Int32 × MV} (h : RR M gd ui SL S) (q : ¬ fX2_isTable a = 0 → ¬ fX2_isTable b = 0 → QQ S w v) : (gX1_copy_o M a b w.1 w.2).1 = (if fX2_isTable a = 0 then ((-1 : Int32), S) else if fX2_isTable b = 0 then ((-1 : Int32), S) else (v.1, v.2)).1 ∧ RR (gX1_copy_o M a b w.1 w.2).2 gd ui SL (if fX2_isTable a = 0 then ((-1 : Int32), S) else if fX2_isTable b = 0 then ((-1 : Int32), S) else (v.1, v.2)).2 := by
  unfold gX1_copy_o
  rw [tb_eq, tb_eq]
  by_cases h1 : fX2_isTable a = 0
  · rw [if_pos h1, if_pos h1]; exact ⟨rfl, h⟩
  rw [if_neg h1, if_neg h1]
  by_cases h2 : fX2_isTable b = 0
  · rw [if_pos h2, if_pos h2]; exact ⟨rfl, h⟩
  rw [if_neg h2, if_neg h2]
  obtain ⟨i1, i2, i3, i4⟩ := q h1 h2
  exact ⟨i1, i2, h.2.1, h.2.2.1.trans i4.symm, h.2.2.2.1, RD_congr h.2.2.2.2 i3⟩
theorem L_copy (h : RR M gd ui SL S) (a b : Int32) : (gX1_copy M a b).1 = (gX2_copy S a b).1 ∧ RR (gX1_copy M a b).2 gd ui SL (gX2_copy S a b).2 := by
  unfold gX1_copy gX2_copy
  refine copy_o h (fun h1 h2 => ?_)
  obtain ⟨t, ht, rfl⟩ := vp_in_of (mt_vp h1) (by decide)
  obtain ⟨u, hu, rfl⟩ := vp_in_of (mt_vp h2) (by decide)
  exact cp_sim h.1 ht hu 2048 (Nat.le_refl _)
theorem isW_eq (hG : RG gd) (hT : RT M S) {t c : Nat} (ht : t < 4) (hc : c < 2048) : fX2_isWrong S (nI t) (nI c) = (if fX1_isGood gd (nI c) (M t c) = 0 then 1 else 0) := by
  unfold fX2_isWrong
  have e : 128 * (c / 128) + c % 128 = c := Nat.div_add_mod c 128
  have ed : nI c / 128 = nI (c / 128) := pk_div (d := 128) (by omega) (by decide) (by decide)
  have er : nI c - nI c / 128 * 128 = nI (c % 128) := pk_rem (d := 128) (by omega) (by decide) (by decide)
  have ea : ((2048 * nI t) + nI c).toNatClampNeg = 2048 * t + c := by
    rw [mul_nI (K := 2048) 2048 rfl, nI_add, nI_clamp (by omega)]
  have hr := hT t c ht hc
  rw [er, ed, ea, ← hr.1]
  have g := good_eq (gd := gd) (ρ := c / 128) (k := c % 128) (by omega) (by omega) (by rw [e]; exact hG c hc) hr.2.1 hr.2.2
  rw [e] at g
  rw [g]
theorem L_check (h : RR M gd ui SL S) (a : Int32) : fX1_check M gd a = fX2_check S a := by
  unfold fX1_check fX2_check
  rw [tb_eq]
  by_cases h1 : fX2_isTable a = 0
  · rw [if_pos h1, if_pos h1]
  rw [if_neg h1, if_neg h1]
  obtain ⟨t, ht, rfl⟩ := vp_in_of (mt_vp h1) (by decide)
  have H : ∀ n, n ≤ 2048 → it_ckX1 M gd (nI t) n = it_ckX2 S (nI t) n := by
    intro n
    induction n with
    | zero => intro _; rfl
    | succ n ih =>
      intro hn
      show st_ckX1 M gd (nI t) n (it_ckX1 M gd (nI t) n) = st_ckX2 S (nI t) n (it_ckX2 S (nI t) n)
      rw [ih (by omega)]
      unfold st_ckX1 st_ckX2 fX2_check_j35
      rw [isW_eq h.2.1 h.1 ht (by omega), nI_clamp (n := t) (by omega), nI_clamp (n := n) (by omega)]
      by_cases q : fX1_isGood gd (nI n) (M t n) = 0
      · rw [if_pos q, if_pos q, if_neg (show ¬ (1 : Int32) = 0 by decide)]
      · rw [if_neg q, if_neg q, if_pos rfl, Int32.add_zero]
  exact H 2048 (Nat.le_refl _)
theorem L_wrong (h : RR M gd ui SL S) (a b : Int32) : fX1_wrong M gd a b = fX2_wrong S a b := by
  unfold fX1_wrong fX2_wrong
  rw [tb_eq]
  by_cases h1 : fX2_isTable a = 0
  · rw [if_pos h1, if_pos h1]
  rw [if_neg h1, if_neg h1]
  by_cases h2 : 0 ≤ b
  · rw [if_pos h2, if_pos h2]
    obtain ⟨t, ht, rfl⟩ := vp_in_of (mt_vp h1) (by decide)
    have H : ∀ n, n ≤ 2048 → it_wrX2 S (nI t) b n = b - it_wrX1 M gd (nI t) n := by
      intro n
      induction n with
      | zero => intro _; show b = b - 0; rw [Int32.sub_zero]
      | succ n ih =>
        intro hn
        show st_wrX2 S (nI t) n (it_wrX2 S (nI t) b n) = b - st_wrX1 M gd (nI t) n (it_wrX1 M gd (nI t) n)
        rw [ih (by omega)]
        unfold st_wrX1 st_wrX2
        rw [isW_eq h.2.1 h.1 ht (by omega), nI_clamp (n := t) (by omega), nI_clamp (n := n) (by omega)]
        by_cases q : fX1_isGood gd (nI n) (M t n) = 0
        · rw [if_pos q, if_pos q, if_neg (show ¬ (1 : Int32) = 0 by decide)]
          rw [Int32.sub_eq_add_neg, Int32.sub_eq_add_neg, Int32.neg_add, Int32.sub_eq_add_neg, Int32.add_assoc]
        · rw [if_neg q, if_neg q, if_pos rfl]
    refine wrF_congr 2048 0 (fun j _ hj => ?_)
    have hj : j < 2048 := by omega
    rw [H j (by omega), isW_eq h.2.1 h.1 ht hj, nI_clamp (n := t) (by omega), nI_clamp (n := j) (by omega)]
    refine decide_eq_decide.mpr ⟨fun ⟨q1, q2⟩ => ?_, fun ⟨q1, q2⟩ => ?_⟩
    · rw [if_pos q1, q2]
      exact ⟨by decide, Int32.sub_self _⟩
    · refine ⟨?_, ?_⟩
      · by_cases q : fX1_isGood gd (nI j) (M t j) = 0
        · exact q
        · rw [if_neg q] at q1; exact absurd rfl q1
      · have := congrArg (fun z => z + it_wrX1 M gd (nI t) j) q2
        simp only [Int32.sub_add_cancel, Int32.zero_add] at this
        exact this.symm
  · rw [if_neg h2, if_neg h2]
end REL
