/-! the two new objects are alike -/
theorem inB_spec {i : Nat} (hi : i < 2048) {w0a : Nat → Int32} {w1a : Nat → Nat → Int32} : ∀ j, j ≤ 4 → ∀ t c, it_inB i w0a w1a j t c = (if t < j ∧ c = i then mdv i else w1a t c) := by
  intro j
  induction j with
  | zero =>
    intro _ t c
    rw [if_neg (by omega)]; rfl
  | succ j ih =>
    intro hj t c
    have ih := ih (by omega)
    show st_inB i w0a j (it_inB i w0a w1a j) t c = _
    unfold st_inB
    rw [nI_clamp (n := j) (by omega), nI_clamp (n := i) (by omega), made_c hi (by rw [upd_self])]
    by_cases q : t = j
    · subst q
      rw [va_up_self]
      by_cases q2 : c = i
      · subst q2
        rw [upd_self, if_pos ⟨by omega, rfl⟩]
      · rw [upd_ne _ _ q2, ih, if_neg (by omega), if_neg (by omega)]
    · rw [va_up_ne _ _ q, ih]
      by_cases q2 : t < j ∧ c = i
      · rw [if_pos q2, if_pos (by omega)]
      · rw [if_neg q2, if_neg (by omega)]
theorem inA_spec : ∀ i, i ≤ 2048 → (∀ c, (it_inA i).1 c = if c < i then fX1_init_c82 c else 0) ∧ ∀ t c, t < 4 → (it_inA i).2 t c = if c < i then mdv c else 0 := by
  intro i
  induction i with
  | zero =>
    intro _
    refine ⟨fun c => ?_, fun t c _ => ?_⟩
    · rw [if_neg (by omega)]; rfl
    · rw [if_neg (by omega)]; rfl
  | succ i ih =>
    intro hi
    obtain ⟨h1, h2⟩ := ih (by omega)
    refine ⟨fun c => ?_, fun t c ht => ?_⟩
    · show (st_inA i (it_inA i).1 (it_inA i).2).1 c = _
      generalize it_inA i = w at h1 h2 ⊢
      show upd w.1 (nI i).toNatClampNeg (fX1_init_c82 i) c = _
      rw [nI_clamp (by omega)]
      by_cases q : c = i
      · subst q; rw [upd_self, if_pos (by omega)]
      · rw [upd_ne _ _ q, h1]
        by_cases q2 : c < i
        · rw [if_pos q2, if_pos (by omega)]
        · rw [if_neg q2, if_neg (by omega)]
    · show (st_inA i (it_inA i).1 (it_inA i).2).2 t c = _
      generalize it_inA i = w at h1 h2 ⊢
      show it_inB i w.1 w.2 4 t c = _
      rw [inB_spec (by omega) 4 (Nat.le_refl _)]
      by_cases q : c = i
      · subst q; rw [if_pos ⟨ht, rfl⟩, if_pos (by omega)]
      · rw [if_neg (fun z => q z.2), h2 t c ht]
        by_cases q2 : c < i
        · rw [if_pos q2, if_pos (by omega)]
        · rw [if_neg q2, if_neg (by omega)]
theorem mk_spec {M : Nat → Nat → Int32} {gd : Nat → Int32} (hG : RG gd) {t : Nat} (ht : t < 4) : ∀ n, n ≤ 2048 → ∀ u c, (it_mkX1 M gd (nI t) n).2 u c = if u = t ∧ c < n then mdv c else M u c := by
  intro n
  induction n with
  | zero => intro _ u c; rw [if_neg (by omega)]; rfl
  | succ n ih =>
    intro hn u c
    have ih := ih (by omega)
    show (st_mkX1 gd (nI t) n (it_mkX1 M gd (nI t) n).1 (it_mkX1 M gd (nI t) n).2).2 u c = _
    generalize it_mkX1 M gd (nI t) n = w at ih ⊢
    show (gX1_replace w.2 (nI t) (nI n) (fX1_madeDigit gd (nI n))).2 u c = _
    rw [made_c (by omega) (hG n (by omega))]
    unfold gX1_replace
    rw [nI_clamp (n := t) (by omega), nI_clamp (n := n) (by omega)]
    by_cases q : w.2 t n = mdv n
    · rw [if_pos q]
      show w.2 u c = _
      by_cases q2 : u = t ∧ c = n
      · rw [q2.1, q2.2, q, if_pos ⟨rfl, by omega⟩]
      · rw [ih]
        by_cases q3 : u = t ∧ c < n
        · rw [if_pos q3, if_pos (by omega)]
        · rw [if_neg q3, if_neg (by omega)]
    · rw [if_neg q]
      show va_up w.2 t (upd (w.2 t) n (mdv n)) u c = _
      by_cases q2 : u = t
      · subst q2
        rw [va_up_self]
        by_cases q3 : c = n
        · subst q3; rw [upd_self, if_pos ⟨rfl, by omega⟩]
        · rw [upd_ne _ _ q3, ih]
          by_cases q4 : u = u ∧ c < n
          · rw [if_pos q4, if_pos (by omega)]
          · rw [if_neg q4, if_neg (by omega)]
      · rw [va_up_ne _ _ q2, ih, if_neg (fun z => q2 z.1), if_neg (fun z => q2 z.1)]
def mvZ : MV := ((fun _ => 0), 0, 0, 0, 0, 0, 0, 0, 0, 0, (fun _ => 0), (fun _ => 0), (fun _ => 0), (fun _ => 0), (fun _ => 0), (fun _ => 0), (fun _ => 0), (fun _ => 0))
theorem inX2_spec : ∀ i, i ≤ 4 → RT (fun u c => if u < i then mdv c else 0) (it_inX2 i) ∧ SM mvZ (it_inX2 i) ∧ mv1 (it_inX2 i) = 0 := by
  intro i
  induction i with
  | zero =>
    intro _
    refine ⟨fun u c hu hc => ?_, SM.refl _, rfl⟩
    show (if u < 0 then mdv c else 0) = 0 ∧ -2 ≤ (if u < 0 then mdv c else (0 : Int32)).toInt ∧ (if u < 0 then mdv c else (0 : Int32)).toInt ≤ 2
    rw [if_neg (by omega)]
    decide
  | succ i ih =>
    intro hi
    obtain ⟨h1, h2, h3⟩ := ih (by omega)
    show RT _ (st_inX2 i (it_inX2 i)) ∧ SM mvZ (st_inX2 i (it_inX2 i)) ∧ mv1 (st_inX2 i (it_inX2 i)) = 0
    generalize it_inX2 i = v at h1 h2 h3 ⊢
    unfold st_inX2
    have hG : RG fX1_init_c82 := fun _ _ => rfl
    obtain ⟨-, f2, f3, f4⟩ := fill_sim hG h1 (t := i) (by omega)
    have hs := mk_spec (M := fun u c => if u < i then mdv c else 0) hG (t := i) (by omega) 2048 (Nat.le_refl _)
    generalize it_mkX1 (fun u c => if u < i then mdv c else 0) fX1_init_c82 (nI i) 2048 = w at f2 hs
    refine ⟨fun u c hu hc => ?_, h2.trans f3, f4.trans h3⟩
    have := f2 u c hu hc
    rw [hs] at this
    have e : (if u = i ∧ c < 2048 then mdv c else if u < i then mdv c else 0) = if u < i + 1 then mdv c else 0 := by
      by_cases q : u = i
      · rw [if_pos ⟨q, hc⟩, if_pos (by omega)]
      · rw [if_neg (fun z => q z.1)]
        by_cases q2 : u < i
        · rw [if_pos q2, if_pos (by omega)]
        · rw [if_neg q2, if_neg (by omega)]
    rw [e] at this
    exact this
theorem init_o {a : (Nat → Int32) × (Nat → Nat → Int32)} {v : MV} (h : (∀ c, a.1 c = if c < 2048 then fX1_init_c82 c else 0) ∧ ∀ t c, t < 4 → a.2 t c = if c < 2048 then mdv c else 0) (k : RT (fun u c => if u < 4 then mdv c else 0) v ∧ SM mvZ v ∧ mv1 v = 0) : RR (gX1_init_o a.1 a.2).1 (gX1_init_o a.1 a.2).2 0 gX0_init (gX2_init_o v) := by
  obtain ⟨h1, h2⟩ := h
  obtain ⟨k1, k2, k3⟩ := k
  unfold gX1_init_o gX2_init_o
  refine ⟨fun t c ht hc => ?_, fun c hc => ?_, k3.symm, vp_in_nI (n := 0) (by decide) (by decide), ?_⟩
  · have := k1 t c ht hc
    have this : (if t < 4 then mdv c else 0) = mv0 v (2048 * t + c) ∧ -2 ≤ (if t < 4 then mdv c else (0 : Int32)).toInt ∧ (if t < 4 then mdv c else (0 : Int32)).toInt ≤ 2 := this
    rw [if_pos ht] at this
    show a.2 t c = _ ∧ -2 ≤ (a.2 t c).toInt ∧ (a.2 t c).toInt ≤ 2
    rw [h2 t c ht, if_pos hc]
    exact this
  · show a.1 c = _
    rw [h1, if_pos hc]
  · refine RD_congr (S := mvZ) ⟨0, ⟨by decide, rfl, rfl, rfl, rfl, rfl, rfl, rfl, rfl, rfl⟩, fun j h1 h2 => by omega, Or.inr ⟨rfl, rfl, rfl, rfl, rfl, rfl⟩⟩ k2
theorem L_init : RR gX1_init.1 gX1_init.2 0 gX0_init gX2_init := by
  unfold gX1_init gX2_init
  exact init_o (inA_spec 2048 (Nat.le_refl _)) (inX2_spec 4 (Nat.le_refl _))
