abbrev DV : Type := (Nat → Int32) × (Nat → Int32) × (Nat → Int64) × (Nat → Int64) × (Nat → Int64) × (Nat → Int64) × Int32 × Int32 × Int32 × Int32 × Int32 × Int32 × Int32 × Int32
abbrev dv0 (S : DV) : (Nat → Int32) := S.1
abbrev dv1 (S : DV) : (Nat → Int32) := S.2.1
abbrev dv2 (S : DV) : (Nat → Int64) := S.2.2.1
abbrev dv3 (S : DV) : (Nat → Int64) := S.2.2.2.1
abbrev dv4 (S : DV) : (Nat → Int64) := S.2.2.2.2.1
abbrev dv5 (S : DV) : (Nat → Int64) := S.2.2.2.2.2.1
abbrev dv6 (S : DV) : Int32 := S.2.2.2.2.2.2.1
abbrev dv7 (S : DV) : Int32 := S.2.2.2.2.2.2.2.1
abbrev dv8 (S : DV) : Int32 := S.2.2.2.2.2.2.2.2.1
abbrev dv9 (S : DV) : Int32 := S.2.2.2.2.2.2.2.2.2.1
abbrev dv10 (S : DV) : Int32 := S.2.2.2.2.2.2.2.2.2.2.1
abbrev dv11 (S : DV) : Int32 := S.2.2.2.2.2.2.2.2.2.2.2.1
abbrev dv12 (S : DV) : Int32 := S.2.2.2.2.2.2.2.2.2.2.2.2.1
abbrev dv13 (S : DV) : Int32 := S.2.2.2.2.2.2.2.2.2.2.2.2.2
abbrev MV : Type := (Nat → Int32) × Int32 × Int32 × Int32 × Int32 × Int32 × Int32 × Int32 × Int32 × Int32 × (Nat → Int32) × (Nat → Int32) × (Nat → Int64) × (Nat → Int64) × (Nat → Int64) × (Nat → Int64) × (Nat → Int32) × (Nat → Int64)
abbrev mv0 (S : MV) : (Nat → Int32) := S.1
abbrev mv1 (S : MV) : Int32 := S.2.1
abbrev mv2 (S : MV) : Int32 := S.2.2.1
abbrev mv3 (S : MV) : Int32 := S.2.2.2.1
abbrev mv4 (S : MV) : Int32 := S.2.2.2.2.1
abbrev mv5 (S : MV) : Int32 := S.2.2.2.2.2.1
abbrev mv6 (S : MV) : Int32 := S.2.2.2.2.2.2.1
abbrev mv7 (S : MV) : Int32 := S.2.2.2.2.2.2.2.1
abbrev mv8 (S : MV) : Int32 := S.2.2.2.2.2.2.2.2.1
abbrev mv9 (S : MV) : Int32 := S.2.2.2.2.2.2.2.2.2.1
abbrev mv10 (S : MV) : (Nat → Int32) := S.2.2.2.2.2.2.2.2.2.2.1
abbrev mv11 (S : MV) : (Nat → Int32) := S.2.2.2.2.2.2.2.2.2.2.2.1
abbrev mv12 (S : MV) : (Nat → Int64) := S.2.2.2.2.2.2.2.2.2.2.2.2.1
abbrev mv13 (S : MV) : (Nat → Int64) := S.2.2.2.2.2.2.2.2.2.2.2.2.2.1
abbrev mv14 (S : MV) : (Nat → Int64) := S.2.2.2.2.2.2.2.2.2.2.2.2.2.2.1
abbrev mv15 (S : MV) : (Nat → Int64) := S.2.2.2.2.2.2.2.2.2.2.2.2.2.2.2.1
abbrev mv16 (S : MV) : (Nat → Int32) := S.2.2.2.2.2.2.2.2.2.2.2.2.2.2.2.2.1
abbrev mv17 (S : MV) : (Nat → Int64) := S.2.2.2.2.2.2.2.2.2.2.2.2.2.2.2.2.2
/-- the words of nest mates -/
def nwX (U : State) : Prop := va_Nw (.fieldLinkNest RX1 80 "DigitDivider$Division" "digits" "[I" "DigitDivider") U ∧ va_Nw (.fieldLinkNest RX1 83 "DigitDivider$Division" "estimates" "[I" "DigitDivider") U ∧ va_Nw (.fieldLinkNest RX1 86 "DigitDivider$Division" "sums" "[J" "DigitDivider") U ∧ va_Nw (.fieldLinkNest RX1 90 "DigitDivider$Division" "carries" "[J" "DigitDivider") U ∧ va_Nw (.fieldLinkNest RX1 93 "DigitDivider$Division" "qs" "[J" "DigitDivider") U ∧ va_Nw (.fieldLinkNest RX1 96 "DigitDivider$Division" "rs" "[J" "DigitDivider") U ∧ va_Nw (.fieldLinkNest RX1 99 "DigitDivider$Division" "row" "I" "DigitDivider") U ∧ va_Nw (.fieldLinkNest RX1 102 "DigitDivider$Division" "s" "I" "DigitDivider") U ∧ va_Nw (.fieldLinkNest RX1 105 "DigitDivider$Division" "t" "I" "DigitDivider") U ∧ va_Nw (.fieldLinkNest RX1 68 "DigitDivider$Division" "n" "I" "DigitDivider") U ∧ va_Nw (.fieldLinkNest RX1 108 "DigitDivider$Division" "digitsNotZero" "I" "DigitDivider") U ∧ va_Nw (.fieldLinkNest RX1 77 "DigitDivider$Division" "firstLeft" "I" "DigitDivider") U ∧ va_Nw (.fieldLinkNest RX1 71 "DigitDivider$Division" "quotient" "I" "DigitDivider") U ∧ va_Nw (.fieldLinkNest RX1 74 "DigitDivider$Division" "rest" "I" "DigitDivider") U ∧ va_Nw (.methodLinkNest RX1 20 yX0_init "DigitDivider") U ∧ va_Nw (.methodLinkNest RX1 64 yX0_run "DigitDivider") U ∧ va_Nw (.methodLinkNest RX0 94 yX1_cellAt "DigitDivider") U
theorem nw_0 {U : State} (h : nwX U) : va_Nw (.fieldLinkNest RX1 80 "DigitDivider$Division" "digits" "[I" "DigitDivider") U := h.1
theorem nw_1 {U : State} (h : nwX U) : va_Nw (.fieldLinkNest RX1 83 "DigitDivider$Division" "estimates" "[I" "DigitDivider") U := h.2.1
theorem nw_2 {U : State} (h : nwX U) : va_Nw (.fieldLinkNest RX1 86 "DigitDivider$Division" "sums" "[J" "DigitDivider") U := h.2.2.1
theorem nw_3 {U : State} (h : nwX U) : va_Nw (.fieldLinkNest RX1 90 "DigitDivider$Division" "carries" "[J" "DigitDivider") U := h.2.2.2.1
theorem nw_4 {U : State} (h : nwX U) : va_Nw (.fieldLinkNest RX1 93 "DigitDivider$Division" "qs" "[J" "DigitDivider") U := h.2.2.2.2.1
theorem nw_5 {U : State} (h : nwX U) : va_Nw (.fieldLinkNest RX1 96 "DigitDivider$Division" "rs" "[J" "DigitDivider") U := h.2.2.2.2.2.1
theorem nw_6 {U : State} (h : nwX U) : va_Nw (.fieldLinkNest RX1 99 "DigitDivider$Division" "row" "I" "DigitDivider") U := h.2.2.2.2.2.2.1
theorem nw_7 {U : State} (h : nwX U) : va_Nw (.fieldLinkNest RX1 102 "DigitDivider$Division" "s" "I" "DigitDivider") U := h.2.2.2.2.2.2.2.1
theorem nw_8 {U : State} (h : nwX U) : va_Nw (.fieldLinkNest RX1 105 "DigitDivider$Division" "t" "I" "DigitDivider") U := h.2.2.2.2.2.2.2.2.1
theorem nw_9 {U : State} (h : nwX U) : va_Nw (.fieldLinkNest RX1 68 "DigitDivider$Division" "n" "I" "DigitDivider") U := h.2.2.2.2.2.2.2.2.2.1
theorem nw_10 {U : State} (h : nwX U) : va_Nw (.fieldLinkNest RX1 108 "DigitDivider$Division" "digitsNotZero" "I" "DigitDivider") U := h.2.2.2.2.2.2.2.2.2.2.1
theorem nw_11 {U : State} (h : nwX U) : va_Nw (.fieldLinkNest RX1 77 "DigitDivider$Division" "firstLeft" "I" "DigitDivider") U := h.2.2.2.2.2.2.2.2.2.2.2.1
theorem nw_12 {U : State} (h : nwX U) : va_Nw (.fieldLinkNest RX1 71 "DigitDivider$Division" "quotient" "I" "DigitDivider") U := h.2.2.2.2.2.2.2.2.2.2.2.2.1
theorem nw_13 {U : State} (h : nwX U) : va_Nw (.fieldLinkNest RX1 74 "DigitDivider$Division" "rest" "I" "DigitDivider") U := h.2.2.2.2.2.2.2.2.2.2.2.2.2.1
theorem nw_14 {U : State} (h : nwX U) : va_Nw (.methodLinkNest RX1 20 yX0_init "DigitDivider") U := h.2.2.2.2.2.2.2.2.2.2.2.2.2.2.1
theorem nw_15 {U : State} (h : nwX U) : va_Nw (.methodLinkNest RX1 64 yX0_run "DigitDivider") U := h.2.2.2.2.2.2.2.2.2.2.2.2.2.2.2.1
theorem nw_16 {U : State} (h : nwX U) : va_Nw (.methodLinkNest RX0 94 yX1_cellAt "DigitDivider") U := h.2.2.2.2.2.2.2.2.2.2.2.2.2.2.2.2
theorem nw_warm {s U : State} (hW : s.WarmedH U.vm) (h : nwX s) : nwX U := ⟨va_Nw.warmF hW (nw_0 h), va_Nw.warmF hW (nw_1 h), va_Nw.warmF hW (nw_2 h), va_Nw.warmF hW (nw_3 h), va_Nw.warmF hW (nw_4 h), va_Nw.warmF hW (nw_5 h), va_Nw.warmF hW (nw_6 h), va_Nw.warmF hW (nw_7 h), va_Nw.warmF hW (nw_8 h), va_Nw.warmF hW (nw_9 h), va_Nw.warmF hW (nw_10 h), va_Nw.warmF hW (nw_11 h), va_Nw.warmF hW (nw_12 h), va_Nw.warmF hW (nw_13 h), va_Nw.warmM hW (nw_14 h), va_Nw.warmM hW (nw_15 h), va_Nw.warmM hW (nw_16 h)⟩
theorem nw_same {u U : State} (e : u.vm = U.vm) (h : nwX u) : nwX U := ⟨va_Nw.same rfl e (nw_0 h), va_Nw.same rfl e (nw_1 h), va_Nw.same rfl e (nw_2 h), va_Nw.same rfl e (nw_3 h), va_Nw.same rfl e (nw_4 h), va_Nw.same rfl e (nw_5 h), va_Nw.same rfl e (nw_6 h), va_Nw.same rfl e (nw_7 h), va_Nw.same rfl e (nw_8 h), va_Nw.same rfl e (nw_9 h), va_Nw.same rfl e (nw_10 h), va_Nw.same rfl e (nw_11 h), va_Nw.same rfl e (nw_12 h), va_Nw.same rfl e (nw_13 h), va_Nw.same rfl e (nw_14 h), va_Nw.same rfl e (nw_15 h), va_Nw.same rfl e (nw_16 h)⟩
/-- how often a size can be doubled below 2^32, at most n times more than t -/
def dblF (V : Nat) : Nat → Nat → Nat
  | 0, t => t
  | n + 1, t => if V * 2 ^ (t + 1) < 4294967296 then dblF V n (t + 1) else t
def dbl (V : Nat) : Nat := dblF V 31 0
theorem dblF_stop {V n t : Nat} (h : ¬ V * 2 ^ (t + 1) < 4294967296) : dblF V n t = t := by
  cases n with
  | zero => rfl
  | succ n => show (if _ then _ else _) = _; rw [if_neg h]
theorem dblF_go {V n t : Nat} (h : V * 2 ^ (t + 1) < 4294967296) : dblF V (n + 1) t = dblF V n (t + 1) := by show (if _ then _ else _) = _; rw [if_pos h]
theorem dbl_shl {V t : Nat} (ht : t + 1 ≤ 31) : lN V <<< ((nI t + 1).toInt64 &&& 63) = lN (V * 2 ^ (t + 1)) := by
  rw [nI_1]
  apply Int64.toBitVec_inj.mp
  have h1 : (nI (t + 1)).toInt64 &&& 63 = lN (t + 1) := by
    have : ∀ k, k < 64 → ((nI k).toInt64 &&& 63) = lN k := by decide +kernel
    exact this _ (by omega)
  rw [h1]
  have h2 : ∀ k, k < 64 → (BitVec.ofNat 64 k).smod 64 = BitVec.ofNat 64 k := by decide +kernel
  have h3 : (lN (t + 1)).toBitVec = BitVec.ofNat 64 (t + 1) := rfl
  rw [Int64.toBitVec_shiftLeft, h3, h2 _ (by omega)]
  apply BitVec.eq_of_toNat_eq
  show _ = (BitVec.ofNat 64 (V * 2 ^ (t + 1))).toNat
  rw [BitVec.shiftLeft_eq', BitVec.toNat_shiftLeft]
  show ((BitVec.ofNat 64 V).toNat <<< (BitVec.ofNat 64 (t + 1)).toNat) % 2 ^ 64 = _
  rw [BitVec.toNat_ofNat, BitVec.toNat_ofNat, BitVec.toNat_ofNat, Nat.mod_eq_of_lt (show t + 1 < 2 ^ 64 by omega), Nat.shiftLeft_eq, Nat.mod_mul_mod]
theorem dbl_cmp {V t : Nat} {x : Int64} (hp : x = lN V) (hV : V ≤ 2147483648) (ht : t + 1 ≤ 31) : (4294967296 : Int64) ≤ x <<< ((nI t + 1).toInt64 &&& 63) ↔ ¬ V * 2 ^ (t + 1) < 4294967296 := by
  rw [hp, dbl_shl ht]
  have hb : V * 2 ^ (t + 1) < 2 ^ 63 := by
    have : 2 ^ (t + 1) ≤ 2 ^ 31 := Nat.pow_le_pow_right (by decide) ht
    calc V * 2 ^ (t + 1) ≤ 2147483648 * 2 ^ 31 := Nat.mul_le_mul hV this
      _ < 2 ^ 63 := by decide
  have : (4294967296 : Int64) = lN 4294967296 := rfl
  rw [this, pk_lLE (by decide) hb]
  omega
/-- the first of n places, from i on, at which Q holds; -2: none -/
def wrF (hit : Nat → Bool) : Nat → Nat → Int32
  | 0, _ => -2
  | n + 1, i => if hit i = true then nI i else wrF hit n (i + 1)
theorem wrF_go {Q : Nat → Prop} [DecidablePred Q] {N i : Nat} (hi : i < N) (h : ¬ Q i) : wrF (fun j => decide (Q j)) (N - (i + 1)) (i + 1) = wrF (fun j => decide (Q j)) (N - i) i := by
  rw [show N - i = (N - (i + 1)) + 1 by omega]
  show _ = (if _ then _ else _)
  rw [if_neg (by simp [h])]
theorem wrF_hit {Q : Nat → Prop} [DecidablePred Q] {N i : Nat} (hi : i < N) (h : Q i) : wrF (fun j => decide (Q j)) (N - i) i = nI i := by
  rw [show N - i = (N - (i + 1)) + 1 by omega]
  show (if _ then _ else _) = _
  rw [if_pos (by simp [h])]
theorem wrF_congr {f g : Nat → Bool} : ∀ n i, (∀ j, i ≤ j → j < i + n → f j = g j) → wrF f n i = wrF g n i := by
  intro n
  induction n with
  | zero => intro i _; rfl
  | succ n ih =>
    intro i h
    show (if _ then _ else _) = (if _ then _ else _)
    rw [h i (Nat.le_refl _) (by omega), ih (i + 1) (fun j h1 h2 => h j (by omega) (by omega))]

