/-! what class and reference have in common between two calls -/
def RT (M : Nat → Nat → Int32) (S : MV) : Prop := ∀ t c, t < 4 → c < 2048 → M t c = mv0 S (2048 * t + c) ∧ -2 ≤ (M t c).toInt ∧ (M t c).toInt ≤ 2
def RG (gd : Nat → Int32) : Prop := ∀ c, c < 2048 → gd c = fX1_init_c82 c
def RA (SL : DV) (S : MV) (nn : Nat) : Prop := (mv9 S = 1 ∧ ∀ j, j ≤ nn → dv2 SL j = mv12 S j ∧ dv3 SL j = mv13 S j ∧ dv4 SL j = mv14 S j ∧ dv5 SL j = mv15 S j) ∨ (mv9 S = 0 ∧ nn = 0 ∧ dv2 SL 0 = 0 ∧ dv3 SL 0 = 0 ∧ dv4 SL 0 = 0 ∧ dv5 SL 0 = 0)
def RE (SL : DV) (S : MV) (nn : Nat) : Prop := ∀ j, 1 ≤ j → j ≤ nn → dv0 SL j = mv10 S j ∧ dv1 SL j = mv11 S j
def RI (SL : DV) (S : MV) (nn : Nat) : Prop := nn ≤ 17 ∧ dv9 SL = nI nn ∧ mv2 S = nI nn ∧ dv6 SL = mv3 S ∧ dv7 SL = mv4 S ∧ dv8 SL = mv5 S ∧ dv11 SL = mv6 S ∧ dv12 SL = mv7 S ∧ dv13 SL = mv8 S ∧ dv10 SL = it_tlX2 S nn
def RD (SL : DV) (S : MV) : Prop := ∃ nn, RI SL S nn ∧ RE SL S nn ∧ RA SL S nn
def RR (M : Nat → Nat → Int32) (gd : Nat → Int32) (ui : Int32) (SL : DV) (S : MV) : Prop := RT M S ∧ RG gd ∧ ui = mv1 S ∧ vp_in ui 4 ∧ RD SL S
theorem RR_nn {M : Nat → Nat → Int32} {gd : Nat → Int32} {ui : Int32} {SL : DV} {S : MV} (h : RR M gd ui SL S) : ∃ nn, nn ≤ 17 ∧ dv9 SL = nI nn ∧ mv2 S = nI nn := by
  obtain ⟨-, -, -, -, nn, hI, -, -⟩ := h
  exact ⟨nn, hI.1, hI.2.1, hI.2.2.1⟩
theorem RR_u {M : Nat → Nat → Int32} {gd : Nat → Int32} {ui : Int32} {SL : DV} {S : MV} (h : RR M gd ui SL S) : vp_in ui 4 ∧ vp_in (mv1 S) 4 := ⟨h.2.2.2.1, h.2.2.1 ▸ h.2.2.2.1⟩
