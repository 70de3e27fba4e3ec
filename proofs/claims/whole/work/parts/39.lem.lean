section REL
variable {M : Nat → Nat → Int32} {gd : Nat → Int32} {ui : Int32} {SL SS : DV} {S : MV}
theorem L_sweep (h : RR M gd ui SL S) (SS : DV) (a b c : Int32) : (gX1_sweep M SS ui a b c).1 = (gX2_sweep S a b c).1 ∧ RR M gd ui SL (gX2_sweep S a b c).2 := sorry
end REL
