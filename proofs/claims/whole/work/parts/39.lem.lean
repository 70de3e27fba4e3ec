section REL
variable {M : Nat → Nat → Int32} {gd : Nat → Int32} {ui : Int32} {SL SS : DV} {S : MV}
theorem L_digit (h : RR M gd ui SL S) (a b c : Int32) : fX1_digit M a b c = fX2_digit S a b c := sorry
theorem L_set (h : RR M gd ui SL S) (a b c d : Int32) : (gX1_set M a b c d).1 = (gX2_set S a b c d).1 ∧ RR (gX1_set M a b c d).2 gd ui SL (gX2_set S a b c d).2 := sorry
theorem L_make (h : RR M gd ui SL S) (a : Int32) : (gX1_make M gd a).1 = (gX2_make S a).1 ∧ RR (gX1_make M gd a).2 gd ui SL (gX2_make S a).2 := sorry
theorem L_copy (h : RR M gd ui SL S) (a b : Int32) : (gX1_copy M a b).1 = (gX2_copy S a b).1 ∧ RR (gX1_copy M a b).2 gd ui SL (gX2_copy S a b).2 := sorry
theorem L_good (h : RR M gd ui SL S) (a b c : Int32) : fX1_good gd a b c = fX2_good a b c := sorry
theorem L_holds (a b : Int32) : fX1_holds a b = fX2_holds a b := sorry
theorem L_check (h : RR M gd ui SL S) (a : Int32) : fX1_check M gd a = fX2_check S a := sorry
theorem L_wrong (h : RR M gd ui SL S) (a b : Int32) : fX1_wrong M gd a b = fX2_wrong S a b := sorry
theorem L_use (h : RR M gd ui SL S) (a : Int32) : (gX1_use ui a).1 = (gX2_use S a).1 ∧ RR M gd (gX1_use ui a).2 SL (gX2_use S a).2 := sorry
theorem L_divide (h : RR M gd ui SL S) (a b : Int32) : (gX1_divide M SL ui a b).1 = (gX2_divide S a b).1 ∧ RR M gd ui (gX1_divide M SL ui a b).2 (gX2_divide S a b).2 := sorry
theorem L_quotient (h : RR M gd ui SL S) : fX1_quotient SL = fX2_quotient S := sorry
theorem L_rest (h : RR M gd ui SL S) : fX1_rest SL = fX2_rest S := sorry
theorem L_left (h : RR M gd ui SL S) : fX1_left SL = fX2_left S := sorry
theorem L_step (h : RR M gd ui SL S) (a b : Int32) : fX1_step SL a b = fX2_step S a b := sorry
theorem L_state (h : RR M gd ui SL S) (a b : Int32) : fX1_state SL a b = fX2_state S a b := sorry
theorem L_told (h : RR M gd ui SL S) {nn : Nat} (hnn : nn ≤ 17) (hn : mv2 S = nI nn) (a : Int32) : fX1_told SL a = fX2_told S nn a := sorry
theorem L_sweep (h : RR M gd ui SL S) (SS : DV) (a b c : Int32) : (gX1_sweep M SS ui a b c).1 = (gX2_sweep S a b c).1 ∧ RR M gd ui SL (gX2_sweep S a b c).2 := sorry
theorem L_init : RR gX1_init.1 gX1_init.2 0 gX0_init gX2_init := sorry
end REL
