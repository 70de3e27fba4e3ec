set_option maxHeartbeats 4000000 in
set_option maxRecDepth 100000 in
theorem law_loop {p : Program} {l : Launch} {e : Env} {s : State} {m : MethodId} {below : List Frame} {meth : Method} {c : Code} {b L : Nat} {xs : Nat → Int32} {dC : Nat → ClassId} {dI : Nat → Nat → Nat} {cI cJ cT : ClassId} {tq : Nat} {q r : Nat → Nat} {gd : Nat → Int32} (hL : L ≤ 2560) (C0 : lw_At p s m meth c b L xs) (FF : lwF dC dI cI cJ cT tq s) {M : Nat → Nat → Int32} {ui : Int32} {SL SS : DV} {S : MV} {H : Heap} {locs : List Loc} {ls : Array Slot} (hR : RR M gd ui SL S) (hP : va_P (dC, dI) vwCl (lwC q r cI cJ cT M gd ui SL SS S) H) (hD : va_D (fun q : Nat => s.heap.size ≤ q) (lwC q r cI cJ cT M gd ui SL SS S)) (hS : va_S (fun q : Nat => s.heap.size ≤ q) s.heap H locs) (hl : lv_has ls 4 [(3, .int (nI (5 * 0))), (2, .ref (q 20)), (1, .ref (q 0)), (0, .ref b)]) : W p l e room_1 s m #[Value.ref b] below meth c H locs 600000 7302250 (lw_Z below #[Value.ref b] s) (F0 m 18 ls []) := by
  obtain ⟨hx, hb, hr, hml, hown, hts0, hX, hbl, hlocks, hgv⟩ := id C0
  have hbA : ¬ (fun q : Nat => s.heap.size ≤ q) b := Nat.not_le.mpr hbl
  refine ax_loopS (pc := 18) (fun n H locs ls => ∃ (M : Nat → Nat → Int32) (ui : Int32) (SL SS : DV) (S : MV), RR M gd ui SL S ∧ va_P (dC, dI) vwCl (lwC q r cI cJ cT M gd ui SL SS S) H ∧ va_D (fun q : Nat => s.heap.size ≤ q) (lwC q r cI cJ cT M gd ui SL SS S) ∧ va_S (fun q : Nat => s.heap.size ≤ q) s.heap H locs ∧ lv_has ls 4 [(3, .int (nI (5 * n))), (2, .ref (q 20)), (1, .ref (q 0)), (0, .ref b)]) (L / 5) ?_ ⟨M, ui, SL, SS, S, hR, hP, hD, hS, hl⟩
  clear hR hP hD hS hl
  clear M ui SL SS S H locs ls
  intro n hn ih H locs ls hI
  obtain ⟨M, ui, SL, SS, S, hR, hP, hD, hS, hl⟩ := hI
  refine lv_iload_n hx hb dL_law_18 rfl (lv_at hl 0 rfl) ?_
  refine lv_aload_n hx hb dL_law_19 rfl (lv_at hl 3 rfl) ?_
  refine va_slen hx hb hX hbl hbA hS dL_law_20 ?_
  refine lv_iconst (v := 5) hx hb dL_law_21 (by decide) ?_
  refine lv_isub hx hb dL_law_22 ?_
  refine lv_icmp_gt (tgt := 634) hx hb dL_law_23 (by decide) (fun ce => ?_) (fun ce => ?_)
  · refine lv_iconst (v := 1) hx hb dL_law_634 (by decide) ?_
    refine va_forget (fun q hq => hS.2.2 q hq) ?_
    exact lw_ret hx hb hr hlocks dL_law_635
  have hlt : n < L / 5 := sc_more hL hn ce
  have KK : ∀ (H : Heap) (locs : List Loc) (ls : Array Slot) (M : Nat → Nat → Int32) (ui : Int32) (SL SS : DV) (S : MV), RR M gd ui SL S → va_P (dC, dI) vwCl (lwC q r cI cJ cT M gd ui SL SS S) H → va_D (fun q : Nat => s.heap.size ≤ q) (lwC q r cI cJ cT M gd ui SL SS S) → va_S (fun q : Nat => s.heap.size ≤ q) s.heap H locs → lv_has ls 4 [(3, .int (nI (5 * n))), (2, .ref (q 20)), (1, .ref (q 0)), (0, .ref b)] → W p l e room_1 s m #[Value.ref b] below meth c H locs 600000 7302250 (lw_Z below #[Value.ref b] s) (F0 m 628 ls []) := by
    intro H locs ls M ui SL SS S hR hP hD hS hl
    refine lv_iinc (v := nI (5 * (n + 1))) (lv' := [(3, .int (nI (5 * (n + 1)))), (2, .ref (q 20)), (1, .ref (q 0)), (0, .ref b)]) hx hb dL_law_628 hl (k := 0) rfl (sc_next n) (by decide) rfl (fun ls hl => ?_)
    refine lv_goto (tgt := 18) hx hb dL_law_631 (by decide) ?_
    exact ih hlt H locs ls ⟨M, ui, SL, SS, S, hR, hP, hD, hS, hl⟩
  refine lv_aload_n hx hb dL_law_26 rfl (lv_at hl 3 rfl) ?_
  refine lv_iload_n hx hb dL_law_27 rfl (lv_at hl 0 rfl) ?_
  refine va_sld hx hb hX hbl hbA hS (sc_in0 hL hlt) dL_law_28 ?_
  refine lv_bipush (v := 31) hx hb dL_law_29 rfl ?_
  refine lv_iand hx hb dL_law_31 ?_
  refine lv_topi (fun x ex => ?_)
  clear ex
  by_cases h0 : x = 0
  · refine lv_tableIn (off := 84) (tgt := 116) hx hb dL_law_32 (by rw [h0]; decide) (by rw [h0]; decide) (by rw [h0]; rfl) (by decide) ?_
    exact lc_digit hL C0 FF hlt hR hP hD hS hl KK
  by_cases h1 : x = 1
  · refine lv_tableIn (off := 127) (tgt := 159) hx hb dL_law_32 (by rw [h1]; decide) (by rw [h1]; decide) (by rw [h1]; rfl) (by decide) ?_
    exact lc_set hL C0 FF hlt hR hP hD hS hl KK
  by_cases h2 : x = 2
  · refine lv_tableIn (off := 180) (tgt := 212) hx hb dL_law_32 (by rw [h2]; decide) (by rw [h2]; decide) (by rw [h2]; rfl) (by decide) ?_
    exact lc_make hL C0 FF hlt hR hP hD hS hl KK
  by_cases h3 : x = 3
  · refine lv_tableIn (off := 203) (tgt := 235) hx hb dL_law_32 (by rw [h3]; decide) (by rw [h3]; decide) (by rw [h3]; rfl) (by decide) ?_
    exact lc_copy hL C0 FF hlt hR hP hD hS hl KK
  by_cases h4 : x = 4
  · refine lv_tableIn (off := 236) (tgt := 268) hx hb dL_law_32 (by rw [h4]; decide) (by rw [h4]; decide) (by rw [h4]; rfl) (by decide) ?_
    exact lc_good hL C0 FF hlt hR hP hD hS hl KK
  by_cases h5 : x = 5
  · refine lv_tableIn (off := 279) (tgt := 311) hx hb dL_law_32 (by rw [h5]; decide) (by rw [h5]; decide) (by rw [h5]; rfl) (by decide) ?_
    exact lc_holds hL C0 FF hlt hR hP hD hS hl KK
  by_cases h6 : x = 6
  · refine lv_tableIn (off := 312) (tgt := 344) hx hb dL_law_32 (by rw [h6]; decide) (by rw [h6]; decide) (by rw [h6]; rfl) (by decide) ?_
    exact lc_check hL C0 FF hlt hR hP hD hS hl KK
  by_cases h7 : x = 7
  · refine lv_tableIn (off := 335) (tgt := 367) hx hb dL_law_32 (by rw [h7]; decide) (by rw [h7]; decide) (by rw [h7]; rfl) (by decide) ?_
    exact lc_wrong hL C0 FF hlt hR hP hD hS hl KK
  by_cases h8 : x = 8
  · refine lv_tableIn (off := 368) (tgt := 400) hx hb dL_law_32 (by rw [h8]; decide) (by rw [h8]; decide) (by rw [h8]; rfl) (by decide) ?_
    exact lc_use hL C0 FF hlt hR hP hD hS hl KK
  by_cases h9 : x = 9
  · refine lv_tableIn (off := 391) (tgt := 423) hx hb dL_law_32 (by rw [h9]; decide) (by rw [h9]; decide) (by rw [h9]; rfl) (by decide) ?_
    exact lc_divide hL C0 FF hlt hR hP hD hS hl KK
  by_cases h10 : x = 10
  · refine lv_tableIn (off := 424) (tgt := 456) hx hb dL_law_32 (by rw [h10]; decide) (by rw [h10]; decide) (by rw [h10]; rfl) (by decide) ?_
    exact lc_quotient hL C0 FF hlt hR hP hD hS hl KK
  by_cases h11 : x = 11
  · refine lv_tableIn (off := 437) (tgt := 469) hx hb dL_law_32 (by rw [h11]; decide) (by rw [h11]; decide) (by rw [h11]; rfl) (by decide) ?_
    exact lc_rest hL C0 FF hlt hR hP hD hS hl KK
  by_cases h12 : x = 12
  · refine lv_tableIn (off := 450) (tgt := 482) hx hb dL_law_32 (by rw [h12]; decide) (by rw [h12]; decide) (by rw [h12]; rfl) (by decide) ?_
    exact lc_left hL C0 FF hlt hR hP hD hS hl KK
  by_cases h13 : x = 13
  · refine lv_tableIn (off := 463) (tgt := 495) hx hb dL_law_32 (by rw [h13]; decide) (by rw [h13]; decide) (by rw [h13]; rfl) (by decide) ?_
    exact lc_step hL C0 FF hlt hR hP hD hS hl KK
  by_cases h14 : x = 14
  · refine lv_tableIn (off := 496) (tgt := 528) hx hb dL_law_32 (by rw [h14]; decide) (by rw [h14]; decide) (by rw [h14]; rfl) (by decide) ?_
    exact lc_state hL C0 FF hlt hR hP hD hS hl KK
  by_cases h15 : x = 15
  · refine lv_tableIn (off := 530) (tgt := 562) hx hb dL_law_32 (by rw [h15]; decide) (by rw [h15]; decide) (by rw [h15]; rfl) (by decide) ?_
    exact lc_told hL C0 FF hlt hR hP hD hS hl KK
  by_cases h16 : x = 16
  · refine lv_tableIn (off := 553) (tgt := 585) hx hb dL_law_32 (by rw [h16]; decide) (by rw [h16]; decide) (by rw [h16]; rfl) (by decide) ?_
    exact lc_sweep hL C0 FF hlt hR hP hD hS hl KK
  have g0 := ax_ne h0 (z := 0) rfl
  have g1 := ax_ne h1 (z := 1) rfl
  have g2 := ax_ne h2 (z := 2) rfl
  have g3 := ax_ne h3 (z := 3) rfl
  have g4 := ax_ne h4 (z := 4) rfl
  have g5 := ax_ne h5 (z := 5) rfl
  have g6 := ax_ne h6 (z := 6) rfl
  have g7 := ax_ne h7 (z := 7) rfl
  have g8 := ax_ne h8 (z := 8) rfl
  have g9 := ax_ne h9 (z := 9) rfl
  have g10 := ax_ne h10 (z := 10) rfl
  have g11 := ax_ne h11 (z := 11) rfl
  have g12 := ax_ne h12 (z := 12) rfl
  have g13 := ax_ne h13 (z := 13) rfl
  have g14 := ax_ne h14 (z := 14) rfl
  have g15 := ax_ne h15 (z := 15) rfl
  have g16 := ax_ne h16 (z := 16) rfl
  refine lv_tableOut (tgt := 628) hx hb dL_law_32 (by omega) (by decide) ?_
  exact KK H locs ls M ui SL SS S hR hP hD hS hl
