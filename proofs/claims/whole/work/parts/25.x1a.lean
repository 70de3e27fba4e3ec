def st_fgX1 (p0 : Int32) (p1 : Int32) (i : Nat) (w0 : Int32) (w1 : Int32) : Int32 × Int32 := (if (fX1_holdsAny p0 p1) = 0 then (w0 ||| (1 <<< ((w1 + 2) &&& 31)), w1 + 1) else (if (fX1_staysWithin p0 p1 w1) = 0 then (w0, w1 + 1) else (w0 ||| (1 <<< ((w1 + 2) &&& 31)), w1 + 1)))
def it_fgX1 (p0 : Int32) (p1 : Int32) : Nat → Int32 × Int32
  | 0 => ((0 : Int32), ((-2) : Int32))
  | i + 1 => st_fgX1 p0 p1 i (it_fgX1 p0 p1 i).1 (it_fgX1 p0 p1 i).2
def fX1_findGoodDigits (p0 : Int32) (p1 : Int32) : Int32 := (it_fgX1 p0 p1 5).1
set_option maxHeartbeats 4000000 in
set_option maxRecDepth 100000 in
theorem kX1_findGoodDigits (l : Launch) (dC : Nat → ClassId) (dI : Nat → Nat → Nat) (p0 : Int32) (p1 : Int32)  : Met l yX1_findGoodDigits wsX1_findGoodDigits ({ frames := 3, cells := 0, slots := 0, locals := 65 } : Room) (va_Pc [.int p0, .int p1] (fun U => True)) (vp_Si (fun r : Int32 => r = (fX1_findGoodDigits p0 p1))) 0 0 (fun _ => False) := by
  refine Met.ofW (cc := cX1_findGoodDigits) (maxL := 4) (ret := (some .int)) (by decide) rfl ?_
  intro p e s m args below meth c s₁ B hml hv
  obtain ⟨rfl, _⟩ := hv
  have hx := B.exec
  have hb := B.bytes
  have hr := B.returns
  have hts := atoms_spec (ws := wsX1_findGoodDigits) B.pre
  have hown : s.vm.findClass RX1 = some m.cls := findClass_of_methodNamed B.named
  have hlocks := B.notSynchronized
  have hS : va_S (fun _ => False) s.heap s.heap [] := va_S.rf
  have hl := lv_entry ([.int p0, .int p1]) (n := 4) (Nat.le_of_ble_eq_true rfl)
  rw [lg_entry_eq]
  generalize (lg_sl ([.int p0, .int p1]) ++ List.replicate (4 - (lg_sl ([.int p0, .int p1])).length) Slot.unset).toArray = ls at hl ⊢
  have hl : lv_has ls 4 [(0, .int p0), (1, .int p1)] := hl
  refine lv_iconst (v := 0) hx hb dX1_findGoodDigits_0 (by decide) ?_
  refine lv_istore_n (lv' := [(2, .int 0), (0, .int p0), (1, .int p1)]) hx hb dX1_findGoodDigits_1 rfl hl (by decide) rfl (fun ls hl => ?_)
  refine lv_bipush (v := (-2)) hx hb dX1_findGoodDigits_2 (by decide) ?_
  refine lv_istore_n (lv' := [(3, .int (-2)), (2, .int 0), (0, .int p0), (1, .int p1)]) hx hb dX1_findGoodDigits_4 rfl hl (by decide) rfl (fun ls hl => ?_)
  refine ax_loopP (pc := 5) (fun i ls => ∃ w0 : Int32, ∃ w1 : Int32, w0 = (it_fgX1 p0 p1 i).1 ∧ w1 = (it_fgX1 p0 p1 i).2 ∧ w1 = nI i - 2 ∧ lv_has ls 4 [(3, .int w1), (2, .int w0), (0, .int p0), (1, .int p1)]) 5 (fun i hii ihi ls hIi => ?_) ⟨(0 : Int32), ((-2) : Int32), rfl, rfl, (by decide), lv_sub hl [0, 1, 2, 3] rfl⟩
  obtain ⟨w0, w1, ew0, ew1, iv, hl⟩ := hIi
  refine lv_iload_n hx hb dX1_findGoodDigits_5 rfl (lv_at hl 0 rfl) ?_
  refine lv_iconst (v := 2) hx hb dX1_findGoodDigits_6 (by decide) ?_
  refine lv_icmp_gt (tgt := 41) hx hb dX1_findGoodDigits_7 (by decide) (fun c_7_1 => ?_) (fun c_7_1 => ?_)
  · obtain rfl : i = 5 := fg_end hii iv c_7_1
    subst ew0
    subst ew1
    refine lv_iload_n hx hb dX1_findGoodDigits_41 rfl (lv_at hl 1 rfl) ?_
    exact W.iret (v := (it_fgX1 p0 p1 5).1) hx hb hr (fun t ht hW => ⟨(it_fgX1 p0 p1 5).1, rfl, rfl, ht⟩) (fun q h => absurd h List.not_mem_nil) dX1_findGoodDigits_42
  · have hlti : i < 5 := fg_more hii iv c_7_1
    refine lv_iload_n hx hb dX1_findGoodDigits_10 rfl (lv_at hl 2 rfl) ?_
    refine lv_iload_n hx hb dX1_findGoodDigits_11 rfl (lv_at hl 3 rfl) ?_
    refine vp_callSi (W.runS (As := [.int p0, .int p1]) (rest := []) ⟨hx, hb, hml, hown, hts⟩ (kX1_holdsAny l dC dI p0 p1) (va_cwS 2 hts gX1_findGoodDigits_X1_holdsAny rfl rfl rfl (by decide +kernel) ⟨Nat.le_of_ble_eq_true rfl, Nat.le_of_ble_eq_true rfl⟩) ⟨fun a U g mk q => by obtain ⟨q0, qt⟩ := q; exact ⟨q0, qt⟩, fun U hU hW => ⟨rfl, trivial⟩⟩ rfl rfl hl.1 rfl (lv_room (Nat.le_of_ble_eq_true rfl)) dX1_findGoodDigits_12 ⟨Nat.zero_le _, Nat.zero_le _⟩) (fun r_2 hr_2 => ?_)
    subst hr_2
    refine lv_if_eq (tgt := 27) hx hb dX1_findGoodDigits_15 (by decide) (fun c_15_3 => ?_) (fun c_15_3 => ?_)
    · refine lv_iload_n hx hb dX1_findGoodDigits_27 rfl (lv_at hl 1 rfl) ?_
      refine lv_iconst (v := 1) hx hb dX1_findGoodDigits_28 (by decide) ?_
      refine lv_iload_n hx hb dX1_findGoodDigits_29 rfl (lv_at hl 0 rfl) ?_
      refine lv_iconst (v := 2) hx hb dX1_findGoodDigits_30 (by decide) ?_
      refine lv_iadd hx hb dX1_findGoodDigits_31 ?_
      refine lv_ishl hx hb dX1_findGoodDigits_32 ?_
      refine lv_ior hx hb dX1_findGoodDigits_33 ?_
      refine lv_istore_n (lv' := [(2, .int (w0 ||| (1 <<< ((w1 + 2) &&& 31)))), (3, .int w1), (0, .int p0), (1, .int p1)]) hx hb dX1_findGoodDigits_34 rfl hl (by decide) rfl (fun ls hl => ?_)
      refine lv_iinc (v := w1 + 1) (lv' := [(3, .int (w1 + 1)), (2, .int (w0 ||| (1 <<< ((w1 + 2) &&& 31)))), (0, .int p0), (1, .int p1)]) hx hb dX1_findGoodDigits_35 hl (k := 1) rfl rfl (by decide) rfl (fun ls hl => ?_)
      refine lv_goto (tgt := 5) hx hb dX1_findGoodDigits_38 (by decide) ?_
      have eb : st_fgX1 p0 p1 i w0 w1 = (w0 ||| (1 <<< ((w1 + 2) &&& 31)), w1 + 1) := by unfold st_fgX1; rw [if_pos c_15_3]
      have ebb : (it_fgX1 p0 p1 (i + 1)) = (w0 ||| (1 <<< ((w1 + 2) &&& 31)), w1 + 1) := by show st_fgX1 p0 p1 i (it_fgX1 p0 p1 i).1 (it_fgX1 p0 p1 i).2 = _; rw [← ew0, ← ew1]; exact eb
      exact ihi hlti _ ⟨w0 ||| (1 <<< ((w1 + 2) &&& 31)), w1 + 1, (congrArg Prod.fst ebb).symm, (congrArg Prod.snd ebb).symm, (fg_step iv), lv_sub hl [0, 1, 2, 3] rfl⟩
    · refine lv_iload_n hx hb dX1_findGoodDigits_18 rfl (lv_at hl 2 rfl) ?_
      refine lv_iload_n hx hb dX1_findGoodDigits_19 rfl (lv_at hl 3 rfl) ?_
      refine lv_iload_n hx hb dX1_findGoodDigits_20 rfl (lv_at hl 0 rfl) ?_
      refine vp_callSi (W.runS (As := [.int p0, .int p1, .int w1]) (rest := []) ⟨hx, hb, hml, hown, hts⟩ (kX1_staysWithin l dC dI p0 p1 w1) (va_cwS 3 hts gX1_findGoodDigits_X1_staysWithin rfl rfl rfl (by decide +kernel) ⟨Nat.le_of_ble_eq_true rfl, Nat.le_of_ble_eq_true rfl⟩) ⟨fun a U g mk q => by obtain ⟨q0, qt⟩ := q; exact ⟨q0, qt⟩, fun U hU hW => ⟨rfl, trivial⟩⟩ rfl rfl hl.1 rfl (lv_room (Nat.le_of_ble_eq_true rfl)) dX1_findGoodDigits_21 ⟨Nat.zero_le _, Nat.zero_le _⟩) (fun r_4 hr_4 => ?_)
      subst hr_4
      refine lv_if_eq (tgt := 35) hx hb dX1_findGoodDigits_24 (by decide) (fun c_24_5 => ?_) (fun c_24_5 => ?_)
      · refine lv_iinc (v := w1 + 1) (lv' := [(3, .int (w1 + 1)), (2, .int w0), (0, .int p0), (1, .int p1)]) hx hb dX1_findGoodDigits_35 hl (k := 0) rfl rfl (by decide) rfl (fun ls hl => ?_)
        refine lv_goto (tgt := 5) hx hb dX1_findGoodDigits_38 (by decide) ?_
        have eb : st_fgX1 p0 p1 i w0 w1 = (w0, w1 + 1) := by unfold st_fgX1; rw [if_neg c_15_3, if_pos c_24_5]
        have ebb : (it_fgX1 p0 p1 (i + 1)) = (w0, w1 + 1) := by show st_fgX1 p0 p1 i (it_fgX1 p0 p1 i).1 (it_fgX1 p0 p1 i).2 = _; rw [← ew0, ← ew1]; exact eb
        exact ihi hlti _ ⟨w0, w1 + 1, (congrArg Prod.fst ebb).symm, (congrArg Prod.snd ebb).symm, (fg_step iv), lv_sub hl [0, 1, 2, 3] rfl⟩
      · refine lv_iload_n hx hb dX1_findGoodDigits_27 rfl (lv_at hl 1 rfl) ?_
        refine lv_iconst (v := 1) hx hb dX1_findGoodDigits_28 (by decide) ?_
        refine lv_iload_n hx hb dX1_findGoodDigits_29 rfl (lv_at hl 0 rfl) ?_
        refine lv_iconst (v := 2) hx hb dX1_findGoodDigits_30 (by decide) ?_
        refine lv_iadd hx hb dX1_findGoodDigits_31 ?_
        refine lv_ishl hx hb dX1_findGoodDigits_32 ?_
        refine lv_ior hx hb dX1_findGoodDigits_33 ?_
        refine lv_istore_n (lv' := [(2, .int (w0 ||| (1 <<< ((w1 + 2) &&& 31)))), (3, .int w1), (0, .int p0), (1, .int p1)]) hx hb dX1_findGoodDigits_34 rfl hl (by decide) rfl (fun ls hl => ?_)
        refine lv_iinc (v := w1 + 1) (lv' := [(3, .int (w1 + 1)), (2, .int (w0 ||| (1 <<< ((w1 + 2) &&& 31)))), (0, .int p0), (1, .int p1)]) hx hb dX1_findGoodDigits_35 hl (k := 1) rfl rfl (by decide) rfl (fun ls hl => ?_)
        refine lv_goto (tgt := 5) hx hb dX1_findGoodDigits_38 (by decide) ?_
        have eb : st_fgX1 p0 p1 i w0 w1 = (w0 ||| (1 <<< ((w1 + 2) &&& 31)), w1 + 1) := by unfold st_fgX1; rw [if_neg c_15_3, if_neg c_24_5]
        have ebb : (it_fgX1 p0 p1 (i + 1)) = (w0 ||| (1 <<< ((w1 + 2) &&& 31)), w1 + 1) := by show st_fgX1 p0 p1 i (it_fgX1 p0 p1 i).1 (it_fgX1 p0 p1 i).2 = _; rw [← ew0, ← ew1]; exact eb
        exact ihi hlti _ ⟨w0 ||| (1 <<< ((w1 + 2) &&& 31)), w1 + 1, (congrArg Prod.fst ebb).symm, (congrArg Prod.snd ebb).symm, (fg_step iv), lv_sub hl [0, 1, 2, 3] rfl⟩

def fX1_isGood (gd : Nat → Int32) (p0 : Int32) (p1 : Int32) : Int32 := (if (((gd p0.toNatClampNeg) >>> ((p1 + 2) &&& 31)) &&& 1) = 1 then 1 else 0)
theorem fX1_isGood_01 (gd : Nat → Int32) (p0 : Int32) (p1 : Int32) : (fX1_isGood gd p0 p1) = 0 ∨ (fX1_isGood gd p0 p1) = 1 := by unfold fX1_isGood; (repeat' split) <;> simp
theorem inX1_X1_isGood : ∀ w ∈ wsX10, w ∈ wsX1_isGood := by decide +kernel
set_option maxHeartbeats 4000000 in
set_option maxRecDepth 100000 in
theorem kX1_isGood (l : Launch) (dC : Nat → ClassId) (dI : Nat → Nat → Nat) (o0 : Nat) (oT : Nat) (oG : Nat) (l0 : Nat) (s0 : Nat) (cI : ClassId) (gd : Nat → Int32) (ui : Int32) (p0 : Int32) (p1 : Int32) (hy0 : vp_in p0 2048) : Met l yX1_isGood wsX1_isGood ({ frames := 0, cells := 0, slots := 0, locals := 0 } : Room) (va_Pc [.ref o0, .int p0, .int p1] (fun U => va_P (dC, dI) vwCl [(o0, .inr (1, [.ref oT, .ref oG, .ref l0, .ref s0, .int ui])), (oG, .inl (cI, 2048, .inl gd))] U.heap ∧ va_K (dC, dI) vwCl [(cI, .int)] U)) (vp_Si (fun r : Int32 => r = (fX1_isGood gd p0 p1))) 0 0 (fun _ => False) := by
  refine Met.ofW (cc := cX1_isGood) (maxL := 3) (ret := (some .boolean)) (by decide) rfl ?_
  intro p e s m args below meth c s₁ B hml hv
  obtain ⟨rfl, hP, hK⟩ := hv
  have hx := B.exec
  have hb := B.bytes
  have hr := B.returns
  have hts := atoms_spec (ws := wsX1_isGood) B.pre
  have hown : s.vm.findClass RX1 = some m.cls := findClass_of_methodNamed B.named
  have hlocks := B.notSynchronized
  have hS : va_S (fun _ => False) s.heap s.heap [] := va_S.rf
  have hl := lv_entry ([.ref o0, .int p0, .int p1]) (n := 3) (Nat.le_of_ble_eq_true rfl)
  rw [lg_entry_eq]
  generalize (lg_sl ([.ref o0, .int p0, .int p1]) ++ List.replicate (3 - (lg_sl ([.ref o0, .int p0, .int p1])).length) Slot.unset).toArray = ls at hl ⊢
  have hl : lv_has ls 3 [(0, .ref o0), (1, .int p0), (2, .int p1)] := hl
  refine lv_aload_n hx hb dX1_isGood_0 rfl (lv_at hl 0 rfl) ?_
  refine va_get (D := (dC, dI)) (ci := 1) (v := .ref oG) (C := RX1) (T := TX1) (N := 5) hx hb hts inX1_X1_isGood hown hK hP 0 rfl rfl 1 (by decide) (hts (.fieldLink RX1 14 "DigitDivider" "goodDigits" "[I") (by decide +kernel)) (fun _ h9 => h9) rfl dX1_isGood_1 ?_
  refine lv_iload_n hx hb dX1_isGood_4 rfl (lv_at hl 1 rfl) ?_
  refine va_iald hx hb hK hP 1 0 rfl rfl hy0 dX1_isGood_5 ?_
  refine lv_iload_n hx hb dX1_isGood_6 rfl (lv_at hl 2 rfl) ?_
  refine lv_iconst (v := 2) hx hb dX1_isGood_7 (by decide) ?_
  refine lv_iadd hx hb dX1_isGood_8 ?_
  refine lv_ishr hx hb dX1_isGood_9 ?_
  refine lv_iconst (v := 1) hx hb dX1_isGood_10 (by decide) ?_
  refine lv_iand hx hb dX1_isGood_11 ?_
  refine lv_iconst (v := 1) hx hb dX1_isGood_12 (by decide) ?_
  refine lv_icmp_ne (tgt := 20) hx hb dX1_isGood_13 (by decide) (fun c_13_1 => ?_) (fun c_13_1 => ?_)
  · refine lv_iconst (v := 0) hx hb dX1_isGood_20 (by decide) ?_
    exact W.zret (ty := .boolean) (v := 0) hx hb hr rfl (fun t ht hW => ⟨0, rfl, (by unfold fX1_isGood; rw [if_neg c_13_1]), ht⟩) (fun q h => absurd h List.not_mem_nil) dX1_isGood_21
  · refine lv_iconst (v := 1) hx hb dX1_isGood_16 (by decide) ?_
    refine lv_goto (tgt := 21) hx hb dX1_isGood_17 (by decide) ?_
    exact W.zret (ty := .boolean) (v := 1) hx hb hr rfl (fun t ht hW => ⟨1, rfl, (by unfold fX1_isGood; rw [if_pos c_13_1]), ht⟩) (fun q h => absurd h List.not_mem_nil) dX1_isGood_21

def fX1_madeDigit (gd : Nat → Int32) (p0 : Int32) : Int32 := (if (fX1_isGood gd p0 (dnf (0 : Int32).toNatClampNeg)) = 0 then (if (fX1_isGood gd p0 (dnf (1 : Int32).toNatClampNeg)) = 0 then (if (fX1_isGood gd p0 (dnf (2 : Int32).toNatClampNeg)) = 0 then (if (fX1_isGood gd p0 (dnf (3 : Int32).toNatClampNeg)) = 0 then (if (fX1_isGood gd p0 (dnf (4 : Int32).toNatClampNeg)) = 0 then 0 else dnf (4 : Int32).toNatClampNeg) else dnf (3 : Int32).toNatClampNeg) else dnf (2 : Int32).toNatClampNeg) else dnf (1 : Int32).toNatClampNeg) else dnf (0 : Int32).toNatClampNeg)
set_option maxHeartbeats 4000000 in
set_option maxRecDepth 100000 in
theorem kX1_madeDigit (l : Launch) (dC : Nat → ClassId) (dI : Nat → Nat → Nat) (o0 : Nat) (oT : Nat) (oG : Nat) (l0 : Nat) (s0 : Nat) (cI : ClassId) (gd : Nat → Int32) (ui : Int32) (tq : Nat) (p0 : Int32) (hy0 : vp_in p0 2048) : Met l yX1_madeDigit wsX1_madeDigit ({ frames := 1, cells := 0, slots := 0, locals := 22 } : Room) (va_Pc [.ref o0, .int p0] (fun U => va_P (dC, dI) vwCl [(o0, .inr (1, [.ref oT, .ref oG, .ref l0, .ref s0, .int ui])), (oG, .inl (cI, 2048, .inl gd))] U.heap ∧ va_K (dC, dI) vwCl [(cI, .int)] U ∧ va_Z "DigitDivider" "DIGITS_NEAREST_FIRST" "[I" (.ref tq) (fun _ => False) U U.heap ∧ va_T .int tq 5 (fun j => .int (dnf j)) (fun _ => False) U U.heap)) (vp_Si (fun r : Int32 => r = (fX1_madeDigit gd p0))) 0 0 (fun _ => False) := by
  refine Met.ofW (cc := cX1_madeDigit) (maxL := 6) (ret := (some .int)) (by decide) rfl ?_
  intro p e s m args below meth c s₁ B hml hv
  obtain ⟨rfl, hP, hK, hZ, hTq⟩ := hv
  have hx := B.exec
  have hb := B.bytes
  have hr := B.returns
  have hts := atoms_spec (ws := wsX1_madeDigit) B.pre
  have hown : s.vm.findClass RX1 = some m.cls := findClass_of_methodNamed B.named
  have hlocks := B.notSynchronized
  have hS : va_S (fun _ => False) s.heap s.heap [] := va_S.rf
  have hl := lv_entry ([.ref o0, .int p0]) (n := 6) (Nat.le_of_ble_eq_true rfl)
  rw [lg_entry_eq]
  generalize (lg_sl ([.ref o0, .int p0]) ++ List.replicate (6 - (lg_sl ([.ref o0, .int p0])).length) Slot.unset).toArray = ls at hl ⊢
  have hl : lv_has ls 6 [(0, .ref o0), (1, .int p0)] := hl
  refine va_gets hx hb hZ hS hown (hts (.fieldLink RX1 111 "DigitDivider" "DIGITS_NEAREST_FIRST" "[I") (by decide +kernel)) (fun _ h9 => h9) dX1_madeDigit_0 ?_
  refine lv_astore_n (lv' := [(2, .ref tq), (0, .ref o0), (1, .int p0)]) hx hb dX1_madeDigit_3 rfl hl (by decide) rfl (fun ls hl => ?_)
  refine lv_aload_n hx hb dX1_madeDigit_4 rfl (lv_at hl 0 rfl) ?_
  refine va_tlen (v := 5) hx hb hTq hS rfl dX1_madeDigit_5 ?_
  refine lv_istore_n (lv' := [(3, .int 5), (2, .ref tq), (0, .ref o0), (1, .int p0)]) hx hb dX1_madeDigit_6 rfl hl (by decide) rfl (fun ls hl => ?_)
  refine lv_iconst (v := 0) hx hb dX1_madeDigit_7 (by decide) ?_
  refine lv_istore (lv' := [(4, .int 0), (3, .int 5), (2, .ref tq), (0, .ref o0), (1, .int p0)]) hx hb dX1_madeDigit_8 hl (by decide) rfl (fun ls hl => ?_)
  refine lv_iload hx hb dX1_madeDigit_10 (lv_at hl 0 rfl) ?_
  refine lv_iload_n hx hb dX1_madeDigit_12 rfl (lv_at hl 1 rfl) ?_
  refine lv_icmp_ge (tgt := 41) hx hb dX1_madeDigit_13 (by decide) (fun c_13 => ?_) (fun c_13 => ?_)
  · exact absurd c_13 (by decide)
  · refine lv_aload_n hx hb dX1_madeDigit_16 rfl (lv_at hl 2 rfl) ?_
    refine lv_iload hx hb dX1_madeDigit_17 (lv_at hl 0 rfl) ?_
    refine ax_tld (f := dnf) hx hb hTq hS (by unfold vp_in; decide) dX1_madeDigit_19 ?_
    refine lv_istore (lv' := [(5, .int (dnf (0 : Int32).toNatClampNeg)), (4, .int 0), (3, .int 5), (2, .ref tq), (0, .ref o0), (1, .int p0)]) hx hb dX1_madeDigit_20 hl (by decide) rfl (fun ls hl => ?_)
    refine lv_aload_n hx hb dX1_madeDigit_22 rfl (lv_at hl 4 rfl) ?_
    refine lv_iload_n hx hb dX1_madeDigit_23 rfl (lv_at hl 5 rfl) ?_
    refine lv_iload hx hb dX1_madeDigit_24 (lv_at hl 0 rfl) ?_
    have hPc := hP.sub (ws' := [(o0, .inr (1, [.ref oT, .ref oG, .ref l0, .ref s0, .int ui])), (oG, .inl (cI, 2048, .inl gd))]) [0, 1] rfl
    have hKc := hK.sub (tys' := [(cI, .int)]) [0] rfl
    refine vp_callSi (W.runV (As := [.int p0, .int (dnf (0 : Int32).toNatClampNeg)]) (rest := []) ⟨hx, hb, hml, hown, hts⟩ (kX1_isGood l dC dI o0 oT oG l0 s0 cI gd ui p0 (dnf (0 : Int32).toNatClampNeg) hy0) (cwV 2 hts gX1_madeDigit_X1_isGood rfl rfl rfl (by decide +kernel) ⟨Nat.le_of_ble_eq_true rfl, Nat.le_of_ble_eq_true rfl⟩) ⟨fun a U g mk q => by obtain ⟨q0, qP, qK⟩ := q; exact ⟨q0, qP, va_K.moved (u := U) (U := U.calling g mk a) (Vm.Alike.refl U.vm) qK⟩, va_recv hKc hPc (ci := 1) (q0 := 0) rfl rfl, fun U hU hW => ⟨rfl, by rw [hU]; exact hPc, va_K.moved hW.alike hKc⟩⟩ rfl rfl hl.1 rfl (lv_room (Nat.le_of_ble_eq_true rfl)) dX1_madeDigit_26 ⟨Nat.zero_le _, Nat.zero_le _⟩) (fun r_1 hr_1 => ?_)
    subst hr_1
    refine lv_if_eq (tgt := 35) hx hb dX1_madeDigit_29 (by decide) (fun c_29_2 => ?_) (fun c_29_2 => ?_)
    · refine lv_iinc (v := 1) (lv' := [(4, .int 1), (5, .int (dnf (0 : Int32).toNatClampNeg)), (3, .int 5), (2, .ref tq), (0, .ref o0), (1, .int p0)]) hx hb dX1_madeDigit_35 hl (k := 1) rfl (by decide) (by decide) rfl (fun ls hl => ?_)
      refine lv_goto (tgt := 10) hx hb dX1_madeDigit_38 (by decide) ?_
      refine lv_iload hx hb dX1_madeDigit_10 (lv_at hl 0 rfl) ?_
      refine lv_iload_n hx hb dX1_madeDigit_12 rfl (lv_at hl 2 rfl) ?_
      refine lv_icmp_ge (tgt := 41) hx hb dX1_madeDigit_13 (by decide) (fun c_13 => ?_) (fun c_13 => ?_)
      · exact absurd c_13 (by decide)
      · refine lv_aload_n hx hb dX1_madeDigit_16 rfl (lv_at hl 3 rfl) ?_
        refine lv_iload hx hb dX1_madeDigit_17 (lv_at hl 0 rfl) ?_
        refine ax_tld (f := dnf) hx hb hTq hS (by unfold vp_in; decide) dX1_madeDigit_19 ?_
        refine lv_istore (lv' := [(5, .int (dnf (1 : Int32).toNatClampNeg)), (4, .int 1), (3, .int 5), (2, .ref tq), (0, .ref o0), (1, .int p0)]) hx hb dX1_madeDigit_20 hl (by decide) rfl (fun ls hl => ?_)
        refine lv_aload_n hx hb dX1_madeDigit_22 rfl (lv_at hl 4 rfl) ?_
        refine lv_iload_n hx hb dX1_madeDigit_23 rfl (lv_at hl 5 rfl) ?_
        refine lv_iload hx hb dX1_madeDigit_24 (lv_at hl 0 rfl) ?_
        have hPc := hP.sub (ws' := [(o0, .inr (1, [.ref oT, .ref oG, .ref l0, .ref s0, .int ui])), (oG, .inl (cI, 2048, .inl gd))]) [0, 1] rfl
        have hKc := hK.sub (tys' := [(cI, .int)]) [0] rfl
        refine vp_callSi (W.runV (As := [.int p0, .int (dnf (1 : Int32).toNatClampNeg)]) (rest := []) ⟨hx, hb, hml, hown, hts⟩ (kX1_isGood l dC dI o0 oT oG l0 s0 cI gd ui p0 (dnf (1 : Int32).toNatClampNeg) hy0) (cwV 2 hts gX1_madeDigit_X1_isGood rfl rfl rfl (by decide +kernel) ⟨Nat.le_of_ble_eq_true rfl, Nat.le_of_ble_eq_true rfl⟩) ⟨fun a U g mk q => by obtain ⟨q0, qP, qK⟩ := q; exact ⟨q0, qP, va_K.moved (u := U) (U := U.calling g mk a) (Vm.Alike.refl U.vm) qK⟩, va_recv hKc hPc (ci := 1) (q0 := 0) rfl rfl, fun U hU hW => ⟨rfl, by rw [hU]; exact hPc, va_K.moved hW.alike hKc⟩⟩ rfl rfl hl.1 rfl (lv_room (Nat.le_of_ble_eq_true rfl)) dX1_madeDigit_26 ⟨Nat.zero_le _, Nat.zero_le _⟩) (fun r_3 hr_3 => ?_)
        subst hr_3
        refine lv_if_eq (tgt := 35) hx hb dX1_madeDigit_29 (by decide) (fun c_29_4 => ?_) (fun c_29_4 => ?_)
        · refine lv_iinc (v := 2) (lv' := [(4, .int 2), (5, .int (dnf (1 : Int32).toNatClampNeg)), (3, .int 5), (2, .ref tq), (0, .ref o0), (1, .int p0)]) hx hb dX1_madeDigit_35 hl (k := 1) rfl (by decide) (by decide) rfl (fun ls hl => ?_)
          refine lv_goto (tgt := 10) hx hb dX1_madeDigit_38 (by decide) ?_
          refine lv_iload hx hb dX1_madeDigit_10 (lv_at hl 0 rfl) ?_
          refine lv_iload_n hx hb dX1_madeDigit_12 rfl (lv_at hl 2 rfl) ?_
          refine lv_icmp_ge (tgt := 41) hx hb dX1_madeDigit_13 (by decide) (fun c_13 => ?_) (fun c_13 => ?_)
          · exact absurd c_13 (by decide)
          · refine lv_aload_n hx hb dX1_madeDigit_16 rfl (lv_at hl 3 rfl) ?_
            refine lv_iload hx hb dX1_madeDigit_17 (lv_at hl 0 rfl) ?_
            refine ax_tld (f := dnf) hx hb hTq hS (by unfold vp_in; decide) dX1_madeDigit_19 ?_
            refine lv_istore (lv' := [(5, .int (dnf (2 : Int32).toNatClampNeg)), (4, .int 2), (3, .int 5), (2, .ref tq), (0, .ref o0), (1, .int p0)]) hx hb dX1_madeDigit_20 hl (by decide) rfl (fun ls hl => ?_)
            refine lv_aload_n hx hb dX1_madeDigit_22 rfl (lv_at hl 4 rfl) ?_
            refine lv_iload_n hx hb dX1_madeDigit_23 rfl (lv_at hl 5 rfl) ?_
            refine lv_iload hx hb dX1_madeDigit_24 (lv_at hl 0 rfl) ?_
            have hPc := hP.sub (ws' := [(o0, .inr (1, [.ref oT, .ref oG, .ref l0, .ref s0, .int ui])), (oG, .inl (cI, 2048, .inl gd))]) [0, 1] rfl
            have hKc := hK.sub (tys' := [(cI, .int)]) [0] rfl
            refine vp_callSi (W.runV (As := [.int p0, .int (dnf (2 : Int32).toNatClampNeg)]) (rest := []) ⟨hx, hb, hml, hown, hts⟩ (kX1_isGood l dC dI o0 oT oG l0 s0 cI gd ui p0 (dnf (2 : Int32).toNatClampNeg) hy0) (cwV 2 hts gX1_madeDigit_X1_isGood rfl rfl rfl (by decide +kernel) ⟨Nat.le_of_ble_eq_true rfl, Nat.le_of_ble_eq_true rfl⟩) ⟨fun a U g mk q => by obtain ⟨q0, qP, qK⟩ := q; exact ⟨q0, qP, va_K.moved (u := U) (U := U.calling g mk a) (Vm.Alike.refl U.vm) qK⟩, va_recv hKc hPc (ci := 1) (q0 := 0) rfl rfl, fun U hU hW => ⟨rfl, by rw [hU]; exact hPc, va_K.moved hW.alike hKc⟩⟩ rfl rfl hl.1 rfl (lv_room (Nat.le_of_ble_eq_true rfl)) dX1_madeDigit_26 ⟨Nat.zero_le _, Nat.zero_le _⟩) (fun r_5 hr_5 => ?_)
            subst hr_5
            refine lv_if_eq (tgt := 35) hx hb dX1_madeDigit_29 (by decide) (fun c_29_6 => ?_) (fun c_29_6 => ?_)
            · refine lv_iinc (v := 3) (lv' := [(4, .int 3), (5, .int (dnf (2 : Int32).toNatClampNeg)), (3, .int 5), (2, .ref tq), (0, .ref o0), (1, .int p0)]) hx hb dX1_madeDigit_35 hl (k := 1) rfl (by decide) (by decide) rfl (fun ls hl => ?_)
              refine lv_goto (tgt := 10) hx hb dX1_madeDigit_38 (by decide) ?_
              refine lv_iload hx hb dX1_madeDigit_10 (lv_at hl 0 rfl) ?_
              refine lv_iload_n hx hb dX1_madeDigit_12 rfl (lv_at hl 2 rfl) ?_
              refine lv_icmp_ge (tgt := 41) hx hb dX1_madeDigit_13 (by decide) (fun c_13 => ?_) (fun c_13 => ?_)
              · exact absurd c_13 (by decide)
              · refine lv_aload_n hx hb dX1_madeDigit_16 rfl (lv_at hl 3 rfl) ?_
                refine lv_iload hx hb dX1_madeDigit_17 (lv_at hl 0 rfl) ?_
                refine ax_tld (f := dnf) hx hb hTq hS (by unfold vp_in; decide) dX1_madeDigit_19 ?_
                refine lv_istore (lv' := [(5, .int (dnf (3 : Int32).toNatClampNeg)), (4, .int 3), (3, .int 5), (2, .ref tq), (0, .ref o0), (1, .int p0)]) hx hb dX1_madeDigit_20 hl (by decide) rfl (fun ls hl => ?_)
                refine lv_aload_n hx hb dX1_madeDigit_22 rfl (lv_at hl 4 rfl) ?_
                refine lv_iload_n hx hb dX1_madeDigit_23 rfl (lv_at hl 5 rfl) ?_
                refine lv_iload hx hb dX1_madeDigit_24 (lv_at hl 0 rfl) ?_
                have hPc := hP.sub (ws' := [(o0, .inr (1, [.ref oT, .ref oG, .ref l0, .ref s0, .int ui])), (oG, .inl (cI, 2048, .inl gd))]) [0, 1] rfl
                have hKc := hK.sub (tys' := [(cI, .int)]) [0] rfl
                refine vp_callSi (W.runV (As := [.int p0, .int (dnf (3 : Int32).toNatClampNeg)]) (rest := []) ⟨hx, hb, hml, hown, hts⟩ (kX1_isGood l dC dI o0 oT oG l0 s0 cI gd ui p0 (dnf (3 : Int32).toNatClampNeg) hy0) (cwV 2 hts gX1_madeDigit_X1_isGood rfl rfl rfl (by decide +kernel) ⟨Nat.le_of_ble_eq_true rfl, Nat.le_of_ble_eq_true rfl⟩) ⟨fun a U g mk q => by obtain ⟨q0, qP, qK⟩ := q; exact ⟨q0, qP, va_K.moved (u := U) (U := U.calling g mk a) (Vm.Alike.refl U.vm) qK⟩, va_recv hKc hPc (ci := 1) (q0 := 0) rfl rfl, fun U hU hW => ⟨rfl, by rw [hU]; exact hPc, va_K.moved hW.alike hKc⟩⟩ rfl rfl hl.1 rfl (lv_room (Nat.le_of_ble_eq_true rfl)) dX1_madeDigit_26 ⟨Nat.zero_le _, Nat.zero_le _⟩) (fun r_7 hr_7 => ?_)
                subst hr_7
                refine lv_if_eq (tgt := 35) hx hb dX1_madeDigit_29 (by decide) (fun c_29_8 => ?_) (fun c_29_8 => ?_)
                · refine lv_iinc (v := 4) (lv' := [(4, .int 4), (5, .int (dnf (3 : Int32).toNatClampNeg)), (3, .int 5), (2, .ref tq), (0, .ref o0), (1, .int p0)]) hx hb dX1_madeDigit_35 hl (k := 1) rfl (by decide) (by decide) rfl (fun ls hl => ?_)
                  refine lv_goto (tgt := 10) hx hb dX1_madeDigit_38 (by decide) ?_
                  refine lv_iload hx hb dX1_madeDigit_10 (lv_at hl 0 rfl) ?_
                  refine lv_iload_n hx hb dX1_madeDigit_12 rfl (lv_at hl 2 rfl) ?_
                  refine lv_icmp_ge (tgt := 41) hx hb dX1_madeDigit_13 (by decide) (fun c_13 => ?_) (fun c_13 => ?_)
                  · exact absurd c_13 (by decide)
                  · refine lv_aload_n hx hb dX1_madeDigit_16 rfl (lv_at hl 3 rfl) ?_
                    refine lv_iload hx hb dX1_madeDigit_17 (lv_at hl 0 rfl) ?_
                    refine ax_tld (f := dnf) hx hb hTq hS (by unfold vp_in; decide) dX1_madeDigit_19 ?_
                    refine lv_istore (lv' := [(5, .int (dnf (4 : Int32).toNatClampNeg)), (4, .int 4), (3, .int 5), (2, .ref tq), (0, .ref o0), (1, .int p0)]) hx hb dX1_madeDigit_20 hl (by decide) rfl (fun ls hl => ?_)
                    refine lv_aload_n hx hb dX1_madeDigit_22 rfl (lv_at hl 4 rfl) ?_
                    refine lv_iload_n hx hb dX1_madeDigit_23 rfl (lv_at hl 5 rfl) ?_
                    refine lv_iload hx hb dX1_madeDigit_24 (lv_at hl 0 rfl) ?_
                    have hPc := hP.sub (ws' := [(o0, .inr (1, [.ref oT, .ref oG, .ref l0, .ref s0, .int ui])), (oG, .inl (cI, 2048, .inl gd))]) [0, 1] rfl
                    have hKc := hK.sub (tys' := [(cI, .int)]) [0] rfl
                    refine vp_callSi (W.runV (As := [.int p0, .int (dnf (4 : Int32).toNatClampNeg)]) (rest := []) ⟨hx, hb, hml, hown, hts⟩ (kX1_isGood l dC dI o0 oT oG l0 s0 cI gd ui p0 (dnf (4 : Int32).toNatClampNeg) hy0) (cwV 2 hts gX1_madeDigit_X1_isGood rfl rfl rfl (by decide +kernel) ⟨Nat.le_of_ble_eq_true rfl, Nat.le_of_ble_eq_true rfl⟩) ⟨fun a U g mk q => by obtain ⟨q0, qP, qK⟩ := q; exact ⟨q0, qP, va_K.moved (u := U) (U := U.calling g mk a) (Vm.Alike.refl U.vm) qK⟩, va_recv hKc hPc (ci := 1) (q0 := 0) rfl rfl, fun U hU hW => ⟨rfl, by rw [hU]; exact hPc, va_K.moved hW.alike hKc⟩⟩ rfl rfl hl.1 rfl (lv_room (Nat.le_of_ble_eq_true rfl)) dX1_madeDigit_26 ⟨Nat.zero_le _, Nat.zero_le _⟩) (fun r_9 hr_9 => ?_)
                    subst hr_9
                    refine lv_if_eq (tgt := 35) hx hb dX1_madeDigit_29 (by decide) (fun c_29_10 => ?_) (fun c_29_10 => ?_)
                    · refine lv_iinc (v := 5) (lv' := [(4, .int 5), (5, .int (dnf (4 : Int32).toNatClampNeg)), (3, .int 5), (2, .ref tq), (0, .ref o0), (1, .int p0)]) hx hb dX1_madeDigit_35 hl (k := 1) rfl (by decide) (by decide) rfl (fun ls hl => ?_)
                      refine lv_goto (tgt := 10) hx hb dX1_madeDigit_38 (by decide) ?_
                      refine lv_iload hx hb dX1_madeDigit_10 (lv_at hl 0 rfl) ?_
                      refine lv_iload_n hx hb dX1_madeDigit_12 rfl (lv_at hl 2 rfl) ?_
                      refine lv_icmp_ge (tgt := 41) hx hb dX1_madeDigit_13 (by decide) (fun c_13 => ?_) (fun c_13 => ?_)
                      · refine lv_iconst (v := 0) hx hb dX1_madeDigit_41 (by decide) ?_
                        exact W.iret (v := 0) hx hb hr (fun t ht hW => ⟨0, rfl, (by unfold fX1_madeDigit; rw [if_pos c_29_2, if_pos c_29_4, if_pos c_29_6, if_pos c_29_8, if_pos c_29_10]), ht⟩) (fun q h => absurd h List.not_mem_nil) dX1_madeDigit_42
                      · exact absurd c_13 (by decide)
                    · refine lv_iload hx hb dX1_madeDigit_32 (lv_at hl 0 rfl) ?_
                      exact W.iret (v := dnf (4 : Int32).toNatClampNeg) hx hb hr (fun t ht hW => ⟨dnf (4 : Int32).toNatClampNeg, rfl, (by unfold fX1_madeDigit; rw [if_pos c_29_2, if_pos c_29_4, if_pos c_29_6, if_pos c_29_8, if_neg c_29_10]), ht⟩) (fun q h => absurd h List.not_mem_nil) dX1_madeDigit_34
                · refine lv_iload hx hb dX1_madeDigit_32 (lv_at hl 0 rfl) ?_
                  exact W.iret (v := dnf (3 : Int32).toNatClampNeg) hx hb hr (fun t ht hW => ⟨dnf (3 : Int32).toNatClampNeg, rfl, (by unfold fX1_madeDigit; rw [if_pos c_29_2, if_pos c_29_4, if_pos c_29_6, if_neg c_29_8]), ht⟩) (fun q h => absurd h List.not_mem_nil) dX1_madeDigit_34
            · refine lv_iload hx hb dX1_madeDigit_32 (lv_at hl 0 rfl) ?_
              exact W.iret (v := dnf (2 : Int32).toNatClampNeg) hx hb hr (fun t ht hW => ⟨dnf (2 : Int32).toNatClampNeg, rfl, (by unfold fX1_madeDigit; rw [if_pos c_29_2, if_pos c_29_4, if_neg c_29_6]), ht⟩) (fun q h => absurd h List.not_mem_nil) dX1_madeDigit_34
        · refine lv_iload hx hb dX1_madeDigit_32 (lv_at hl 0 rfl) ?_
          exact W.iret (v := dnf (1 : Int32).toNatClampNeg) hx hb hr (fun t ht hW => ⟨dnf (1 : Int32).toNatClampNeg, rfl, (by unfold fX1_madeDigit; rw [if_pos c_29_2, if_neg c_29_4]), ht⟩) (fun q h => absurd h List.not_mem_nil) dX1_madeDigit_34
    · refine lv_iload hx hb dX1_madeDigit_32 (lv_at hl 0 rfl) ?_
      exact W.iret (v := dnf (0 : Int32).toNatClampNeg) hx hb hr (fun t ht hW => ⟨dnf (0 : Int32).toNatClampNeg, rfl, (by unfold fX1_madeDigit; rw [if_neg c_29_2]), ht⟩) (fun q h => absurd h List.not_mem_nil) dX1_madeDigit_34

def gX1_replace (M : Nat → Nat → Int32) (p0 : Int32) (p1 : Int32) (p2 : Int32) : Int32 × (Nat → Nat → Int32) := (if ((M p0.toNatClampNeg) p1.toNatClampNeg) = p2 then (0, M) else (1, (va_up M p0.toNatClampNeg (upd (M p0.toNatClampNeg) p1.toNatClampNeg p2))))
theorem inX1_X1_replace : ∀ w ∈ wsX10, w ∈ wsX1_replace := by decide +kernel
set_option maxHeartbeats 4000000 in
set_option maxRecDepth 100000 in
theorem kX1_replace (l : Launch) (dC : Nat → ClassId) (dI : Nat → Nat → Nat) (o0 : Nat) (oT : Nat) (oG : Nat) (l0 : Nat) (s0 : Nat) (r : Nat → Nat) (cI : ClassId) (cT : ClassId) (sz : Nat) (M : Nat → Nat → Int32) (ui : Int32) (p0 : Int32) (p1 : Int32) (p2 : Int32) (hy0 : vp_in p0 4) (hy1 : vp_in p1 2048) : Met l yX1_replace wsX1_replace ({ frames := 0, cells := 0, slots := 0, locals := 0 } : Room) (va_Pc [.ref o0, .int p0, .int p1, .int p2] (fun U => U.heap.size = sz ∧ va_P (dC, dI) vwCl [(o0, .inr (1, [.ref oT, .ref oG, .ref l0, .ref s0, .int ui])), (oT, .inl (cT, 4, .inr (.inr (.inr (.inr (ax_rows r)))))), (r 0, .inl (cI, 2048, .inl (M 0))), (r 1, .inl (cI, 2048, .inl (M 1))), (r 2, .inl (cI, 2048, .inl (M 2))), (r 3, .inl (cI, 2048, .inl (M 3)))] U.heap ∧ va_K (dC, dI) vwCl [(cI, .int), (cT, .array .int)] U ∧ va_D (fun _ => True) [(o0, .inr (1, [.ref oT, .ref oG, .ref l0, .ref s0, .int ui])), (oT, .inl (cT, 4, .inr (.inr (.inr (.inr (ax_rows r)))))), (r 0, .inl (cI, 2048, .inl (M 0))), (r 1, .inl (cI, 2048, .inl (M 1))), (r 2, .inl (cI, 2048, .inl (M 2))), (r 3, .inl (cI, 2048, .inl (M 3)))])) (va_Qi (fun (r : Int32) (u : Nat → Nat → Int32) => r = (gX1_replace M p0 p1 p2).1 ∧ u = (gX1_replace M p0 p1 p2).2) (fun (u : Nat → Nat → Int32) (t : State) => va_P (dC, dI) vwCl [(o0, .inr (1, [.ref oT, .ref oG, .ref l0, .ref s0, .int ui])), (oT, .inl (cT, 4, .inr (.inr (.inr (.inr (ax_rows r)))))), (r 0, .inl (cI, 2048, .inl (u 0))), (r 1, .inl (cI, 2048, .inl (u 1))), (r 2, .inl (cI, 2048, .inl (u 2))), (r 3, .inl (cI, 2048, .inl (u 3)))] t.heap ∧ va_K (dC, dI) vwCl [(cI, .int), (cT, .array .int)] t ∧ va_D (va_A [(o0, .inr (1, [.ref oT, .ref oG, .ref l0, .ref s0, .int ui])), (oT, .inl (cT, 4, .inr (.inr (.inr (.inr (ax_rows r)))))), (r 0, .inl (cI, 2048, .inl (M 0))), (r 1, .inl (cI, 2048, .inl (M 1))), (r 2, .inl (cI, 2048, .inl (M 2))), (r 3, .inl (cI, 2048, .inl (M 3)))] sz) [(o0, .inr (1, [.ref oT, .ref oG, .ref l0, .ref s0, .int ui])), (oT, .inl (cT, 4, .inr (.inr (.inr (.inr (ax_rows r)))))), (r 0, .inl (cI, 2048, .inl (u 0))), (r 1, .inl (cI, 2048, .inl (u 1))), (r 2, .inl (cI, 2048, .inl (u 2))), (r 3, .inl (cI, 2048, .inl (u 3)))]) (va_A [(o0, .inr (1, [.ref oT, .ref oG, .ref l0, .ref s0, .int ui])), (oT, .inl (cT, 4, .inr (.inr (.inr (.inr (ax_rows r)))))), (r 0, .inl (cI, 2048, .inl (M 0))), (r 1, .inl (cI, 2048, .inl (M 1))), (r 2, .inl (cI, 2048, .inl (M 2))), (r 3, .inl (cI, 2048, .inl (M 3)))] sz)) 0 0 (va_A [(o0, .inr (1, [.ref oT, .ref oG, .ref l0, .ref s0, .int ui])), (oT, .inl (cT, 4, .inr (.inr (.inr (.inr (ax_rows r)))))), (r 0, .inl (cI, 2048, .inl (M 0))), (r 1, .inl (cI, 2048, .inl (M 1))), (r 2, .inl (cI, 2048, .inl (M 2))), (r 3, .inl (cI, 2048, .inl (M 3)))] sz) := by
  refine Met.ofW (cc := cX1_replace) (maxL := 4) (ret := (some .int)) (by decide) rfl ?_
  intro p e s m args below meth c s₁ B hml hv
  obtain ⟨rfl, hsz, hP, hK, hD0⟩ := hv
  have hx := B.exec
  have hb := B.bytes
  have hr := B.returns
  have hts := atoms_spec (ws := wsX1_replace) B.pre
  have hown : s.vm.findClass RX1 = some m.cls := findClass_of_methodNamed B.named
  have hlocks := B.notSynchronized
  subst hsz
  have hD := hD0.self (sz := s.heap.size)
  generalize hAe : va_A [(o0, .inr (1, [.ref oT, .ref oG, .ref l0, .ref s0, .int ui])), (oT, .inl (cT, 4, .inr (.inr (.inr (.inr (ax_rows r)))))), (r 0, .inl (cI, 2048, .inl (M 0))), (r 1, .inl (cI, 2048, .inl (M 1))), (r 2, .inl (cI, 2048, .inl (M 2))), (r 3, .inl (cI, 2048, .inl (M 3)))] s.heap.size = A at hD  ⊢
  have hA : ∀ q : Nat, s.heap.size ≤ q → A q := fun q h => by rw [← hAe]; exact Or.inr h
  have hS : va_S A s.heap s.heap [] := va_S.rf
  have hP : va_P (dC, dI) vwCl [(o0, .inr (1, [.ref oT, .ref oG, .ref l0, .ref s0, .int ui])), (oT, .inl (cT, 4, .inr (.inr (.inr (.inr (ax_rows r)))))), (r 0, .inl (cI, 2048, .inl (M 0))), (r 1, .inl (cI, 2048, .inl (M 1))), (r 2, .inl (cI, 2048, .inl (M 2))), (r 3, .inl (cI, 2048, .inl (M 3)))] s.heap := hP
  have hl := lv_entry ([.ref o0, .int p0, .int p1, .int p2]) (n := 4) (Nat.le_of_ble_eq_true rfl)
  rw [lg_entry_eq]
  generalize (lg_sl ([.ref o0, .int p0, .int p1, .int p2]) ++ List.replicate (4 - (lg_sl ([.ref o0, .int p0, .int p1, .int p2])).length) Slot.unset).toArray = ls at hl ⊢
  have hl : lv_has ls 4 [(0, .ref o0), (1, .int p0), (2, .int p1), (3, .int p2)] := hl
  refine lv_aload_n hx hb dX1_replace_0 rfl (lv_at hl 0 rfl) ?_
  refine va_get (D := (dC, dI)) (ci := 1) (v := .ref oT) (C := RX1) (T := TX1) (N := 5) hx hb hts inX1_X1_replace hown hK hP 0 rfl rfl 0 (by decide) (hts (.fieldLink RX1 11 "DigitDivider" "tables" "[[I") (by decide +kernel)) (fun _ h9 => h9) rfl dX1_replace_1 ?_
  refine lv_iload_n hx hb dX1_replace_4 rfl (lv_at hl 1 rfl) ?_
  have h4_1 : p0.toNatClampNeg < 4 := ax_lt4 hy0
  refine ax_aald (r := r) hx hb hK hP 1 1 rfl rfl hy0 dX1_replace_5 ?_
  refine lv_iload_n hx hb dX1_replace_6 rfl (lv_at hl 2 rfl) ?_
  refine va_iald hx hb hK hP (2 + p0.toNatClampNeg) 0 (ax_get (r := r) (M := M) h4_1) rfl hy1 dX1_replace_7 ?_
  refine lv_iload_n hx hb dX1_replace_8 rfl (lv_at hl 3 rfl) ?_
  refine lv_icmp_ne (tgt := 14) hx hb dX1_replace_9 (by decide) (fun c_9_2 => ?_) (fun c_9_2 => ?_)
  · refine lv_aload_n hx hb dX1_replace_14 rfl (lv_at hl 0 rfl) ?_
    refine va_get (D := (dC, dI)) (ci := 1) (v := .ref oT) (C := RX1) (T := TX1) (N := 5) hx hb hts inX1_X1_replace hown hK hP 0 rfl rfl 0 (by decide) (hts (.fieldLink RX1 11 "DigitDivider" "tables" "[[I") (by decide +kernel)) (fun _ h9 => h9) rfl dX1_replace_15 ?_
    refine lv_iload_n hx hb dX1_replace_18 rfl (lv_at hl 1 rfl) ?_
    have h4_3 : p0.toNatClampNeg < 4 := ax_lt4 hy0
    refine ax_aald (r := r) hx hb hK hP 1 1 rfl rfl hy0 dX1_replace_19 ?_
    refine lv_iload_n hx hb dX1_replace_20 rfl (lv_at hl 2 rfl) ?_
    refine lv_iload_n hx hb dX1_replace_21 rfl (lv_at hl 3 rfl) ?_
    refine va_iast hx hb hK hP hD hS (2 + p0.toNatClampNeg) 0 (ax_get (r := r) (M := M) h4_3) rfl hy1 dX1_replace_22 (fun H locs hP hD hS => ?_)
    rw [ax_set (r := r) (M := M) (f := (upd (M p0.toNatClampNeg) p1.toNatClampNeg p2)) h4_3] at hP hD
    have hP : va_P (dC, dI) vwCl [(o0, .inr (1, [.ref oT, .ref oG, .ref l0, .ref s0, .int ui])), (oT, .inl (cT, 4, .inr (.inr (.inr (.inr (ax_rows r)))))), (r 0, .inl (cI, 2048, .inl ((va_up M p0.toNatClampNeg (upd (M p0.toNatClampNeg) p1.toNatClampNeg p2)) 0))), (r 1, .inl (cI, 2048, .inl ((va_up M p0.toNatClampNeg (upd (M p0.toNatClampNeg) p1.toNatClampNeg p2)) 1))), (r 2, .inl (cI, 2048, .inl ((va_up M p0.toNatClampNeg (upd (M p0.toNatClampNeg) p1.toNatClampNeg p2)) 2))), (r 3, .inl (cI, 2048, .inl ((va_up M p0.toNatClampNeg (upd (M p0.toNatClampNeg) p1.toNatClampNeg p2)) 3)))] H := hP
    have hD : va_D A [(o0, .inr (1, [.ref oT, .ref oG, .ref l0, .ref s0, .int ui])), (oT, .inl (cT, 4, .inr (.inr (.inr (.inr (ax_rows r)))))), (r 0, .inl (cI, 2048, .inl ((va_up M p0.toNatClampNeg (upd (M p0.toNatClampNeg) p1.toNatClampNeg p2)) 0))), (r 1, .inl (cI, 2048, .inl ((va_up M p0.toNatClampNeg (upd (M p0.toNatClampNeg) p1.toNatClampNeg p2)) 1))), (r 2, .inl (cI, 2048, .inl ((va_up M p0.toNatClampNeg (upd (M p0.toNatClampNeg) p1.toNatClampNeg p2)) 2))), (r 3, .inl (cI, 2048, .inl ((va_up M p0.toNatClampNeg (upd (M p0.toNatClampNeg) p1.toNatClampNeg p2)) 3)))] := hD
    refine lv_iconst (v := 1) hx hb dX1_replace_23 (by decide) ?_
    have hg : (gX1_replace M p0 p1 p2) = (1, (va_up M p0.toNatClampNeg (upd (M p0.toNatClampNeg) p1.toNatClampNeg p2))) := by unfold gX1_replace; rw [if_neg c_9_2]
    exact W.iret (v := 1) hx hb hr (fun t ht hW => ⟨⟨1, (va_up M p0.toNatClampNeg (upd (M p0.toNatClampNeg) p1.toNatClampNeg p2)), rfl, ⟨(congrArg Prod.fst hg).symm, (congrArg Prod.snd hg).symm⟩, by rw [ht]; exact hP, va_K.moved hW.alike hK, hD⟩, hS.F ht⟩) hS.2.2 dX1_replace_24
  · refine lv_iconst (v := 0) hx hb dX1_replace_12 (by decide) ?_
    have hg : (gX1_replace M p0 p1 p2) = (0, M) := by unfold gX1_replace; rw [if_pos c_9_2]
    exact W.iret (v := 0) hx hb hr (fun t ht hW => ⟨⟨0, M, rfl, ⟨(congrArg Prod.fst hg).symm, (congrArg Prod.snd hg).symm⟩, by rw [ht]; exact hP, va_K.moved hW.alike hK, hD⟩, hS.F ht⟩) hS.2.2 dX1_replace_13

def fX1_digit (M : Nat → Nat → Int32) (p0 : Int32) (p1 : Int32) (p2 : Int32) : Int32 := (if (fX1_isTable p0) = 0 then (-101) else (if (fX1_isCell p1 p2) = 0 then (-101) else (M p0.toNatClampNeg) (fX1_cellAt p1 p2).toNatClampNeg))
theorem inX1_X1_digit : ∀ w ∈ wsX10, w ∈ wsX1_digit := by decide +kernel
set_option maxHeartbeats 4000000 in
set_option maxRecDepth 100000 in
theorem kX1_digit (l : Launch) (dC : Nat → ClassId) (dI : Nat → Nat → Nat) (o0 : Nat) (oT : Nat) (oG : Nat) (l0 : Nat) (s0 : Nat) (r : Nat → Nat) (cI : ClassId) (cT : ClassId) (M : Nat → Nat → Int32) (ui : Int32) (p0 : Int32) (p1 : Int32) (p2 : Int32)  : Met l yX1_digit wsX1_digit ({ frames := 1, cells := 0, slots := 0, locals := 21 } : Room) (va_Pc [.ref o0, .int p0, .int p1, .int p2] (fun U => va_P (dC, dI) vwCl [(o0, .inr (1, [.ref oT, .ref oG, .ref l0, .ref s0, .int ui])), (oT, .inl (cT, 4, .inr (.inr (.inr (.inr (ax_rows r)))))), (r 0, .inl (cI, 2048, .inl (M 0))), (r 1, .inl (cI, 2048, .inl (M 1))), (r 2, .inl (cI, 2048, .inl (M 2))), (r 3, .inl (cI, 2048, .inl (M 3)))] U.heap ∧ va_K (dC, dI) vwCl [(cI, .int), (cT, .array .int)] U)) (vp_Si (fun r : Int32 => r = (fX1_digit M p0 p1 p2))) 0 0 (fun _ => False) := by
  refine Met.ofW (cc := cX1_digit) (maxL := 4) (ret := (some .int)) (by decide) rfl ?_
  intro p e s m args below meth c s₁ B hml hv
  obtain ⟨rfl, hP, hK⟩ := hv
  have hx := B.exec
  have hb := B.bytes
  have hr := B.returns
  have hts := atoms_spec (ws := wsX1_digit) B.pre
  have hown : s.vm.findClass RX1 = some m.cls := findClass_of_methodNamed B.named
  have hlocks := B.notSynchronized
  have hS : va_S (fun _ => False) s.heap s.heap [] := va_S.rf
  have hl := lv_entry ([.ref o0, .int p0, .int p1, .int p2]) (n := 4) (Nat.le_of_ble_eq_true rfl)
  rw [lg_entry_eq]
  generalize (lg_sl ([.ref o0, .int p0, .int p1, .int p2]) ++ List.replicate (4 - (lg_sl ([.ref o0, .int p0, .int p1, .int p2])).length) Slot.unset).toArray = ls at hl ⊢
  have hl : lv_has ls 4 [(0, .ref o0), (1, .int p0), (2, .int p1), (3, .int p2)] := hl
  refine lv_iload_n hx hb dX1_digit_0 rfl (lv_at hl 1 rfl) ?_
  refine vp_callSi (W.runS (As := [.int p0]) (rest := []) ⟨hx, hb, hml, hown, hts⟩ (kX1_isTable l dC dI p0) (va_cwS 1 hts gX1_digit_X1_isTable rfl rfl rfl (by decide +kernel) ⟨Nat.le_of_ble_eq_true rfl, Nat.le_of_ble_eq_true rfl⟩) ⟨fun a U g mk q => by obtain ⟨q0, qt⟩ := q; exact ⟨q0, qt⟩, fun U hU hW => ⟨rfl, trivial⟩⟩ rfl rfl hl.1 rfl (lv_room (Nat.le_of_ble_eq_true rfl)) dX1_digit_1 ⟨Nat.zero_le _, Nat.zero_le _⟩) (fun r_1 hr_1 => ?_)
  subst hr_1
  refine lv_if_eq (tgt := 15) hx hb dX1_digit_4 (by decide) (fun c_4_2 => ?_) (fun c_4_2 => ?_)
  · refine lv_bipush (v := (-101)) hx hb dX1_digit_15 (by decide) ?_
    exact W.iret (v := (-101)) hx hb hr (fun t ht hW => ⟨(-101), rfl, (by unfold fX1_digit; rw [if_pos c_4_2]), ht⟩) (fun q h => absurd h List.not_mem_nil) dX1_digit_17
  · refine lv_iload_n hx hb dX1_digit_7 rfl (lv_at hl 2 rfl) ?_
    refine lv_iload_n hx hb dX1_digit_8 rfl (lv_at hl 3 rfl) ?_
    refine vp_callSi (W.runS (As := [.int p1, .int p2]) (rest := []) ⟨hx, hb, hml, hown, hts⟩ (kX1_isCell l dC dI p1 p2) (va_cwS 2 hts gX1_digit_X1_isCell rfl rfl rfl (by decide +kernel) ⟨Nat.le_of_ble_eq_true rfl, Nat.le_of_ble_eq_true rfl⟩) ⟨fun a U g mk q => by obtain ⟨q0, qt⟩ := q; exact ⟨q0, qt⟩, fun U hU hW => ⟨rfl, trivial⟩⟩ rfl rfl hl.1 rfl (lv_room (Nat.le_of_ble_eq_true rfl)) dX1_digit_9 ⟨Nat.zero_le _, Nat.zero_le _⟩) (fun r_3 hr_3 => ?_)
    subst hr_3
    refine lv_if_ne (tgt := 18) hx hb dX1_digit_12 (by decide) (fun c_12_4 => ?_) (fun c_12_4 => ?_)
    · refine lv_aload_n hx hb dX1_digit_18 rfl (lv_at hl 0 rfl) ?_
      refine va_get (D := (dC, dI)) (ci := 1) (v := .ref oT) (C := RX1) (T := TX1) (N := 5) hx hb hts inX1_X1_digit hown hK hP 0 rfl rfl 0 (by decide) (hts (.fieldLink RX1 11 "DigitDivider" "tables" "[[I") (by decide +kernel)) (fun _ h9 => h9) rfl dX1_digit_19 ?_
      refine lv_iload_n hx hb dX1_digit_22 rfl (lv_at hl 1 rfl) ?_
      have h4_5 : p0.toNatClampNeg < 4 := ax_lt4 (ct_vp c_4_2)
      refine ax_aald (r := r) hx hb hK hP 1 1 rfl rfl (ct_vp c_4_2) dX1_digit_23 ?_
      refine lv_iload_n hx hb dX1_digit_24 rfl (lv_at hl 2 rfl) ?_
      refine lv_iload_n hx hb dX1_digit_25 rfl (lv_at hl 3 rfl) ?_
      refine vp_callSi (W.runS (As := [.int p1, .int p2]) (rest := [.ref (r p0.toNatClampNeg)]) ⟨hx, hb, hml, hown, hts⟩ (kX1_cellAt l dC dI p1 p2) (va_cwS 2 hts gX1_digit_X1_cellAt rfl rfl rfl (by decide +kernel) ⟨Nat.le_of_ble_eq_true rfl, Nat.le_of_ble_eq_true rfl⟩) ⟨fun a U g mk q => by obtain ⟨q0, qt⟩ := q; exact ⟨q0, qt⟩, fun U hU hW => ⟨rfl, trivial⟩⟩ rfl rfl hl.1 rfl (lv_room (Nat.le_of_ble_eq_true rfl)) dX1_digit_26 ⟨Nat.zero_le _, Nat.zero_le _⟩) (fun r_6 hr_6 => ?_)
      subst hr_6
      refine va_iald hx hb hK hP (2 + p0.toNatClampNeg) 0 (ax_get (r := r) (M := M) h4_5) rfl (cc_in c_12_4) dX1_digit_29 ?_
      exact W.iret (v := (M p0.toNatClampNeg) (fX1_cellAt p1 p2).toNatClampNeg) hx hb hr (fun t ht hW => ⟨(M p0.toNatClampNeg) (fX1_cellAt p1 p2).toNatClampNeg, rfl, (by unfold fX1_digit; rw [if_neg c_4_2, if_neg c_12_4]), ht⟩) (fun q h => absurd h List.not_mem_nil) dX1_digit_30
    · refine lv_bipush (v := (-101)) hx hb dX1_digit_15 (by decide) ?_
      exact W.iret (v := (-101)) hx hb hr (fun t ht hW => ⟨(-101), rfl, (by unfold fX1_digit; rw [if_neg c_4_2, if_pos c_12_4]), ht⟩) (fun q h => absurd h List.not_mem_nil) dX1_digit_17

def gX1_set (M : Nat → Nat → Int32) (p0 : Int32) (p1 : Int32) (p2 : Int32) (p3 : Int32) : Int32 × (Nat → Nat → Int32) := (if (fX1_isTable p0) = 0 then ((-101), M) else (if (fX1_isCell p1 p2) = 0 then ((-101), M) else (if (fX1_isDigit p3) = 0 then ((-101), M) else ((M p0.toNatClampNeg) (fX1_cellAt p1 p2).toNatClampNeg, (va_up M p0.toNatClampNeg (upd (M p0.toNatClampNeg) (fX1_cellAt p1 p2).toNatClampNeg p3))))))
theorem inX1_X1_set : ∀ w ∈ wsX10, w ∈ wsX1_set := by decide +kernel
set_option maxHeartbeats 4000000 in
set_option maxRecDepth 100000 in
theorem kX1_set (l : Launch) (dC : Nat → ClassId) (dI : Nat → Nat → Nat) (o0 : Nat) (oT : Nat) (oG : Nat) (l0 : Nat) (s0 : Nat) (r : Nat → Nat) (cI : ClassId) (cT : ClassId) (sz : Nat) (M : Nat → Nat → Int32) (ui : Int32) (p0 : Int32) (p1 : Int32) (p2 : Int32) (p3 : Int32)  : Met l yX1_set wsX1_set ({ frames := 1, cells := 0, slots := 0, locals := 21 } : Room) (va_Pc [.ref o0, .int p0, .int p1, .int p2, .int p3] (fun U => U.heap.size = sz ∧ va_P (dC, dI) vwCl [(o0, .inr (1, [.ref oT, .ref oG, .ref l0, .ref s0, .int ui])), (oT, .inl (cT, 4, .inr (.inr (.inr (.inr (ax_rows r)))))), (r 0, .inl (cI, 2048, .inl (M 0))), (r 1, .inl (cI, 2048, .inl (M 1))), (r 2, .inl (cI, 2048, .inl (M 2))), (r 3, .inl (cI, 2048, .inl (M 3)))] U.heap ∧ va_K (dC, dI) vwCl [(cI, .int), (cT, .array .int)] U ∧ va_D (fun _ => True) [(o0, .inr (1, [.ref oT, .ref oG, .ref l0, .ref s0, .int ui])), (oT, .inl (cT, 4, .inr (.inr (.inr (.inr (ax_rows r)))))), (r 0, .inl (cI, 2048, .inl (M 0))), (r 1, .inl (cI, 2048, .inl (M 1))), (r 2, .inl (cI, 2048, .inl (M 2))), (r 3, .inl (cI, 2048, .inl (M 3)))])) (va_Qi (fun (r : Int32) (u : Nat → Nat → Int32) => r = (gX1_set M p0 p1 p2 p3).1 ∧ u = (gX1_set M p0 p1 p2 p3).2) (fun (u : Nat → Nat → Int32) (t : State) => va_P (dC, dI) vwCl [(o0, .inr (1, [.ref oT, .ref oG, .ref l0, .ref s0, .int ui])), (oT, .inl (cT, 4, .inr (.inr (.inr (.inr (ax_rows r)))))), (r 0, .inl (cI, 2048, .inl (u 0))), (r 1, .inl (cI, 2048, .inl (u 1))), (r 2, .inl (cI, 2048, .inl (u 2))), (r 3, .inl (cI, 2048, .inl (u 3)))] t.heap ∧ va_K (dC, dI) vwCl [(cI, .int), (cT, .array .int)] t ∧ va_D (va_A [(o0, .inr (1, [.ref oT, .ref oG, .ref l0, .ref s0, .int ui])), (oT, .inl (cT, 4, .inr (.inr (.inr (.inr (ax_rows r)))))), (r 0, .inl (cI, 2048, .inl (M 0))), (r 1, .inl (cI, 2048, .inl (M 1))), (r 2, .inl (cI, 2048, .inl (M 2))), (r 3, .inl (cI, 2048, .inl (M 3)))] sz) [(o0, .inr (1, [.ref oT, .ref oG, .ref l0, .ref s0, .int ui])), (oT, .inl (cT, 4, .inr (.inr (.inr (.inr (ax_rows r)))))), (r 0, .inl (cI, 2048, .inl (u 0))), (r 1, .inl (cI, 2048, .inl (u 1))), (r 2, .inl (cI, 2048, .inl (u 2))), (r 3, .inl (cI, 2048, .inl (u 3)))]) (va_A [(o0, .inr (1, [.ref oT, .ref oG, .ref l0, .ref s0, .int ui])), (oT, .inl (cT, 4, .inr (.inr (.inr (.inr (ax_rows r)))))), (r 0, .inl (cI, 2048, .inl (M 0))), (r 1, .inl (cI, 2048, .inl (M 1))), (r 2, .inl (cI, 2048, .inl (M 2))), (r 3, .inl (cI, 2048, .inl (M 3)))] sz)) 0 0 (va_A [(o0, .inr (1, [.ref oT, .ref oG, .ref l0, .ref s0, .int ui])), (oT, .inl (cT, 4, .inr (.inr (.inr (.inr (ax_rows r)))))), (r 0, .inl (cI, 2048, .inl (M 0))), (r 1, .inl (cI, 2048, .inl (M 1))), (r 2, .inl (cI, 2048, .inl (M 2))), (r 3, .inl (cI, 2048, .inl (M 3)))] sz) := by
  refine Met.ofW (cc := cX1_set) (maxL := 7) (ret := (some .int)) (by decide) rfl ?_
  intro p e s m args below meth c s₁ B hml hv
  obtain ⟨rfl, hsz, hP, hK, hD0⟩ := hv
  have hx := B.exec
  have hb := B.bytes
  have hr := B.returns
  have hts := atoms_spec (ws := wsX1_set) B.pre
  have hown : s.vm.findClass RX1 = some m.cls := findClass_of_methodNamed B.named
  have hlocks := B.notSynchronized
  subst hsz
  have hD := hD0.self (sz := s.heap.size)
  generalize hAe : va_A [(o0, .inr (1, [.ref oT, .ref oG, .ref l0, .ref s0, .int ui])), (oT, .inl (cT, 4, .inr (.inr (.inr (.inr (ax_rows r)))))), (r 0, .inl (cI, 2048, .inl (M 0))), (r 1, .inl (cI, 2048, .inl (M 1))), (r 2, .inl (cI, 2048, .inl (M 2))), (r 3, .inl (cI, 2048, .inl (M 3)))] s.heap.size = A at hD  ⊢
  have hA : ∀ q : Nat, s.heap.size ≤ q → A q := fun q h => by rw [← hAe]; exact Or.inr h
  have hS : va_S A s.heap s.heap [] := va_S.rf
  have hP : va_P (dC, dI) vwCl [(o0, .inr (1, [.ref oT, .ref oG, .ref l0, .ref s0, .int ui])), (oT, .inl (cT, 4, .inr (.inr (.inr (.inr (ax_rows r)))))), (r 0, .inl (cI, 2048, .inl (M 0))), (r 1, .inl (cI, 2048, .inl (M 1))), (r 2, .inl (cI, 2048, .inl (M 2))), (r 3, .inl (cI, 2048, .inl (M 3)))] s.heap := hP
  have hl := lv_entry ([.ref o0, .int p0, .int p1, .int p2, .int p3]) (n := 7) (Nat.le_of_ble_eq_true rfl)
  rw [lg_entry_eq]
  generalize (lg_sl ([.ref o0, .int p0, .int p1, .int p2, .int p3]) ++ List.replicate (7 - (lg_sl ([.ref o0, .int p0, .int p1, .int p2, .int p3])).length) Slot.unset).toArray = ls at hl ⊢
  have hl : lv_has ls 7 [(0, .ref o0), (1, .int p0), (2, .int p1), (3, .int p2), (4, .int p3)] := hl
  refine lv_iload_n hx hb dX1_set_0 rfl (lv_at hl 1 rfl) ?_
  refine vp_callSi (W.runS (As := [.int p0]) (rest := []) ⟨hx, hb, hml, hown, hts⟩ (kX1_isTable l dC dI p0) (va_cwS 1 hts gX1_set_X1_isTable rfl rfl rfl (by decide +kernel) ⟨Nat.le_of_ble_eq_true rfl, Nat.le_of_ble_eq_true rfl⟩) ⟨fun a U g mk q => by obtain ⟨q0, qt⟩ := q; exact ⟨q0, qt⟩, fun U hU hW => ⟨rfl, trivial⟩⟩ rfl rfl hl.1 rfl (lv_room (Nat.le_of_ble_eq_true rfl)) dX1_set_1 ⟨Nat.zero_le _, Nat.zero_le _⟩) (fun r_1 hr_1 => ?_)
  subst hr_1
  refine lv_if_eq (tgt := 23) hx hb dX1_set_4 (by decide) (fun c_4_2 => ?_) (fun c_4_2 => ?_)
  · refine lv_bipush (v := (-101)) hx hb dX1_set_23 (by decide) ?_
    have hg : (gX1_set M p0 p1 p2 p3) = ((-101), M) := by unfold gX1_set; rw [if_pos c_4_2]
    exact W.iret (v := (-101)) hx hb hr (fun t ht hW => ⟨⟨(-101), M, rfl, ⟨(congrArg Prod.fst hg).symm, (congrArg Prod.snd hg).symm⟩, by rw [ht]; exact hP, va_K.moved hW.alike hK, hD⟩, hS.F ht⟩) hS.2.2 dX1_set_25
  · refine lv_iload_n hx hb dX1_set_7 rfl (lv_at hl 2 rfl) ?_
    refine lv_iload_n hx hb dX1_set_8 rfl (lv_at hl 3 rfl) ?_
    refine vp_callSi (W.runS (As := [.int p1, .int p2]) (rest := []) ⟨hx, hb, hml, hown, hts⟩ (kX1_isCell l dC dI p1 p2) (va_cwS 2 hts gX1_set_X1_isCell rfl rfl rfl (by decide +kernel) ⟨Nat.le_of_ble_eq_true rfl, Nat.le_of_ble_eq_true rfl⟩) ⟨fun a U g mk q => by obtain ⟨q0, qt⟩ := q; exact ⟨q0, qt⟩, fun U hU hW => ⟨rfl, trivial⟩⟩ rfl rfl hl.1 rfl (lv_room (Nat.le_of_ble_eq_true rfl)) dX1_set_9 ⟨Nat.zero_le _, Nat.zero_le _⟩) (fun r_3 hr_3 => ?_)
    subst hr_3
    refine lv_if_eq (tgt := 23) hx hb dX1_set_12 (by decide) (fun c_12_4 => ?_) (fun c_12_4 => ?_)
    · refine lv_bipush (v := (-101)) hx hb dX1_set_23 (by decide) ?_
      have hg : (gX1_set M p0 p1 p2 p3) = ((-101), M) := by unfold gX1_set; rw [if_neg c_4_2, if_pos c_12_4]
      exact W.iret (v := (-101)) hx hb hr (fun t ht hW => ⟨⟨(-101), M, rfl, ⟨(congrArg Prod.fst hg).symm, (congrArg Prod.snd hg).symm⟩, by rw [ht]; exact hP, va_K.moved hW.alike hK, hD⟩, hS.F ht⟩) hS.2.2 dX1_set_25
    · refine lv_iload hx hb dX1_set_15 (lv_at hl 4 rfl) ?_
      refine vp_callSi (W.runS (As := [.int p3]) (rest := []) ⟨hx, hb, hml, hown, hts⟩ (kX1_isDigit l dC dI p3) (va_cwS 1 hts gX1_set_X1_isDigit rfl rfl rfl (by decide +kernel) ⟨Nat.le_of_ble_eq_true rfl, Nat.le_of_ble_eq_true rfl⟩) ⟨fun a U g mk q => by obtain ⟨q0, qt⟩ := q; exact ⟨q0, qt⟩, fun U hU hW => ⟨rfl, trivial⟩⟩ rfl rfl hl.1 rfl (lv_room (Nat.le_of_ble_eq_true rfl)) dX1_set_17 ⟨Nat.zero_le _, Nat.zero_le _⟩) (fun r_5 hr_5 => ?_)
      subst hr_5
      refine lv_if_ne (tgt := 26) hx hb dX1_set_20 (by decide) (fun c_20_6 => ?_) (fun c_20_6 => ?_)
      · refine lv_iload_n hx hb dX1_set_26 rfl (lv_at hl 2 rfl) ?_
        refine lv_iload_n hx hb dX1_set_27 rfl (lv_at hl 3 rfl) ?_
        refine vp_callSi (W.runS (As := [.int p1, .int p2]) (rest := []) ⟨hx, hb, hml, hown, hts⟩ (kX1_cellAt l dC dI p1 p2) (va_cwS 2 hts gX1_set_X1_cellAt rfl rfl rfl (by decide +kernel) ⟨Nat.le_of_ble_eq_true rfl, Nat.le_of_ble_eq_true rfl⟩) ⟨fun a U g mk q => by obtain ⟨q0, qt⟩ := q; exact ⟨q0, qt⟩, fun U hU hW => ⟨rfl, trivial⟩⟩ rfl rfl hl.1 rfl (lv_room (Nat.le_of_ble_eq_true rfl)) dX1_set_28 ⟨Nat.zero_le _, Nat.zero_le _⟩) (fun r_7 hr_7 => ?_)
        subst hr_7
        refine lv_istore (lv' := [(5, .int (fX1_cellAt p1 p2)), (0, .ref o0), (1, .int p0), (2, .int p1), (3, .int p2), (4, .int p3)]) hx hb dX1_set_31 hl (by decide) rfl (fun ls hl => ?_)
        refine lv_aload_n hx hb dX1_set_33 rfl (lv_at hl 1 rfl) ?_
        refine va_get (D := (dC, dI)) (ci := 1) (v := .ref oT) (C := RX1) (T := TX1) (N := 5) hx hb hts inX1_X1_set hown hK hP 0 rfl rfl 0 (by decide) (hts (.fieldLink RX1 11 "DigitDivider" "tables" "[[I") (by decide +kernel)) (fun _ h9 => h9) rfl dX1_set_34 ?_
        refine lv_iload_n hx hb dX1_set_37 rfl (lv_at hl 2 rfl) ?_
        have h4_8 : p0.toNatClampNeg < 4 := ax_lt4 (ct_vp c_4_2)
        refine ax_aald (r := r) hx hb hK hP 1 1 rfl rfl (ct_vp c_4_2) dX1_set_38 ?_
        refine lv_iload hx hb dX1_set_39 (lv_at hl 0 rfl) ?_
        refine va_iald hx hb hK hP (2 + p0.toNatClampNeg) 0 (ax_get (r := r) (M := M) h4_8) rfl (cc_in c_12_4) dX1_set_41 ?_
        refine lv_istore (lv' := [(6, .int ((M p0.toNatClampNeg) (fX1_cellAt p1 p2).toNatClampNeg)), (5, .int (fX1_cellAt p1 p2)), (0, .ref o0), (1, .int p0), (2, .int p1), (3, .int p2), (4, .int p3)]) hx hb dX1_set_42 hl (by decide) rfl (fun ls hl => ?_)
        refine lv_aload_n hx hb dX1_set_44 rfl (lv_at hl 2 rfl) ?_
        refine va_get (D := (dC, dI)) (ci := 1) (v := .ref oT) (C := RX1) (T := TX1) (N := 5) hx hb hts inX1_X1_set hown hK hP 0 rfl rfl 0 (by decide) (hts (.fieldLink RX1 11 "DigitDivider" "tables" "[[I") (by decide +kernel)) (fun _ h9 => h9) rfl dX1_set_45 ?_
        refine lv_iload_n hx hb dX1_set_48 rfl (lv_at hl 3 rfl) ?_
        have h4_9 : p0.toNatClampNeg < 4 := ax_lt4 (ct_vp c_4_2)
        refine ax_aald (r := r) hx hb hK hP 1 1 rfl rfl (ct_vp c_4_2) dX1_set_49 ?_
        refine lv_iload hx hb dX1_set_50 (lv_at hl 1 rfl) ?_
        refine lv_iload hx hb dX1_set_52 (lv_at hl 6 rfl) ?_
        refine va_iast hx hb hK hP hD hS (2 + p0.toNatClampNeg) 0 (ax_get (r := r) (M := M) h4_9) rfl (cc_in c_12_4) dX1_set_54 (fun H locs hP hD hS => ?_)
        rw [ax_set (r := r) (M := M) (f := (upd (M p0.toNatClampNeg) (fX1_cellAt p1 p2).toNatClampNeg p3)) h4_9] at hP hD
        have hP : va_P (dC, dI) vwCl [(o0, .inr (1, [.ref oT, .ref oG, .ref l0, .ref s0, .int ui])), (oT, .inl (cT, 4, .inr (.inr (.inr (.inr (ax_rows r)))))), (r 0, .inl (cI, 2048, .inl ((va_up M p0.toNatClampNeg (upd (M p0.toNatClampNeg) (fX1_cellAt p1 p2).toNatClampNeg p3)) 0))), (r 1, .inl (cI, 2048, .inl ((va_up M p0.toNatClampNeg (upd (M p0.toNatClampNeg) (fX1_cellAt p1 p2).toNatClampNeg p3)) 1))), (r 2, .inl (cI, 2048, .inl ((va_up M p0.toNatClampNeg (upd (M p0.toNatClampNeg) (fX1_cellAt p1 p2).toNatClampNeg p3)) 2))), (r 3, .inl (cI, 2048, .inl ((va_up M p0.toNatClampNeg (upd (M p0.toNatClampNeg) (fX1_cellAt p1 p2).toNatClampNeg p3)) 3)))] H := hP
        have hD : va_D A [(o0, .inr (1, [.ref oT, .ref oG, .ref l0, .ref s0, .int ui])), (oT, .inl (cT, 4, .inr (.inr (.inr (.inr (ax_rows r)))))), (r 0, .inl (cI, 2048, .inl ((va_up M p0.toNatClampNeg (upd (M p0.toNatClampNeg) (fX1_cellAt p1 p2).toNatClampNeg p3)) 0))), (r 1, .inl (cI, 2048, .inl ((va_up M p0.toNatClampNeg (upd (M p0.toNatClampNeg) (fX1_cellAt p1 p2).toNatClampNeg p3)) 1))), (r 2, .inl (cI, 2048, .inl ((va_up M p0.toNatClampNeg (upd (M p0.toNatClampNeg) (fX1_cellAt p1 p2).toNatClampNeg p3)) 2))), (r 3, .inl (cI, 2048, .inl ((va_up M p0.toNatClampNeg (upd (M p0.toNatClampNeg) (fX1_cellAt p1 p2).toNatClampNeg p3)) 3)))] := hD
        refine lv_iload hx hb dX1_set_55 (lv_at hl 0 rfl) ?_
        have hg : (gX1_set M p0 p1 p2 p3) = ((M p0.toNatClampNeg) (fX1_cellAt p1 p2).toNatClampNeg, (va_up M p0.toNatClampNeg (upd (M p0.toNatClampNeg) (fX1_cellAt p1 p2).toNatClampNeg p3))) := by unfold gX1_set; rw [if_neg c_4_2, if_neg c_12_4, if_neg c_20_6]
        exact W.iret (v := (M p0.toNatClampNeg) (fX1_cellAt p1 p2).toNatClampNeg) hx hb hr (fun t ht hW => ⟨⟨(M p0.toNatClampNeg) (fX1_cellAt p1 p2).toNatClampNeg, (va_up M p0.toNatClampNeg (upd (M p0.toNatClampNeg) (fX1_cellAt p1 p2).toNatClampNeg p3)), rfl, ⟨(congrArg Prod.fst hg).symm, (congrArg Prod.snd hg).symm⟩, by rw [ht]; exact hP, va_K.moved hW.alike hK, hD⟩, hS.F ht⟩) hS.2.2 dX1_set_57
      · refine lv_bipush (v := (-101)) hx hb dX1_set_23 (by decide) ?_
        have hg : (gX1_set M p0 p1 p2 p3) = ((-101), M) := by unfold gX1_set; rw [if_neg c_4_2, if_neg c_12_4, if_pos c_20_6]
        exact W.iret (v := (-101)) hx hb hr (fun t ht hW => ⟨⟨(-101), M, rfl, ⟨(congrArg Prod.fst hg).symm, (congrArg Prod.snd hg).symm⟩, by rw [ht]; exact hP, va_K.moved hW.alike hK, hD⟩, hS.F ht⟩) hS.2.2 dX1_set_25

