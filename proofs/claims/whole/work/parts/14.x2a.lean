def fX2_isWrong (S : MV) (p0 : Int32) (p1 : Int32) : Int32 := (if (fX2_isGood (p1 / 128) ((p1 - p1 / 128 * 128) - 64) ((mv0 S) ((2048 * p0) + p1).toNatClampNeg)) = 0 then 1 else 0)
theorem fX2_isWrong_01 (S : MV) (p0 : Int32) (p1 : Int32) : (fX2_isWrong S p0 p1) = 0 ∨ (fX2_isWrong S p0 p1) = 1 := by unfold fX2_isWrong; (repeat' split) <;> simp
theorem inX2_X2_isWrong : ∀ w ∈ wsX20, w ∈ wsX2_isWrong := by decide +kernel
set_option maxHeartbeats 4000000 in
set_option maxRecDepth 100000 in
theorem kX2_isWrong (l : Launch) (dC : Nat → ClassId) (dI : Nat → Nat → Nat) (o0 : Nat) (o1 : Nat) (o2 : Nat) (o3 : Nat) (o4 : Nat) (o5 : Nat) (o6 : Nat) (o7 : Nat) (o8 : Nat) (o9 : Nat) (cI : ClassId) (cJ : ClassId) (S : MV) (p0 : Int32) (p1 : Int32) (hy0 : vp_in ((2048 * p0) + p1) 8192) : Met l yX2_isWrong wsX2_isWrong ({ frames := 2, cells := 0, slots := 0, locals := 47 } : Room) (va_Pc [.ref o0, .int p0, .int p1] (fun U => va_P (dC, dI) vwCl [(o0, .inr (2, [.ref o1, .int (mv1 S), .int (mv2 S), .int (mv3 S), .int (mv4 S), .int (mv5 S), .int (mv6 S), .int (mv7 S), .int (mv8 S), .int (mv9 S), .ref o2, .ref o3, .ref o4, .ref o5, .ref o6, .ref o7, .ref o8, .ref o9])), (o1, .inl (cI, 8192, .inl (mv0 S))), (o2, .inl (cI, 20, .inl (mv10 S))), (o3, .inl (cI, 20, .inl (mv11 S))), (o4, .inl (cJ, 20, .inr (.inl (mv12 S)))), (o5, .inl (cJ, 20, .inr (.inl (mv13 S)))), (o6, .inl (cJ, 20, .inr (.inl (mv14 S)))), (o7, .inl (cJ, 20, .inr (.inl (mv15 S)))), (o8, .inl (cI, 48, .inl (mv16 S))), (o9, .inl (cJ, 80, .inr (.inl (mv17 S))))] U.heap ∧ va_K (dC, dI) vwCl [(cI, .int), (cJ, .long)] U)) (vp_Si (fun r : Int32 => r = (fX2_isWrong S p0 p1))) 0 0 (fun _ => False) := by
  refine Met.ofW (cc := cX2_isWrong) (maxL := 3) (ret := (some .boolean)) (by decide) rfl ?_
  intro p e s m args below meth c s₁ B hml hv
  obtain ⟨rfl, hP, hK⟩ := hv
  have hx := B.exec
  have hb := B.bytes
  have hr := B.returns
  have hts := atoms_spec (ws := wsX2_isWrong) B.pre
  have hown : s.vm.findClass RX2 = some m.cls := findClass_of_methodNamed B.named
  have hlocks := B.notSynchronized
  have hS : va_S (fun _ => False) s.heap s.heap [] := va_S.rf
  have hl := lv_entry ([.ref o0, .int p0, .int p1]) (n := 3) (Nat.le_of_ble_eq_true rfl)
  rw [lg_entry_eq]
  generalize (lg_sl ([.ref o0, .int p0, .int p1]) ++ List.replicate (3 - (lg_sl ([.ref o0, .int p0, .int p1])).length) Slot.unset).toArray = ls at hl ⊢
  have hl : lv_has ls 3 [(0, .ref o0), (1, .int p0), (2, .int p1)] := hl
  refine lv_iload_n hx hb dX2_isWrong_0 rfl (lv_at hl 2 rfl) ?_
  refine lv_sipush (v := 128) hx hb dX2_isWrong_1 (by decide) ?_
  refine lv_idiv hx hb dX2_isWrong_4 (by decide) ?_
  refine lv_iload_n hx hb dX2_isWrong_5 rfl (lv_at hl 2 rfl) ?_
  refine lv_sipush (v := 128) hx hb dX2_isWrong_6 (by decide) ?_
  refine lv_irem hx hb dX2_isWrong_9 (by decide) ?_
  refine lv_bipush (v := 64) hx hb dX2_isWrong_10 (by decide) ?_
  refine lv_isub hx hb dX2_isWrong_12 ?_
  refine lv_aload_n hx hb dX2_isWrong_13 rfl (lv_at hl 0 rfl) ?_
  refine va_get (D := (dC, dI)) (ci := 2) (v := .ref o1) (C := RX2) (T := TX2) (N := 18) hx hb hts inX2_X2_isWrong hown hK hP 0 rfl rfl 0 (by decide) (hts (.fieldLink RX2 7 "DigitDividerModel" "tables" "[I") (by decide +kernel)) (fun _ h9 => h9) rfl dX2_isWrong_14 ?_
  refine lv_sipush (v := 2048) hx hb dX2_isWrong_17 (by decide) ?_
  refine lv_iload_n hx hb dX2_isWrong_20 rfl (lv_at hl 1 rfl) ?_
  refine lv_imul hx hb dX2_isWrong_21 ?_
  refine lv_iload_n hx hb dX2_isWrong_22 rfl (lv_at hl 2 rfl) ?_
  refine lv_iadd hx hb dX2_isWrong_23 ?_
  refine va_iald hx hb hK hP 1 0 rfl rfl hy0 dX2_isWrong_24 ?_
  refine vp_callSi (W.runS (As := [.int (p1 / 128), .int ((p1 - p1 / 128 * 128) - 64), .int ((mv0 S) ((2048 * p0) + p1).toNatClampNeg)]) (rest := []) ⟨hx, hb, hml, hown, hts⟩ (kX2_isGood l dC dI (p1 / 128) ((p1 - p1 / 128 * 128) - 64) ((mv0 S) ((2048 * p0) + p1).toNatClampNeg)) (va_cwS 3 hts gX2_isWrong_X2_isGood rfl rfl rfl (by decide +kernel) ⟨Nat.le_of_ble_eq_true rfl, Nat.le_of_ble_eq_true rfl⟩) ⟨fun a U g mk q => by obtain ⟨q0, qt⟩ := q; exact ⟨q0, qt⟩, fun U hU hW => ⟨rfl, trivial⟩⟩ rfl rfl hl.1 rfl (lv_room (Nat.le_of_ble_eq_true rfl)) dX2_isWrong_25 ⟨Nat.zero_le _, Nat.zero_le _⟩) (fun r_1 hr_1 => ?_)
  subst hr_1
  refine lv_if_ne (tgt := 35) hx hb dX2_isWrong_28 (by decide) (fun c_28_2 => ?_) (fun c_28_2 => ?_)
  · refine lv_iconst (v := 0) hx hb dX2_isWrong_35 (by decide) ?_
    exact W.zret (ty := .boolean) (v := 0) hx hb hr rfl (fun t ht hW => ⟨0, rfl, (by unfold fX2_isWrong; rw [if_neg c_28_2]), ht⟩) (fun q h => absurd h List.not_mem_nil) dX2_isWrong_36
  · refine lv_iconst (v := 1) hx hb dX2_isWrong_31 (by decide) ?_
    refine lv_goto (tgt := 36) hx hb dX2_isWrong_32 (by decide) ?_
    exact W.zret (ty := .boolean) (v := 1) hx hb hr rfl (fun t ht hW => ⟨1, rfl, (by unfold fX2_isWrong; rw [if_pos c_28_2]), ht⟩) (fun q h => absurd h List.not_mem_nil) dX2_isWrong_36

def fX2_digit_j31 (S : MV) (p0 : Int32) (p1 : Int32) (p2 : Int32) : Int32 := (if (fX2_isTable p0) = 0 then (-101) else (if (fX2_isCell p1 p2) = 0 then (-101) else (mv0 S) (fX2_cellAt p0 p1 p2).toNatClampNeg))
def fX2_digit (S : MV) (p0 : Int32) (p1 : Int32) (p2 : Int32) : Int32 := (fX2_digit_j31 S p0 p1 p2)
theorem inX2_X2_digit : ∀ w ∈ wsX20, w ∈ wsX2_digit := by decide +kernel
set_option maxHeartbeats 4000000 in
set_option maxRecDepth 100000 in
theorem kX2_digit (l : Launch) (dC : Nat → ClassId) (dI : Nat → Nat → Nat) (o0 : Nat) (o1 : Nat) (o2 : Nat) (o3 : Nat) (o4 : Nat) (o5 : Nat) (o6 : Nat) (o7 : Nat) (o8 : Nat) (o9 : Nat) (cI : ClassId) (cJ : ClassId) (S : MV) (p0 : Int32) (p1 : Int32) (p2 : Int32)  : Met l yX2_digit wsX2_digit ({ frames := 2, cells := 0, slots := 0, locals := 43 } : Room) (va_Pc [.ref o0, .int p0, .int p1, .int p2] (fun U => va_P (dC, dI) vwCl [(o0, .inr (2, [.ref o1, .int (mv1 S), .int (mv2 S), .int (mv3 S), .int (mv4 S), .int (mv5 S), .int (mv6 S), .int (mv7 S), .int (mv8 S), .int (mv9 S), .ref o2, .ref o3, .ref o4, .ref o5, .ref o6, .ref o7, .ref o8, .ref o9])), (o1, .inl (cI, 8192, .inl (mv0 S))), (o2, .inl (cI, 20, .inl (mv10 S))), (o3, .inl (cI, 20, .inl (mv11 S))), (o4, .inl (cJ, 20, .inr (.inl (mv12 S)))), (o5, .inl (cJ, 20, .inr (.inl (mv13 S)))), (o6, .inl (cJ, 20, .inr (.inl (mv14 S)))), (o7, .inl (cJ, 20, .inr (.inl (mv15 S)))), (o8, .inl (cI, 48, .inl (mv16 S))), (o9, .inl (cJ, 80, .inr (.inl (mv17 S))))] U.heap ∧ va_K (dC, dI) vwCl [(cI, .int), (cJ, .long)] U)) (vp_Si (fun r : Int32 => r = (fX2_digit S p0 p1 p2))) 0 0 (fun _ => False) := by
  refine Met.ofW (cc := cX2_digit) (maxL := 4) (ret := (some .int)) (by decide) rfl ?_
  intro p e s m args below meth c s₁ B hml hv
  obtain ⟨rfl, hP, hK⟩ := hv
  have hx := B.exec
  have hb := B.bytes
  have hr := B.returns
  have hts := atoms_spec (ws := wsX2_digit) B.pre
  have hown : s.vm.findClass RX2 = some m.cls := findClass_of_methodNamed B.named
  have hlocks := B.notSynchronized
  have hS : va_S (fun _ => False) s.heap s.heap [] := va_S.rf
  have hl := lv_entry ([.ref o0, .int p0, .int p1, .int p2]) (n := 4) (Nat.le_of_ble_eq_true rfl)
  rw [lg_entry_eq]
  generalize (lg_sl ([.ref o0, .int p0, .int p1, .int p2]) ++ List.replicate (4 - (lg_sl ([.ref o0, .int p0, .int p1, .int p2])).length) Slot.unset).toArray = ls at hl ⊢
  have hl : lv_has ls 4 [(0, .ref o0), (1, .int p0), (2, .int p1), (3, .int p2)] := hl
  refine lv_iload_n hx hb dX2_digit_0 rfl (lv_at hl 1 rfl) ?_
  refine vp_callSi (W.runS (As := [.int p0]) (rest := []) ⟨hx, hb, hml, hown, hts⟩ (kX2_isTable l dC dI p0) (va_cwS 1 hts gX2_digit_X2_isTable rfl rfl rfl (by decide +kernel) ⟨Nat.le_of_ble_eq_true rfl, Nat.le_of_ble_eq_true rfl⟩) ⟨fun a U g mk q => by obtain ⟨q0, qt⟩ := q; exact ⟨q0, qt⟩, fun U hU hW => ⟨rfl, trivial⟩⟩ rfl rfl hl.1 rfl (lv_room (Nat.le_of_ble_eq_true rfl)) dX2_digit_1 ⟨Nat.zero_le _, Nat.zero_le _⟩) (fun r_1 hr_1 => ?_)
  subst hr_1
  refine ax_joinI (J := 31) (v := (fX2_digit_j31 S p0 p1 p2)) (ls := ls) (rest := []) ?_ (fun kj_6 => ?_)
  · exact W.iret (v := (fX2_digit_j31 S p0 p1 p2)) hx hb hr (fun t ht hW => ⟨(fX2_digit_j31 S p0 p1 p2), rfl, rfl, ht⟩) (fun q h => absurd h List.not_mem_nil) dX2_digit_31
  · refine lv_if_eq (tgt := 29) hx hb dX2_digit_4 (by decide) (fun c_4_2 => ?_) (fun c_4_2 => ?_)
    · refine lv_bipush (v := (-101)) hx hb dX2_digit_29 (by decide) ?_
      exact kj_6 _ (by unfold fX2_digit_j31; rw [if_pos c_4_2])
    · refine lv_iload_n hx hb dX2_digit_7 rfl (lv_at hl 2 rfl) ?_
      refine lv_iload_n hx hb dX2_digit_8 rfl (lv_at hl 3 rfl) ?_
      refine vp_callSi (W.runS (As := [.int p1, .int p2]) (rest := []) ⟨hx, hb, hml, hown, hts⟩ (kX2_isCell l dC dI p1 p2) (va_cwS 2 hts gX2_digit_X2_isCell rfl rfl rfl (by decide +kernel) ⟨Nat.le_of_ble_eq_true rfl, Nat.le_of_ble_eq_true rfl⟩) ⟨fun a U g mk q => by obtain ⟨q0, qt⟩ := q; exact ⟨q0, qt⟩, fun U hU hW => ⟨rfl, trivial⟩⟩ rfl rfl hl.1 rfl (lv_room (Nat.le_of_ble_eq_true rfl)) dX2_digit_9 ⟨Nat.zero_le _, Nat.zero_le _⟩) (fun r_3 hr_3 => ?_)
      subst hr_3
      refine lv_if_eq (tgt := 29) hx hb dX2_digit_12 (by decide) (fun c_12_4 => ?_) (fun c_12_4 => ?_)
      · refine lv_bipush (v := (-101)) hx hb dX2_digit_29 (by decide) ?_
        exact kj_6 _ (by unfold fX2_digit_j31; rw [if_neg c_4_2, if_pos c_12_4])
      · refine lv_aload_n hx hb dX2_digit_15 rfl (lv_at hl 0 rfl) ?_
        refine va_get (D := (dC, dI)) (ci := 2) (v := .ref o1) (C := RX2) (T := TX2) (N := 18) hx hb hts inX2_X2_digit hown hK hP 0 rfl rfl 0 (by decide) (hts (.fieldLink RX2 7 "DigitDividerModel" "tables" "[I") (by decide +kernel)) (fun _ h9 => h9) rfl dX2_digit_16 ?_
        refine lv_iload_n hx hb dX2_digit_19 rfl (lv_at hl 1 rfl) ?_
        refine lv_iload_n hx hb dX2_digit_20 rfl (lv_at hl 2 rfl) ?_
        refine lv_iload_n hx hb dX2_digit_21 rfl (lv_at hl 3 rfl) ?_
        refine vp_callSi (W.runS (As := [.int p0, .int p1, .int p2]) (rest := [.ref o1]) ⟨hx, hb, hml, hown, hts⟩ (kX2_cellAt l dC dI p0 p1 p2) (va_cwS 3 hts gX2_digit_X2_cellAt rfl rfl rfl (by decide +kernel) ⟨Nat.le_of_ble_eq_true rfl, Nat.le_of_ble_eq_true rfl⟩) ⟨fun a U g mk q => by obtain ⟨q0, qt⟩ := q; exact ⟨q0, qt⟩, fun U hU hW => ⟨rfl, trivial⟩⟩ rfl rfl hl.1 rfl (lv_room (Nat.le_of_ble_eq_true rfl)) dX2_digit_22 ⟨Nat.zero_le _, Nat.zero_le _⟩) (fun r_5 hr_5 => ?_)
        subst hr_5
        refine va_iald hx hb hK hP 1 0 rfl rfl (mc_in (mt_vp c_4_2) c_12_4) dX2_digit_25 ?_
        refine lv_goto (tgt := 31) hx hb dX2_digit_26 (by decide) ?_
        exact kj_6 _ (by unfold fX2_digit_j31; rw [if_neg c_4_2, if_neg c_12_4])

def gX2_set (S : MV) (p0 : Int32) (p1 : Int32) (p2 : Int32) (p3 : Int32) : Int32 × MV := (if (fX2_isTable p0) = 0 then ((-101), S) else (if (fX2_isCell p1 p2) = 0 then ((-101), S) else (if (fX2_in p3 ((-2)) (2)) = 0 then ((-101), S) else ((mv0 S) (fX2_cellAt p0 p1 p2).toNatClampNeg, ((upd (mv0 S) (fX2_cellAt p0 p1 p2).toNatClampNeg p3), (mv1 S), (mv2 S), (mv3 S), (mv4 S), (mv5 S), (mv6 S), (mv7 S), (mv8 S), (mv9 S), (mv10 S), (mv11 S), (mv12 S), (mv13 S), (mv14 S), (mv15 S), (mv16 S), (mv17 S))))))
theorem inX2_X2_set : ∀ w ∈ wsX20, w ∈ wsX2_set := by decide +kernel
set_option maxHeartbeats 4000000 in
set_option maxRecDepth 100000 in
theorem kX2_set (l : Launch) (dC : Nat → ClassId) (dI : Nat → Nat → Nat) (o0 : Nat) (o1 : Nat) (o2 : Nat) (o3 : Nat) (o4 : Nat) (o5 : Nat) (o6 : Nat) (o7 : Nat) (o8 : Nat) (o9 : Nat) (cI : ClassId) (cJ : ClassId) (sz : Nat) (S : MV) (p0 : Int32) (p1 : Int32) (p2 : Int32) (p3 : Int32)  : Met l yX2_set wsX2_set ({ frames := 2, cells := 0, slots := 0, locals := 43 } : Room) (va_Pc [.ref o0, .int p0, .int p1, .int p2, .int p3] (fun U => U.heap.size = sz ∧ va_P (dC, dI) vwCl [(o0, .inr (2, [.ref o1, .int (mv1 S), .int (mv2 S), .int (mv3 S), .int (mv4 S), .int (mv5 S), .int (mv6 S), .int (mv7 S), .int (mv8 S), .int (mv9 S), .ref o2, .ref o3, .ref o4, .ref o5, .ref o6, .ref o7, .ref o8, .ref o9])), (o1, .inl (cI, 8192, .inl (mv0 S))), (o2, .inl (cI, 20, .inl (mv10 S))), (o3, .inl (cI, 20, .inl (mv11 S))), (o4, .inl (cJ, 20, .inr (.inl (mv12 S)))), (o5, .inl (cJ, 20, .inr (.inl (mv13 S)))), (o6, .inl (cJ, 20, .inr (.inl (mv14 S)))), (o7, .inl (cJ, 20, .inr (.inl (mv15 S)))), (o8, .inl (cI, 48, .inl (mv16 S))), (o9, .inl (cJ, 80, .inr (.inl (mv17 S))))] U.heap ∧ va_K (dC, dI) vwCl [(cI, .int), (cJ, .long)] U ∧ va_D (fun _ => True) [(o0, .inr (2, [.ref o1, .int (mv1 S), .int (mv2 S), .int (mv3 S), .int (mv4 S), .int (mv5 S), .int (mv6 S), .int (mv7 S), .int (mv8 S), .int (mv9 S), .ref o2, .ref o3, .ref o4, .ref o5, .ref o6, .ref o7, .ref o8, .ref o9])), (o1, .inl (cI, 8192, .inl (mv0 S))), (o2, .inl (cI, 20, .inl (mv10 S))), (o3, .inl (cI, 20, .inl (mv11 S))), (o4, .inl (cJ, 20, .inr (.inl (mv12 S)))), (o5, .inl (cJ, 20, .inr (.inl (mv13 S)))), (o6, .inl (cJ, 20, .inr (.inl (mv14 S)))), (o7, .inl (cJ, 20, .inr (.inl (mv15 S)))), (o8, .inl (cI, 48, .inl (mv16 S))), (o9, .inl (cJ, 80, .inr (.inl (mv17 S))))])) (va_Qi (fun (r : Int32) (u : MV) => r = (gX2_set S p0 p1 p2 p3).1 ∧ u = (gX2_set S p0 p1 p2 p3).2) (fun (u : MV) (t : State) => va_P (dC, dI) vwCl [(o0, .inr (2, [.ref o1, .int (mv1 u), .int (mv2 u), .int (mv3 u), .int (mv4 u), .int (mv5 u), .int (mv6 u), .int (mv7 u), .int (mv8 u), .int (mv9 u), .ref o2, .ref o3, .ref o4, .ref o5, .ref o6, .ref o7, .ref o8, .ref o9])), (o1, .inl (cI, 8192, .inl (mv0 u))), (o2, .inl (cI, 20, .inl (mv10 u))), (o3, .inl (cI, 20, .inl (mv11 u))), (o4, .inl (cJ, 20, .inr (.inl (mv12 u)))), (o5, .inl (cJ, 20, .inr (.inl (mv13 u)))), (o6, .inl (cJ, 20, .inr (.inl (mv14 u)))), (o7, .inl (cJ, 20, .inr (.inl (mv15 u)))), (o8, .inl (cI, 48, .inl (mv16 u))), (o9, .inl (cJ, 80, .inr (.inl (mv17 u))))] t.heap ∧ va_K (dC, dI) vwCl [(cI, .int), (cJ, .long)] t ∧ va_D (va_A [(o0, .inr (2, [.ref o1, .int (mv1 S), .int (mv2 S), .int (mv3 S), .int (mv4 S), .int (mv5 S), .int (mv6 S), .int (mv7 S), .int (mv8 S), .int (mv9 S), .ref o2, .ref o3, .ref o4, .ref o5, .ref o6, .ref o7, .ref o8, .ref o9])), (o1, .inl (cI, 8192, .inl (mv0 S))), (o2, .inl (cI, 20, .inl (mv10 S))), (o3, .inl (cI, 20, .inl (mv11 S))), (o4, .inl (cJ, 20, .inr (.inl (mv12 S)))), (o5, .inl (cJ, 20, .inr (.inl (mv13 S)))), (o6, .inl (cJ, 20, .inr (.inl (mv14 S)))), (o7, .inl (cJ, 20, .inr (.inl (mv15 S)))), (o8, .inl (cI, 48, .inl (mv16 S))), (o9, .inl (cJ, 80, .inr (.inl (mv17 S))))] sz) [(o0, .inr (2, [.ref o1, .int (mv1 u), .int (mv2 u), .int (mv3 u), .int (mv4 u), .int (mv5 u), .int (mv6 u), .int (mv7 u), .int (mv8 u), .int (mv9 u), .ref o2, .ref o3, .ref o4, .ref o5, .ref o6, .ref o7, .ref o8, .ref o9])), (o1, .inl (cI, 8192, .inl (mv0 u))), (o2, .inl (cI, 20, .inl (mv10 u))), (o3, .inl (cI, 20, .inl (mv11 u))), (o4, .inl (cJ, 20, .inr (.inl (mv12 u)))), (o5, .inl (cJ, 20, .inr (.inl (mv13 u)))), (o6, .inl (cJ, 20, .inr (.inl (mv14 u)))), (o7, .inl (cJ, 20, .inr (.inl (mv15 u)))), (o8, .inl (cI, 48, .inl (mv16 u))), (o9, .inl (cJ, 80, .inr (.inl (mv17 u))))]) (va_A [(o0, .inr (2, [.ref o1, .int (mv1 S), .int (mv2 S), .int (mv3 S), .int (mv4 S), .int (mv5 S), .int (mv6 S), .int (mv7 S), .int (mv8 S), .int (mv9 S), .ref o2, .ref o3, .ref o4, .ref o5, .ref o6, .ref o7, .ref o8, .ref o9])), (o1, .inl (cI, 8192, .inl (mv0 S))), (o2, .inl (cI, 20, .inl (mv10 S))), (o3, .inl (cI, 20, .inl (mv11 S))), (o4, .inl (cJ, 20, .inr (.inl (mv12 S)))), (o5, .inl (cJ, 20, .inr (.inl (mv13 S)))), (o6, .inl (cJ, 20, .inr (.inl (mv14 S)))), (o7, .inl (cJ, 20, .inr (.inl (mv15 S)))), (o8, .inl (cI, 48, .inl (mv16 S))), (o9, .inl (cJ, 80, .inr (.inl (mv17 S))))] sz)) 0 0 (va_A [(o0, .inr (2, [.ref o1, .int (mv1 S), .int (mv2 S), .int (mv3 S), .int (mv4 S), .int (mv5 S), .int (mv6 S), .int (mv7 S), .int (mv8 S), .int (mv9 S), .ref o2, .ref o3, .ref o4, .ref o5, .ref o6, .ref o7, .ref o8, .ref o9])), (o1, .inl (cI, 8192, .inl (mv0 S))), (o2, .inl (cI, 20, .inl (mv10 S))), (o3, .inl (cI, 20, .inl (mv11 S))), (o4, .inl (cJ, 20, .inr (.inl (mv12 S)))), (o5, .inl (cJ, 20, .inr (.inl (mv13 S)))), (o6, .inl (cJ, 20, .inr (.inl (mv14 S)))), (o7, .inl (cJ, 20, .inr (.inl (mv15 S)))), (o8, .inl (cI, 48, .inl (mv16 S))), (o9, .inl (cJ, 80, .inr (.inl (mv17 S))))] sz) := by
  refine Met.ofW (cc := cX2_set) (maxL := 7) (ret := (some .int)) (by decide) rfl ?_
  intro p e s m args below meth c s₁ B hml hv
  obtain ⟨rfl, hsz, hP, hK, hD0⟩ := hv
  have hx := B.exec
  have hb := B.bytes
  have hr := B.returns
  have hts := atoms_spec (ws := wsX2_set) B.pre
  have hown : s.vm.findClass RX2 = some m.cls := findClass_of_methodNamed B.named
  have hlocks := B.notSynchronized
  subst hsz
  have hD := hD0.self (sz := s.heap.size)
  generalize hAe : va_A [(o0, .inr (2, [.ref o1, .int (mv1 S), .int (mv2 S), .int (mv3 S), .int (mv4 S), .int (mv5 S), .int (mv6 S), .int (mv7 S), .int (mv8 S), .int (mv9 S), .ref o2, .ref o3, .ref o4, .ref o5, .ref o6, .ref o7, .ref o8, .ref o9])), (o1, .inl (cI, 8192, .inl (mv0 S))), (o2, .inl (cI, 20, .inl (mv10 S))), (o3, .inl (cI, 20, .inl (mv11 S))), (o4, .inl (cJ, 20, .inr (.inl (mv12 S)))), (o5, .inl (cJ, 20, .inr (.inl (mv13 S)))), (o6, .inl (cJ, 20, .inr (.inl (mv14 S)))), (o7, .inl (cJ, 20, .inr (.inl (mv15 S)))), (o8, .inl (cI, 48, .inl (mv16 S))), (o9, .inl (cJ, 80, .inr (.inl (mv17 S))))] s.heap.size = A at hD  ⊢
  have hA : ∀ q : Nat, s.heap.size ≤ q → A q := fun q h => by rw [← hAe]; exact Or.inr h
  have hS : va_S A s.heap s.heap [] := va_S.rf
  have hP : va_P (dC, dI) vwCl [(o0, .inr (2, [.ref o1, .int (mv1 S), .int (mv2 S), .int (mv3 S), .int (mv4 S), .int (mv5 S), .int (mv6 S), .int (mv7 S), .int (mv8 S), .int (mv9 S), .ref o2, .ref o3, .ref o4, .ref o5, .ref o6, .ref o7, .ref o8, .ref o9])), (o1, .inl (cI, 8192, .inl (mv0 S))), (o2, .inl (cI, 20, .inl (mv10 S))), (o3, .inl (cI, 20, .inl (mv11 S))), (o4, .inl (cJ, 20, .inr (.inl (mv12 S)))), (o5, .inl (cJ, 20, .inr (.inl (mv13 S)))), (o6, .inl (cJ, 20, .inr (.inl (mv14 S)))), (o7, .inl (cJ, 20, .inr (.inl (mv15 S)))), (o8, .inl (cI, 48, .inl (mv16 S))), (o9, .inl (cJ, 80, .inr (.inl (mv17 S))))] s.heap := hP
  have hl := lv_entry ([.ref o0, .int p0, .int p1, .int p2, .int p3]) (n := 7) (Nat.le_of_ble_eq_true rfl)
  rw [lg_entry_eq]
  generalize (lg_sl ([.ref o0, .int p0, .int p1, .int p2, .int p3]) ++ List.replicate (7 - (lg_sl ([.ref o0, .int p0, .int p1, .int p2, .int p3])).length) Slot.unset).toArray = ls at hl ⊢
  have hl : lv_has ls 7 [(0, .ref o0), (1, .int p0), (2, .int p1), (3, .int p2), (4, .int p3)] := hl
  refine lv_iload_n hx hb dX2_set_0 rfl (lv_at hl 1 rfl) ?_
  refine vp_callSi (W.runS (As := [.int p0]) (rest := []) ⟨hx, hb, hml, hown, hts⟩ (kX2_isTable l dC dI p0) (va_cwS 1 hts gX2_set_X2_isTable rfl rfl rfl (by decide +kernel) ⟨Nat.le_of_ble_eq_true rfl, Nat.le_of_ble_eq_true rfl⟩) ⟨fun a U g mk q => by obtain ⟨q0, qt⟩ := q; exact ⟨q0, qt⟩, fun U hU hW => ⟨rfl, trivial⟩⟩ rfl rfl hl.1 rfl (lv_room (Nat.le_of_ble_eq_true rfl)) dX2_set_1 ⟨Nat.zero_le _, Nat.zero_le _⟩) (fun r_1 hr_1 => ?_)
  subst hr_1
  refine lv_if_eq (tgt := 26) hx hb dX2_set_4 (by decide) (fun c_4_2 => ?_) (fun c_4_2 => ?_)
  · refine lv_bipush (v := (-101)) hx hb dX2_set_26 (by decide) ?_
    have hg : (gX2_set S p0 p1 p2 p3) = ((-101), S) := by unfold gX2_set; rw [if_pos c_4_2]
    exact W.iret (v := (-101)) hx hb hr (fun t ht hW => ⟨⟨(-101), S, rfl, ⟨(congrArg Prod.fst hg).symm, (congrArg Prod.snd hg).symm⟩, by rw [ht]; exact hP, va_K.moved hW.alike hK, hD⟩, hS.F ht⟩) hS.2.2 dX2_set_28
  · refine lv_iload_n hx hb dX2_set_7 rfl (lv_at hl 2 rfl) ?_
    refine lv_iload_n hx hb dX2_set_8 rfl (lv_at hl 3 rfl) ?_
    refine vp_callSi (W.runS (As := [.int p1, .int p2]) (rest := []) ⟨hx, hb, hml, hown, hts⟩ (kX2_isCell l dC dI p1 p2) (va_cwS 2 hts gX2_set_X2_isCell rfl rfl rfl (by decide +kernel) ⟨Nat.le_of_ble_eq_true rfl, Nat.le_of_ble_eq_true rfl⟩) ⟨fun a U g mk q => by obtain ⟨q0, qt⟩ := q; exact ⟨q0, qt⟩, fun U hU hW => ⟨rfl, trivial⟩⟩ rfl rfl hl.1 rfl (lv_room (Nat.le_of_ble_eq_true rfl)) dX2_set_9 ⟨Nat.zero_le _, Nat.zero_le _⟩) (fun r_3 hr_3 => ?_)
    subst hr_3
    refine lv_if_eq (tgt := 26) hx hb dX2_set_12 (by decide) (fun c_12_4 => ?_) (fun c_12_4 => ?_)
    · refine lv_bipush (v := (-101)) hx hb dX2_set_26 (by decide) ?_
      have hg : (gX2_set S p0 p1 p2 p3) = ((-101), S) := by unfold gX2_set; rw [if_neg c_4_2, if_pos c_12_4]
      exact W.iret (v := (-101)) hx hb hr (fun t ht hW => ⟨⟨(-101), S, rfl, ⟨(congrArg Prod.fst hg).symm, (congrArg Prod.snd hg).symm⟩, by rw [ht]; exact hP, va_K.moved hW.alike hK, hD⟩, hS.F ht⟩) hS.2.2 dX2_set_28
    · refine lv_iload hx hb dX2_set_15 (lv_at hl 4 rfl) ?_
      refine lv_bipush (v := (-2)) hx hb dX2_set_17 (by decide) ?_
      refine lv_iconst (v := 2) hx hb dX2_set_19 (by decide) ?_
      refine vp_callSi (W.runS (As := [.int p3, .int (-2), .int 2]) (rest := []) ⟨hx, hb, hml, hown, hts⟩ (kX2_in l dC dI p3 ((-2)) (2)) (va_cwS 3 hts gX2_set_X2_in rfl rfl rfl (by decide +kernel) ⟨Nat.le_of_ble_eq_true rfl, Nat.le_of_ble_eq_true rfl⟩) ⟨fun a U g mk q => by obtain ⟨q0, qt⟩ := q; exact ⟨q0, qt⟩, fun U hU hW => ⟨rfl, trivial⟩⟩ rfl rfl hl.1 rfl (lv_room (Nat.le_of_ble_eq_true rfl)) dX2_set_20 ⟨Nat.zero_le _, Nat.zero_le _⟩) (fun r_5 hr_5 => ?_)
      subst hr_5
      refine lv_if_ne (tgt := 29) hx hb dX2_set_23 (by decide) (fun c_23_6 => ?_) (fun c_23_6 => ?_)
      · refine lv_iload_n hx hb dX2_set_29 rfl (lv_at hl 1 rfl) ?_
        refine lv_iload_n hx hb dX2_set_30 rfl (lv_at hl 2 rfl) ?_
        refine lv_iload_n hx hb dX2_set_31 rfl (lv_at hl 3 rfl) ?_
        refine vp_callSi (W.runS (As := [.int p0, .int p1, .int p2]) (rest := []) ⟨hx, hb, hml, hown, hts⟩ (kX2_cellAt l dC dI p0 p1 p2) (va_cwS 3 hts gX2_set_X2_cellAt rfl rfl rfl (by decide +kernel) ⟨Nat.le_of_ble_eq_true rfl, Nat.le_of_ble_eq_true rfl⟩) ⟨fun a U g mk q => by obtain ⟨q0, qt⟩ := q; exact ⟨q0, qt⟩, fun U hU hW => ⟨rfl, trivial⟩⟩ rfl rfl hl.1 rfl (lv_room (Nat.le_of_ble_eq_true rfl)) dX2_set_32 ⟨Nat.zero_le _, Nat.zero_le _⟩) (fun r_7 hr_7 => ?_)
        subst hr_7
        refine lv_istore (lv' := [(5, .int (fX2_cellAt p0 p1 p2)), (0, .ref o0), (1, .int p0), (2, .int p1), (3, .int p2), (4, .int p3)]) hx hb dX2_set_35 hl (by decide) rfl (fun ls hl => ?_)
        refine lv_aload_n hx hb dX2_set_37 rfl (lv_at hl 1 rfl) ?_
        refine va_get (D := (dC, dI)) (ci := 2) (v := .ref o1) (C := RX2) (T := TX2) (N := 18) hx hb hts inX2_X2_set hown hK hP 0 rfl rfl 0 (by decide) (hts (.fieldLink RX2 7 "DigitDividerModel" "tables" "[I") (by decide +kernel)) (fun _ h9 => h9) rfl dX2_set_38 ?_
        refine lv_iload hx hb dX2_set_41 (lv_at hl 0 rfl) ?_
        refine va_iald hx hb hK hP 1 0 rfl rfl (mc_in (mt_vp c_4_2) c_12_4) dX2_set_43 ?_
        refine lv_istore (lv' := [(6, .int ((mv0 S) (fX2_cellAt p0 p1 p2).toNatClampNeg)), (5, .int (fX2_cellAt p0 p1 p2)), (0, .ref o0), (1, .int p0), (2, .int p1), (3, .int p2), (4, .int p3)]) hx hb dX2_set_44 hl (by decide) rfl (fun ls hl => ?_)
        refine lv_aload_n hx hb dX2_set_46 rfl (lv_at hl 2 rfl) ?_
        refine va_get (D := (dC, dI)) (ci := 2) (v := .ref o1) (C := RX2) (T := TX2) (N := 18) hx hb hts inX2_X2_set hown hK hP 0 rfl rfl 0 (by decide) (hts (.fieldLink RX2 7 "DigitDividerModel" "tables" "[I") (by decide +kernel)) (fun _ h9 => h9) rfl dX2_set_47 ?_
        refine lv_iload hx hb dX2_set_50 (lv_at hl 1 rfl) ?_
        refine lv_iload hx hb dX2_set_52 (lv_at hl 6 rfl) ?_
        refine va_iast hx hb hK hP hD hS 1 0 rfl rfl (mc_in (mt_vp c_4_2) c_12_4) dX2_set_54 (fun H locs hP hD hS => ?_)
        have hP : va_P (dC, dI) vwCl [(o0, .inr (2, [.ref o1, .int (mv1 S), .int (mv2 S), .int (mv3 S), .int (mv4 S), .int (mv5 S), .int (mv6 S), .int (mv7 S), .int (mv8 S), .int (mv9 S), .ref o2, .ref o3, .ref o4, .ref o5, .ref o6, .ref o7, .ref o8, .ref o9])), (o1, .inl (cI, 8192, .inl (upd (mv0 S) (fX2_cellAt p0 p1 p2).toNatClampNeg p3))), (o2, .inl (cI, 20, .inl (mv10 S))), (o3, .inl (cI, 20, .inl (mv11 S))), (o4, .inl (cJ, 20, .inr (.inl (mv12 S)))), (o5, .inl (cJ, 20, .inr (.inl (mv13 S)))), (o6, .inl (cJ, 20, .inr (.inl (mv14 S)))), (o7, .inl (cJ, 20, .inr (.inl (mv15 S)))), (o8, .inl (cI, 48, .inl (mv16 S))), (o9, .inl (cJ, 80, .inr (.inl (mv17 S))))] H := hP
        have hD : va_D A [(o0, .inr (2, [.ref o1, .int (mv1 S), .int (mv2 S), .int (mv3 S), .int (mv4 S), .int (mv5 S), .int (mv6 S), .int (mv7 S), .int (mv8 S), .int (mv9 S), .ref o2, .ref o3, .ref o4, .ref o5, .ref o6, .ref o7, .ref o8, .ref o9])), (o1, .inl (cI, 8192, .inl (upd (mv0 S) (fX2_cellAt p0 p1 p2).toNatClampNeg p3))), (o2, .inl (cI, 20, .inl (mv10 S))), (o3, .inl (cI, 20, .inl (mv11 S))), (o4, .inl (cJ, 20, .inr (.inl (mv12 S)))), (o5, .inl (cJ, 20, .inr (.inl (mv13 S)))), (o6, .inl (cJ, 20, .inr (.inl (mv14 S)))), (o7, .inl (cJ, 20, .inr (.inl (mv15 S)))), (o8, .inl (cI, 48, .inl (mv16 S))), (o9, .inl (cJ, 80, .inr (.inl (mv17 S))))] := hD
        refine lv_iload hx hb dX2_set_55 (lv_at hl 0 rfl) ?_
        have hg : (gX2_set S p0 p1 p2 p3) = ((mv0 S) (fX2_cellAt p0 p1 p2).toNatClampNeg, ((upd (mv0 S) (fX2_cellAt p0 p1 p2).toNatClampNeg p3), (mv1 S), (mv2 S), (mv3 S), (mv4 S), (mv5 S), (mv6 S), (mv7 S), (mv8 S), (mv9 S), (mv10 S), (mv11 S), (mv12 S), (mv13 S), (mv14 S), (mv15 S), (mv16 S), (mv17 S))) := by unfold gX2_set; rw [if_neg c_4_2, if_neg c_12_4, if_neg c_23_6]
        exact W.iret (v := (mv0 S) (fX2_cellAt p0 p1 p2).toNatClampNeg) hx hb hr (fun t ht hW => ⟨⟨(mv0 S) (fX2_cellAt p0 p1 p2).toNatClampNeg, ((upd (mv0 S) (fX2_cellAt p0 p1 p2).toNatClampNeg p3), (mv1 S), (mv2 S), (mv3 S), (mv4 S), (mv5 S), (mv6 S), (mv7 S), (mv8 S), (mv9 S), (mv10 S), (mv11 S), (mv12 S), (mv13 S), (mv14 S), (mv15 S), (mv16 S), (mv17 S)), rfl, ⟨(congrArg Prod.fst hg).symm, (congrArg Prod.snd hg).symm⟩, by rw [ht]; exact hP, va_K.moved hW.alike hK, hD⟩, hS.F ht⟩) hS.2.2 dX2_set_57
      · refine lv_bipush (v := (-101)) hx hb dX2_set_26 (by decide) ?_
        have hg : (gX2_set S p0 p1 p2 p3) = ((-101), S) := by unfold gX2_set; rw [if_neg c_4_2, if_neg c_12_4, if_pos c_23_6]
        exact W.iret (v := (-101)) hx hb hr (fun t ht hW => ⟨⟨(-101), S, rfl, ⟨(congrArg Prod.fst hg).symm, (congrArg Prod.snd hg).symm⟩, by rw [ht]; exact hP, va_K.moved hW.alike hK, hD⟩, hS.F ht⟩) hS.2.2 dX2_set_28

def fX2_fill_j66 (p0 : Int32) (i : Nat) (j : Nat) (w1b : MV) : Int32 := (if ((mv0 w1b) (((2048 * p0) + (128 * (nI i))) + (nI j)).toNatClampNeg) = (fX2_madeOf (nI i) ((nI j) - 64)) then 0 else 1)
def st_flB (p0 : Int32) (i : Nat) (j : Nat) (w0b : Int32) (w1b : MV) : Int32 × MV := (w0b + (fX2_fill_j66 p0 i j w1b), ((upd (mv0 w1b) (((2048 * p0) + (128 * (nI i))) + (nI j)).toNatClampNeg (fX2_madeOf (nI i) ((nI j) - 64))), (mv1 w1b), (mv2 w1b), (mv3 w1b), (mv4 w1b), (mv5 w1b), (mv6 w1b), (mv7 w1b), (mv8 w1b), (mv9 w1b), (mv10 w1b), (mv11 w1b), (mv12 w1b), (mv13 w1b), (mv14 w1b), (mv15 w1b), (mv16 w1b), (mv17 w1b)))
def it_flB (p0 : Int32) (i : Nat) (w0a : Int32) (w1a : MV) : Nat → Int32 × MV
  | 0 => (w0a, w1a)
  | j + 1 => st_flB p0 i j (it_flB p0 i w0a w1a j).1 (it_flB p0 i w0a w1a j).2
def st_flA (p0 : Int32) (i : Nat) (w0a : Int32) (w1a : MV) : Int32 × MV := ((it_flB p0 i w0a w1a 128).1, (it_flB p0 i w0a w1a 128).2)
def it_flA (S : MV) (p0 : Int32) : Nat → Int32 × MV
  | 0 => ((0 : Int32), S)
  | i + 1 => st_flA p0 i (it_flA S p0 i).1 (it_flA S p0 i).2
def gX2_fill (S : MV) (p0 : Int32) : Int32 × MV := ((it_flA S p0 16).1, (it_flA S p0 16).2)
theorem inX2_X2_fill : ∀ w ∈ wsX20, w ∈ wsX2_fill := by decide +kernel
set_option maxHeartbeats 4000000 in
set_option maxRecDepth 100000 in
theorem kX2_fill (l : Launch) (dC : Nat → ClassId) (dI : Nat → Nat → Nat) (o0 : Nat) (o1 : Nat) (o2 : Nat) (o3 : Nat) (o4 : Nat) (o5 : Nat) (o6 : Nat) (o7 : Nat) (o8 : Nat) (o9 : Nat) (cI : ClassId) (cJ : ClassId) (sz : Nat) (S : MV) (p0 : Int32) (ht4 : vp_in p0 4) : Met l yX2_fill wsX2_fill ({ frames := 3, cells := 0, slots := 0, locals := 69 } : Room) (va_Pc [.ref o0, .int p0] (fun U => U.heap.size = sz ∧ va_P (dC, dI) vwCl [(o0, .inr (2, [.ref o1, .int (mv1 S), .int (mv2 S), .int (mv3 S), .int (mv4 S), .int (mv5 S), .int (mv6 S), .int (mv7 S), .int (mv8 S), .int (mv9 S), .ref o2, .ref o3, .ref o4, .ref o5, .ref o6, .ref o7, .ref o8, .ref o9])), (o1, .inl (cI, 8192, .inl (mv0 S))), (o2, .inl (cI, 20, .inl (mv10 S))), (o3, .inl (cI, 20, .inl (mv11 S))), (o4, .inl (cJ, 20, .inr (.inl (mv12 S)))), (o5, .inl (cJ, 20, .inr (.inl (mv13 S)))), (o6, .inl (cJ, 20, .inr (.inl (mv14 S)))), (o7, .inl (cJ, 20, .inr (.inl (mv15 S)))), (o8, .inl (cI, 48, .inl (mv16 S))), (o9, .inl (cJ, 80, .inr (.inl (mv17 S))))] U.heap ∧ va_K (dC, dI) vwCl [(cI, .int), (cJ, .long)] U ∧ va_D (fun _ => True) [(o0, .inr (2, [.ref o1, .int (mv1 S), .int (mv2 S), .int (mv3 S), .int (mv4 S), .int (mv5 S), .int (mv6 S), .int (mv7 S), .int (mv8 S), .int (mv9 S), .ref o2, .ref o3, .ref o4, .ref o5, .ref o6, .ref o7, .ref o8, .ref o9])), (o1, .inl (cI, 8192, .inl (mv0 S))), (o2, .inl (cI, 20, .inl (mv10 S))), (o3, .inl (cI, 20, .inl (mv11 S))), (o4, .inl (cJ, 20, .inr (.inl (mv12 S)))), (o5, .inl (cJ, 20, .inr (.inl (mv13 S)))), (o6, .inl (cJ, 20, .inr (.inl (mv14 S)))), (o7, .inl (cJ, 20, .inr (.inl (mv15 S)))), (o8, .inl (cI, 48, .inl (mv16 S))), (o9, .inl (cJ, 80, .inr (.inl (mv17 S))))])) (va_Qi (fun (r : Int32) (u : MV) => r = (gX2_fill S p0).1 ∧ u = (gX2_fill S p0).2) (fun (u : MV) (t : State) => va_P (dC, dI) vwCl [(o0, .inr (2, [.ref o1, .int (mv1 u), .int (mv2 u), .int (mv3 u), .int (mv4 u), .int (mv5 u), .int (mv6 u), .int (mv7 u), .int (mv8 u), .int (mv9 u), .ref o2, .ref o3, .ref o4, .ref o5, .ref o6, .ref o7, .ref o8, .ref o9])), (o1, .inl (cI, 8192, .inl (mv0 u))), (o2, .inl (cI, 20, .inl (mv10 u))), (o3, .inl (cI, 20, .inl (mv11 u))), (o4, .inl (cJ, 20, .inr (.inl (mv12 u)))), (o5, .inl (cJ, 20, .inr (.inl (mv13 u)))), (o6, .inl (cJ, 20, .inr (.inl (mv14 u)))), (o7, .inl (cJ, 20, .inr (.inl (mv15 u)))), (o8, .inl (cI, 48, .inl (mv16 u))), (o9, .inl (cJ, 80, .inr (.inl (mv17 u))))] t.heap ∧ va_K (dC, dI) vwCl [(cI, .int), (cJ, .long)] t ∧ va_D (va_A [(o0, .inr (2, [.ref o1, .int (mv1 S), .int (mv2 S), .int (mv3 S), .int (mv4 S), .int (mv5 S), .int (mv6 S), .int (mv7 S), .int (mv8 S), .int (mv9 S), .ref o2, .ref o3, .ref o4, .ref o5, .ref o6, .ref o7, .ref o8, .ref o9])), (o1, .inl (cI, 8192, .inl (mv0 S))), (o2, .inl (cI, 20, .inl (mv10 S))), (o3, .inl (cI, 20, .inl (mv11 S))), (o4, .inl (cJ, 20, .inr (.inl (mv12 S)))), (o5, .inl (cJ, 20, .inr (.inl (mv13 S)))), (o6, .inl (cJ, 20, .inr (.inl (mv14 S)))), (o7, .inl (cJ, 20, .inr (.inl (mv15 S)))), (o8, .inl (cI, 48, .inl (mv16 S))), (o9, .inl (cJ, 80, .inr (.inl (mv17 S))))] sz) [(o0, .inr (2, [.ref o1, .int (mv1 u), .int (mv2 u), .int (mv3 u), .int (mv4 u), .int (mv5 u), .int (mv6 u), .int (mv7 u), .int (mv8 u), .int (mv9 u), .ref o2, .ref o3, .ref o4, .ref o5, .ref o6, .ref o7, .ref o8, .ref o9])), (o1, .inl (cI, 8192, .inl (mv0 u))), (o2, .inl (cI, 20, .inl (mv10 u))), (o3, .inl (cI, 20, .inl (mv11 u))), (o4, .inl (cJ, 20, .inr (.inl (mv12 u)))), (o5, .inl (cJ, 20, .inr (.inl (mv13 u)))), (o6, .inl (cJ, 20, .inr (.inl (mv14 u)))), (o7, .inl (cJ, 20, .inr (.inl (mv15 u)))), (o8, .inl (cI, 48, .inl (mv16 u))), (o9, .inl (cJ, 80, .inr (.inl (mv17 u))))]) (va_A [(o0, .inr (2, [.ref o1, .int (mv1 S), .int (mv2 S), .int (mv3 S), .int (mv4 S), .int (mv5 S), .int (mv6 S), .int (mv7 S), .int (mv8 S), .int (mv9 S), .ref o2, .ref o3, .ref o4, .ref o5, .ref o6, .ref o7, .ref o8, .ref o9])), (o1, .inl (cI, 8192, .inl (mv0 S))), (o2, .inl (cI, 20, .inl (mv10 S))), (o3, .inl (cI, 20, .inl (mv11 S))), (o4, .inl (cJ, 20, .inr (.inl (mv12 S)))), (o5, .inl (cJ, 20, .inr (.inl (mv13 S)))), (o6, .inl (cJ, 20, .inr (.inl (mv14 S)))), (o7, .inl (cJ, 20, .inr (.inl (mv15 S)))), (o8, .inl (cI, 48, .inl (mv16 S))), (o9, .inl (cJ, 80, .inr (.inl (mv17 S))))] sz)) 0 0 (va_A [(o0, .inr (2, [.ref o1, .int (mv1 S), .int (mv2 S), .int (mv3 S), .int (mv4 S), .int (mv5 S), .int (mv6 S), .int (mv7 S), .int (mv8 S), .int (mv9 S), .ref o2, .ref o3, .ref o4, .ref o5, .ref o6, .ref o7, .ref o8, .ref o9])), (o1, .inl (cI, 8192, .inl (mv0 S))), (o2, .inl (cI, 20, .inl (mv10 S))), (o3, .inl (cI, 20, .inl (mv11 S))), (o4, .inl (cJ, 20, .inr (.inl (mv12 S)))), (o5, .inl (cJ, 20, .inr (.inl (mv13 S)))), (o6, .inl (cJ, 20, .inr (.inl (mv14 S)))), (o7, .inl (cJ, 20, .inr (.inl (mv15 S)))), (o8, .inl (cI, 48, .inl (mv16 S))), (o9, .inl (cJ, 80, .inr (.inl (mv17 S))))] sz) := by
  refine Met.ofW (cc := cX2_fill) (maxL := 7) (ret := (some .int)) (by decide) rfl ?_
  intro p e s m args below meth c s₁ B hml hv
  obtain ⟨rfl, hsz, hP, hK, hD0⟩ := hv
  have hx := B.exec
  have hb := B.bytes
  have hr := B.returns
  have hts := atoms_spec (ws := wsX2_fill) B.pre
  have hown : s.vm.findClass RX2 = some m.cls := findClass_of_methodNamed B.named
  have hlocks := B.notSynchronized
  subst hsz
  have hD := hD0.self (sz := s.heap.size)
  generalize hAe : va_A [(o0, .inr (2, [.ref o1, .int (mv1 S), .int (mv2 S), .int (mv3 S), .int (mv4 S), .int (mv5 S), .int (mv6 S), .int (mv7 S), .int (mv8 S), .int (mv9 S), .ref o2, .ref o3, .ref o4, .ref o5, .ref o6, .ref o7, .ref o8, .ref o9])), (o1, .inl (cI, 8192, .inl (mv0 S))), (o2, .inl (cI, 20, .inl (mv10 S))), (o3, .inl (cI, 20, .inl (mv11 S))), (o4, .inl (cJ, 20, .inr (.inl (mv12 S)))), (o5, .inl (cJ, 20, .inr (.inl (mv13 S)))), (o6, .inl (cJ, 20, .inr (.inl (mv14 S)))), (o7, .inl (cJ, 20, .inr (.inl (mv15 S)))), (o8, .inl (cI, 48, .inl (mv16 S))), (o9, .inl (cJ, 80, .inr (.inl (mv17 S))))] s.heap.size = A at hD  ⊢
  have hA : ∀ q : Nat, s.heap.size ≤ q → A q := fun q h => by rw [← hAe]; exact Or.inr h
  have hS : va_S A s.heap s.heap [] := va_S.rf
  have hP : va_P (dC, dI) vwCl [(o0, .inr (2, [.ref o1, .int (mv1 S), .int (mv2 S), .int (mv3 S), .int (mv4 S), .int (mv5 S), .int (mv6 S), .int (mv7 S), .int (mv8 S), .int (mv9 S), .ref o2, .ref o3, .ref o4, .ref o5, .ref o6, .ref o7, .ref o8, .ref o9])), (o1, .inl (cI, 8192, .inl (mv0 S))), (o2, .inl (cI, 20, .inl (mv10 S))), (o3, .inl (cI, 20, .inl (mv11 S))), (o4, .inl (cJ, 20, .inr (.inl (mv12 S)))), (o5, .inl (cJ, 20, .inr (.inl (mv13 S)))), (o6, .inl (cJ, 20, .inr (.inl (mv14 S)))), (o7, .inl (cJ, 20, .inr (.inl (mv15 S)))), (o8, .inl (cI, 48, .inl (mv16 S))), (o9, .inl (cJ, 80, .inr (.inl (mv17 S))))] s.heap := hP
  have hl := lv_entry ([.ref o0, .int p0]) (n := 7) (Nat.le_of_ble_eq_true rfl)
  rw [lg_entry_eq]
  generalize (lg_sl ([.ref o0, .int p0]) ++ List.replicate (7 - (lg_sl ([.ref o0, .int p0])).length) Slot.unset).toArray = ls at hl ⊢
  have hl : lv_has ls 7 [(0, .ref o0), (1, .int p0)] := hl
  refine lv_iconst (v := 0) hx hb dX2_fill_0 (by decide) ?_
  refine lv_istore_n (lv' := [(2, .int 0), (0, .ref o0), (1, .int p0)]) hx hb dX2_fill_1 rfl hl (by decide) rfl (fun ls hl => ?_)
  refine lv_iconst (v := 0) hx hb dX2_fill_2 (by decide) ?_
  refine lv_istore_n (lv' := [(3, .int 0), (2, .int 0), (0, .ref o0), (1, .int p0)]) hx hb dX2_fill_3 rfl hl (by decide) rfl (fun ls hl => ?_)
  refine ax_loopS (pc := 4) (fun i H locs ls => ∃ w0a : Int32, ∃ w1a : MV, w0a = (it_flA S p0 i).1 ∧ w1a = (it_flA S p0 i).2 ∧ va_P (dC, dI) vwCl [(o0, .inr (2, [.ref o1, .int (mv1 w1a), .int (mv2 w1a), .int (mv3 w1a), .int (mv4 w1a), .int (mv5 w1a), .int (mv6 w1a), .int (mv7 w1a), .int (mv8 w1a), .int (mv9 w1a), .ref o2, .ref o3, .ref o4, .ref o5, .ref o6, .ref o7, .ref o8, .ref o9])), (o1, .inl (cI, 8192, .inl (mv0 w1a))), (o2, .inl (cI, 20, .inl (mv10 w1a))), (o3, .inl (cI, 20, .inl (mv11 w1a))), (o4, .inl (cJ, 20, .inr (.inl (mv12 w1a)))), (o5, .inl (cJ, 20, .inr (.inl (mv13 w1a)))), (o6, .inl (cJ, 20, .inr (.inl (mv14 w1a)))), (o7, .inl (cJ, 20, .inr (.inl (mv15 w1a)))), (o8, .inl (cI, 48, .inl (mv16 w1a))), (o9, .inl (cJ, 80, .inr (.inl (mv17 w1a))))] H ∧ va_D A [(o0, .inr (2, [.ref o1, .int (mv1 w1a), .int (mv2 w1a), .int (mv3 w1a), .int (mv4 w1a), .int (mv5 w1a), .int (mv6 w1a), .int (mv7 w1a), .int (mv8 w1a), .int (mv9 w1a), .ref o2, .ref o3, .ref o4, .ref o5, .ref o6, .ref o7, .ref o8, .ref o9])), (o1, .inl (cI, 8192, .inl (mv0 w1a))), (o2, .inl (cI, 20, .inl (mv10 w1a))), (o3, .inl (cI, 20, .inl (mv11 w1a))), (o4, .inl (cJ, 20, .inr (.inl (mv12 w1a)))), (o5, .inl (cJ, 20, .inr (.inl (mv13 w1a)))), (o6, .inl (cJ, 20, .inr (.inl (mv14 w1a)))), (o7, .inl (cJ, 20, .inr (.inl (mv15 w1a)))), (o8, .inl (cI, 48, .inl (mv16 w1a))), (o9, .inl (cJ, 80, .inr (.inl (mv17 w1a))))] ∧ va_S A s.heap H locs ∧ lv_has ls 7 [(3, .int (nI i)), (2, .int w0a), (0, .ref o0), (1, .int p0)]) 16 (fun i hii ihi H locs ls hIi => ?_) ⟨(0 : Int32), S, rfl, rfl, hP, hD, hS, lv_sub hl [0, 1, 2, 3] rfl⟩
  obtain ⟨w0a, w1a, ew0a, ew1a, hP, hD, hS, hl⟩ := hIi
  have hP : va_P (dC, dI) vwCl [(o0, .inr (2, [.ref o1, .int (mv1 w1a), .int (mv2 w1a), .int (mv3 w1a), .int (mv4 w1a), .int (mv5 w1a), .int (mv6 w1a), .int (mv7 w1a), .int (mv8 w1a), .int (mv9 w1a), .ref o2, .ref o3, .ref o4, .ref o5, .ref o6, .ref o7, .ref o8, .ref o9])), (o1, .inl (cI, 8192, .inl (mv0 w1a))), (o2, .inl (cI, 20, .inl (mv10 w1a))), (o3, .inl (cI, 20, .inl (mv11 w1a))), (o4, .inl (cJ, 20, .inr (.inl (mv12 w1a)))), (o5, .inl (cJ, 20, .inr (.inl (mv13 w1a)))), (o6, .inl (cJ, 20, .inr (.inl (mv14 w1a)))), (o7, .inl (cJ, 20, .inr (.inl (mv15 w1a)))), (o8, .inl (cI, 48, .inl (mv16 w1a))), (o9, .inl (cJ, 80, .inr (.inl (mv17 w1a))))] H := hP
  have hD : va_D A [(o0, .inr (2, [.ref o1, .int (mv1 w1a), .int (mv2 w1a), .int (mv3 w1a), .int (mv4 w1a), .int (mv5 w1a), .int (mv6 w1a), .int (mv7 w1a), .int (mv8 w1a), .int (mv9 w1a), .ref o2, .ref o3, .ref o4, .ref o5, .ref o6, .ref o7, .ref o8, .ref o9])), (o1, .inl (cI, 8192, .inl (mv0 w1a))), (o2, .inl (cI, 20, .inl (mv10 w1a))), (o3, .inl (cI, 20, .inl (mv11 w1a))), (o4, .inl (cJ, 20, .inr (.inl (mv12 w1a)))), (o5, .inl (cJ, 20, .inr (.inl (mv13 w1a)))), (o6, .inl (cJ, 20, .inr (.inl (mv14 w1a)))), (o7, .inl (cJ, 20, .inr (.inl (mv15 w1a)))), (o8, .inl (cI, 48, .inl (mv16 w1a))), (o9, .inl (cJ, 80, .inr (.inl (mv17 w1a))))] := hD
  refine lv_iload_n hx hb dX2_fill_4 rfl (lv_at hl 0 rfl) ?_
  refine lv_bipush (v := 16) hx hb dX2_fill_5 (by decide) ?_
  refine lv_icmp_ge (tgt := 89) hx hb dX2_fill_7 (by decide) (fun c_7_1 => ?_) (fun c_7_1 => ?_)
  · obtain rfl : i = 16 := ax_end (N := 16) rfl (by decide) hii c_7_1
    subst ew0a
    subst ew1a
    refine lv_iload_n hx hb dX2_fill_89 rfl (lv_at hl 1 rfl) ?_
    have hg : (gX2_fill S p0) = ((it_flA S p0 16).1, (it_flA S p0 16).2) := rfl
    exact W.iret (v := (it_flA S p0 16).1) hx hb hr (fun t ht hW => ⟨⟨(it_flA S p0 16).1, (it_flA S p0 16).2, rfl, ⟨(congrArg Prod.fst hg).symm, (congrArg Prod.snd hg).symm⟩, by rw [ht]; exact hP, va_K.moved hW.alike hK, hD⟩, hS.F ht⟩) hS.2.2 dX2_fill_90
  · have hlti : i < 16 := ax_more (N := 16) rfl (by decide) hii c_7_1
    refine lv_iconst (v := 0) hx hb dX2_fill_10 (by decide) ?_
    refine lv_istore (lv' := [(4, .int 0), (3, .int (nI i)), (2, .int w0a), (0, .ref o0), (1, .int p0)]) hx hb dX2_fill_11 hl (by decide) rfl (fun ls hl => ?_)
    refine ax_loopS (pc := 13) (fun j H locs ls => ∃ w0b : Int32, ∃ w1b : MV, w0b = (it_flB p0 i w0a w1a j).1 ∧ w1b = (it_flB p0 i w0a w1a j).2 ∧ va_P (dC, dI) vwCl [(o0, .inr (2, [.ref o1, .int (mv1 w1b), .int (mv2 w1b), .int (mv3 w1b), .int (mv4 w1b), .int (mv5 w1b), .int (mv6 w1b), .int (mv7 w1b), .int (mv8 w1b), .int (mv9 w1b), .ref o2, .ref o3, .ref o4, .ref o5, .ref o6, .ref o7, .ref o8, .ref o9])), (o1, .inl (cI, 8192, .inl (mv0 w1b))), (o2, .inl (cI, 20, .inl (mv10 w1b))), (o3, .inl (cI, 20, .inl (mv11 w1b))), (o4, .inl (cJ, 20, .inr (.inl (mv12 w1b)))), (o5, .inl (cJ, 20, .inr (.inl (mv13 w1b)))), (o6, .inl (cJ, 20, .inr (.inl (mv14 w1b)))), (o7, .inl (cJ, 20, .inr (.inl (mv15 w1b)))), (o8, .inl (cI, 48, .inl (mv16 w1b))), (o9, .inl (cJ, 80, .inr (.inl (mv17 w1b))))] H ∧ va_D A [(o0, .inr (2, [.ref o1, .int (mv1 w1b), .int (mv2 w1b), .int (mv3 w1b), .int (mv4 w1b), .int (mv5 w1b), .int (mv6 w1b), .int (mv7 w1b), .int (mv8 w1b), .int (mv9 w1b), .ref o2, .ref o3, .ref o4, .ref o5, .ref o6, .ref o7, .ref o8, .ref o9])), (o1, .inl (cI, 8192, .inl (mv0 w1b))), (o2, .inl (cI, 20, .inl (mv10 w1b))), (o3, .inl (cI, 20, .inl (mv11 w1b))), (o4, .inl (cJ, 20, .inr (.inl (mv12 w1b)))), (o5, .inl (cJ, 20, .inr (.inl (mv13 w1b)))), (o6, .inl (cJ, 20, .inr (.inl (mv14 w1b)))), (o7, .inl (cJ, 20, .inr (.inl (mv15 w1b)))), (o8, .inl (cI, 48, .inl (mv16 w1b))), (o9, .inl (cJ, 80, .inr (.inl (mv17 w1b))))] ∧ va_S A s.heap H locs ∧ lv_has ls 7 [(4, .int (nI j)), (3, .int (nI i)), (2, .int w0b), (0, .ref o0), (1, .int p0)]) 128 (fun j hij ihj H locs ls hIj => ?_) ⟨w0a, w1a, rfl, rfl, hP, hD, hS, lv_sub hl [0, 1, 2, 3, 4] rfl⟩
    obtain ⟨w0b, w1b, ew0b, ew1b, hP, hD, hS, hl⟩ := hIj
    have hP : va_P (dC, dI) vwCl [(o0, .inr (2, [.ref o1, .int (mv1 w1b), .int (mv2 w1b), .int (mv3 w1b), .int (mv4 w1b), .int (mv5 w1b), .int (mv6 w1b), .int (mv7 w1b), .int (mv8 w1b), .int (mv9 w1b), .ref o2, .ref o3, .ref o4, .ref o5, .ref o6, .ref o7, .ref o8, .ref o9])), (o1, .inl (cI, 8192, .inl (mv0 w1b))), (o2, .inl (cI, 20, .inl (mv10 w1b))), (o3, .inl (cI, 20, .inl (mv11 w1b))), (o4, .inl (cJ, 20, .inr (.inl (mv12 w1b)))), (o5, .inl (cJ, 20, .inr (.inl (mv13 w1b)))), (o6, .inl (cJ, 20, .inr (.inl (mv14 w1b)))), (o7, .inl (cJ, 20, .inr (.inl (mv15 w1b)))), (o8, .inl (cI, 48, .inl (mv16 w1b))), (o9, .inl (cJ, 80, .inr (.inl (mv17 w1b))))] H := hP
    have hD : va_D A [(o0, .inr (2, [.ref o1, .int (mv1 w1b), .int (mv2 w1b), .int (mv3 w1b), .int (mv4 w1b), .int (mv5 w1b), .int (mv6 w1b), .int (mv7 w1b), .int (mv8 w1b), .int (mv9 w1b), .ref o2, .ref o3, .ref o4, .ref o5, .ref o6, .ref o7, .ref o8, .ref o9])), (o1, .inl (cI, 8192, .inl (mv0 w1b))), (o2, .inl (cI, 20, .inl (mv10 w1b))), (o3, .inl (cI, 20, .inl (mv11 w1b))), (o4, .inl (cJ, 20, .inr (.inl (mv12 w1b)))), (o5, .inl (cJ, 20, .inr (.inl (mv13 w1b)))), (o6, .inl (cJ, 20, .inr (.inl (mv14 w1b)))), (o7, .inl (cJ, 20, .inr (.inl (mv15 w1b)))), (o8, .inl (cI, 48, .inl (mv16 w1b))), (o9, .inl (cJ, 80, .inr (.inl (mv17 w1b))))] := hD
    refine lv_iload hx hb dX2_fill_13 (lv_at hl 0 rfl) ?_
    refine lv_sipush (v := 128) hx hb dX2_fill_15 (by decide) ?_
    refine lv_icmp_ge (tgt := 83) hx hb dX2_fill_18 (by decide) (fun c_18_2 => ?_) (fun c_18_2 => ?_)
    · obtain rfl : j = 128 := ax_end (N := 128) rfl (by decide) hij c_18_2
      subst ew0b
      subst ew1b
      refine lv_iinc (v := nI (i + 1)) (lv' := [(3, .int (nI (i + 1))), (4, .int (nI 128)), (2, .int ((it_flB p0 i w0a w1a 128).1)), (0, .ref o0), (1, .int p0)]) hx hb dX2_fill_83 hl (k := 1) rfl (nI_1 _) (by decide) rfl (fun ls hl => ?_)
      refine lv_goto (tgt := 4) hx hb dX2_fill_86 (by decide) ?_
      have eb : st_flA p0 i w0a w1a = ((it_flB p0 i w0a w1a 128).1, (it_flB p0 i w0a w1a 128).2) := rfl
      have ebb : (it_flA S p0 (i + 1)) = ((it_flB p0 i w0a w1a 128).1, (it_flB p0 i w0a w1a 128).2) := by show st_flA p0 i (it_flA S p0 i).1 (it_flA S p0 i).2 = _; rw [← ew0a, ← ew1a]; exact eb
      exact ihi hlti _ _ _ ⟨(it_flB p0 i w0a w1a 128).1, (it_flB p0 i w0a w1a 128).2, (congrArg Prod.fst ebb).symm, (congrArg Prod.snd ebb).symm, hP, hD, hS, lv_sub hl [0, 2, 3, 4] rfl⟩
    · have hltj : j < 128 := ax_more (N := 128) rfl (by decide) hij c_18_2
      refine lv_sipush (v := 2048) hx hb dX2_fill_21 (by decide) ?_
      refine lv_iload_n hx hb dX2_fill_24 rfl (lv_at hl 4 rfl) ?_
      refine lv_imul hx hb dX2_fill_25 ?_
      refine lv_sipush (v := 128) hx hb dX2_fill_26 (by decide) ?_
      refine lv_iload_n hx hb dX2_fill_29 rfl (lv_at hl 1 rfl) ?_
      refine lv_imul hx hb dX2_fill_30 ?_
      refine lv_iadd hx hb dX2_fill_31 ?_
      refine lv_iload hx hb dX2_fill_32 (lv_at hl 0 rfl) ?_
      refine lv_iadd hx hb dX2_fill_34 ?_
      refine lv_istore (lv' := [(5, .int (((2048 * p0) + (128 * (nI i))) + (nI j))), (4, .int (nI j)), (3, .int (nI i)), (2, .int w0b), (0, .ref o0), (1, .int p0)]) hx hb dX2_fill_35 hl (by decide) rfl (fun ls hl => ?_)
      refine lv_iload_n hx hb dX2_fill_37 rfl (lv_at hl 2 rfl) ?_
      refine lv_iload hx hb dX2_fill_38 (lv_at hl 1 rfl) ?_
      refine lv_bipush (v := 64) hx hb dX2_fill_40 (by decide) ?_
      refine lv_isub hx hb dX2_fill_42 ?_
      refine vp_callSi (W.runS (As := [.int (nI i), .int ((nI j) - 64)]) (rest := []) ⟨hx, hb, hml, hown, hts⟩ (kX2_madeOf l dC dI (nI i) ((nI j) - 64)) (va_cwS 2 hts gX2_fill_X2_madeOf rfl rfl rfl (by decide +kernel) ⟨Nat.le_of_ble_eq_true rfl, Nat.le_of_ble_eq_true rfl⟩) ⟨fun a U g mk q => by obtain ⟨q0, qt⟩ := q; exact ⟨q0, qt⟩, fun U hU hW => ⟨rfl, trivial⟩⟩ rfl rfl hl.1 rfl (lv_room (Nat.le_of_ble_eq_true rfl)) dX2_fill_43 ⟨Nat.zero_le _, Nat.zero_le _⟩) (fun r_3 hr_3 => ?_)
      subst hr_3
      refine lv_istore (lv' := [(6, .int (fX2_madeOf (nI i) ((nI j) - 64))), (5, .int (((2048 * p0) + (128 * (nI i))) + (nI j))), (4, .int (nI j)), (3, .int (nI i)), (2, .int w0b), (0, .ref o0), (1, .int p0)]) hx hb dX2_fill_46 hl (by decide) rfl (fun ls hl => ?_)
      refine lv_iload_n hx hb dX2_fill_48 rfl (lv_at hl 4 rfl) ?_
      refine lv_aload_n hx hb dX2_fill_49 rfl (lv_at hl 5 rfl) ?_
      refine va_get (D := (dC, dI)) (ci := 2) (v := .ref o1) (C := RX2) (T := TX2) (N := 18) hx hb hts inX2_X2_fill hown hK hP 0 rfl rfl 0 (by decide) (hts (.fieldLink RX2 7 "DigitDividerModel" "tables" "[I") (by decide +kernel)) (fun _ h9 => h9) rfl dX2_fill_50 ?_
      refine lv_iload hx hb dX2_fill_53 (lv_at hl 1 rfl) ?_
      refine va_iald hx hb hK hP 1 0 rfl rfl (fl_in ht4 hlti hltj) dX2_fill_55 ?_
      refine lv_iload hx hb dX2_fill_56 (lv_at hl 0 rfl) ?_
      refine ax_joinI (J := 66) (v := (fX2_fill_j66 p0 i j w1b)) (ls := ls) (rest := [.int w0b]) ?_ (fun kj_5 => ?_)
      · refine lv_iadd hx hb dX2_fill_66 ?_
        refine lv_istore_n (lv' := [(2, .int (w0b + (fX2_fill_j66 p0 i j w1b))), (6, .int (fX2_madeOf (nI i) ((nI j) - 64))), (5, .int (((2048 * p0) + (128 * (nI i))) + (nI j))), (4, .int (nI j)), (3, .int (nI i)), (0, .ref o0), (1, .int p0)]) hx hb dX2_fill_67 rfl hl (by decide) rfl (fun ls hl => ?_)
        refine lv_aload_n hx hb dX2_fill_68 rfl (lv_at hl 5 rfl) ?_
        refine va_get (D := (dC, dI)) (ci := 2) (v := .ref o1) (C := RX2) (T := TX2) (N := 18) hx hb hts inX2_X2_fill hown hK hP 0 rfl rfl 0 (by decide) (hts (.fieldLink RX2 7 "DigitDividerModel" "tables" "[I") (by decide +kernel)) (fun _ h9 => h9) rfl dX2_fill_69 ?_
        refine lv_iload hx hb dX2_fill_72 (lv_at hl 2 rfl) ?_
        refine lv_iload hx hb dX2_fill_74 (lv_at hl 1 rfl) ?_
        refine va_iast hx hb hK hP hD hS 1 0 rfl rfl (fl_in ht4 hlti hltj) dX2_fill_76 (fun H locs hP hD hS => ?_)
        have hP : va_P (dC, dI) vwCl [(o0, .inr (2, [.ref o1, .int (mv1 w1b), .int (mv2 w1b), .int (mv3 w1b), .int (mv4 w1b), .int (mv5 w1b), .int (mv6 w1b), .int (mv7 w1b), .int (mv8 w1b), .int (mv9 w1b), .ref o2, .ref o3, .ref o4, .ref o5, .ref o6, .ref o7, .ref o8, .ref o9])), (o1, .inl (cI, 8192, .inl (upd (mv0 w1b) (((2048 * p0) + (128 * (nI i))) + (nI j)).toNatClampNeg (fX2_madeOf (nI i) ((nI j) - 64))))), (o2, .inl (cI, 20, .inl (mv10 w1b))), (o3, .inl (cI, 20, .inl (mv11 w1b))), (o4, .inl (cJ, 20, .inr (.inl (mv12 w1b)))), (o5, .inl (cJ, 20, .inr (.inl (mv13 w1b)))), (o6, .inl (cJ, 20, .inr (.inl (mv14 w1b)))), (o7, .inl (cJ, 20, .inr (.inl (mv15 w1b)))), (o8, .inl (cI, 48, .inl (mv16 w1b))), (o9, .inl (cJ, 80, .inr (.inl (mv17 w1b))))] H := hP
        have hD : va_D A [(o0, .inr (2, [.ref o1, .int (mv1 w1b), .int (mv2 w1b), .int (mv3 w1b), .int (mv4 w1b), .int (mv5 w1b), .int (mv6 w1b), .int (mv7 w1b), .int (mv8 w1b), .int (mv9 w1b), .ref o2, .ref o3, .ref o4, .ref o5, .ref o6, .ref o7, .ref o8, .ref o9])), (o1, .inl (cI, 8192, .inl (upd (mv0 w1b) (((2048 * p0) + (128 * (nI i))) + (nI j)).toNatClampNeg (fX2_madeOf (nI i) ((nI j) - 64))))), (o2, .inl (cI, 20, .inl (mv10 w1b))), (o3, .inl (cI, 20, .inl (mv11 w1b))), (o4, .inl (cJ, 20, .inr (.inl (mv12 w1b)))), (o5, .inl (cJ, 20, .inr (.inl (mv13 w1b)))), (o6, .inl (cJ, 20, .inr (.inl (mv14 w1b)))), (o7, .inl (cJ, 20, .inr (.inl (mv15 w1b)))), (o8, .inl (cI, 48, .inl (mv16 w1b))), (o9, .inl (cJ, 80, .inr (.inl (mv17 w1b))))] := hD
        refine lv_iinc (v := nI (j + 1)) (lv' := [(4, .int (nI (j + 1))), (2, .int (w0b + (fX2_fill_j66 p0 i j w1b))), (6, .int (fX2_madeOf (nI i) ((nI j) - 64))), (5, .int (((2048 * p0) + (128 * (nI i))) + (nI j))), (3, .int (nI i)), (0, .ref o0), (1, .int p0)]) hx hb dX2_fill_77 hl (k := 3) rfl (nI_1 _) (by decide) rfl (fun ls hl => ?_)
        refine lv_goto (tgt := 13) hx hb dX2_fill_80 (by decide) ?_
        have eb : st_flB p0 i j w0b w1b = (w0b + (fX2_fill_j66 p0 i j w1b), ((upd (mv0 w1b) (((2048 * p0) + (128 * (nI i))) + (nI j)).toNatClampNeg (fX2_madeOf (nI i) ((nI j) - 64))), (mv1 w1b), (mv2 w1b), (mv3 w1b), (mv4 w1b), (mv5 w1b), (mv6 w1b), (mv7 w1b), (mv8 w1b), (mv9 w1b), (mv10 w1b), (mv11 w1b), (mv12 w1b), (mv13 w1b), (mv14 w1b), (mv15 w1b), (mv16 w1b), (mv17 w1b))) := rfl
        have ebb : (it_flB p0 i w0a w1a (j + 1)) = (w0b + (fX2_fill_j66 p0 i j w1b), ((upd (mv0 w1b) (((2048 * p0) + (128 * (nI i))) + (nI j)).toNatClampNeg (fX2_madeOf (nI i) ((nI j) - 64))), (mv1 w1b), (mv2 w1b), (mv3 w1b), (mv4 w1b), (mv5 w1b), (mv6 w1b), (mv7 w1b), (mv8 w1b), (mv9 w1b), (mv10 w1b), (mv11 w1b), (mv12 w1b), (mv13 w1b), (mv14 w1b), (mv15 w1b), (mv16 w1b), (mv17 w1b))) := by show st_flB p0 i j (it_flB p0 i w0a w1a j).1 (it_flB p0 i w0a w1a j).2 = _; rw [← ew0b, ← ew1b]; exact eb
        exact ihj hltj _ _ _ ⟨w0b + (fX2_fill_j66 p0 i j w1b), ((upd (mv0 w1b) (((2048 * p0) + (128 * (nI i))) + (nI j)).toNatClampNeg (fX2_madeOf (nI i) ((nI j) - 64))), (mv1 w1b), (mv2 w1b), (mv3 w1b), (mv4 w1b), (mv5 w1b), (mv6 w1b), (mv7 w1b), (mv8 w1b), (mv9 w1b), (mv10 w1b), (mv11 w1b), (mv12 w1b), (mv13 w1b), (mv14 w1b), (mv15 w1b), (mv16 w1b), (mv17 w1b)), (congrArg Prod.fst ebb).symm, (congrArg Prod.snd ebb).symm, hP, hD, hS, lv_sub hl [0, 4, 1, 5, 6] rfl⟩
      · refine lv_icmp_ne (tgt := 65) hx hb dX2_fill_58 (by decide) (fun c_58_4 => ?_) (fun c_58_4 => ?_)
        · refine lv_iconst (v := 1) hx hb dX2_fill_65 (by decide) ?_
          exact kj_5 _ (by unfold fX2_fill_j66; rw [if_neg c_58_4])
        · refine lv_iconst (v := 0) hx hb dX2_fill_61 (by decide) ?_
          refine lv_goto (tgt := 66) hx hb dX2_fill_62 (by decide) ?_
          exact kj_5 _ (by unfold fX2_fill_j66; rw [if_pos c_58_4])

def gX2_make (S : MV) (p0 : Int32) : Int32 × MV := (if (fX2_isTable p0) = 0 then ((-1), S) else (((gX2_fill S p0).1), ((gX2_fill S p0).2)))
set_option maxHeartbeats 4000000 in
set_option maxRecDepth 100000 in
theorem kX2_make (l : Launch) (dC : Nat → ClassId) (dI : Nat → Nat → Nat) (o0 : Nat) (o1 : Nat) (o2 : Nat) (o3 : Nat) (o4 : Nat) (o5 : Nat) (o6 : Nat) (o7 : Nat) (o8 : Nat) (o9 : Nat) (cI : ClassId) (cJ : ClassId) (sz : Nat) (S : MV) (p0 : Int32)  : Met l yX2_make wsX2_make ({ frames := 4, cells := 0, slots := 0, locals := 95 } : Room) (va_Pc [.ref o0, .int p0] (fun U => U.heap.size = sz ∧ va_P (dC, dI) vwCl [(o0, .inr (2, [.ref o1, .int (mv1 S), .int (mv2 S), .int (mv3 S), .int (mv4 S), .int (mv5 S), .int (mv6 S), .int (mv7 S), .int (mv8 S), .int (mv9 S), .ref o2, .ref o3, .ref o4, .ref o5, .ref o6, .ref o7, .ref o8, .ref o9])), (o1, .inl (cI, 8192, .inl (mv0 S))), (o2, .inl (cI, 20, .inl (mv10 S))), (o3, .inl (cI, 20, .inl (mv11 S))), (o4, .inl (cJ, 20, .inr (.inl (mv12 S)))), (o5, .inl (cJ, 20, .inr (.inl (mv13 S)))), (o6, .inl (cJ, 20, .inr (.inl (mv14 S)))), (o7, .inl (cJ, 20, .inr (.inl (mv15 S)))), (o8, .inl (cI, 48, .inl (mv16 S))), (o9, .inl (cJ, 80, .inr (.inl (mv17 S))))] U.heap ∧ va_K (dC, dI) vwCl [(cI, .int), (cJ, .long)] U ∧ va_D (fun _ => True) [(o0, .inr (2, [.ref o1, .int (mv1 S), .int (mv2 S), .int (mv3 S), .int (mv4 S), .int (mv5 S), .int (mv6 S), .int (mv7 S), .int (mv8 S), .int (mv9 S), .ref o2, .ref o3, .ref o4, .ref o5, .ref o6, .ref o7, .ref o8, .ref o9])), (o1, .inl (cI, 8192, .inl (mv0 S))), (o2, .inl (cI, 20, .inl (mv10 S))), (o3, .inl (cI, 20, .inl (mv11 S))), (o4, .inl (cJ, 20, .inr (.inl (mv12 S)))), (o5, .inl (cJ, 20, .inr (.inl (mv13 S)))), (o6, .inl (cJ, 20, .inr (.inl (mv14 S)))), (o7, .inl (cJ, 20, .inr (.inl (mv15 S)))), (o8, .inl (cI, 48, .inl (mv16 S))), (o9, .inl (cJ, 80, .inr (.inl (mv17 S))))])) (va_Qi (fun (r : Int32) (u : MV) => r = (gX2_make S p0).1 ∧ u = (gX2_make S p0).2) (fun (u : MV) (t : State) => va_P (dC, dI) vwCl [(o0, .inr (2, [.ref o1, .int (mv1 u), .int (mv2 u), .int (mv3 u), .int (mv4 u), .int (mv5 u), .int (mv6 u), .int (mv7 u), .int (mv8 u), .int (mv9 u), .ref o2, .ref o3, .ref o4, .ref o5, .ref o6, .ref o7, .ref o8, .ref o9])), (o1, .inl (cI, 8192, .inl (mv0 u))), (o2, .inl (cI, 20, .inl (mv10 u))), (o3, .inl (cI, 20, .inl (mv11 u))), (o4, .inl (cJ, 20, .inr (.inl (mv12 u)))), (o5, .inl (cJ, 20, .inr (.inl (mv13 u)))), (o6, .inl (cJ, 20, .inr (.inl (mv14 u)))), (o7, .inl (cJ, 20, .inr (.inl (mv15 u)))), (o8, .inl (cI, 48, .inl (mv16 u))), (o9, .inl (cJ, 80, .inr (.inl (mv17 u))))] t.heap ∧ va_K (dC, dI) vwCl [(cI, .int), (cJ, .long)] t ∧ va_D (va_A [(o0, .inr (2, [.ref o1, .int (mv1 S), .int (mv2 S), .int (mv3 S), .int (mv4 S), .int (mv5 S), .int (mv6 S), .int (mv7 S), .int (mv8 S), .int (mv9 S), .ref o2, .ref o3, .ref o4, .ref o5, .ref o6, .ref o7, .ref o8, .ref o9])), (o1, .inl (cI, 8192, .inl (mv0 S))), (o2, .inl (cI, 20, .inl (mv10 S))), (o3, .inl (cI, 20, .inl (mv11 S))), (o4, .inl (cJ, 20, .inr (.inl (mv12 S)))), (o5, .inl (cJ, 20, .inr (.inl (mv13 S)))), (o6, .inl (cJ, 20, .inr (.inl (mv14 S)))), (o7, .inl (cJ, 20, .inr (.inl (mv15 S)))), (o8, .inl (cI, 48, .inl (mv16 S))), (o9, .inl (cJ, 80, .inr (.inl (mv17 S))))] sz) [(o0, .inr (2, [.ref o1, .int (mv1 u), .int (mv2 u), .int (mv3 u), .int (mv4 u), .int (mv5 u), .int (mv6 u), .int (mv7 u), .int (mv8 u), .int (mv9 u), .ref o2, .ref o3, .ref o4, .ref o5, .ref o6, .ref o7, .ref o8, .ref o9])), (o1, .inl (cI, 8192, .inl (mv0 u))), (o2, .inl (cI, 20, .inl (mv10 u))), (o3, .inl (cI, 20, .inl (mv11 u))), (o4, .inl (cJ, 20, .inr (.inl (mv12 u)))), (o5, .inl (cJ, 20, .inr (.inl (mv13 u)))), (o6, .inl (cJ, 20, .inr (.inl (mv14 u)))), (o7, .inl (cJ, 20, .inr (.inl (mv15 u)))), (o8, .inl (cI, 48, .inl (mv16 u))), (o9, .inl (cJ, 80, .inr (.inl (mv17 u))))]) (va_A [(o0, .inr (2, [.ref o1, .int (mv1 S), .int (mv2 S), .int (mv3 S), .int (mv4 S), .int (mv5 S), .int (mv6 S), .int (mv7 S), .int (mv8 S), .int (mv9 S), .ref o2, .ref o3, .ref o4, .ref o5, .ref o6, .ref o7, .ref o8, .ref o9])), (o1, .inl (cI, 8192, .inl (mv0 S))), (o2, .inl (cI, 20, .inl (mv10 S))), (o3, .inl (cI, 20, .inl (mv11 S))), (o4, .inl (cJ, 20, .inr (.inl (mv12 S)))), (o5, .inl (cJ, 20, .inr (.inl (mv13 S)))), (o6, .inl (cJ, 20, .inr (.inl (mv14 S)))), (o7, .inl (cJ, 20, .inr (.inl (mv15 S)))), (o8, .inl (cI, 48, .inl (mv16 S))), (o9, .inl (cJ, 80, .inr (.inl (mv17 S))))] sz)) 0 0 (va_A [(o0, .inr (2, [.ref o1, .int (mv1 S), .int (mv2 S), .int (mv3 S), .int (mv4 S), .int (mv5 S), .int (mv6 S), .int (mv7 S), .int (mv8 S), .int (mv9 S), .ref o2, .ref o3, .ref o4, .ref o5, .ref o6, .ref o7, .ref o8, .ref o9])), (o1, .inl (cI, 8192, .inl (mv0 S))), (o2, .inl (cI, 20, .inl (mv10 S))), (o3, .inl (cI, 20, .inl (mv11 S))), (o4, .inl (cJ, 20, .inr (.inl (mv12 S)))), (o5, .inl (cJ, 20, .inr (.inl (mv13 S)))), (o6, .inl (cJ, 20, .inr (.inl (mv14 S)))), (o7, .inl (cJ, 20, .inr (.inl (mv15 S)))), (o8, .inl (cI, 48, .inl (mv16 S))), (o9, .inl (cJ, 80, .inr (.inl (mv17 S))))] sz) := by
  refine Met.ofW (cc := cX2_make) (maxL := 2) (ret := (some .int)) (by decide) rfl ?_
  intro p e s m args below meth c s₁ B hml hv
  obtain ⟨rfl, hsz, hP, hK, hD0⟩ := hv
  have hx := B.exec
  have hb := B.bytes
  have hr := B.returns
  have hts := atoms_spec (ws := wsX2_make) B.pre
  have hown : s.vm.findClass RX2 = some m.cls := findClass_of_methodNamed B.named
  have hlocks := B.notSynchronized
  subst hsz
  have hD := hD0.self (sz := s.heap.size)
  generalize hAe : va_A [(o0, .inr (2, [.ref o1, .int (mv1 S), .int (mv2 S), .int (mv3 S), .int (mv4 S), .int (mv5 S), .int (mv6 S), .int (mv7 S), .int (mv8 S), .int (mv9 S), .ref o2, .ref o3, .ref o4, .ref o5, .ref o6, .ref o7, .ref o8, .ref o9])), (o1, .inl (cI, 8192, .inl (mv0 S))), (o2, .inl (cI, 20, .inl (mv10 S))), (o3, .inl (cI, 20, .inl (mv11 S))), (o4, .inl (cJ, 20, .inr (.inl (mv12 S)))), (o5, .inl (cJ, 20, .inr (.inl (mv13 S)))), (o6, .inl (cJ, 20, .inr (.inl (mv14 S)))), (o7, .inl (cJ, 20, .inr (.inl (mv15 S)))), (o8, .inl (cI, 48, .inl (mv16 S))), (o9, .inl (cJ, 80, .inr (.inl (mv17 S))))] s.heap.size = A at hD  ⊢
  have hA : ∀ q : Nat, s.heap.size ≤ q → A q := fun q h => by rw [← hAe]; exact Or.inr h
  have hS : va_S A s.heap s.heap [] := va_S.rf
  have hP : va_P (dC, dI) vwCl [(o0, .inr (2, [.ref o1, .int (mv1 S), .int (mv2 S), .int (mv3 S), .int (mv4 S), .int (mv5 S), .int (mv6 S), .int (mv7 S), .int (mv8 S), .int (mv9 S), .ref o2, .ref o3, .ref o4, .ref o5, .ref o6, .ref o7, .ref o8, .ref o9])), (o1, .inl (cI, 8192, .inl (mv0 S))), (o2, .inl (cI, 20, .inl (mv10 S))), (o3, .inl (cI, 20, .inl (mv11 S))), (o4, .inl (cJ, 20, .inr (.inl (mv12 S)))), (o5, .inl (cJ, 20, .inr (.inl (mv13 S)))), (o6, .inl (cJ, 20, .inr (.inl (mv14 S)))), (o7, .inl (cJ, 20, .inr (.inl (mv15 S)))), (o8, .inl (cI, 48, .inl (mv16 S))), (o9, .inl (cJ, 80, .inr (.inl (mv17 S))))] s.heap := hP
  have hl := lv_entry ([.ref o0, .int p0]) (n := 2) (Nat.le_of_ble_eq_true rfl)
  rw [lg_entry_eq]
  generalize (lg_sl ([.ref o0, .int p0]) ++ List.replicate (2 - (lg_sl ([.ref o0, .int p0])).length) Slot.unset).toArray = ls at hl ⊢
  have hl : lv_has ls 2 [(0, .ref o0), (1, .int p0)] := hl
  refine lv_iload_n hx hb dX2_make_0 rfl (lv_at hl 1 rfl) ?_
  refine vp_callSi (W.runS (As := [.int p0]) (rest := []) ⟨hx, hb, hml, hown, hts⟩ (kX2_isTable l dC dI p0) (va_cwS 1 hts gX2_make_X2_isTable rfl rfl rfl (by decide +kernel) ⟨Nat.le_of_ble_eq_true rfl, Nat.le_of_ble_eq_true rfl⟩) ⟨fun a U g mk q => by obtain ⟨q0, qt⟩ := q; exact ⟨q0, qt⟩, fun U hU hW => ⟨rfl, trivial⟩⟩ rfl rfl hl.1 rfl (lv_room (Nat.le_of_ble_eq_true rfl)) dX2_make_1 ⟨Nat.zero_le _, Nat.zero_le _⟩) (fun r_1 hr_1 => ?_)
  subst hr_1
  refine lv_if_eq (tgt := 15) hx hb dX2_make_4 (by decide) (fun c_4_2 => ?_) (fun c_4_2 => ?_)
  · refine lv_iconst (v := (-1)) hx hb dX2_make_15 (by decide) ?_
    have hg : (gX2_make S p0) = ((-1), S) := by unfold gX2_make; rw [if_pos c_4_2]
    exact W.iret (v := (-1)) hx hb hr (fun t ht hW => ⟨⟨(-1), S, rfl, ⟨(congrArg Prod.fst hg).symm, (congrArg Prod.snd hg).symm⟩, by rw [ht]; exact hP, va_K.moved hW.alike hK, hD⟩, hS.F ht⟩) hS.2.2 dX2_make_16
  · refine lv_aload_n hx hb dX2_make_7 rfl (lv_at hl 0 rfl) ?_
    refine lv_iload_n hx hb dX2_make_8 rfl (lv_at hl 1 rfl) ?_
    have hPc := hP.sub (ws' := [(o0, .inr (2, [.ref o1, .int (mv1 S), .int (mv2 S), .int (mv3 S), .int (mv4 S), .int (mv5 S), .int (mv6 S), .int (mv7 S), .int (mv8 S), .int (mv9 S), .ref o2, .ref o3, .ref o4, .ref o5, .ref o6, .ref o7, .ref o8, .ref o9])), (o1, .inl (cI, 8192, .inl (mv0 S))), (o2, .inl (cI, 20, .inl (mv10 S))), (o3, .inl (cI, 20, .inl (mv11 S))), (o4, .inl (cJ, 20, .inr (.inl (mv12 S)))), (o5, .inl (cJ, 20, .inr (.inl (mv13 S)))), (o6, .inl (cJ, 20, .inr (.inl (mv14 S)))), (o7, .inl (cJ, 20, .inr (.inl (mv15 S)))), (o8, .inl (cI, 48, .inl (mv16 S))), (o9, .inl (cJ, 80, .inr (.inl (mv17 S))))]) [0, 1, 2, 3, 4, 5, 6, 7, 8, 9] rfl
    have hKc := hK.sub (tys' := [(cI, .int), (cJ, .long)]) [0, 1] rfl
    have hDc := hD.sub (ws' := [(o0, .inr (2, [.ref o1, .int (mv1 S), .int (mv2 S), .int (mv3 S), .int (mv4 S), .int (mv5 S), .int (mv6 S), .int (mv7 S), .int (mv8 S), .int (mv9 S), .ref o2, .ref o3, .ref o4, .ref o5, .ref o6, .ref o7, .ref o8, .ref o9])), (o1, .inl (cI, 8192, .inl (mv0 S))), (o2, .inl (cI, 20, .inl (mv10 S))), (o3, .inl (cI, 20, .inl (mv11 S))), (o4, .inl (cJ, 20, .inr (.inl (mv12 S)))), (o5, .inl (cJ, 20, .inr (.inl (mv13 S)))), (o6, .inl (cJ, 20, .inr (.inl (mv14 S)))), (o7, .inl (cJ, 20, .inr (.inl (mv15 S)))), (o8, .inl (cI, 48, .inl (mv16 S))), (o9, .inl (cJ, 80, .inr (.inl (mv17 S))))]) [0, 1, 2, 3, 4, 5, 6, 7, 8, 9] (by decide) rfl
    have hFc := va_free (wc := [(o0, .inr (2, [.ref o1, .int (mv1 S), .int (mv2 S), .int (mv3 S), .int (mv4 S), .int (mv5 S), .int (mv6 S), .int (mv7 S), .int (mv8 S), .int (mv9 S), .ref o2, .ref o3, .ref o4, .ref o5, .ref o6, .ref o7, .ref o8, .ref o9])), (o1, .inl (cI, 8192, .inl (mv0 S))), (o2, .inl (cI, 20, .inl (mv10 S))), (o3, .inl (cI, 20, .inl (mv11 S))), (o4, .inl (cJ, 20, .inr (.inl (mv12 S)))), (o5, .inl (cJ, 20, .inr (.inl (mv13 S)))), (o6, .inl (cJ, 20, .inr (.inl (mv14 S)))), (o7, .inl (cJ, 20, .inr (.inl (mv15 S)))), (o8, .inl (cI, 48, .inl (mv16 S))), (o9, .inl (cJ, 80, .inr (.inl (mv17 S))))]) hD hS hA [0, 1, 2, 3, 4, 5, 6, 7, 8, 9] rfl
    refine va_calli (va_runV (As := [.int p0]) (rest := []) ⟨hx, hb, hml, hown, hts⟩ (kX2_fill l dC dI o0 o1 o2 o3 o4 o5 o6 o7 o8 o9 cI cJ s.heap.size S p0 (mt_vp c_4_2)) (cwV 1 hts gX2_make_X2_fill rfl rfl rfl (by decide +kernel) ⟨Nat.le_of_ble_eq_true rfl, Nat.le_of_ble_eq_true rfl⟩) ⟨fun a U g mk q => by obtain ⟨q0, q1, qP, qK, qD⟩ := q; exact ⟨q0, q1, qP, va_K.moved (u := U) (U := U.calling g mk a) (Vm.Alike.refl U.vm) qK, qD⟩, va_recv hKc hPc (ci := 2) (q0 := 0) rfl rfl, fun U hU hW => ⟨rfl, by rw [hU], by rw [hU]; exact hPc, va_K.moved hW.alike hKc, hDc.weaken (fun _ _ _ _ => trivial)⟩⟩ rfl rfl hl.1 rfl (lv_room (Nat.le_of_ble_eq_true rfl)) dX2_make_9 ⟨Nat.zero_le _, Nat.zero_le _⟩) hS (fun q _ h => hFc q h) hFc (fun r_3 u_3 t H1 locs ht hvm hw hB hz1 hk1 hS => ?_)
    try dsimp only at hw
    obtain ⟨hw1, hw2⟩ := hw
    subst hw1
    subst hw2
    obtain ⟨hP1, hK1, hD1⟩ := hB
    rw [ht] at hP1
    have hK1 := va_K.moved hvm.symm hK1
    obtain ⟨hP, hD⟩ := va_join (wr := []) (w1 := [(o0, .inr (2, [.ref o1, .int (mv1 ((gX2_fill S p0).2)), .int (mv2 ((gX2_fill S p0).2)), .int (mv3 ((gX2_fill S p0).2)), .int (mv4 ((gX2_fill S p0).2)), .int (mv5 ((gX2_fill S p0).2)), .int (mv6 ((gX2_fill S p0).2)), .int (mv7 ((gX2_fill S p0).2)), .int (mv8 ((gX2_fill S p0).2)), .int (mv9 ((gX2_fill S p0).2)), .ref o2, .ref o3, .ref o4, .ref o5, .ref o6, .ref o7, .ref o8, .ref o9])), (o1, .inl (cI, 8192, .inl (mv0 ((gX2_fill S p0).2)))), (o2, .inl (cI, 20, .inl (mv10 ((gX2_fill S p0).2)))), (o3, .inl (cI, 20, .inl (mv11 ((gX2_fill S p0).2)))), (o4, .inl (cJ, 20, .inr (.inl (mv12 ((gX2_fill S p0).2))))), (o5, .inl (cJ, 20, .inr (.inl (mv13 ((gX2_fill S p0).2))))), (o6, .inl (cJ, 20, .inr (.inl (mv14 ((gX2_fill S p0).2))))), (o7, .inl (cJ, 20, .inr (.inl (mv15 ((gX2_fill S p0).2))))), (o8, .inl (cI, 48, .inl (mv16 ((gX2_fill S p0).2)))), (o9, .inl (cJ, 80, .inr (.inl (mv17 ((gX2_fill S p0).2)))))]) hP hD [0, 1, 2, 3, 4, 5, 6, 7, 8, 9] [] rfl rfl (by decide) (by decide) hk1 hFc hP1 hD1
    generalize H1 = H at hP hS ⊢
    have hP : va_P (dC, dI) vwCl [(o0, .inr (2, [.ref o1, .int (mv1 ((gX2_fill S p0).2)), .int (mv2 ((gX2_fill S p0).2)), .int (mv3 ((gX2_fill S p0).2)), .int (mv4 ((gX2_fill S p0).2)), .int (mv5 ((gX2_fill S p0).2)), .int (mv6 ((gX2_fill S p0).2)), .int (mv7 ((gX2_fill S p0).2)), .int (mv8 ((gX2_fill S p0).2)), .int (mv9 ((gX2_fill S p0).2)), .ref o2, .ref o3, .ref o4, .ref o5, .ref o6, .ref o7, .ref o8, .ref o9])), (o1, .inl (cI, 8192, .inl (mv0 ((gX2_fill S p0).2)))), (o2, .inl (cI, 20, .inl (mv10 ((gX2_fill S p0).2)))), (o3, .inl (cI, 20, .inl (mv11 ((gX2_fill S p0).2)))), (o4, .inl (cJ, 20, .inr (.inl (mv12 ((gX2_fill S p0).2))))), (o5, .inl (cJ, 20, .inr (.inl (mv13 ((gX2_fill S p0).2))))), (o6, .inl (cJ, 20, .inr (.inl (mv14 ((gX2_fill S p0).2))))), (o7, .inl (cJ, 20, .inr (.inl (mv15 ((gX2_fill S p0).2))))), (o8, .inl (cI, 48, .inl (mv16 ((gX2_fill S p0).2)))), (o9, .inl (cJ, 80, .inr (.inl (mv17 ((gX2_fill S p0).2)))))] H := hP.sub [0, 1, 2, 3, 4, 5, 6, 7, 8, 9] rfl
    have hD : va_D A [(o0, .inr (2, [.ref o1, .int (mv1 ((gX2_fill S p0).2)), .int (mv2 ((gX2_fill S p0).2)), .int (mv3 ((gX2_fill S p0).2)), .int (mv4 ((gX2_fill S p0).2)), .int (mv5 ((gX2_fill S p0).2)), .int (mv6 ((gX2_fill S p0).2)), .int (mv7 ((gX2_fill S p0).2)), .int (mv8 ((gX2_fill S p0).2)), .int (mv9 ((gX2_fill S p0).2)), .ref o2, .ref o3, .ref o4, .ref o5, .ref o6, .ref o7, .ref o8, .ref o9])), (o1, .inl (cI, 8192, .inl (mv0 ((gX2_fill S p0).2)))), (o2, .inl (cI, 20, .inl (mv10 ((gX2_fill S p0).2)))), (o3, .inl (cI, 20, .inl (mv11 ((gX2_fill S p0).2)))), (o4, .inl (cJ, 20, .inr (.inl (mv12 ((gX2_fill S p0).2))))), (o5, .inl (cJ, 20, .inr (.inl (mv13 ((gX2_fill S p0).2))))), (o6, .inl (cJ, 20, .inr (.inl (mv14 ((gX2_fill S p0).2))))), (o7, .inl (cJ, 20, .inr (.inl (mv15 ((gX2_fill S p0).2))))), (o8, .inl (cI, 48, .inl (mv16 ((gX2_fill S p0).2)))), (o9, .inl (cJ, 80, .inr (.inl (mv17 ((gX2_fill S p0).2)))))] := hD.sub [0, 1, 2, 3, 4, 5, 6, 7, 8, 9] (by decide) rfl
    refine lv_goto (tgt := 16) hx hb dX2_make_12 (by decide) ?_
    have hg : (gX2_make S p0) = (((gX2_fill S p0).1), ((gX2_fill S p0).2)) := by unfold gX2_make; rw [if_neg c_4_2]
    exact W.iret (v := ((gX2_fill S p0).1)) hx hb hr (fun t ht hW => ⟨⟨((gX2_fill S p0).1), ((gX2_fill S p0).2), rfl, ⟨(congrArg Prod.fst hg).symm, (congrArg Prod.snd hg).symm⟩, by rw [ht]; exact hP, va_K.moved hW.alike hK, hD⟩, hS.F ht⟩) hS.2.2 dX2_make_16

def fX2_copy_j64 (p0 : Int32) (p1 : Int32) (i : Nat) (w1 : MV) : Int32 := (if ((mv0 w1) ((2048 * p1) + (nI i)).toNatClampNeg) = ((mv0 w1) ((2048 * p0) + (nI i)).toNatClampNeg) then 0 else 1)
def st_cpX2 (p0 : Int32) (p1 : Int32) (i : Nat) (w0 : Int32) (w1 : MV) : Int32 × MV := (w0 + (fX2_copy_j64 p0 p1 i w1), ((upd (mv0 w1) ((2048 * p1) + (nI i)).toNatClampNeg ((mv0 w1) ((2048 * p0) + (nI i)).toNatClampNeg)), (mv1 w1), (mv2 w1), (mv3 w1), (mv4 w1), (mv5 w1), (mv6 w1), (mv7 w1), (mv8 w1), (mv9 w1), (mv10 w1), (mv11 w1), (mv12 w1), (mv13 w1), (mv14 w1), (mv15 w1), (mv16 w1), (mv17 w1)))
def it_cpX2 (S : MV) (p0 : Int32) (p1 : Int32) : Nat → Int32 × MV
  | 0 => ((0 : Int32), S)
  | i + 1 => st_cpX2 p0 p1 i (it_cpX2 S p0 p1 i).1 (it_cpX2 S p0 p1 i).2
def gX2_copy (S : MV) (p0 : Int32) (p1 : Int32) : Int32 × MV := (if (fX2_isTable p0) = 0 then ((-1), S) else (if (fX2_isTable p1) = 0 then ((-1), S) else ((it_cpX2 S p0 p1 2048).1, (it_cpX2 S p0 p1 2048).2)))
theorem inX2_X2_copy : ∀ w ∈ wsX20, w ∈ wsX2_copy := by decide +kernel
set_option maxHeartbeats 4000000 in
set_option maxRecDepth 100000 in
theorem kX2_copy (l : Launch) (dC : Nat → ClassId) (dI : Nat → Nat → Nat) (o0 : Nat) (o1 : Nat) (o2 : Nat) (o3 : Nat) (o4 : Nat) (o5 : Nat) (o6 : Nat) (o7 : Nat) (o8 : Nat) (o9 : Nat) (cI : ClassId) (cJ : ClassId) (sz : Nat) (S : MV) (p0 : Int32) (p1 : Int32)  : Met l yX2_copy wsX2_copy ({ frames := 2, cells := 0, slots := 0, locals := 42 } : Room) (va_Pc [.ref o0, .int p0, .int p1] (fun U => U.heap.size = sz ∧ va_P (dC, dI) vwCl [(o0, .inr (2, [.ref o1, .int (mv1 S), .int (mv2 S), .int (mv3 S), .int (mv4 S), .int (mv5 S), .int (mv6 S), .int (mv7 S), .int (mv8 S), .int (mv9 S), .ref o2, .ref o3, .ref o4, .ref o5, .ref o6, .ref o7, .ref o8, .ref o9])), (o1, .inl (cI, 8192, .inl (mv0 S))), (o2, .inl (cI, 20, .inl (mv10 S))), (o3, .inl (cI, 20, .inl (mv11 S))), (o4, .inl (cJ, 20, .inr (.inl (mv12 S)))), (o5, .inl (cJ, 20, .inr (.inl (mv13 S)))), (o6, .inl (cJ, 20, .inr (.inl (mv14 S)))), (o7, .inl (cJ, 20, .inr (.inl (mv15 S)))), (o8, .inl (cI, 48, .inl (mv16 S))), (o9, .inl (cJ, 80, .inr (.inl (mv17 S))))] U.heap ∧ va_K (dC, dI) vwCl [(cI, .int), (cJ, .long)] U ∧ va_D (fun _ => True) [(o0, .inr (2, [.ref o1, .int (mv1 S), .int (mv2 S), .int (mv3 S), .int (mv4 S), .int (mv5 S), .int (mv6 S), .int (mv7 S), .int (mv8 S), .int (mv9 S), .ref o2, .ref o3, .ref o4, .ref o5, .ref o6, .ref o7, .ref o8, .ref o9])), (o1, .inl (cI, 8192, .inl (mv0 S))), (o2, .inl (cI, 20, .inl (mv10 S))), (o3, .inl (cI, 20, .inl (mv11 S))), (o4, .inl (cJ, 20, .inr (.inl (mv12 S)))), (o5, .inl (cJ, 20, .inr (.inl (mv13 S)))), (o6, .inl (cJ, 20, .inr (.inl (mv14 S)))), (o7, .inl (cJ, 20, .inr (.inl (mv15 S)))), (o8, .inl (cI, 48, .inl (mv16 S))), (o9, .inl (cJ, 80, .inr (.inl (mv17 S))))])) (va_Qi (fun (r : Int32) (u : MV) => r = (gX2_copy S p0 p1).1 ∧ u = (gX2_copy S p0 p1).2) (fun (u : MV) (t : State) => va_P (dC, dI) vwCl [(o0, .inr (2, [.ref o1, .int (mv1 u), .int (mv2 u), .int (mv3 u), .int (mv4 u), .int (mv5 u), .int (mv6 u), .int (mv7 u), .int (mv8 u), .int (mv9 u), .ref o2, .ref o3, .ref o4, .ref o5, .ref o6, .ref o7, .ref o8, .ref o9])), (o1, .inl (cI, 8192, .inl (mv0 u))), (o2, .inl (cI, 20, .inl (mv10 u))), (o3, .inl (cI, 20, .inl (mv11 u))), (o4, .inl (cJ, 20, .inr (.inl (mv12 u)))), (o5, .inl (cJ, 20, .inr (.inl (mv13 u)))), (o6, .inl (cJ, 20, .inr (.inl (mv14 u)))), (o7, .inl (cJ, 20, .inr (.inl (mv15 u)))), (o8, .inl (cI, 48, .inl (mv16 u))), (o9, .inl (cJ, 80, .inr (.inl (mv17 u))))] t.heap ∧ va_K (dC, dI) vwCl [(cI, .int), (cJ, .long)] t ∧ va_D (va_A [(o0, .inr (2, [.ref o1, .int (mv1 S), .int (mv2 S), .int (mv3 S), .int (mv4 S), .int (mv5 S), .int (mv6 S), .int (mv7 S), .int (mv8 S), .int (mv9 S), .ref o2, .ref o3, .ref o4, .ref o5, .ref o6, .ref o7, .ref o8, .ref o9])), (o1, .inl (cI, 8192, .inl (mv0 S))), (o2, .inl (cI, 20, .inl (mv10 S))), (o3, .inl (cI, 20, .inl (mv11 S))), (o4, .inl (cJ, 20, .inr (.inl (mv12 S)))), (o5, .inl (cJ, 20, .inr (.inl (mv13 S)))), (o6, .inl (cJ, 20, .inr (.inl (mv14 S)))), (o7, .inl (cJ, 20, .inr (.inl (mv15 S)))), (o8, .inl (cI, 48, .inl (mv16 S))), (o9, .inl (cJ, 80, .inr (.inl (mv17 S))))] sz) [(o0, .inr (2, [.ref o1, .int (mv1 u), .int (mv2 u), .int (mv3 u), .int (mv4 u), .int (mv5 u), .int (mv6 u), .int (mv7 u), .int (mv8 u), .int (mv9 u), .ref o2, .ref o3, .ref o4, .ref o5, .ref o6, .ref o7, .ref o8, .ref o9])), (o1, .inl (cI, 8192, .inl (mv0 u))), (o2, .inl (cI, 20, .inl (mv10 u))), (o3, .inl (cI, 20, .inl (mv11 u))), (o4, .inl (cJ, 20, .inr (.inl (mv12 u)))), (o5, .inl (cJ, 20, .inr (.inl (mv13 u)))), (o6, .inl (cJ, 20, .inr (.inl (mv14 u)))), (o7, .inl (cJ, 20, .inr (.inl (mv15 u)))), (o8, .inl (cI, 48, .inl (mv16 u))), (o9, .inl (cJ, 80, .inr (.inl (mv17 u))))]) (va_A [(o0, .inr (2, [.ref o1, .int (mv1 S), .int (mv2 S), .int (mv3 S), .int (mv4 S), .int (mv5 S), .int (mv6 S), .int (mv7 S), .int (mv8 S), .int (mv9 S), .ref o2, .ref o3, .ref o4, .ref o5, .ref o6, .ref o7, .ref o8, .ref o9])), (o1, .inl (cI, 8192, .inl (mv0 S))), (o2, .inl (cI, 20, .inl (mv10 S))), (o3, .inl (cI, 20, .inl (mv11 S))), (o4, .inl (cJ, 20, .inr (.inl (mv12 S)))), (o5, .inl (cJ, 20, .inr (.inl (mv13 S)))), (o6, .inl (cJ, 20, .inr (.inl (mv14 S)))), (o7, .inl (cJ, 20, .inr (.inl (mv15 S)))), (o8, .inl (cI, 48, .inl (mv16 S))), (o9, .inl (cJ, 80, .inr (.inl (mv17 S))))] sz)) 0 0 (va_A [(o0, .inr (2, [.ref o1, .int (mv1 S), .int (mv2 S), .int (mv3 S), .int (mv4 S), .int (mv5 S), .int (mv6 S), .int (mv7 S), .int (mv8 S), .int (mv9 S), .ref o2, .ref o3, .ref o4, .ref o5, .ref o6, .ref o7, .ref o8, .ref o9])), (o1, .inl (cI, 8192, .inl (mv0 S))), (o2, .inl (cI, 20, .inl (mv10 S))), (o3, .inl (cI, 20, .inl (mv11 S))), (o4, .inl (cJ, 20, .inr (.inl (mv12 S)))), (o5, .inl (cJ, 20, .inr (.inl (mv13 S)))), (o6, .inl (cJ, 20, .inr (.inl (mv14 S)))), (o7, .inl (cJ, 20, .inr (.inl (mv15 S)))), (o8, .inl (cI, 48, .inl (mv16 S))), (o9, .inl (cJ, 80, .inr (.inl (mv17 S))))] sz) := by
  refine Met.ofW (cc := cX2_copy) (maxL := 5) (ret := (some .int)) (by decide) rfl ?_
  intro p e s m args below meth c s₁ B hml hv
  obtain ⟨rfl, hsz, hP, hK, hD0⟩ := hv
  have hx := B.exec
  have hb := B.bytes
  have hr := B.returns
  have hts := atoms_spec (ws := wsX2_copy) B.pre
  have hown : s.vm.findClass RX2 = some m.cls := findClass_of_methodNamed B.named
  have hlocks := B.notSynchronized
  subst hsz
  have hD := hD0.self (sz := s.heap.size)
  generalize hAe : va_A [(o0, .inr (2, [.ref o1, .int (mv1 S), .int (mv2 S), .int (mv3 S), .int (mv4 S), .int (mv5 S), .int (mv6 S), .int (mv7 S), .int (mv8 S), .int (mv9 S), .ref o2, .ref o3, .ref o4, .ref o5, .ref o6, .ref o7, .ref o8, .ref o9])), (o1, .inl (cI, 8192, .inl (mv0 S))), (o2, .inl (cI, 20, .inl (mv10 S))), (o3, .inl (cI, 20, .inl (mv11 S))), (o4, .inl (cJ, 20, .inr (.inl (mv12 S)))), (o5, .inl (cJ, 20, .inr (.inl (mv13 S)))), (o6, .inl (cJ, 20, .inr (.inl (mv14 S)))), (o7, .inl (cJ, 20, .inr (.inl (mv15 S)))), (o8, .inl (cI, 48, .inl (mv16 S))), (o9, .inl (cJ, 80, .inr (.inl (mv17 S))))] s.heap.size = A at hD  ⊢
  have hA : ∀ q : Nat, s.heap.size ≤ q → A q := fun q h => by rw [← hAe]; exact Or.inr h
  have hS : va_S A s.heap s.heap [] := va_S.rf
  have hP : va_P (dC, dI) vwCl [(o0, .inr (2, [.ref o1, .int (mv1 S), .int (mv2 S), .int (mv3 S), .int (mv4 S), .int (mv5 S), .int (mv6 S), .int (mv7 S), .int (mv8 S), .int (mv9 S), .ref o2, .ref o3, .ref o4, .ref o5, .ref o6, .ref o7, .ref o8, .ref o9])), (o1, .inl (cI, 8192, .inl (mv0 S))), (o2, .inl (cI, 20, .inl (mv10 S))), (o3, .inl (cI, 20, .inl (mv11 S))), (o4, .inl (cJ, 20, .inr (.inl (mv12 S)))), (o5, .inl (cJ, 20, .inr (.inl (mv13 S)))), (o6, .inl (cJ, 20, .inr (.inl (mv14 S)))), (o7, .inl (cJ, 20, .inr (.inl (mv15 S)))), (o8, .inl (cI, 48, .inl (mv16 S))), (o9, .inl (cJ, 80, .inr (.inl (mv17 S))))] s.heap := hP
  have hl := lv_entry ([.ref o0, .int p0, .int p1]) (n := 5) (Nat.le_of_ble_eq_true rfl)
  rw [lg_entry_eq]
  generalize (lg_sl ([.ref o0, .int p0, .int p1]) ++ List.replicate (5 - (lg_sl ([.ref o0, .int p0, .int p1])).length) Slot.unset).toArray = ls at hl ⊢
  have hl : lv_has ls 5 [(0, .ref o0), (1, .int p0), (2, .int p1)] := hl
  refine lv_iload_n hx hb dX2_copy_0 rfl (lv_at hl 1 rfl) ?_
  refine vp_callSi (W.runS (As := [.int p0]) (rest := []) ⟨hx, hb, hml, hown, hts⟩ (kX2_isTable l dC dI p0) (va_cwS 1 hts gX2_copy_X2_isTable rfl rfl rfl (by decide +kernel) ⟨Nat.le_of_ble_eq_true rfl, Nat.le_of_ble_eq_true rfl⟩) ⟨fun a U g mk q => by obtain ⟨q0, qt⟩ := q; exact ⟨q0, qt⟩, fun U hU hW => ⟨rfl, trivial⟩⟩ rfl rfl hl.1 rfl (lv_room (Nat.le_of_ble_eq_true rfl)) dX2_copy_1 ⟨Nat.zero_le _, Nat.zero_le _⟩) (fun r_1 hr_1 => ?_)
  subst hr_1
  refine lv_if_eq (tgt := 14) hx hb dX2_copy_4 (by decide) (fun c_4_2 => ?_) (fun c_4_2 => ?_)
  · refine lv_iconst (v := (-1)) hx hb dX2_copy_14 (by decide) ?_
    have hg : (gX2_copy S p0 p1) = ((-1), S) := by unfold gX2_copy; rw [if_pos c_4_2]
    exact W.iret (v := (-1)) hx hb hr (fun t ht hW => ⟨⟨(-1), S, rfl, ⟨(congrArg Prod.fst hg).symm, (congrArg Prod.snd hg).symm⟩, by rw [ht]; exact hP, va_K.moved hW.alike hK, hD⟩, hS.F ht⟩) hS.2.2 dX2_copy_15
  · refine lv_iload_n hx hb dX2_copy_7 rfl (lv_at hl 2 rfl) ?_
    refine vp_callSi (W.runS (As := [.int p1]) (rest := []) ⟨hx, hb, hml, hown, hts⟩ (kX2_isTable l dC dI p1) (va_cwS 1 hts gX2_copy_X2_isTable rfl rfl rfl (by decide +kernel) ⟨Nat.le_of_ble_eq_true rfl, Nat.le_of_ble_eq_true rfl⟩) ⟨fun a U g mk q => by obtain ⟨q0, qt⟩ := q; exact ⟨q0, qt⟩, fun U hU hW => ⟨rfl, trivial⟩⟩ rfl rfl hl.1 rfl (lv_room (Nat.le_of_ble_eq_true rfl)) dX2_copy_8 ⟨Nat.zero_le _, Nat.zero_le _⟩) (fun r_3 hr_3 => ?_)
    subst hr_3
    refine lv_if_ne (tgt := 16) hx hb dX2_copy_11 (by decide) (fun c_11_4 => ?_) (fun c_11_4 => ?_)
    · refine lv_iconst (v := 0) hx hb dX2_copy_16 (by decide) ?_
      refine lv_istore_n (lv' := [(3, .int 0), (0, .ref o0), (1, .int p0), (2, .int p1)]) hx hb dX2_copy_17 rfl hl (by decide) rfl (fun ls hl => ?_)
      refine lv_iconst (v := 0) hx hb dX2_copy_18 (by decide) ?_
      refine lv_istore (lv' := [(4, .int 0), (3, .int 0), (0, .ref o0), (1, .int p0), (2, .int p1)]) hx hb dX2_copy_19 hl (by decide) rfl (fun ls hl => ?_)
      refine ax_loopS (pc := 21) (fun i H locs ls => ∃ w0 : Int32, ∃ w1 : MV, w0 = (it_cpX2 S p0 p1 i).1 ∧ w1 = (it_cpX2 S p0 p1 i).2 ∧ va_P (dC, dI) vwCl [(o0, .inr (2, [.ref o1, .int (mv1 w1), .int (mv2 w1), .int (mv3 w1), .int (mv4 w1), .int (mv5 w1), .int (mv6 w1), .int (mv7 w1), .int (mv8 w1), .int (mv9 w1), .ref o2, .ref o3, .ref o4, .ref o5, .ref o6, .ref o7, .ref o8, .ref o9])), (o1, .inl (cI, 8192, .inl (mv0 w1))), (o2, .inl (cI, 20, .inl (mv10 w1))), (o3, .inl (cI, 20, .inl (mv11 w1))), (o4, .inl (cJ, 20, .inr (.inl (mv12 w1)))), (o5, .inl (cJ, 20, .inr (.inl (mv13 w1)))), (o6, .inl (cJ, 20, .inr (.inl (mv14 w1)))), (o7, .inl (cJ, 20, .inr (.inl (mv15 w1)))), (o8, .inl (cI, 48, .inl (mv16 w1))), (o9, .inl (cJ, 80, .inr (.inl (mv17 w1))))] H ∧ va_D A [(o0, .inr (2, [.ref o1, .int (mv1 w1), .int (mv2 w1), .int (mv3 w1), .int (mv4 w1), .int (mv5 w1), .int (mv6 w1), .int (mv7 w1), .int (mv8 w1), .int (mv9 w1), .ref o2, .ref o3, .ref o4, .ref o5, .ref o6, .ref o7, .ref o8, .ref o9])), (o1, .inl (cI, 8192, .inl (mv0 w1))), (o2, .inl (cI, 20, .inl (mv10 w1))), (o3, .inl (cI, 20, .inl (mv11 w1))), (o4, .inl (cJ, 20, .inr (.inl (mv12 w1)))), (o5, .inl (cJ, 20, .inr (.inl (mv13 w1)))), (o6, .inl (cJ, 20, .inr (.inl (mv14 w1)))), (o7, .inl (cJ, 20, .inr (.inl (mv15 w1)))), (o8, .inl (cI, 48, .inl (mv16 w1))), (o9, .inl (cJ, 80, .inr (.inl (mv17 w1))))] ∧ va_S A s.heap H locs ∧ lv_has ls 5 [(4, .int (nI i)), (3, .int w0), (0, .ref o0), (1, .int p0), (2, .int p1)]) 2048 (fun i hii ihi H locs ls hIi => ?_) ⟨(0 : Int32), S, rfl, rfl, hP, hD, hS, lv_sub hl [0, 1, 2, 3, 4] rfl⟩
      obtain ⟨w0, w1, ew0, ew1, hP, hD, hS, hl⟩ := hIi
      have hP : va_P (dC, dI) vwCl [(o0, .inr (2, [.ref o1, .int (mv1 w1), .int (mv2 w1), .int (mv3 w1), .int (mv4 w1), .int (mv5 w1), .int (mv6 w1), .int (mv7 w1), .int (mv8 w1), .int (mv9 w1), .ref o2, .ref o3, .ref o4, .ref o5, .ref o6, .ref o7, .ref o8, .ref o9])), (o1, .inl (cI, 8192, .inl (mv0 w1))), (o2, .inl (cI, 20, .inl (mv10 w1))), (o3, .inl (cI, 20, .inl (mv11 w1))), (o4, .inl (cJ, 20, .inr (.inl (mv12 w1)))), (o5, .inl (cJ, 20, .inr (.inl (mv13 w1)))), (o6, .inl (cJ, 20, .inr (.inl (mv14 w1)))), (o7, .inl (cJ, 20, .inr (.inl (mv15 w1)))), (o8, .inl (cI, 48, .inl (mv16 w1))), (o9, .inl (cJ, 80, .inr (.inl (mv17 w1))))] H := hP
      have hD : va_D A [(o0, .inr (2, [.ref o1, .int (mv1 w1), .int (mv2 w1), .int (mv3 w1), .int (mv4 w1), .int (mv5 w1), .int (mv6 w1), .int (mv7 w1), .int (mv8 w1), .int (mv9 w1), .ref o2, .ref o3, .ref o4, .ref o5, .ref o6, .ref o7, .ref o8, .ref o9])), (o1, .inl (cI, 8192, .inl (mv0 w1))), (o2, .inl (cI, 20, .inl (mv10 w1))), (o3, .inl (cI, 20, .inl (mv11 w1))), (o4, .inl (cJ, 20, .inr (.inl (mv12 w1)))), (o5, .inl (cJ, 20, .inr (.inl (mv13 w1)))), (o6, .inl (cJ, 20, .inr (.inl (mv14 w1)))), (o7, .inl (cJ, 20, .inr (.inl (mv15 w1)))), (o8, .inl (cI, 48, .inl (mv16 w1))), (o9, .inl (cJ, 80, .inr (.inl (mv17 w1))))] := hD
      refine lv_iload hx hb dX2_copy_21 (lv_at hl 0 rfl) ?_
      refine lv_sipush (v := 2048) hx hb dX2_copy_23 (by decide) ?_
      refine lv_icmp_ge (tgt := 98) hx hb dX2_copy_26 (by decide) (fun c_26_5 => ?_) (fun c_26_5 => ?_)
      · obtain rfl : i = 2048 := ax_end (N := 2048) rfl (by decide) hii c_26_5
        subst ew0
        subst ew1
        refine lv_iload_n hx hb dX2_copy_98 rfl (lv_at hl 1 rfl) ?_
        have hg : (gX2_copy S p0 p1) = ((it_cpX2 S p0 p1 2048).1, (it_cpX2 S p0 p1 2048).2) := by unfold gX2_copy; rw [if_neg c_4_2, if_neg c_11_4]
        exact W.iret (v := (it_cpX2 S p0 p1 2048).1) hx hb hr (fun t ht hW => ⟨⟨(it_cpX2 S p0 p1 2048).1, (it_cpX2 S p0 p1 2048).2, rfl, ⟨(congrArg Prod.fst hg).symm, (congrArg Prod.snd hg).symm⟩, by rw [ht]; exact hP, va_K.moved hW.alike hK, hD⟩, hS.F ht⟩) hS.2.2 dX2_copy_99
      · have hlti : i < 2048 := ax_more (N := 2048) rfl (by decide) hii c_26_5
        refine lv_iload_n hx hb dX2_copy_29 rfl (lv_at hl 1 rfl) ?_
        refine lv_aload_n hx hb dX2_copy_30 rfl (lv_at hl 2 rfl) ?_
        refine va_get (D := (dC, dI)) (ci := 2) (v := .ref o1) (C := RX2) (T := TX2) (N := 18) hx hb hts inX2_X2_copy hown hK hP 0 rfl rfl 0 (by decide) (hts (.fieldLink RX2 7 "DigitDividerModel" "tables" "[I") (by decide +kernel)) (fun _ h9 => h9) rfl dX2_copy_31 ?_
        refine lv_sipush (v := 2048) hx hb dX2_copy_34 (by decide) ?_
        refine lv_iload_n hx hb dX2_copy_37 rfl (lv_at hl 4 rfl) ?_
        refine lv_imul hx hb dX2_copy_38 ?_
        refine lv_iload hx hb dX2_copy_39 (lv_at hl 0 rfl) ?_
        refine lv_iadd hx hb dX2_copy_41 ?_
        refine va_iald hx hb hK hP 1 0 rfl rfl (mt_in (mt_vp c_11_4) hlti) dX2_copy_42 ?_
        refine lv_aload_n hx hb dX2_copy_43 rfl (lv_at hl 2 rfl) ?_
        refine va_get (D := (dC, dI)) (ci := 2) (v := .ref o1) (C := RX2) (T := TX2) (N := 18) hx hb hts inX2_X2_copy hown hK hP 0 rfl rfl 0 (by decide) (hts (.fieldLink RX2 7 "DigitDividerModel" "tables" "[I") (by decide +kernel)) (fun _ h9 => h9) rfl dX2_copy_44 ?_
        refine lv_sipush (v := 2048) hx hb dX2_copy_47 (by decide) ?_
        refine lv_iload_n hx hb dX2_copy_50 rfl (lv_at hl 3 rfl) ?_
        refine lv_imul hx hb dX2_copy_51 ?_
        refine lv_iload hx hb dX2_copy_52 (lv_at hl 0 rfl) ?_
        refine lv_iadd hx hb dX2_copy_54 ?_
        refine va_iald hx hb hK hP 1 0 rfl rfl (mt_in (mt_vp c_4_2) hlti) dX2_copy_55 ?_
        refine ax_joinI (J := 64) (v := (fX2_copy_j64 p0 p1 i w1)) (ls := ls) (rest := [.int w0]) ?_ (fun kj_7 => ?_)
        · refine lv_iadd hx hb dX2_copy_64 ?_
          refine lv_istore_n (lv' := [(3, .int (w0 + (fX2_copy_j64 p0 p1 i w1))), (4, .int (nI i)), (0, .ref o0), (1, .int p0), (2, .int p1)]) hx hb dX2_copy_65 rfl hl (by decide) rfl (fun ls hl => ?_)
          refine lv_aload_n hx hb dX2_copy_66 rfl (lv_at hl 2 rfl) ?_
          refine va_get (D := (dC, dI)) (ci := 2) (v := .ref o1) (C := RX2) (T := TX2) (N := 18) hx hb hts inX2_X2_copy hown hK hP 0 rfl rfl 0 (by decide) (hts (.fieldLink RX2 7 "DigitDividerModel" "tables" "[I") (by decide +kernel)) (fun _ h9 => h9) rfl dX2_copy_67 ?_
          refine lv_sipush (v := 2048) hx hb dX2_copy_70 (by decide) ?_
          refine lv_iload_n hx hb dX2_copy_73 rfl (lv_at hl 4 rfl) ?_
          refine lv_imul hx hb dX2_copy_74 ?_
          refine lv_iload hx hb dX2_copy_75 (lv_at hl 1 rfl) ?_
          refine lv_iadd hx hb dX2_copy_77 ?_
          refine lv_aload_n hx hb dX2_copy_78 rfl (lv_at hl 2 rfl) ?_
          refine va_get (D := (dC, dI)) (ci := 2) (v := .ref o1) (C := RX2) (T := TX2) (N := 18) hx hb hts inX2_X2_copy hown hK hP 0 rfl rfl 0 (by decide) (hts (.fieldLink RX2 7 "DigitDividerModel" "tables" "[I") (by decide +kernel)) (fun _ h9 => h9) rfl dX2_copy_79 ?_
          refine lv_sipush (v := 2048) hx hb dX2_copy_82 (by decide) ?_
          refine lv_iload_n hx hb dX2_copy_85 rfl (lv_at hl 3 rfl) ?_
          refine lv_imul hx hb dX2_copy_86 ?_
          refine lv_iload hx hb dX2_copy_87 (lv_at hl 1 rfl) ?_
          refine lv_iadd hx hb dX2_copy_89 ?_
          refine va_iald hx hb hK hP 1 0 rfl rfl (mt_in (mt_vp c_4_2) hlti) dX2_copy_90 ?_
          refine va_iast hx hb hK hP hD hS 1 0 rfl rfl (mt_in (mt_vp c_11_4) hlti) dX2_copy_91 (fun H locs hP hD hS => ?_)
          have hP : va_P (dC, dI) vwCl [(o0, .inr (2, [.ref o1, .int (mv1 w1), .int (mv2 w1), .int (mv3 w1), .int (mv4 w1), .int (mv5 w1), .int (mv6 w1), .int (mv7 w1), .int (mv8 w1), .int (mv9 w1), .ref o2, .ref o3, .ref o4, .ref o5, .ref o6, .ref o7, .ref o8, .ref o9])), (o1, .inl (cI, 8192, .inl (upd (mv0 w1) ((2048 * p1) + (nI i)).toNatClampNeg ((mv0 w1) ((2048 * p0) + (nI i)).toNatClampNeg)))), (o2, .inl (cI, 20, .inl (mv10 w1))), (o3, .inl (cI, 20, .inl (mv11 w1))), (o4, .inl (cJ, 20, .inr (.inl (mv12 w1)))), (o5, .inl (cJ, 20, .inr (.inl (mv13 w1)))), (o6, .inl (cJ, 20, .inr (.inl (mv14 w1)))), (o7, .inl (cJ, 20, .inr (.inl (mv15 w1)))), (o8, .inl (cI, 48, .inl (mv16 w1))), (o9, .inl (cJ, 80, .inr (.inl (mv17 w1))))] H := hP
          have hD : va_D A [(o0, .inr (2, [.ref o1, .int (mv1 w1), .int (mv2 w1), .int (mv3 w1), .int (mv4 w1), .int (mv5 w1), .int (mv6 w1), .int (mv7 w1), .int (mv8 w1), .int (mv9 w1), .ref o2, .ref o3, .ref o4, .ref o5, .ref o6, .ref o7, .ref o8, .ref o9])), (o1, .inl (cI, 8192, .inl (upd (mv0 w1) ((2048 * p1) + (nI i)).toNatClampNeg ((mv0 w1) ((2048 * p0) + (nI i)).toNatClampNeg)))), (o2, .inl (cI, 20, .inl (mv10 w1))), (o3, .inl (cI, 20, .inl (mv11 w1))), (o4, .inl (cJ, 20, .inr (.inl (mv12 w1)))), (o5, .inl (cJ, 20, .inr (.inl (mv13 w1)))), (o6, .inl (cJ, 20, .inr (.inl (mv14 w1)))), (o7, .inl (cJ, 20, .inr (.inl (mv15 w1)))), (o8, .inl (cI, 48, .inl (mv16 w1))), (o9, .inl (cJ, 80, .inr (.inl (mv17 w1))))] := hD
          refine lv_iinc (v := nI (i + 1)) (lv' := [(4, .int (nI (i + 1))), (3, .int (w0 + (fX2_copy_j64 p0 p1 i w1))), (0, .ref o0), (1, .int p0), (2, .int p1)]) hx hb dX2_copy_92 hl (k := 1) rfl (nI_1 _) (by decide) rfl (fun ls hl => ?_)
          refine lv_goto (tgt := 21) hx hb dX2_copy_95 (by decide) ?_
          have eb : st_cpX2 p0 p1 i w0 w1 = (w0 + (fX2_copy_j64 p0 p1 i w1), ((upd (mv0 w1) ((2048 * p1) + (nI i)).toNatClampNeg ((mv0 w1) ((2048 * p0) + (nI i)).toNatClampNeg)), (mv1 w1), (mv2 w1), (mv3 w1), (mv4 w1), (mv5 w1), (mv6 w1), (mv7 w1), (mv8 w1), (mv9 w1), (mv10 w1), (mv11 w1), (mv12 w1), (mv13 w1), (mv14 w1), (mv15 w1), (mv16 w1), (mv17 w1))) := rfl
          have ebb : (it_cpX2 S p0 p1 (i + 1)) = (w0 + (fX2_copy_j64 p0 p1 i w1), ((upd (mv0 w1) ((2048 * p1) + (nI i)).toNatClampNeg ((mv0 w1) ((2048 * p0) + (nI i)).toNatClampNeg)), (mv1 w1), (mv2 w1), (mv3 w1), (mv4 w1), (mv5 w1), (mv6 w1), (mv7 w1), (mv8 w1), (mv9 w1), (mv10 w1), (mv11 w1), (mv12 w1), (mv13 w1), (mv14 w1), (mv15 w1), (mv16 w1), (mv17 w1))) := by show st_cpX2 p0 p1 i (it_cpX2 S p0 p1 i).1 (it_cpX2 S p0 p1 i).2 = _; rw [← ew0, ← ew1]; exact eb
          exact ihi hlti _ _ _ ⟨w0 + (fX2_copy_j64 p0 p1 i w1), ((upd (mv0 w1) ((2048 * p1) + (nI i)).toNatClampNeg ((mv0 w1) ((2048 * p0) + (nI i)).toNatClampNeg)), (mv1 w1), (mv2 w1), (mv3 w1), (mv4 w1), (mv5 w1), (mv6 w1), (mv7 w1), (mv8 w1), (mv9 w1), (mv10 w1), (mv11 w1), (mv12 w1), (mv13 w1), (mv14 w1), (mv15 w1), (mv16 w1), (mv17 w1)), (congrArg Prod.fst ebb).symm, (congrArg Prod.snd ebb).symm, hP, hD, hS, lv_sub hl [0, 1, 2, 3, 4] rfl⟩
        · refine lv_icmp_ne (tgt := 63) hx hb dX2_copy_56 (by decide) (fun c_56_6 => ?_) (fun c_56_6 => ?_)
          · refine lv_iconst (v := 1) hx hb dX2_copy_63 (by decide) ?_
            exact kj_7 _ (by unfold fX2_copy_j64; rw [if_neg c_56_6])
          · refine lv_iconst (v := 0) hx hb dX2_copy_59 (by decide) ?_
            refine lv_goto (tgt := 64) hx hb dX2_copy_60 (by decide) ?_
            exact kj_7 _ (by unfold fX2_copy_j64; rw [if_pos c_56_6])
    · refine lv_iconst (v := (-1)) hx hb dX2_copy_14 (by decide) ?_
      have hg : (gX2_copy S p0 p1) = ((-1), S) := by unfold gX2_copy; rw [if_neg c_4_2, if_pos c_11_4]
      exact W.iret (v := (-1)) hx hb hr (fun t ht hW => ⟨⟨(-1), S, rfl, ⟨(congrArg Prod.fst hg).symm, (congrArg Prod.snd hg).symm⟩, by rw [ht]; exact hP, va_K.moved hW.alike hK, hD⟩, hS.F ht⟩) hS.2.2 dX2_copy_15

def fX2_good_j36 (p0 : Int32) (p1 : Int32) (p2 : Int32) : Int32 := (if (fX2_isCell p0 p1) = 0 then (-1) else (if (fX2_in p2 ((-2)) (2)) = 0 then (-1) else (if (fX2_isGood p0 p1 p2) = 0 then 0 else 1)))
def fX2_good (p0 : Int32) (p1 : Int32) (p2 : Int32) : Int32 := (fX2_good_j36 p0 p1 p2)
set_option maxHeartbeats 4000000 in
set_option maxRecDepth 100000 in
theorem kX2_good (l : Launch) (dC : Nat → ClassId) (dI : Nat → Nat → Nat) (o0 : Nat) (o1 : Nat) (o2 : Nat) (o3 : Nat) (o4 : Nat) (o5 : Nat) (o6 : Nat) (o7 : Nat) (o8 : Nat) (o9 : Nat) (cI : ClassId) (cJ : ClassId) (S : MV) (p0 : Int32) (p1 : Int32) (p2 : Int32)  : Met l yX2_good wsX2_good ({ frames := 2, cells := 0, slots := 0, locals := 47 } : Room) (va_Pc [.ref o0, .int p0, .int p1, .int p2] (fun U => va_P (dC, dI) vwCl [(o0, .inr (2, [.ref o1, .int (mv1 S), .int (mv2 S), .int (mv3 S), .int (mv4 S), .int (mv5 S), .int (mv6 S), .int (mv7 S), .int (mv8 S), .int (mv9 S), .ref o2, .ref o3, .ref o4, .ref o5, .ref o6, .ref o7, .ref o8, .ref o9])), (o1, .inl (cI, 8192, .inl (mv0 S))), (o2, .inl (cI, 20, .inl (mv10 S))), (o3, .inl (cI, 20, .inl (mv11 S))), (o4, .inl (cJ, 20, .inr (.inl (mv12 S)))), (o5, .inl (cJ, 20, .inr (.inl (mv13 S)))), (o6, .inl (cJ, 20, .inr (.inl (mv14 S)))), (o7, .inl (cJ, 20, .inr (.inl (mv15 S)))), (o8, .inl (cI, 48, .inl (mv16 S))), (o9, .inl (cJ, 80, .inr (.inl (mv17 S))))] U.heap ∧ va_K (dC, dI) vwCl [(cI, .int), (cJ, .long)] U)) (vp_Si (fun r : Int32 => r = (fX2_good p0 p1 p2))) 0 0 (fun _ => False) := by
  refine Met.ofW (cc := cX2_good) (maxL := 4) (ret := (some .int)) (by decide) rfl ?_
  intro p e s m args below meth c s₁ B hml hv
  obtain ⟨rfl, hP, hK⟩ := hv
  have hx := B.exec
  have hb := B.bytes
  have hr := B.returns
  have hts := atoms_spec (ws := wsX2_good) B.pre
  have hown : s.vm.findClass RX2 = some m.cls := findClass_of_methodNamed B.named
  have hlocks := B.notSynchronized
  have hS : va_S (fun _ => False) s.heap s.heap [] := va_S.rf
  have hl := lv_entry ([.ref o0, .int p0, .int p1, .int p2]) (n := 4) (Nat.le_of_ble_eq_true rfl)
  rw [lg_entry_eq]
  generalize (lg_sl ([.ref o0, .int p0, .int p1, .int p2]) ++ List.replicate (4 - (lg_sl ([.ref o0, .int p0, .int p1, .int p2])).length) Slot.unset).toArray = ls at hl ⊢
  have hl : lv_has ls 4 [(0, .ref o0), (1, .int p0), (2, .int p1), (3, .int p2)] := hl
  refine lv_iload_n hx hb dX2_good_0 rfl (lv_at hl 1 rfl) ?_
  refine lv_iload_n hx hb dX2_good_1 rfl (lv_at hl 2 rfl) ?_
  refine vp_callSi (W.runS (As := [.int p0, .int p1]) (rest := []) ⟨hx, hb, hml, hown, hts⟩ (kX2_isCell l dC dI p0 p1) (va_cwS 2 hts gX2_good_X2_isCell rfl rfl rfl (by decide +kernel) ⟨Nat.le_of_ble_eq_true rfl, Nat.le_of_ble_eq_true rfl⟩) ⟨fun a U g mk q => by obtain ⟨q0, qt⟩ := q; exact ⟨q0, qt⟩, fun U hU hW => ⟨rfl, trivial⟩⟩ rfl rfl hl.1 rfl (lv_room (Nat.le_of_ble_eq_true rfl)) dX2_good_2 ⟨Nat.zero_le _, Nat.zero_le _⟩) (fun r_1 hr_1 => ?_)
  subst hr_1
  refine ax_joinI (J := 36) (v := (fX2_good_j36 p0 p1 p2)) (ls := ls) (rest := []) ?_ (fun kj_7 => ?_)
  · exact W.iret (v := (fX2_good_j36 p0 p1 p2)) hx hb hr (fun t ht hW => ⟨(fX2_good_j36 p0 p1 p2), rfl, rfl, ht⟩) (fun q h => absurd h List.not_mem_nil) dX2_good_36
  · refine lv_if_eq (tgt := 18) hx hb dX2_good_5 (by decide) (fun c_5_2 => ?_) (fun c_5_2 => ?_)
    · refine lv_iconst (v := (-1)) hx hb dX2_good_18 (by decide) ?_
      refine lv_goto (tgt := 36) hx hb dX2_good_19 (by decide) ?_
      exact kj_7 _ (by unfold fX2_good_j36; rw [if_pos c_5_2])
    · refine lv_iload_n hx hb dX2_good_8 rfl (lv_at hl 3 rfl) ?_
      refine lv_bipush (v := (-2)) hx hb dX2_good_9 (by decide) ?_
      refine lv_iconst (v := 2) hx hb dX2_good_11 (by decide) ?_
      refine vp_callSi (W.runS (As := [.int p2, .int (-2), .int 2]) (rest := []) ⟨hx, hb, hml, hown, hts⟩ (kX2_in l dC dI p2 ((-2)) (2)) (va_cwS 3 hts gX2_good_X2_in rfl rfl rfl (by decide +kernel) ⟨Nat.le_of_ble_eq_true rfl, Nat.le_of_ble_eq_true rfl⟩) ⟨fun a U g mk q => by obtain ⟨q0, qt⟩ := q; exact ⟨q0, qt⟩, fun U hU hW => ⟨rfl, trivial⟩⟩ rfl rfl hl.1 rfl (lv_room (Nat.le_of_ble_eq_true rfl)) dX2_good_12 ⟨Nat.zero_le _, Nat.zero_le _⟩) (fun r_3 hr_3 => ?_)
      subst hr_3
      refine lv_if_ne (tgt := 22) hx hb dX2_good_15 (by decide) (fun c_15_4 => ?_) (fun c_15_4 => ?_)
      · refine lv_iload_n hx hb dX2_good_22 rfl (lv_at hl 1 rfl) ?_
        refine lv_iload_n hx hb dX2_good_23 rfl (lv_at hl 2 rfl) ?_
        refine lv_iload_n hx hb dX2_good_24 rfl (lv_at hl 3 rfl) ?_
        refine vp_callSi (W.runS (As := [.int p0, .int p1, .int p2]) (rest := []) ⟨hx, hb, hml, hown, hts⟩ (kX2_isGood l dC dI p0 p1 p2) (va_cwS 3 hts gX2_good_X2_isGood rfl rfl rfl (by decide +kernel) ⟨Nat.le_of_ble_eq_true rfl, Nat.le_of_ble_eq_true rfl⟩) ⟨fun a U g mk q => by obtain ⟨q0, qt⟩ := q; exact ⟨q0, qt⟩, fun U hU hW => ⟨rfl, trivial⟩⟩ rfl rfl hl.1 rfl (lv_room (Nat.le_of_ble_eq_true rfl)) dX2_good_25 ⟨Nat.zero_le _, Nat.zero_le _⟩) (fun r_5 hr_5 => ?_)
        subst hr_5
        refine lv_if_eq (tgt := 35) hx hb dX2_good_28 (by decide) (fun c_28_6 => ?_) (fun c_28_6 => ?_)
        · refine lv_iconst (v := 0) hx hb dX2_good_35 (by decide) ?_
          exact kj_7 _ (by unfold fX2_good_j36; rw [if_neg c_5_2, if_neg c_15_4, if_pos c_28_6])
        · refine lv_iconst (v := 1) hx hb dX2_good_31 (by decide) ?_
          refine lv_goto (tgt := 36) hx hb dX2_good_32 (by decide) ?_
          exact kj_7 _ (by unfold fX2_good_j36; rw [if_neg c_5_2, if_neg c_15_4, if_neg c_28_6])
      · refine lv_iconst (v := (-1)) hx hb dX2_good_18 (by decide) ?_
        refine lv_goto (tgt := 36) hx hb dX2_good_19 (by decide) ?_
        exact kj_7 _ (by unfold fX2_good_j36; rw [if_neg c_5_2, if_pos c_15_4])

def fX2_holds_j25 (p0 : Int32) (p1 : Int32) : Int32 := (if (fX2_isCell p0 p1) = 0 then (-1) else (if (fX2_isHeld p0 p1) = 0 then 0 else 1))
def fX2_holds (p0 : Int32) (p1 : Int32) : Int32 := (fX2_holds_j25 p0 p1)
set_option maxHeartbeats 4000000 in
set_option maxRecDepth 100000 in
theorem kX2_holds (l : Launch) (dC : Nat → ClassId) (dI : Nat → Nat → Nat) (o0 : Nat) (o1 : Nat) (o2 : Nat) (o3 : Nat) (o4 : Nat) (o5 : Nat) (o6 : Nat) (o7 : Nat) (o8 : Nat) (o9 : Nat) (cI : ClassId) (cJ : ClassId) (S : MV) (p0 : Int32) (p1 : Int32)  : Met l yX2_holds wsX2_holds ({ frames := 2, cells := 0, slots := 0, locals := 43 } : Room) (va_Pc [.ref o0, .int p0, .int p1] (fun U => va_P (dC, dI) vwCl [(o0, .inr (2, [.ref o1, .int (mv1 S), .int (mv2 S), .int (mv3 S), .int (mv4 S), .int (mv5 S), .int (mv6 S), .int (mv7 S), .int (mv8 S), .int (mv9 S), .ref o2, .ref o3, .ref o4, .ref o5, .ref o6, .ref o7, .ref o8, .ref o9])), (o1, .inl (cI, 8192, .inl (mv0 S))), (o2, .inl (cI, 20, .inl (mv10 S))), (o3, .inl (cI, 20, .inl (mv11 S))), (o4, .inl (cJ, 20, .inr (.inl (mv12 S)))), (o5, .inl (cJ, 20, .inr (.inl (mv13 S)))), (o6, .inl (cJ, 20, .inr (.inl (mv14 S)))), (o7, .inl (cJ, 20, .inr (.inl (mv15 S)))), (o8, .inl (cI, 48, .inl (mv16 S))), (o9, .inl (cJ, 80, .inr (.inl (mv17 S))))] U.heap ∧ va_K (dC, dI) vwCl [(cI, .int), (cJ, .long)] U)) (vp_Si (fun r : Int32 => r = (fX2_holds p0 p1))) 0 0 (fun _ => False) := by
  refine Met.ofW (cc := cX2_holds) (maxL := 3) (ret := (some .int)) (by decide) rfl ?_
  intro p e s m args below meth c s₁ B hml hv
  obtain ⟨rfl, hP, hK⟩ := hv
  have hx := B.exec
  have hb := B.bytes
  have hr := B.returns
  have hts := atoms_spec (ws := wsX2_holds) B.pre
  have hown : s.vm.findClass RX2 = some m.cls := findClass_of_methodNamed B.named
  have hlocks := B.notSynchronized
  have hS : va_S (fun _ => False) s.heap s.heap [] := va_S.rf
  have hl := lv_entry ([.ref o0, .int p0, .int p1]) (n := 3) (Nat.le_of_ble_eq_true rfl)
  rw [lg_entry_eq]
  generalize (lg_sl ([.ref o0, .int p0, .int p1]) ++ List.replicate (3 - (lg_sl ([.ref o0, .int p0, .int p1])).length) Slot.unset).toArray = ls at hl ⊢
  have hl : lv_has ls 3 [(0, .ref o0), (1, .int p0), (2, .int p1)] := hl
  refine lv_iload_n hx hb dX2_holds_0 rfl (lv_at hl 1 rfl) ?_
  refine lv_iload_n hx hb dX2_holds_1 rfl (lv_at hl 2 rfl) ?_
  refine vp_callSi (W.runS (As := [.int p0, .int p1]) (rest := []) ⟨hx, hb, hml, hown, hts⟩ (kX2_isCell l dC dI p0 p1) (va_cwS 2 hts gX2_holds_X2_isCell rfl rfl rfl (by decide +kernel) ⟨Nat.le_of_ble_eq_true rfl, Nat.le_of_ble_eq_true rfl⟩) ⟨fun a U g mk q => by obtain ⟨q0, qt⟩ := q; exact ⟨q0, qt⟩, fun U hU hW => ⟨rfl, trivial⟩⟩ rfl rfl hl.1 rfl (lv_room (Nat.le_of_ble_eq_true rfl)) dX2_holds_2 ⟨Nat.zero_le _, Nat.zero_le _⟩) (fun r_1 hr_1 => ?_)
  subst hr_1
  refine ax_joinI (J := 25) (v := (fX2_holds_j25 p0 p1)) (ls := ls) (rest := []) ?_ (fun kj_5 => ?_)
  · exact W.iret (v := (fX2_holds_j25 p0 p1)) hx hb hr (fun t ht hW => ⟨(fX2_holds_j25 p0 p1), rfl, rfl, ht⟩) (fun q h => absurd h List.not_mem_nil) dX2_holds_25
  · refine lv_if_ne (tgt := 12) hx hb dX2_holds_5 (by decide) (fun c_5_2 => ?_) (fun c_5_2 => ?_)
    · refine lv_iload_n hx hb dX2_holds_12 rfl (lv_at hl 1 rfl) ?_
      refine lv_iload_n hx hb dX2_holds_13 rfl (lv_at hl 2 rfl) ?_
      refine vp_callSi (W.runS (As := [.int p0, .int p1]) (rest := []) ⟨hx, hb, hml, hown, hts⟩ (kX2_isHeld l dC dI p0 p1) (va_cwS 2 hts gX2_holds_X2_isHeld rfl rfl rfl (by decide +kernel) ⟨Nat.le_of_ble_eq_true rfl, Nat.le_of_ble_eq_true rfl⟩) ⟨fun a U g mk q => by obtain ⟨q0, qt⟩ := q; exact ⟨q0, qt⟩, fun U hU hW => ⟨rfl, trivial⟩⟩ rfl rfl hl.1 rfl (lv_room (Nat.le_of_ble_eq_true rfl)) dX2_holds_14 ⟨Nat.zero_le _, Nat.zero_le _⟩) (fun r_3 hr_3 => ?_)
      subst hr_3
      refine lv_if_eq (tgt := 24) hx hb dX2_holds_17 (by decide) (fun c_17_4 => ?_) (fun c_17_4 => ?_)
      · refine lv_iconst (v := 0) hx hb dX2_holds_24 (by decide) ?_
        exact kj_5 _ (by unfold fX2_holds_j25; rw [if_neg c_5_2, if_pos c_17_4])
      · refine lv_iconst (v := 1) hx hb dX2_holds_20 (by decide) ?_
        refine lv_goto (tgt := 25) hx hb dX2_holds_21 (by decide) ?_
        exact kj_5 _ (by unfold fX2_holds_j25; rw [if_neg c_5_2, if_neg c_17_4])
    · refine lv_iconst (v := (-1)) hx hb dX2_holds_8 (by decide) ?_
      refine lv_goto (tgt := 25) hx hb dX2_holds_9 (by decide) ?_
      exact kj_5 _ (by unfold fX2_holds_j25; rw [if_pos c_5_2])

def fX2_check_j35 (S : MV) (p0 : Int32) (i : Nat) : Int32 := (if (fX2_isWrong S p0 (nI i)) = 0 then 0 else 1)
def st_ckX2 (S : MV) (p0 : Int32) (i : Nat) (w0 : Int32) : Int32 := w0 + (fX2_check_j35 S p0 i)
def it_ckX2 (S : MV) (p0 : Int32) : Nat → Int32
  | 0 => (0 : Int32)
  | i + 1 => st_ckX2 S p0 i (it_ckX2 S p0 i)
def fX2_check (S : MV) (p0 : Int32) : Int32 := (if (fX2_isTable p0) = 0 then (-1) else (it_ckX2 S p0 2048))
set_option maxHeartbeats 4000000 in
set_option maxRecDepth 100000 in
theorem kX2_check (l : Launch) (dC : Nat → ClassId) (dI : Nat → Nat → Nat) (o0 : Nat) (o1 : Nat) (o2 : Nat) (o3 : Nat) (o4 : Nat) (o5 : Nat) (o6 : Nat) (o7 : Nat) (o8 : Nat) (o9 : Nat) (cI : ClassId) (cJ : ClassId) (S : MV) (p0 : Int32)  : Met l yX2_check wsX2_check ({ frames := 3, cells := 0, slots := 0, locals := 69 } : Room) (va_Pc [.ref o0, .int p0] (fun U => va_P (dC, dI) vwCl [(o0, .inr (2, [.ref o1, .int (mv1 S), .int (mv2 S), .int (mv3 S), .int (mv4 S), .int (mv5 S), .int (mv6 S), .int (mv7 S), .int (mv8 S), .int (mv9 S), .ref o2, .ref o3, .ref o4, .ref o5, .ref o6, .ref o7, .ref o8, .ref o9])), (o1, .inl (cI, 8192, .inl (mv0 S))), (o2, .inl (cI, 20, .inl (mv10 S))), (o3, .inl (cI, 20, .inl (mv11 S))), (o4, .inl (cJ, 20, .inr (.inl (mv12 S)))), (o5, .inl (cJ, 20, .inr (.inl (mv13 S)))), (o6, .inl (cJ, 20, .inr (.inl (mv14 S)))), (o7, .inl (cJ, 20, .inr (.inl (mv15 S)))), (o8, .inl (cI, 48, .inl (mv16 S))), (o9, .inl (cJ, 80, .inr (.inl (mv17 S))))] U.heap ∧ va_K (dC, dI) vwCl [(cI, .int), (cJ, .long)] U)) (vp_Si (fun r : Int32 => r = (fX2_check S p0))) 0 0 (fun _ => False) := by
  refine Met.ofW (cc := cX2_check) (maxL := 4) (ret := (some .int)) (by decide) rfl ?_
  intro p e s m args below meth c s₁ B hml hv
  obtain ⟨rfl, hP, hK⟩ := hv
  have hx := B.exec
  have hb := B.bytes
  have hr := B.returns
  have hts := atoms_spec (ws := wsX2_check) B.pre
  have hown : s.vm.findClass RX2 = some m.cls := findClass_of_methodNamed B.named
  have hlocks := B.notSynchronized
  have hS : va_S (fun _ => False) s.heap s.heap [] := va_S.rf
  have hl := lv_entry ([.ref o0, .int p0]) (n := 4) (Nat.le_of_ble_eq_true rfl)
  rw [lg_entry_eq]
  generalize (lg_sl ([.ref o0, .int p0]) ++ List.replicate (4 - (lg_sl ([.ref o0, .int p0])).length) Slot.unset).toArray = ls at hl ⊢
  have hl : lv_has ls 4 [(0, .ref o0), (1, .int p0)] := hl
  refine lv_iload_n hx hb dX2_check_0 rfl (lv_at hl 1 rfl) ?_
  refine vp_callSi (W.runS (As := [.int p0]) (rest := []) ⟨hx, hb, hml, hown, hts⟩ (kX2_isTable l dC dI p0) (va_cwS 1 hts gX2_check_X2_isTable rfl rfl rfl (by decide +kernel) ⟨Nat.le_of_ble_eq_true rfl, Nat.le_of_ble_eq_true rfl⟩) ⟨fun a U g mk q => by obtain ⟨q0, qt⟩ := q; exact ⟨q0, qt⟩, fun U hU hW => ⟨rfl, trivial⟩⟩ rfl rfl hl.1 rfl (lv_room (Nat.le_of_ble_eq_true rfl)) dX2_check_1 ⟨Nat.zero_le _, Nat.zero_le _⟩) (fun r_1 hr_1 => ?_)
  subst hr_1
  refine lv_if_ne (tgt := 9) hx hb dX2_check_4 (by decide) (fun c_4_2 => ?_) (fun c_4_2 => ?_)
  · refine lv_iconst (v := 0) hx hb dX2_check_9 (by decide) ?_
    refine lv_istore_n (lv' := [(2, .int 0), (0, .ref o0), (1, .int p0)]) hx hb dX2_check_10 rfl hl (by decide) rfl (fun ls hl => ?_)
    refine lv_iconst (v := 0) hx hb dX2_check_11 (by decide) ?_
    refine lv_istore_n (lv' := [(3, .int 0), (2, .int 0), (0, .ref o0), (1, .int p0)]) hx hb dX2_check_12 rfl hl (by decide) rfl (fun ls hl => ?_)
    refine ax_loopP (pc := 13) (fun i ls => ∃ w0 : Int32, w0 = (it_ckX2 S p0 i) ∧ lv_has ls 4 [(3, .int (nI i)), (2, .int w0), (0, .ref o0), (1, .int p0)]) 2048 (fun i hii ihi ls hIi => ?_) ⟨(0 : Int32), rfl, lv_sub hl [0, 1, 2, 3] rfl⟩
    obtain ⟨w0, ew0, hl⟩ := hIi
    refine lv_iload_n hx hb dX2_check_13 rfl (lv_at hl 0 rfl) ?_
    refine lv_sipush (v := 2048) hx hb dX2_check_14 (by decide) ?_
    refine lv_icmp_ge (tgt := 43) hx hb dX2_check_17 (by decide) (fun c_17_3 => ?_) (fun c_17_3 => ?_)
    · obtain rfl : i = 2048 := ax_end (N := 2048) rfl (by decide) hii c_17_3
      subst ew0
      refine lv_iload_n hx hb dX2_check_43 rfl (lv_at hl 1 rfl) ?_
      exact W.iret (v := (it_ckX2 S p0 2048)) hx hb hr (fun t ht hW => ⟨(it_ckX2 S p0 2048), rfl, (by unfold fX2_check; rw [if_neg c_4_2]), ht⟩) (fun q h => absurd h List.not_mem_nil) dX2_check_44
    · have hlti : i < 2048 := ax_more (N := 2048) rfl (by decide) hii c_17_3
      refine lv_iload_n hx hb dX2_check_20 rfl (lv_at hl 1 rfl) ?_
      refine lv_aload_n hx hb dX2_check_21 rfl (lv_at hl 2 rfl) ?_
      refine lv_iload_n hx hb dX2_check_22 rfl (lv_at hl 3 rfl) ?_
      refine lv_iload_n hx hb dX2_check_23 rfl (lv_at hl 0 rfl) ?_
      have hPc := hP.sub (ws' := [(o0, .inr (2, [.ref o1, .int (mv1 S), .int (mv2 S), .int (mv3 S), .int (mv4 S), .int (mv5 S), .int (mv6 S), .int (mv7 S), .int (mv8 S), .int (mv9 S), .ref o2, .ref o3, .ref o4, .ref o5, .ref o6, .ref o7, .ref o8, .ref o9])), (o1, .inl (cI, 8192, .inl (mv0 S))), (o2, .inl (cI, 20, .inl (mv10 S))), (o3, .inl (cI, 20, .inl (mv11 S))), (o4, .inl (cJ, 20, .inr (.inl (mv12 S)))), (o5, .inl (cJ, 20, .inr (.inl (mv13 S)))), (o6, .inl (cJ, 20, .inr (.inl (mv14 S)))), (o7, .inl (cJ, 20, .inr (.inl (mv15 S)))), (o8, .inl (cI, 48, .inl (mv16 S))), (o9, .inl (cJ, 80, .inr (.inl (mv17 S))))]) [0, 1, 2, 3, 4, 5, 6, 7, 8, 9] rfl
      have hKc := hK.sub (tys' := [(cI, .int), (cJ, .long)]) [0, 1] rfl
      refine vp_callSi (W.runV (As := [.int p0, .int (nI i)]) (rest := [.int w0]) ⟨hx, hb, hml, hown, hts⟩ (kX2_isWrong l dC dI o0 o1 o2 o3 o4 o5 o6 o7 o8 o9 cI cJ S p0 (nI i) (mt_in (mt_vp c_4_2) hlti)) (cwV 2 hts gX2_check_X2_isWrong rfl rfl rfl (by decide +kernel) ⟨Nat.le_of_ble_eq_true rfl, Nat.le_of_ble_eq_true rfl⟩) ⟨fun a U g mk q => by obtain ⟨q0, qP, qK⟩ := q; exact ⟨q0, qP, va_K.moved (u := U) (U := U.calling g mk a) (Vm.Alike.refl U.vm) qK⟩, va_recv hKc hPc (ci := 2) (q0 := 0) rfl rfl, fun U hU hW => ⟨rfl, by rw [hU]; exact hPc, va_K.moved hW.alike hKc⟩⟩ rfl rfl hl.1 rfl (lv_room (Nat.le_of_ble_eq_true rfl)) dX2_check_24 ⟨Nat.zero_le _, Nat.zero_le _⟩) (fun r_4 hr_4 => ?_)
      subst hr_4
      refine ax_joinI (J := 35) (v := (fX2_check_j35 S p0 i)) (ls := ls) (rest := [.int w0]) ?_ (fun kj_6 => ?_)
      · refine lv_iadd hx hb dX2_check_35 ?_
        refine lv_istore_n (lv' := [(2, .int (w0 + (fX2_check_j35 S p0 i))), (3, .int (nI i)), (0, .ref o0), (1, .int p0)]) hx hb dX2_check_36 rfl hl (by decide) rfl (fun ls hl => ?_)
        refine lv_iinc (v := nI (i + 1)) (lv' := [(3, .int (nI (i + 1))), (2, .int (w0 + (fX2_check_j35 S p0 i))), (0, .ref o0), (1, .int p0)]) hx hb dX2_check_37 hl (k := 1) rfl (nI_1 _) (by decide) rfl (fun ls hl => ?_)
        refine lv_goto (tgt := 13) hx hb dX2_check_40 (by decide) ?_
        have eb : st_ckX2 S p0 i w0 = w0 + (fX2_check_j35 S p0 i) := rfl
        have ebb : (it_ckX2 S p0 (i + 1)) = w0 + (fX2_check_j35 S p0 i) := by show st_ckX2 S p0 i (it_ckX2 S p0 i) = _; rw [← ew0]; exact eb
        exact ihi hlti _ ⟨w0 + (fX2_check_j35 S p0 i), ebb.symm, lv_sub hl [0, 1, 2, 3] rfl⟩
      · refine lv_if_eq (tgt := 34) hx hb dX2_check_27 (by decide) (fun c_27_5 => ?_) (fun c_27_5 => ?_)
        · refine lv_iconst (v := 0) hx hb dX2_check_34 (by decide) ?_
          exact kj_6 _ (by unfold fX2_check_j35; rw [if_pos c_27_5])
        · refine lv_iconst (v := 1) hx hb dX2_check_30 (by decide) ?_
          refine lv_goto (tgt := 35) hx hb dX2_check_31 (by decide) ?_
          exact kj_6 _ (by unfold fX2_check_j35; rw [if_neg c_27_5])
  · refine lv_iconst (v := (-1)) hx hb dX2_check_7 (by decide) ?_
    exact W.iret (v := (-1)) hx hb hr (fun t ht hW => ⟨(-1), rfl, (by unfold fX2_check; rw [if_pos c_4_2]), ht⟩) (fun q h => absurd h List.not_mem_nil) dX2_check_8

def st_wrX2 (S : MV) (p0 : Int32) (i : Nat) (w0 : Int32) : Int32 := (if (fX2_isWrong S p0 (nI i)) = 0 then w0 else w0 + (-1))
def it_wrX2 (S : MV) (p0 : Int32) (p1 : Int32) : Nat → Int32
  | 0 => p1
  | i + 1 => st_wrX2 S p0 i (it_wrX2 S p0 p1 i)
def fX2_wrong (S : MV) (p0 : Int32) (p1 : Int32) : Int32 := (if (fX2_isTable p0) = 0 then (-1) else (if 0 ≤ p1 then (wrF (fun y => decide (¬ (fX2_isWrong S p0 (nI y)) = 0 ∧ (it_wrX2 S p0 p1 y) = 0)) 2048 0) else (-1)))
set_option maxHeartbeats 4000000 in
set_option maxRecDepth 100000 in
theorem kX2_wrong (l : Launch) (dC : Nat → ClassId) (dI : Nat → Nat → Nat) (o0 : Nat) (o1 : Nat) (o2 : Nat) (o3 : Nat) (o4 : Nat) (o5 : Nat) (o6 : Nat) (o7 : Nat) (o8 : Nat) (o9 : Nat) (cI : ClassId) (cJ : ClassId) (S : MV) (p0 : Int32) (p1 : Int32)  : Met l yX2_wrong wsX2_wrong ({ frames := 3, cells := 0, slots := 0, locals := 69 } : Room) (va_Pc [.ref o0, .int p0, .int p1] (fun U => va_P (dC, dI) vwCl [(o0, .inr (2, [.ref o1, .int (mv1 S), .int (mv2 S), .int (mv3 S), .int (mv4 S), .int (mv5 S), .int (mv6 S), .int (mv7 S), .int (mv8 S), .int (mv9 S), .ref o2, .ref o3, .ref o4, .ref o5, .ref o6, .ref o7, .ref o8, .ref o9])), (o1, .inl (cI, 8192, .inl (mv0 S))), (o2, .inl (cI, 20, .inl (mv10 S))), (o3, .inl (cI, 20, .inl (mv11 S))), (o4, .inl (cJ, 20, .inr (.inl (mv12 S)))), (o5, .inl (cJ, 20, .inr (.inl (mv13 S)))), (o6, .inl (cJ, 20, .inr (.inl (mv14 S)))), (o7, .inl (cJ, 20, .inr (.inl (mv15 S)))), (o8, .inl (cI, 48, .inl (mv16 S))), (o9, .inl (cJ, 80, .inr (.inl (mv17 S))))] U.heap ∧ va_K (dC, dI) vwCl [(cI, .int), (cJ, .long)] U)) (vp_Si (fun r : Int32 => r = (fX2_wrong S p0 p1))) 0 0 (fun _ => False) := by
  refine Met.ofW (cc := cX2_wrong) (maxL := 5) (ret := (some .int)) (by decide) rfl ?_
  intro p e s m args below meth c s₁ B hml hv
  obtain ⟨rfl, hP, hK⟩ := hv
  have hx := B.exec
  have hb := B.bytes
  have hr := B.returns
  have hts := atoms_spec (ws := wsX2_wrong) B.pre
  have hown : s.vm.findClass RX2 = some m.cls := findClass_of_methodNamed B.named
  have hlocks := B.notSynchronized
  have hS : va_S (fun _ => False) s.heap s.heap [] := va_S.rf
  have hl := lv_entry ([.ref o0, .int p0, .int p1]) (n := 5) (Nat.le_of_ble_eq_true rfl)
  rw [lg_entry_eq]
  generalize (lg_sl ([.ref o0, .int p0, .int p1]) ++ List.replicate (5 - (lg_sl ([.ref o0, .int p0, .int p1])).length) Slot.unset).toArray = ls at hl ⊢
  have hl : lv_has ls 5 [(0, .ref o0), (1, .int p0), (2, .int p1)] := hl
  refine lv_iload_n hx hb dX2_wrong_0 rfl (lv_at hl 1 rfl) ?_
  refine vp_callSi (W.runS (As := [.int p0]) (rest := []) ⟨hx, hb, hml, hown, hts⟩ (kX2_isTable l dC dI p0) (va_cwS 1 hts gX2_wrong_X2_isTable rfl rfl rfl (by decide +kernel) ⟨Nat.le_of_ble_eq_true rfl, Nat.le_of_ble_eq_true rfl⟩) ⟨fun a U g mk q => by obtain ⟨q0, qt⟩ := q; exact ⟨q0, qt⟩, fun U hU hW => ⟨rfl, trivial⟩⟩ rfl rfl hl.1 rfl (lv_room (Nat.le_of_ble_eq_true rfl)) dX2_wrong_1 ⟨Nat.zero_le _, Nat.zero_le _⟩) (fun r_1 hr_1 => ?_)
  subst hr_1
  refine lv_if_eq (tgt := 11) hx hb dX2_wrong_4 (by decide) (fun c_4_2 => ?_) (fun c_4_2 => ?_)
  · refine lv_iconst (v := (-1)) hx hb dX2_wrong_11 (by decide) ?_
    exact W.iret (v := (-1)) hx hb hr (fun t ht hW => ⟨(-1), rfl, (by unfold fX2_wrong; rw [if_pos c_4_2]), ht⟩) (fun q h => absurd h List.not_mem_nil) dX2_wrong_12
  · refine lv_iload_n hx hb dX2_wrong_7 rfl (lv_at hl 2 rfl) ?_
    refine lv_if_ge (tgt := 13) hx hb dX2_wrong_8 (by decide) (fun c_8_3 => ?_) (fun c_8_3 => ?_)
    · refine lv_iload_n hx hb dX2_wrong_13 rfl (lv_at hl 2 rfl) ?_
      refine lv_istore_n (lv' := [(3, .int p1), (0, .ref o0), (1, .int p0), (2, .int p1)]) hx hb dX2_wrong_14 rfl hl (by decide) rfl (fun ls hl => ?_)
      refine lv_iconst (v := 0) hx hb dX2_wrong_15 (by decide) ?_
      refine lv_istore (lv' := [(4, .int 0), (3, .int p1), (0, .ref o0), (1, .int p0), (2, .int p1)]) hx hb dX2_wrong_16 hl (by decide) rfl (fun ls hl => ?_)
      refine ax_loopP (pc := 18) (fun i ls => ∃ w0 : Int32, w0 = (it_wrX2 S p0 p1 i) ∧ wrF (fun y => decide (¬ (fX2_isWrong S p0 (nI y)) = 0 ∧ (it_wrX2 S p0 p1 y) = 0)) (2048 - i) i = wrF (fun y => decide (¬ (fX2_isWrong S p0 (nI y)) = 0 ∧ (it_wrX2 S p0 p1 y) = 0)) 2048 0 ∧ lv_has ls 5 [(4, .int (nI i)), (3, .int w0), (0, .ref o0), (1, .int p0), (2, .int p1)]) 2048 (fun i hii ihi ls hIi => ?_) ⟨p1, rfl, rfl, lv_sub hl [0, 1, 2, 3, 4] rfl⟩
      obtain ⟨w0, ew0, iv, hl⟩ := hIi
      refine lv_iload hx hb dX2_wrong_18 (lv_at hl 0 rfl) ?_
      refine lv_sipush (v := 2048) hx hb dX2_wrong_20 (by decide) ?_
      refine lv_icmp_ge (tgt := 52) hx hb dX2_wrong_23 (by decide) (fun c_23_4 => ?_) (fun c_23_4 => ?_)
      · obtain rfl : i = 2048 := ax_end (N := 2048) rfl (by decide) hii c_23_4
        subst ew0
        refine lv_bipush (v := (-2)) hx hb dX2_wrong_52 (by decide) ?_
        exact W.iret (v := (-2)) hx hb hr (fun t ht hW => ⟨(-2), rfl, (by unfold fX2_wrong; rw [if_neg c_4_2, if_pos c_8_3, ← iv]; rfl), ht⟩) (fun q h => absurd h List.not_mem_nil) dX2_wrong_54
      · have hlti : i < 2048 := ax_more (N := 2048) rfl (by decide) hii c_23_4
        refine lv_aload_n hx hb dX2_wrong_26 rfl (lv_at hl 2 rfl) ?_
        refine lv_iload_n hx hb dX2_wrong_27 rfl (lv_at hl 3 rfl) ?_
        refine lv_iload hx hb dX2_wrong_28 (lv_at hl 0 rfl) ?_
        have hPc := hP.sub (ws' := [(o0, .inr (2, [.ref o1, .int (mv1 S), .int (mv2 S), .int (mv3 S), .int (mv4 S), .int (mv5 S), .int (mv6 S), .int (mv7 S), .int (mv8 S), .int (mv9 S), .ref o2, .ref o3, .ref o4, .ref o5, .ref o6, .ref o7, .ref o8, .ref o9])), (o1, .inl (cI, 8192, .inl (mv0 S))), (o2, .inl (cI, 20, .inl (mv10 S))), (o3, .inl (cI, 20, .inl (mv11 S))), (o4, .inl (cJ, 20, .inr (.inl (mv12 S)))), (o5, .inl (cJ, 20, .inr (.inl (mv13 S)))), (o6, .inl (cJ, 20, .inr (.inl (mv14 S)))), (o7, .inl (cJ, 20, .inr (.inl (mv15 S)))), (o8, .inl (cI, 48, .inl (mv16 S))), (o9, .inl (cJ, 80, .inr (.inl (mv17 S))))]) [0, 1, 2, 3, 4, 5, 6, 7, 8, 9] rfl
        have hKc := hK.sub (tys' := [(cI, .int), (cJ, .long)]) [0, 1] rfl
        refine vp_callSi (W.runV (As := [.int p0, .int (nI i)]) (rest := []) ⟨hx, hb, hml, hown, hts⟩ (kX2_isWrong l dC dI o0 o1 o2 o3 o4 o5 o6 o7 o8 o9 cI cJ S p0 (nI i) (mt_in (mt_vp c_4_2) hlti)) (cwV 2 hts gX2_wrong_X2_isWrong rfl rfl rfl (by decide +kernel) ⟨Nat.le_of_ble_eq_true rfl, Nat.le_of_ble_eq_true rfl⟩) ⟨fun a U g mk q => by obtain ⟨q0, qP, qK⟩ := q; exact ⟨q0, qP, va_K.moved (u := U) (U := U.calling g mk a) (Vm.Alike.refl U.vm) qK⟩, va_recv hKc hPc (ci := 2) (q0 := 0) rfl rfl, fun U hU hW => ⟨rfl, by rw [hU]; exact hPc, va_K.moved hW.alike hKc⟩⟩ rfl rfl hl.1 rfl (lv_room (Nat.le_of_ble_eq_true rfl)) dX2_wrong_30 ⟨Nat.zero_le _, Nat.zero_le _⟩) (fun r_5 hr_5 => ?_)
        subst hr_5
        refine lv_if_eq (tgt := 46) hx hb dX2_wrong_33 (by decide) (fun c_33_6 => ?_) (fun c_33_6 => ?_)
        · refine lv_iinc (v := nI (i + 1)) (lv' := [(4, .int (nI (i + 1))), (3, .int w0), (0, .ref o0), (1, .int p0), (2, .int p1)]) hx hb dX2_wrong_46 hl (k := 0) rfl (nI_1 _) (by decide) rfl (fun ls hl => ?_)
          refine lv_goto (tgt := 18) hx hb dX2_wrong_49 (by decide) ?_
          have eb : st_wrX2 S p0 i w0 = w0 := by unfold st_wrX2; rw [if_pos c_33_6]
          have ebb : (it_wrX2 S p0 p1 (i + 1)) = w0 := by show st_wrX2 S p0 i (it_wrX2 S p0 p1 i) = _; rw [← ew0]; exact eb
          exact ihi hlti _ ⟨w0, ebb.symm, ((wrF_go hlti (fun q => q.1 c_33_6)).trans iv), lv_sub hl [0, 1, 2, 3, 4] rfl⟩
        · refine lv_iload_n hx hb dX2_wrong_36 rfl (lv_at hl 1 rfl) ?_
          refine lv_if_ne (tgt := 43) hx hb dX2_wrong_37 (by decide) (fun c_37_7 => ?_) (fun c_37_7 => ?_)
          · refine lv_iinc (v := w0 + (-1)) (lv' := [(3, .int (w0 + (-1))), (4, .int (nI i)), (0, .ref o0), (1, .int p0), (2, .int p1)]) hx hb dX2_wrong_43 hl (k := 1) rfl rfl (by decide) rfl (fun ls hl => ?_)
            refine lv_iinc (v := nI (i + 1)) (lv' := [(4, .int (nI (i + 1))), (3, .int (w0 + (-1))), (0, .ref o0), (1, .int p0), (2, .int p1)]) hx hb dX2_wrong_46 hl (k := 1) rfl (nI_1 _) (by decide) rfl (fun ls hl => ?_)
            refine lv_goto (tgt := 18) hx hb dX2_wrong_49 (by decide) ?_
            have eb : st_wrX2 S p0 i w0 = w0 + (-1) := by unfold st_wrX2; rw [if_neg c_33_6]
            have ebb : (it_wrX2 S p0 p1 (i + 1)) = w0 + (-1) := by show st_wrX2 S p0 i (it_wrX2 S p0 p1 i) = _; rw [← ew0]; exact eb
            exact ihi hlti _ ⟨w0 + (-1), ebb.symm, ((wrF_go hlti (fun q => c_37_7 (ew0.trans q.2))).trans iv), lv_sub hl [0, 1, 2, 3, 4] rfl⟩
          · refine lv_iload hx hb dX2_wrong_40 (lv_at hl 0 rfl) ?_
            exact W.iret (v := nI i) hx hb hr (fun t ht hW => ⟨nI i, rfl, (by unfold fX2_wrong; rw [if_neg c_4_2, if_pos c_8_3, ← iv, wrF_hit hlti ⟨c_33_6, ew0.symm.trans c_37_7⟩]), ht⟩) (fun q h => absurd h List.not_mem_nil) dX2_wrong_42
    · refine lv_iconst (v := (-1)) hx hb dX2_wrong_11 (by decide) ?_
      exact W.iret (v := (-1)) hx hb hr (fun t ht hW => ⟨(-1), rfl, (by unfold fX2_wrong; rw [if_neg c_4_2, if_neg c_8_3]), ht⟩) (fun q h => absurd h List.not_mem_nil) dX2_wrong_12

