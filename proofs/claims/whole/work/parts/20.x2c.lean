def gX2_use (S : MV) (p0 : Int32) : Int32 × MV := (if (fX2_isTable p0) = 0 then ((-1), S) else ((mv1 S), ((mv0 S), p0, (mv2 S), (mv3 S), (mv4 S), (mv5 S), (mv6 S), (mv7 S), (mv8 S), (mv9 S), (mv10 S), (mv11 S), (mv12 S), (mv13 S), (mv14 S), (mv15 S), (mv16 S), (mv17 S))))
theorem inX2_X2_use : ∀ w ∈ wsX20, w ∈ wsX2_use := by decide +kernel
set_option maxHeartbeats 4000000 in
set_option maxRecDepth 100000 in
theorem kX2_use (l : Launch) (dC : Nat → ClassId) (dI : Nat → Nat → Nat) (o0 : Nat) (o1 : Nat) (o2 : Nat) (o3 : Nat) (o4 : Nat) (o5 : Nat) (o6 : Nat) (o7 : Nat) (o8 : Nat) (o9 : Nat) (cI : ClassId) (cJ : ClassId) (sz : Nat) (S : MV) (p0 : Int32)  : Met l yX2_use wsX2_use ({ frames := 2, cells := 0, slots := 0, locals := 42 } : Room) (va_Pc [.ref o0, .int p0] (fun U => U.heap.size = sz ∧ va_P (dC, dI) vwCl [(o0, .inr (2, [.ref o1, .int (mv1 S), .int (mv2 S), .int (mv3 S), .int (mv4 S), .int (mv5 S), .int (mv6 S), .int (mv7 S), .int (mv8 S), .int (mv9 S), .ref o2, .ref o3, .ref o4, .ref o5, .ref o6, .ref o7, .ref o8, .ref o9])), (o1, .inl (cI, 8192, .inl (mv0 S))), (o2, .inl (cI, 20, .inl (mv10 S))), (o3, .inl (cI, 20, .inl (mv11 S))), (o4, .inl (cJ, 20, .inr (.inl (mv12 S)))), (o5, .inl (cJ, 20, .inr (.inl (mv13 S)))), (o6, .inl (cJ, 20, .inr (.inl (mv14 S)))), (o7, .inl (cJ, 20, .inr (.inl (mv15 S)))), (o8, .inl (cI, 48, .inl (mv16 S))), (o9, .inl (cJ, 80, .inr (.inl (mv17 S))))] U.heap ∧ va_K (dC, dI) vwCl [(cI, .int), (cJ, .long)] U ∧ va_D (fun _ => True) [(o0, .inr (2, [.ref o1, .int (mv1 S), .int (mv2 S), .int (mv3 S), .int (mv4 S), .int (mv5 S), .int (mv6 S), .int (mv7 S), .int (mv8 S), .int (mv9 S), .ref o2, .ref o3, .ref o4, .ref o5, .ref o6, .ref o7, .ref o8, .ref o9])), (o1, .inl (cI, 8192, .inl (mv0 S))), (o2, .inl (cI, 20, .inl (mv10 S))), (o3, .inl (cI, 20, .inl (mv11 S))), (o4, .inl (cJ, 20, .inr (.inl (mv12 S)))), (o5, .inl (cJ, 20, .inr (.inl (mv13 S)))), (o6, .inl (cJ, 20, .inr (.inl (mv14 S)))), (o7, .inl (cJ, 20, .inr (.inl (mv15 S)))), (o8, .inl (cI, 48, .inl (mv16 S))), (o9, .inl (cJ, 80, .inr (.inl (mv17 S))))])) (va_Qi (fun (r : Int32) (u : MV) => r = (gX2_use S p0).1 ∧ u = (gX2_use S p0).2) (fun (u : MV) (t : State) => va_P (dC, dI) vwCl [(o0, .inr (2, [.ref o1, .int (mv1 u), .int (mv2 u), .int (mv3 u), .int (mv4 u), .int (mv5 u), .int (mv6 u), .int (mv7 u), .int (mv8 u), .int (mv9 u), .ref o2, .ref o3, .ref o4, .ref o5, .ref o6, .ref o7, .ref o8, .ref o9])), (o1, .inl (cI, 8192, .inl (mv0 u))), (o2, .inl (cI, 20, .inl (mv10 u))), (o3, .inl (cI, 20, .inl (mv11 u))), (o4, .inl (cJ, 20, .inr (.inl (mv12 u)))), (o5, .inl (cJ, 20, .inr (.inl (mv13 u)))), (o6, .inl (cJ, 20, .inr (.inl (mv14 u)))), (o7, .inl (cJ, 20, .inr (.inl (mv15 u)))), (o8, .inl (cI, 48, .inl (mv16 u))), (o9, .inl (cJ, 80, .inr (.inl (mv17 u))))] t.heap ∧ va_K (dC, dI) vwCl [(cI, .int), (cJ, .long)] t ∧ va_D (va_A [(o0, .inr (2, [.ref o1, .int (mv1 S), .int (mv2 S), .int (mv3 S), .int (mv4 S), .int (mv5 S), .int (mv6 S), .int (mv7 S), .int (mv8 S), .int (mv9 S), .ref o2, .ref o3, .ref o4, .ref o5, .ref o6, .ref o7, .ref o8, .ref o9])), (o1, .inl (cI, 8192, .inl (mv0 S))), (o2, .inl (cI, 20, .inl (mv10 S))), (o3, .inl (cI, 20, .inl (mv11 S))), (o4, .inl (cJ, 20, .inr (.inl (mv12 S)))), (o5, .inl (cJ, 20, .inr (.inl (mv13 S)))), (o6, .inl (cJ, 20, .inr (.inl (mv14 S)))), (o7, .inl (cJ, 20, .inr (.inl (mv15 S)))), (o8, .inl (cI, 48, .inl (mv16 S))), (o9, .inl (cJ, 80, .inr (.inl (mv17 S))))] sz) [(o0, .inr (2, [.ref o1, .int (mv1 u), .int (mv2 u), .int (mv3 u), .int (mv4 u), .int (mv5 u), .int (mv6 u), .int (mv7 u), .int (mv8 u), .int (mv9 u), .ref o2, .ref o3, .ref o4, .ref o5, .ref o6, .ref o7, .ref o8, .ref o9])), (o1, .inl (cI, 8192, .inl (mv0 u))), (o2, .inl (cI, 20, .inl (mv10 u))), (o3, .inl (cI, 20, .inl (mv11 u))), (o4, .inl (cJ, 20, .inr (.inl (mv12 u)))), (o5, .inl (cJ, 20, .inr (.inl (mv13 u)))), (o6, .inl (cJ, 20, .inr (.inl (mv14 u)))), (o7, .inl (cJ, 20, .inr (.inl (mv15 u)))), (o8, .inl (cI, 48, .inl (mv16 u))), (o9, .inl (cJ, 80, .inr (.inl (mv17 u))))]) (va_A [(o0, .inr (2, [.ref o1, .int (mv1 S), .int (mv2 S), .int (mv3 S), .int (mv4 S), .int (mv5 S), .int (mv6 S), .int (mv7 S), .int (mv8 S), .int (mv9 S), .ref o2, .ref o3, .ref o4, .ref o5, .ref o6, .ref o7, .ref o8, .ref o9])), (o1, .inl (cI, 8192, .inl (mv0 S))), (o2, .inl (cI, 20, .inl (mv10 S))), (o3, .inl (cI, 20, .inl (mv11 S))), (o4, .inl (cJ, 20, .inr (.inl (mv12 S)))), (o5, .inl (cJ, 20, .inr (.inl (mv13 S)))), (o6, .inl (cJ, 20, .inr (.inl (mv14 S)))), (o7, .inl (cJ, 20, .inr (.inl (mv15 S)))), (o8, .inl (cI, 48, .inl (mv16 S))), (o9, .inl (cJ, 80, .inr (.inl (mv17 S))))] sz)) 0 0 (va_A [(o0, .inr (2, [.ref o1, .int (mv1 S), .int (mv2 S), .int (mv3 S), .int (mv4 S), .int (mv5 S), .int (mv6 S), .int (mv7 S), .int (mv8 S), .int (mv9 S), .ref o2, .ref o3, .ref o4, .ref o5, .ref o6, .ref o7, .ref o8, .ref o9])), (o1, .inl (cI, 8192, .inl (mv0 S))), (o2, .inl (cI, 20, .inl (mv10 S))), (o3, .inl (cI, 20, .inl (mv11 S))), (o4, .inl (cJ, 20, .inr (.inl (mv12 S)))), (o5, .inl (cJ, 20, .inr (.inl (mv13 S)))), (o6, .inl (cJ, 20, .inr (.inl (mv14 S)))), (o7, .inl (cJ, 20, .inr (.inl (mv15 S)))), (o8, .inl (cI, 48, .inl (mv16 S))), (o9, .inl (cJ, 80, .inr (.inl (mv17 S))))] sz) := by
  refine Met.ofW (cc := cX2_use) (maxL := 3) (ret := (some .int)) (by decide) rfl ?_
  intro p e s m args below meth c s₁ B hml hv
  obtain ⟨rfl, hsz, hP, hK, hD0⟩ := hv
  have hx := B.exec
  have hb := B.bytes
  have hr := B.returns
  have hts := atoms_spec (ws := wsX2_use) B.pre
  have hown : s.vm.findClass RX2 = some m.cls := findClass_of_methodNamed B.named
  have hlocks := B.notSynchronized
  subst hsz
  have hD := hD0.self (sz := s.heap.size)
  generalize hAe : va_A [(o0, .inr (2, [.ref o1, .int (mv1 S), .int (mv2 S), .int (mv3 S), .int (mv4 S), .int (mv5 S), .int (mv6 S), .int (mv7 S), .int (mv8 S), .int (mv9 S), .ref o2, .ref o3, .ref o4, .ref o5, .ref o6, .ref o7, .ref o8, .ref o9])), (o1, .inl (cI, 8192, .inl (mv0 S))), (o2, .inl (cI, 20, .inl (mv10 S))), (o3, .inl (cI, 20, .inl (mv11 S))), (o4, .inl (cJ, 20, .inr (.inl (mv12 S)))), (o5, .inl (cJ, 20, .inr (.inl (mv13 S)))), (o6, .inl (cJ, 20, .inr (.inl (mv14 S)))), (o7, .inl (cJ, 20, .inr (.inl (mv15 S)))), (o8, .inl (cI, 48, .inl (mv16 S))), (o9, .inl (cJ, 80, .inr (.inl (mv17 S))))] s.heap.size = A at hD  ⊢
  have hA : ∀ q : Nat, s.heap.size ≤ q → A q := fun q h => by rw [← hAe]; exact Or.inr h
  have hS : va_S A s.heap s.heap [] := va_S.rf
  have hP : va_P (dC, dI) vwCl [(o0, .inr (2, [.ref o1, .int (mv1 S), .int (mv2 S), .int (mv3 S), .int (mv4 S), .int (mv5 S), .int (mv6 S), .int (mv7 S), .int (mv8 S), .int (mv9 S), .ref o2, .ref o3, .ref o4, .ref o5, .ref o6, .ref o7, .ref o8, .ref o9])), (o1, .inl (cI, 8192, .inl (mv0 S))), (o2, .inl (cI, 20, .inl (mv10 S))), (o3, .inl (cI, 20, .inl (mv11 S))), (o4, .inl (cJ, 20, .inr (.inl (mv12 S)))), (o5, .inl (cJ, 20, .inr (.inl (mv13 S)))), (o6, .inl (cJ, 20, .inr (.inl (mv14 S)))), (o7, .inl (cJ, 20, .inr (.inl (mv15 S)))), (o8, .inl (cI, 48, .inl (mv16 S))), (o9, .inl (cJ, 80, .inr (.inl (mv17 S))))] s.heap := hP
  have hl := lv_entry ([.ref o0, .int p0]) (n := 3) (Nat.le_of_ble_eq_true rfl)
  rw [lg_entry_eq]
  generalize (lg_sl ([.ref o0, .int p0]) ++ List.replicate (3 - (lg_sl ([.ref o0, .int p0])).length) Slot.unset).toArray = ls at hl ⊢
  have hl : lv_has ls 3 [(0, .ref o0), (1, .int p0)] := hl
  refine lv_iload_n hx hb dX2_use_0 rfl (lv_at hl 1 rfl) ?_
  refine vp_callSi (W.runS (As := [.int p0]) (rest := []) ⟨hx, hb, hml, hown, hts⟩ (kX2_isTable l dC dI p0) (va_cwS 1 hts gX2_use_X2_isTable rfl rfl rfl (by decide +kernel) ⟨Nat.le_of_ble_eq_true rfl, Nat.le_of_ble_eq_true rfl⟩) ⟨fun a U g mk q => by obtain ⟨q0, qt⟩ := q; exact ⟨q0, qt⟩, fun U hU hW => ⟨rfl, trivial⟩⟩ rfl rfl hl.1 rfl (lv_room (Nat.le_of_ble_eq_true rfl)) dX2_use_1 ⟨Nat.zero_le _, Nat.zero_le _⟩) (fun r_1 hr_1 => ?_)
  subst hr_1
  refine lv_if_ne (tgt := 9) hx hb dX2_use_4 (by decide) (fun c_4_2 => ?_) (fun c_4_2 => ?_)
  · refine lv_aload_n hx hb dX2_use_9 rfl (lv_at hl 0 rfl) ?_
    refine va_get (D := (dC, dI)) (ci := 2) (v := .int (mv1 S)) (C := RX2) (T := TX2) (N := 18) hx hb hts inX2_X2_use hown hK hP 0 rfl rfl 1 (by decide) (hts (.fieldLink RX2 83 "DigitDividerModel" "used" "I") (by decide +kernel)) (fun _ h9 => h9) rfl dX2_use_10 ?_
    refine lv_istore_n (lv' := [(2, .int (mv1 S)), (0, .ref o0), (1, .int p0)]) hx hb dX2_use_13 rfl hl (by decide) rfl (fun ls hl => ?_)
    refine lv_aload_n hx hb dX2_use_14 rfl (lv_at hl 1 rfl) ?_
    refine lv_iload_n hx hb dX2_use_15 rfl (lv_at hl 2 rfl) ?_
    refine va_put (D := (dC, dI)) (ci := 2) (v := .int p0) (ty := .int) (C := RX2) (T := TX2) (N := 18) hx hb hts inX2_X2_use tyX2 tyX2_ok nmX2 hown hK hP hD hS 0 rfl rfl 1 (by decide) (hts (.fieldLink RX2 83 "DigitDividerModel" "used" "I") (by decide +kernel)) (fun _ h9 => h9) rfl (by decide +kernel) rfl rfl (Nat.le_of_ble_eq_true rfl) dX2_use_16 (fun H locs hP hD hS => ?_)
    have hP : va_P (dC, dI) vwCl [(o0, .inr (2, [.ref o1, .int p0, .int (mv2 S), .int (mv3 S), .int (mv4 S), .int (mv5 S), .int (mv6 S), .int (mv7 S), .int (mv8 S), .int (mv9 S), .ref o2, .ref o3, .ref o4, .ref o5, .ref o6, .ref o7, .ref o8, .ref o9])), (o1, .inl (cI, 8192, .inl (mv0 S))), (o2, .inl (cI, 20, .inl (mv10 S))), (o3, .inl (cI, 20, .inl (mv11 S))), (o4, .inl (cJ, 20, .inr (.inl (mv12 S)))), (o5, .inl (cJ, 20, .inr (.inl (mv13 S)))), (o6, .inl (cJ, 20, .inr (.inl (mv14 S)))), (o7, .inl (cJ, 20, .inr (.inl (mv15 S)))), (o8, .inl (cI, 48, .inl (mv16 S))), (o9, .inl (cJ, 80, .inr (.inl (mv17 S))))] H := hP
    have hD : va_D A [(o0, .inr (2, [.ref o1, .int p0, .int (mv2 S), .int (mv3 S), .int (mv4 S), .int (mv5 S), .int (mv6 S), .int (mv7 S), .int (mv8 S), .int (mv9 S), .ref o2, .ref o3, .ref o4, .ref o5, .ref o6, .ref o7, .ref o8, .ref o9])), (o1, .inl (cI, 8192, .inl (mv0 S))), (o2, .inl (cI, 20, .inl (mv10 S))), (o3, .inl (cI, 20, .inl (mv11 S))), (o4, .inl (cJ, 20, .inr (.inl (mv12 S)))), (o5, .inl (cJ, 20, .inr (.inl (mv13 S)))), (o6, .inl (cJ, 20, .inr (.inl (mv14 S)))), (o7, .inl (cJ, 20, .inr (.inl (mv15 S)))), (o8, .inl (cI, 48, .inl (mv16 S))), (o9, .inl (cJ, 80, .inr (.inl (mv17 S))))] := hD
    refine lv_iload_n hx hb dX2_use_19 rfl (lv_at hl 0 rfl) ?_
    have hg : (gX2_use S p0) = ((mv1 S), ((mv0 S), p0, (mv2 S), (mv3 S), (mv4 S), (mv5 S), (mv6 S), (mv7 S), (mv8 S), (mv9 S), (mv10 S), (mv11 S), (mv12 S), (mv13 S), (mv14 S), (mv15 S), (mv16 S), (mv17 S))) := by unfold gX2_use; rw [if_neg c_4_2]
    exact W.iret (v := (mv1 S)) hx hb hr (fun t ht hW => ⟨⟨(mv1 S), ((mv0 S), p0, (mv2 S), (mv3 S), (mv4 S), (mv5 S), (mv6 S), (mv7 S), (mv8 S), (mv9 S), (mv10 S), (mv11 S), (mv12 S), (mv13 S), (mv14 S), (mv15 S), (mv16 S), (mv17 S)), rfl, ⟨(congrArg Prod.fst hg).symm, (congrArg Prod.snd hg).symm⟩, by rw [ht]; exact hP, va_K.moved hW.alike hK, hD⟩, hS.F ht⟩) hS.2.2 dX2_use_20
  · refine lv_iconst (v := (-1)) hx hb dX2_use_7 (by decide) ?_
    have hg : (gX2_use S p0) = ((-1), S) := by unfold gX2_use; rw [if_pos c_4_2]
    exact W.iret (v := (-1)) hx hb hr (fun t ht hW => ⟨⟨(-1), S, rfl, ⟨(congrArg Prod.fst hg).symm, (congrArg Prod.snd hg).symm⟩, by rw [ht]; exact hP, va_K.moved hW.alike hK, hD⟩, hS.F ht⟩) hS.2.2 dX2_use_8

def gX2_divide (S : MV) (p0 : Int32) (p1 : Int32) : Int32 × MV := (if p1 = 0 then ((-1), S) else ((mv2 (gX2_work S p0 p1)), (gX2_work S p0 p1)))
theorem inX2_X2_divide : ∀ w ∈ wsX20, w ∈ wsX2_divide := by decide +kernel
set_option maxHeartbeats 4000000 in
set_option maxRecDepth 100000 in
theorem kX2_divide (l : Launch) (dC : Nat → ClassId) (dI : Nat → Nat → Nat) (o0 : Nat) (o1 : Nat) (o2 : Nat) (o3 : Nat) (o4 : Nat) (o5 : Nat) (o6 : Nat) (o7 : Nat) (o8 : Nat) (o9 : Nat) (cI : ClassId) (cJ : ClassId) (sz : Nat) (S : MV) (p0 : Int32) (p1 : Int32) (hu : vp_in (mv1 S) 4) : Met l yX2_divide wsX2_divide ({ frames := 3, cells := 0, slots := 0, locals := 98 } : Room) (va_Pc [.ref o0, .int p0, .int p1] (fun U => U.heap.size = sz ∧ va_P (dC, dI) vwCl [(o0, .inr (2, [.ref o1, .int (mv1 S), .int (mv2 S), .int (mv3 S), .int (mv4 S), .int (mv5 S), .int (mv6 S), .int (mv7 S), .int (mv8 S), .int (mv9 S), .ref o2, .ref o3, .ref o4, .ref o5, .ref o6, .ref o7, .ref o8, .ref o9])), (o1, .inl (cI, 8192, .inl (mv0 S))), (o2, .inl (cI, 20, .inl (mv10 S))), (o3, .inl (cI, 20, .inl (mv11 S))), (o4, .inl (cJ, 20, .inr (.inl (mv12 S)))), (o5, .inl (cJ, 20, .inr (.inl (mv13 S)))), (o6, .inl (cJ, 20, .inr (.inl (mv14 S)))), (o7, .inl (cJ, 20, .inr (.inl (mv15 S)))), (o8, .inl (cI, 48, .inl (mv16 S))), (o9, .inl (cJ, 80, .inr (.inl (mv17 S))))] U.heap ∧ va_K (dC, dI) vwCl [(cI, .int), (cJ, .long)] U ∧ va_D (fun _ => True) [(o0, .inr (2, [.ref o1, .int (mv1 S), .int (mv2 S), .int (mv3 S), .int (mv4 S), .int (mv5 S), .int (mv6 S), .int (mv7 S), .int (mv8 S), .int (mv9 S), .ref o2, .ref o3, .ref o4, .ref o5, .ref o6, .ref o7, .ref o8, .ref o9])), (o1, .inl (cI, 8192, .inl (mv0 S))), (o2, .inl (cI, 20, .inl (mv10 S))), (o3, .inl (cI, 20, .inl (mv11 S))), (o4, .inl (cJ, 20, .inr (.inl (mv12 S)))), (o5, .inl (cJ, 20, .inr (.inl (mv13 S)))), (o6, .inl (cJ, 20, .inr (.inl (mv14 S)))), (o7, .inl (cJ, 20, .inr (.inl (mv15 S)))), (o8, .inl (cI, 48, .inl (mv16 S))), (o9, .inl (cJ, 80, .inr (.inl (mv17 S))))])) (va_Qi (fun (r : Int32) (u : MV) => r = (gX2_divide S p0 p1).1 ∧ u = (gX2_divide S p0 p1).2) (fun (u : MV) (t : State) => va_P (dC, dI) vwCl [(o0, .inr (2, [.ref o1, .int (mv1 u), .int (mv2 u), .int (mv3 u), .int (mv4 u), .int (mv5 u), .int (mv6 u), .int (mv7 u), .int (mv8 u), .int (mv9 u), .ref o2, .ref o3, .ref o4, .ref o5, .ref o6, .ref o7, .ref o8, .ref o9])), (o1, .inl (cI, 8192, .inl (mv0 u))), (o2, .inl (cI, 20, .inl (mv10 u))), (o3, .inl (cI, 20, .inl (mv11 u))), (o4, .inl (cJ, 20, .inr (.inl (mv12 u)))), (o5, .inl (cJ, 20, .inr (.inl (mv13 u)))), (o6, .inl (cJ, 20, .inr (.inl (mv14 u)))), (o7, .inl (cJ, 20, .inr (.inl (mv15 u)))), (o8, .inl (cI, 48, .inl (mv16 u))), (o9, .inl (cJ, 80, .inr (.inl (mv17 u))))] t.heap ∧ va_K (dC, dI) vwCl [(cI, .int), (cJ, .long)] t ∧ va_D (va_A [(o0, .inr (2, [.ref o1, .int (mv1 S), .int (mv2 S), .int (mv3 S), .int (mv4 S), .int (mv5 S), .int (mv6 S), .int (mv7 S), .int (mv8 S), .int (mv9 S), .ref o2, .ref o3, .ref o4, .ref o5, .ref o6, .ref o7, .ref o8, .ref o9])), (o1, .inl (cI, 8192, .inl (mv0 S))), (o2, .inl (cI, 20, .inl (mv10 S))), (o3, .inl (cI, 20, .inl (mv11 S))), (o4, .inl (cJ, 20, .inr (.inl (mv12 S)))), (o5, .inl (cJ, 20, .inr (.inl (mv13 S)))), (o6, .inl (cJ, 20, .inr (.inl (mv14 S)))), (o7, .inl (cJ, 20, .inr (.inl (mv15 S)))), (o8, .inl (cI, 48, .inl (mv16 S))), (o9, .inl (cJ, 80, .inr (.inl (mv17 S))))] sz) [(o0, .inr (2, [.ref o1, .int (mv1 u), .int (mv2 u), .int (mv3 u), .int (mv4 u), .int (mv5 u), .int (mv6 u), .int (mv7 u), .int (mv8 u), .int (mv9 u), .ref o2, .ref o3, .ref o4, .ref o5, .ref o6, .ref o7, .ref o8, .ref o9])), (o1, .inl (cI, 8192, .inl (mv0 u))), (o2, .inl (cI, 20, .inl (mv10 u))), (o3, .inl (cI, 20, .inl (mv11 u))), (o4, .inl (cJ, 20, .inr (.inl (mv12 u)))), (o5, .inl (cJ, 20, .inr (.inl (mv13 u)))), (o6, .inl (cJ, 20, .inr (.inl (mv14 u)))), (o7, .inl (cJ, 20, .inr (.inl (mv15 u)))), (o8, .inl (cI, 48, .inl (mv16 u))), (o9, .inl (cJ, 80, .inr (.inl (mv17 u))))]) (va_A [(o0, .inr (2, [.ref o1, .int (mv1 S), .int (mv2 S), .int (mv3 S), .int (mv4 S), .int (mv5 S), .int (mv6 S), .int (mv7 S), .int (mv8 S), .int (mv9 S), .ref o2, .ref o3, .ref o4, .ref o5, .ref o6, .ref o7, .ref o8, .ref o9])), (o1, .inl (cI, 8192, .inl (mv0 S))), (o2, .inl (cI, 20, .inl (mv10 S))), (o3, .inl (cI, 20, .inl (mv11 S))), (o4, .inl (cJ, 20, .inr (.inl (mv12 S)))), (o5, .inl (cJ, 20, .inr (.inl (mv13 S)))), (o6, .inl (cJ, 20, .inr (.inl (mv14 S)))), (o7, .inl (cJ, 20, .inr (.inl (mv15 S)))), (o8, .inl (cI, 48, .inl (mv16 S))), (o9, .inl (cJ, 80, .inr (.inl (mv17 S))))] sz)) 0 0 (va_A [(o0, .inr (2, [.ref o1, .int (mv1 S), .int (mv2 S), .int (mv3 S), .int (mv4 S), .int (mv5 S), .int (mv6 S), .int (mv7 S), .int (mv8 S), .int (mv9 S), .ref o2, .ref o3, .ref o4, .ref o5, .ref o6, .ref o7, .ref o8, .ref o9])), (o1, .inl (cI, 8192, .inl (mv0 S))), (o2, .inl (cI, 20, .inl (mv10 S))), (o3, .inl (cI, 20, .inl (mv11 S))), (o4, .inl (cJ, 20, .inr (.inl (mv12 S)))), (o5, .inl (cJ, 20, .inr (.inl (mv13 S)))), (o6, .inl (cJ, 20, .inr (.inl (mv14 S)))), (o7, .inl (cJ, 20, .inr (.inl (mv15 S)))), (o8, .inl (cI, 48, .inl (mv16 S))), (o9, .inl (cJ, 80, .inr (.inl (mv17 S))))] sz) := by
  refine Met.ofW (cc := cX2_divide) (maxL := 3) (ret := (some .int)) (by decide) rfl ?_
  intro p e s m args below meth c s₁ B hml hv
  obtain ⟨rfl, hsz, hP, hK, hD0⟩ := hv
  have hx := B.exec
  have hb := B.bytes
  have hr := B.returns
  have hts := atoms_spec (ws := wsX2_divide) B.pre
  have hown : s.vm.findClass RX2 = some m.cls := findClass_of_methodNamed B.named
  have hlocks := B.notSynchronized
  subst hsz
  have hD := hD0.self (sz := s.heap.size)
  generalize hAe : va_A [(o0, .inr (2, [.ref o1, .int (mv1 S), .int (mv2 S), .int (mv3 S), .int (mv4 S), .int (mv5 S), .int (mv6 S), .int (mv7 S), .int (mv8 S), .int (mv9 S), .ref o2, .ref o3, .ref o4, .ref o5, .ref o6, .ref o7, .ref o8, .ref o9])), (o1, .inl (cI, 8192, .inl (mv0 S))), (o2, .inl (cI, 20, .inl (mv10 S))), (o3, .inl (cI, 20, .inl (mv11 S))), (o4, .inl (cJ, 20, .inr (.inl (mv12 S)))), (o5, .inl (cJ, 20, .inr (.inl (mv13 S)))), (o6, .inl (cJ, 20, .inr (.inl (mv14 S)))), (o7, .inl (cJ, 20, .inr (.inl (mv15 S)))), (o8, .inl (cI, 48, .inl (mv16 S))), (o9, .inl (cJ, 80, .inr (.inl (mv17 S))))] s.heap.size = A at hD  ⊢
  have hA : ∀ q : Nat, s.heap.size ≤ q → A q := fun q h => by rw [← hAe]; exact Or.inr h
  have hS : va_S A s.heap s.heap [] := va_S.rf
  have hP : va_P (dC, dI) vwCl [(o0, .inr (2, [.ref o1, .int (mv1 S), .int (mv2 S), .int (mv3 S), .int (mv4 S), .int (mv5 S), .int (mv6 S), .int (mv7 S), .int (mv8 S), .int (mv9 S), .ref o2, .ref o3, .ref o4, .ref o5, .ref o6, .ref o7, .ref o8, .ref o9])), (o1, .inl (cI, 8192, .inl (mv0 S))), (o2, .inl (cI, 20, .inl (mv10 S))), (o3, .inl (cI, 20, .inl (mv11 S))), (o4, .inl (cJ, 20, .inr (.inl (mv12 S)))), (o5, .inl (cJ, 20, .inr (.inl (mv13 S)))), (o6, .inl (cJ, 20, .inr (.inl (mv14 S)))), (o7, .inl (cJ, 20, .inr (.inl (mv15 S)))), (o8, .inl (cI, 48, .inl (mv16 S))), (o9, .inl (cJ, 80, .inr (.inl (mv17 S))))] s.heap := hP
  have hl := lv_entry ([.ref o0, .int p0, .int p1]) (n := 3) (Nat.le_of_ble_eq_true rfl)
  rw [lg_entry_eq]
  generalize (lg_sl ([.ref o0, .int p0, .int p1]) ++ List.replicate (3 - (lg_sl ([.ref o0, .int p0, .int p1])).length) Slot.unset).toArray = ls at hl ⊢
  have hl : lv_has ls 3 [(0, .ref o0), (1, .int p0), (2, .int p1)] := hl
  refine lv_iload_n hx hb dX2_divide_0 rfl (lv_at hl 2 rfl) ?_
  refine lv_if_ne (tgt := 6) hx hb dX2_divide_1 (by decide) (fun c_1_1 => ?_) (fun c_1_1 => ?_)
  · refine lv_aload_n hx hb dX2_divide_6 rfl (lv_at hl 0 rfl) ?_
    refine lv_iload_n hx hb dX2_divide_7 rfl (lv_at hl 1 rfl) ?_
    refine lv_iload_n hx hb dX2_divide_8 rfl (lv_at hl 2 rfl) ?_
    have hPc := hP.sub (ws' := [(o0, .inr (2, [.ref o1, .int (mv1 S), .int (mv2 S), .int (mv3 S), .int (mv4 S), .int (mv5 S), .int (mv6 S), .int (mv7 S), .int (mv8 S), .int (mv9 S), .ref o2, .ref o3, .ref o4, .ref o5, .ref o6, .ref o7, .ref o8, .ref o9])), (o1, .inl (cI, 8192, .inl (mv0 S))), (o2, .inl (cI, 20, .inl (mv10 S))), (o3, .inl (cI, 20, .inl (mv11 S))), (o4, .inl (cJ, 20, .inr (.inl (mv12 S)))), (o5, .inl (cJ, 20, .inr (.inl (mv13 S)))), (o6, .inl (cJ, 20, .inr (.inl (mv14 S)))), (o7, .inl (cJ, 20, .inr (.inl (mv15 S)))), (o8, .inl (cI, 48, .inl (mv16 S))), (o9, .inl (cJ, 80, .inr (.inl (mv17 S))))]) [0, 1, 2, 3, 4, 5, 6, 7, 8, 9] rfl
    have hKc := hK.sub (tys' := [(cI, .int), (cJ, .long)]) [0, 1] rfl
    have hDc := hD.sub (ws' := [(o0, .inr (2, [.ref o1, .int (mv1 S), .int (mv2 S), .int (mv3 S), .int (mv4 S), .int (mv5 S), .int (mv6 S), .int (mv7 S), .int (mv8 S), .int (mv9 S), .ref o2, .ref o3, .ref o4, .ref o5, .ref o6, .ref o7, .ref o8, .ref o9])), (o1, .inl (cI, 8192, .inl (mv0 S))), (o2, .inl (cI, 20, .inl (mv10 S))), (o3, .inl (cI, 20, .inl (mv11 S))), (o4, .inl (cJ, 20, .inr (.inl (mv12 S)))), (o5, .inl (cJ, 20, .inr (.inl (mv13 S)))), (o6, .inl (cJ, 20, .inr (.inl (mv14 S)))), (o7, .inl (cJ, 20, .inr (.inl (mv15 S)))), (o8, .inl (cI, 48, .inl (mv16 S))), (o9, .inl (cJ, 80, .inr (.inl (mv17 S))))]) [0, 1, 2, 3, 4, 5, 6, 7, 8, 9] (by decide) rfl
    have hFc := va_free (wc := [(o0, .inr (2, [.ref o1, .int (mv1 S), .int (mv2 S), .int (mv3 S), .int (mv4 S), .int (mv5 S), .int (mv6 S), .int (mv7 S), .int (mv8 S), .int (mv9 S), .ref o2, .ref o3, .ref o4, .ref o5, .ref o6, .ref o7, .ref o8, .ref o9])), (o1, .inl (cI, 8192, .inl (mv0 S))), (o2, .inl (cI, 20, .inl (mv10 S))), (o3, .inl (cI, 20, .inl (mv11 S))), (o4, .inl (cJ, 20, .inr (.inl (mv12 S)))), (o5, .inl (cJ, 20, .inr (.inl (mv13 S)))), (o6, .inl (cJ, 20, .inr (.inl (mv14 S)))), (o7, .inl (cJ, 20, .inr (.inl (mv15 S)))), (o8, .inl (cI, 48, .inl (mv16 S))), (o9, .inl (cJ, 80, .inr (.inl (mv17 S))))]) hD hS hA [0, 1, 2, 3, 4, 5, 6, 7, 8, 9] rfl
    refine va_callv (va_runV (As := [.int p0, .int p1]) (rest := []) ⟨hx, hb, hml, hown, hts⟩ (kX2_work l dC dI o0 o1 o2 o3 o4 o5 o6 o7 o8 o9 cI cJ s.heap.size S p0 p1 c_1_1 hu) (cwV 2 hts gX2_divide_X2_work rfl rfl rfl (by decide +kernel) ⟨Nat.le_of_ble_eq_true rfl, Nat.le_of_ble_eq_true rfl⟩) ⟨fun a U g mk q => by obtain ⟨q0, q1, qP, qK, qD⟩ := q; exact ⟨q0, q1, qP, va_K.moved (u := U) (U := U.calling g mk a) (Vm.Alike.refl U.vm) qK, qD⟩, va_recv hKc hPc (ci := 2) (q0 := 0) rfl rfl, fun U hU hW => ⟨rfl, by rw [hU], by rw [hU]; exact hPc, va_K.moved hW.alike hKc, hDc.weaken (fun _ _ _ _ => trivial)⟩⟩ rfl rfl hl.1 rfl (lv_room (Nat.le_of_ble_eq_true rfl)) dX2_divide_9 ⟨Nat.zero_le _, Nat.zero_le _⟩) hS (fun q _ h => hFc q h) hFc (fun u_2 t H1 locs ht hvm hw hB hz1 hk1 hS => ?_)
    try dsimp only at hw
    subst hw
    obtain ⟨hP1, hK1, hD1⟩ := hB
    rw [ht] at hP1
    have hK1 := va_K.moved hvm.symm hK1
    obtain ⟨hP, hD⟩ := va_join (wr := []) (w1 := [(o0, .inr (2, [.ref o1, .int (mv1 (gX2_work S p0 p1)), .int (mv2 (gX2_work S p0 p1)), .int (mv3 (gX2_work S p0 p1)), .int (mv4 (gX2_work S p0 p1)), .int (mv5 (gX2_work S p0 p1)), .int (mv6 (gX2_work S p0 p1)), .int (mv7 (gX2_work S p0 p1)), .int (mv8 (gX2_work S p0 p1)), .int (mv9 (gX2_work S p0 p1)), .ref o2, .ref o3, .ref o4, .ref o5, .ref o6, .ref o7, .ref o8, .ref o9])), (o1, .inl (cI, 8192, .inl (mv0 (gX2_work S p0 p1)))), (o2, .inl (cI, 20, .inl (mv10 (gX2_work S p0 p1)))), (o3, .inl (cI, 20, .inl (mv11 (gX2_work S p0 p1)))), (o4, .inl (cJ, 20, .inr (.inl (mv12 (gX2_work S p0 p1))))), (o5, .inl (cJ, 20, .inr (.inl (mv13 (gX2_work S p0 p1))))), (o6, .inl (cJ, 20, .inr (.inl (mv14 (gX2_work S p0 p1))))), (o7, .inl (cJ, 20, .inr (.inl (mv15 (gX2_work S p0 p1))))), (o8, .inl (cI, 48, .inl (mv16 (gX2_work S p0 p1)))), (o9, .inl (cJ, 80, .inr (.inl (mv17 (gX2_work S p0 p1)))))]) hP hD [0, 1, 2, 3, 4, 5, 6, 7, 8, 9] [] rfl rfl (by decide) (by decide) hk1 hFc hP1 hD1
    generalize H1 = H at hP hS ⊢
    have hP : va_P (dC, dI) vwCl [(o0, .inr (2, [.ref o1, .int (mv1 (gX2_work S p0 p1)), .int (mv2 (gX2_work S p0 p1)), .int (mv3 (gX2_work S p0 p1)), .int (mv4 (gX2_work S p0 p1)), .int (mv5 (gX2_work S p0 p1)), .int (mv6 (gX2_work S p0 p1)), .int (mv7 (gX2_work S p0 p1)), .int (mv8 (gX2_work S p0 p1)), .int (mv9 (gX2_work S p0 p1)), .ref o2, .ref o3, .ref o4, .ref o5, .ref o6, .ref o7, .ref o8, .ref o9])), (o1, .inl (cI, 8192, .inl (mv0 (gX2_work S p0 p1)))), (o2, .inl (cI, 20, .inl (mv10 (gX2_work S p0 p1)))), (o3, .inl (cI, 20, .inl (mv11 (gX2_work S p0 p1)))), (o4, .inl (cJ, 20, .inr (.inl (mv12 (gX2_work S p0 p1))))), (o5, .inl (cJ, 20, .inr (.inl (mv13 (gX2_work S p0 p1))))), (o6, .inl (cJ, 20, .inr (.inl (mv14 (gX2_work S p0 p1))))), (o7, .inl (cJ, 20, .inr (.inl (mv15 (gX2_work S p0 p1))))), (o8, .inl (cI, 48, .inl (mv16 (gX2_work S p0 p1)))), (o9, .inl (cJ, 80, .inr (.inl (mv17 (gX2_work S p0 p1)))))] H := hP.sub [0, 1, 2, 3, 4, 5, 6, 7, 8, 9] rfl
    have hD : va_D A [(o0, .inr (2, [.ref o1, .int (mv1 (gX2_work S p0 p1)), .int (mv2 (gX2_work S p0 p1)), .int (mv3 (gX2_work S p0 p1)), .int (mv4 (gX2_work S p0 p1)), .int (mv5 (gX2_work S p0 p1)), .int (mv6 (gX2_work S p0 p1)), .int (mv7 (gX2_work S p0 p1)), .int (mv8 (gX2_work S p0 p1)), .int (mv9 (gX2_work S p0 p1)), .ref o2, .ref o3, .ref o4, .ref o5, .ref o6, .ref o7, .ref o8, .ref o9])), (o1, .inl (cI, 8192, .inl (mv0 (gX2_work S p0 p1)))), (o2, .inl (cI, 20, .inl (mv10 (gX2_work S p0 p1)))), (o3, .inl (cI, 20, .inl (mv11 (gX2_work S p0 p1)))), (o4, .inl (cJ, 20, .inr (.inl (mv12 (gX2_work S p0 p1))))), (o5, .inl (cJ, 20, .inr (.inl (mv13 (gX2_work S p0 p1))))), (o6, .inl (cJ, 20, .inr (.inl (mv14 (gX2_work S p0 p1))))), (o7, .inl (cJ, 20, .inr (.inl (mv15 (gX2_work S p0 p1))))), (o8, .inl (cI, 48, .inl (mv16 (gX2_work S p0 p1)))), (o9, .inl (cJ, 80, .inr (.inl (mv17 (gX2_work S p0 p1)))))] := hD.sub [0, 1, 2, 3, 4, 5, 6, 7, 8, 9] (by decide) rfl
    refine lv_aload_n hx hb dX2_divide_12 rfl (lv_at hl 0 rfl) ?_
    refine va_get (D := (dC, dI)) (ci := 2) (v := .int (mv2 (gX2_work S p0 p1))) (C := RX2) (T := TX2) (N := 18) hx hb hts inX2_X2_divide hown hK hP 0 rfl rfl 2 (by decide) (hts (.fieldLink RX2 107 "DigitDividerModel" "n" "I") (by decide +kernel)) (fun _ h9 => h9) rfl dX2_divide_13 ?_
    have hg : (gX2_divide S p0 p1) = ((mv2 (gX2_work S p0 p1)), (gX2_work S p0 p1)) := by unfold gX2_divide; rw [if_neg c_1_1]
    exact W.iret (v := (mv2 (gX2_work S p0 p1))) hx hb hr (fun t ht hW => ⟨⟨(mv2 (gX2_work S p0 p1)), (gX2_work S p0 p1), rfl, ⟨(congrArg Prod.fst hg).symm, (congrArg Prod.snd hg).symm⟩, by rw [ht]; exact hP, va_K.moved hW.alike hK, hD⟩, hS.F ht⟩) hS.2.2 dX2_divide_16
  · refine lv_iconst (v := (-1)) hx hb dX2_divide_4 (by decide) ?_
    have hg : (gX2_divide S p0 p1) = ((-1), S) := by unfold gX2_divide; rw [if_pos c_1_1]
    exact W.iret (v := (-1)) hx hb hr (fun t ht hW => ⟨⟨(-1), S, rfl, ⟨(congrArg Prod.fst hg).symm, (congrArg Prod.snd hg).symm⟩, by rw [ht]; exact hP, va_K.moved hW.alike hK, hD⟩, hS.F ht⟩) hS.2.2 dX2_divide_5

def fX2_quotient (S : MV) : Int32 := (mv7 S)
theorem inX2_X2_quotient : ∀ w ∈ wsX20, w ∈ wsX2_quotient := by decide +kernel
set_option maxHeartbeats 4000000 in
set_option maxRecDepth 100000 in
theorem kX2_quotient (l : Launch) (dC : Nat → ClassId) (dI : Nat → Nat → Nat) (o0 : Nat) (o1 : Nat) (o2 : Nat) (o3 : Nat) (o4 : Nat) (o5 : Nat) (o6 : Nat) (o7 : Nat) (o8 : Nat) (o9 : Nat) (cI : ClassId) (cJ : ClassId) (S : MV)  : Met l yX2_quotient wsX2_quotient ({ frames := 0, cells := 0, slots := 0, locals := 0 } : Room) (va_Pc [.ref o0] (fun U => va_P (dC, dI) vwCl [(o0, .inr (2, [.ref o1, .int (mv1 S), .int (mv2 S), .int (mv3 S), .int (mv4 S), .int (mv5 S), .int (mv6 S), .int (mv7 S), .int (mv8 S), .int (mv9 S), .ref o2, .ref o3, .ref o4, .ref o5, .ref o6, .ref o7, .ref o8, .ref o9])), (o1, .inl (cI, 8192, .inl (mv0 S))), (o2, .inl (cI, 20, .inl (mv10 S))), (o3, .inl (cI, 20, .inl (mv11 S))), (o4, .inl (cJ, 20, .inr (.inl (mv12 S)))), (o5, .inl (cJ, 20, .inr (.inl (mv13 S)))), (o6, .inl (cJ, 20, .inr (.inl (mv14 S)))), (o7, .inl (cJ, 20, .inr (.inl (mv15 S)))), (o8, .inl (cI, 48, .inl (mv16 S))), (o9, .inl (cJ, 80, .inr (.inl (mv17 S))))] U.heap ∧ va_K (dC, dI) vwCl [(cI, .int), (cJ, .long)] U)) (vp_Si (fun r : Int32 => r = (fX2_quotient S))) 0 0 (fun _ => False) := by
  refine Met.ofW (cc := cX2_quotient) (maxL := 1) (ret := (some .int)) (by decide) rfl ?_
  intro p e s m args below meth c s₁ B hml hv
  obtain ⟨rfl, hP, hK⟩ := hv
  have hx := B.exec
  have hb := B.bytes
  have hr := B.returns
  have hts := atoms_spec (ws := wsX2_quotient) B.pre
  have hown : s.vm.findClass RX2 = some m.cls := findClass_of_methodNamed B.named
  have hlocks := B.notSynchronized
  have hS : va_S (fun _ => False) s.heap s.heap [] := va_S.rf
  have hl := lv_entry ([.ref o0]) (n := 1) (Nat.le_of_ble_eq_true rfl)
  rw [lg_entry_eq]
  generalize (lg_sl ([.ref o0]) ++ List.replicate (1 - (lg_sl ([.ref o0])).length) Slot.unset).toArray = ls at hl ⊢
  have hl : lv_has ls 1 [(0, .ref o0)] := hl
  refine lv_aload_n hx hb dX2_quotient_0 rfl (lv_at hl 0 rfl) ?_
  refine va_get (D := (dC, dI)) (ci := 2) (v := .int (mv7 S)) (C := RX2) (T := TX2) (N := 18) hx hb hts inX2_X2_quotient hown hK hP 0 rfl rfl 7 (by decide) (hts (.fieldLink RX2 128 "DigitDividerModel" "quotient" "I") (by decide +kernel)) (fun _ h9 => h9) rfl dX2_quotient_1 ?_
  exact W.iret (v := (mv7 S)) hx hb hr (fun t ht hW => ⟨(mv7 S), rfl, rfl, ht⟩) (fun q h => absurd h List.not_mem_nil) dX2_quotient_4

def fX2_rest (S : MV) : Int32 := (mv8 S)
theorem inX2_X2_rest : ∀ w ∈ wsX20, w ∈ wsX2_rest := by decide +kernel
set_option maxHeartbeats 4000000 in
set_option maxRecDepth 100000 in
theorem kX2_rest (l : Launch) (dC : Nat → ClassId) (dI : Nat → Nat → Nat) (o0 : Nat) (o1 : Nat) (o2 : Nat) (o3 : Nat) (o4 : Nat) (o5 : Nat) (o6 : Nat) (o7 : Nat) (o8 : Nat) (o9 : Nat) (cI : ClassId) (cJ : ClassId) (S : MV)  : Met l yX2_rest wsX2_rest ({ frames := 0, cells := 0, slots := 0, locals := 0 } : Room) (va_Pc [.ref o0] (fun U => va_P (dC, dI) vwCl [(o0, .inr (2, [.ref o1, .int (mv1 S), .int (mv2 S), .int (mv3 S), .int (mv4 S), .int (mv5 S), .int (mv6 S), .int (mv7 S), .int (mv8 S), .int (mv9 S), .ref o2, .ref o3, .ref o4, .ref o5, .ref o6, .ref o7, .ref o8, .ref o9])), (o1, .inl (cI, 8192, .inl (mv0 S))), (o2, .inl (cI, 20, .inl (mv10 S))), (o3, .inl (cI, 20, .inl (mv11 S))), (o4, .inl (cJ, 20, .inr (.inl (mv12 S)))), (o5, .inl (cJ, 20, .inr (.inl (mv13 S)))), (o6, .inl (cJ, 20, .inr (.inl (mv14 S)))), (o7, .inl (cJ, 20, .inr (.inl (mv15 S)))), (o8, .inl (cI, 48, .inl (mv16 S))), (o9, .inl (cJ, 80, .inr (.inl (mv17 S))))] U.heap ∧ va_K (dC, dI) vwCl [(cI, .int), (cJ, .long)] U)) (vp_Si (fun r : Int32 => r = (fX2_rest S))) 0 0 (fun _ => False) := by
  refine Met.ofW (cc := cX2_rest) (maxL := 1) (ret := (some .int)) (by decide) rfl ?_
  intro p e s m args below meth c s₁ B hml hv
  obtain ⟨rfl, hP, hK⟩ := hv
  have hx := B.exec
  have hb := B.bytes
  have hr := B.returns
  have hts := atoms_spec (ws := wsX2_rest) B.pre
  have hown : s.vm.findClass RX2 = some m.cls := findClass_of_methodNamed B.named
  have hlocks := B.notSynchronized
  have hS : va_S (fun _ => False) s.heap s.heap [] := va_S.rf
  have hl := lv_entry ([.ref o0]) (n := 1) (Nat.le_of_ble_eq_true rfl)
  rw [lg_entry_eq]
  generalize (lg_sl ([.ref o0]) ++ List.replicate (1 - (lg_sl ([.ref o0])).length) Slot.unset).toArray = ls at hl ⊢
  have hl : lv_has ls 1 [(0, .ref o0)] := hl
  refine lv_aload_n hx hb dX2_rest_0 rfl (lv_at hl 0 rfl) ?_
  refine va_get (D := (dC, dI)) (ci := 2) (v := .int (mv8 S)) (C := RX2) (T := TX2) (N := 18) hx hb hts inX2_X2_rest hown hK hP 0 rfl rfl 8 (by decide) (hts (.fieldLink RX2 131 "DigitDividerModel" "rest" "I") (by decide +kernel)) (fun _ h9 => h9) rfl dX2_rest_1 ?_
  exact W.iret (v := (mv8 S)) hx hb hr (fun t ht hW => ⟨(mv8 S), rfl, rfl, ht⟩) (fun q h => absurd h List.not_mem_nil) dX2_rest_4

def fX2_left (S : MV) : Int32 := (mv6 S)
theorem inX2_X2_left : ∀ w ∈ wsX20, w ∈ wsX2_left := by decide +kernel
set_option maxHeartbeats 4000000 in
set_option maxRecDepth 100000 in
theorem kX2_left (l : Launch) (dC : Nat → ClassId) (dI : Nat → Nat → Nat) (o0 : Nat) (o1 : Nat) (o2 : Nat) (o3 : Nat) (o4 : Nat) (o5 : Nat) (o6 : Nat) (o7 : Nat) (o8 : Nat) (o9 : Nat) (cI : ClassId) (cJ : ClassId) (S : MV)  : Met l yX2_left wsX2_left ({ frames := 0, cells := 0, slots := 0, locals := 0 } : Room) (va_Pc [.ref o0] (fun U => va_P (dC, dI) vwCl [(o0, .inr (2, [.ref o1, .int (mv1 S), .int (mv2 S), .int (mv3 S), .int (mv4 S), .int (mv5 S), .int (mv6 S), .int (mv7 S), .int (mv8 S), .int (mv9 S), .ref o2, .ref o3, .ref o4, .ref o5, .ref o6, .ref o7, .ref o8, .ref o9])), (o1, .inl (cI, 8192, .inl (mv0 S))), (o2, .inl (cI, 20, .inl (mv10 S))), (o3, .inl (cI, 20, .inl (mv11 S))), (o4, .inl (cJ, 20, .inr (.inl (mv12 S)))), (o5, .inl (cJ, 20, .inr (.inl (mv13 S)))), (o6, .inl (cJ, 20, .inr (.inl (mv14 S)))), (o7, .inl (cJ, 20, .inr (.inl (mv15 S)))), (o8, .inl (cI, 48, .inl (mv16 S))), (o9, .inl (cJ, 80, .inr (.inl (mv17 S))))] U.heap ∧ va_K (dC, dI) vwCl [(cI, .int), (cJ, .long)] U)) (vp_Si (fun r : Int32 => r = (fX2_left S))) 0 0 (fun _ => False) := by
  refine Met.ofW (cc := cX2_left) (maxL := 1) (ret := (some .int)) (by decide) rfl ?_
  intro p e s m args below meth c s₁ B hml hv
  obtain ⟨rfl, hP, hK⟩ := hv
  have hx := B.exec
  have hb := B.bytes
  have hr := B.returns
  have hts := atoms_spec (ws := wsX2_left) B.pre
  have hown : s.vm.findClass RX2 = some m.cls := findClass_of_methodNamed B.named
  have hlocks := B.notSynchronized
  have hS : va_S (fun _ => False) s.heap s.heap [] := va_S.rf
  have hl := lv_entry ([.ref o0]) (n := 1) (Nat.le_of_ble_eq_true rfl)
  rw [lg_entry_eq]
  generalize (lg_sl ([.ref o0]) ++ List.replicate (1 - (lg_sl ([.ref o0])).length) Slot.unset).toArray = ls at hl ⊢
  have hl : lv_has ls 1 [(0, .ref o0)] := hl
  refine lv_aload_n hx hb dX2_left_0 rfl (lv_at hl 0 rfl) ?_
  refine va_get (D := (dC, dI)) (ci := 2) (v := .int (mv6 S)) (C := RX2) (T := TX2) (N := 18) hx hb hts inX2_X2_left hown hK hP 0 rfl rfl 6 (by decide) (hts (.fieldLink RX2 96 "DigitDividerModel" "left" "I") (by decide +kernel)) (fun _ h9 => h9) rfl dX2_left_1 ?_
  exact W.iret (v := (mv6 S)) hx hb hr (fun t ht hW => ⟨(mv6 S), rfl, rfl, ht⟩) (fun q h => absurd h List.not_mem_nil) dX2_left_4

def fX2_step_j45 (S : MV) (p0 : Int32) (p1 : Int32) : Int32 := (if (fX2_in p0 (1) (mv2 S)) = 0 then (-101) else (if (fX2_in p1 (0) (1)) = 0 then (-101) else (if p1 = 0 then (mv10 S) p0.toNatClampNeg else (mv11 S) p0.toNatClampNeg)))
def fX2_step (S : MV) (p0 : Int32) (p1 : Int32) : Int32 := (fX2_step_j45 S p0 p1)
theorem inX2_X2_step : ∀ w ∈ wsX20, w ∈ wsX2_step := by decide +kernel
set_option maxHeartbeats 4000000 in
set_option maxRecDepth 100000 in
theorem kX2_step (l : Launch) (dC : Nat → ClassId) (dI : Nat → Nat → Nat) (o0 : Nat) (o1 : Nat) (o2 : Nat) (o3 : Nat) (o4 : Nat) (o5 : Nat) (o6 : Nat) (o7 : Nat) (o8 : Nat) (o9 : Nat) (cI : ClassId) (cJ : ClassId) (S : MV) (nn : Nat) (p0 : Int32) (p1 : Int32) (hnn : nn ≤ 17) (hn : mv2 S = nI nn) : Met l yX2_step wsX2_step ({ frames := 1, cells := 0, slots := 0, locals := 22 } : Room) (va_Pc [.ref o0, .int p0, .int p1] (fun U => va_P (dC, dI) vwCl [(o0, .inr (2, [.ref o1, .int (mv1 S), .int (mv2 S), .int (mv3 S), .int (mv4 S), .int (mv5 S), .int (mv6 S), .int (mv7 S), .int (mv8 S), .int (mv9 S), .ref o2, .ref o3, .ref o4, .ref o5, .ref o6, .ref o7, .ref o8, .ref o9])), (o1, .inl (cI, 8192, .inl (mv0 S))), (o2, .inl (cI, 20, .inl (mv10 S))), (o3, .inl (cI, 20, .inl (mv11 S))), (o4, .inl (cJ, 20, .inr (.inl (mv12 S)))), (o5, .inl (cJ, 20, .inr (.inl (mv13 S)))), (o6, .inl (cJ, 20, .inr (.inl (mv14 S)))), (o7, .inl (cJ, 20, .inr (.inl (mv15 S)))), (o8, .inl (cI, 48, .inl (mv16 S))), (o9, .inl (cJ, 80, .inr (.inl (mv17 S))))] U.heap ∧ va_K (dC, dI) vwCl [(cI, .int), (cJ, .long)] U)) (vp_Si (fun r : Int32 => r = (fX2_step S p0 p1))) 0 0 (fun _ => False) := by
  refine Met.ofW (cc := cX2_step) (maxL := 3) (ret := (some .int)) (by decide) rfl ?_
  intro p e s m args below meth c s₁ B hml hv
  obtain ⟨rfl, hP, hK⟩ := hv
  have hx := B.exec
  have hb := B.bytes
  have hr := B.returns
  have hts := atoms_spec (ws := wsX2_step) B.pre
  have hown : s.vm.findClass RX2 = some m.cls := findClass_of_methodNamed B.named
  have hlocks := B.notSynchronized
  have hS : va_S (fun _ => False) s.heap s.heap [] := va_S.rf
  have hl := lv_entry ([.ref o0, .int p0, .int p1]) (n := 3) (Nat.le_of_ble_eq_true rfl)
  rw [lg_entry_eq]
  generalize (lg_sl ([.ref o0, .int p0, .int p1]) ++ List.replicate (3 - (lg_sl ([.ref o0, .int p0, .int p1])).length) Slot.unset).toArray = ls at hl ⊢
  have hl : lv_has ls 3 [(0, .ref o0), (1, .int p0), (2, .int p1)] := hl
  refine lv_iload_n hx hb dX2_step_0 rfl (lv_at hl 1 rfl) ?_
  refine lv_iconst (v := 1) hx hb dX2_step_1 (by decide) ?_
  refine lv_aload_n hx hb dX2_step_2 rfl (lv_at hl 0 rfl) ?_
  refine va_get (D := (dC, dI)) (ci := 2) (v := .int (mv2 S)) (C := RX2) (T := TX2) (N := 18) hx hb hts inX2_X2_step hown hK hP 0 rfl rfl 2 (by decide) (hts (.fieldLink RX2 107 "DigitDividerModel" "n" "I") (by decide +kernel)) (fun _ h9 => h9) rfl dX2_step_3 ?_
  refine vp_callSi (W.runS (As := [.int p0, .int 1, .int (mv2 S)]) (rest := []) ⟨hx, hb, hml, hown, hts⟩ (kX2_in l dC dI p0 (1) (mv2 S)) (va_cwS 3 hts gX2_step_X2_in rfl rfl rfl (by decide +kernel) ⟨Nat.le_of_ble_eq_true rfl, Nat.le_of_ble_eq_true rfl⟩) ⟨fun a U g mk q => by obtain ⟨q0, qt⟩ := q; exact ⟨q0, qt⟩, fun U hU hW => ⟨rfl, trivial⟩⟩ rfl rfl hl.1 rfl (lv_room (Nat.le_of_ble_eq_true rfl)) dX2_step_6 ⟨Nat.zero_le _, Nat.zero_le _⟩) (fun r_1 hr_1 => ?_)
  subst hr_1
  refine ax_joinI (J := 45) (v := (fX2_step_j45 S p0 p1)) (ls := ls) (rest := []) ?_ (fun kj_6 => ?_)
  · exact W.iret (v := (fX2_step_j45 S p0 p1)) hx hb hr (fun t ht hW => ⟨(fX2_step_j45 S p0 p1), rfl, rfl, ht⟩) (fun q h => absurd h List.not_mem_nil) dX2_step_45
  · refine lv_if_eq (tgt := 43) hx hb dX2_step_9 (by decide) (fun c_9_2 => ?_) (fun c_9_2 => ?_)
    · refine lv_bipush (v := (-101)) hx hb dX2_step_43 (by decide) ?_
      exact kj_6 _ (by unfold fX2_step_j45; rw [if_pos c_9_2])
    · refine lv_iload_n hx hb dX2_step_12 rfl (lv_at hl 2 rfl) ?_
      refine lv_iconst (v := 0) hx hb dX2_step_13 (by decide) ?_
      refine lv_iconst (v := 1) hx hb dX2_step_14 (by decide) ?_
      refine vp_callSi (W.runS (As := [.int p1, .int 0, .int 1]) (rest := []) ⟨hx, hb, hml, hown, hts⟩ (kX2_in l dC dI p1 (0) (1)) (va_cwS 3 hts gX2_step_X2_in rfl rfl rfl (by decide +kernel) ⟨Nat.le_of_ble_eq_true rfl, Nat.le_of_ble_eq_true rfl⟩) ⟨fun a U g mk q => by obtain ⟨q0, qt⟩ := q; exact ⟨q0, qt⟩, fun U hU hW => ⟨rfl, trivial⟩⟩ rfl rfl hl.1 rfl (lv_room (Nat.le_of_ble_eq_true rfl)) dX2_step_15 ⟨Nat.zero_le _, Nat.zero_le _⟩) (fun r_3 hr_3 => ?_)
      subst hr_3
      refine lv_if_eq (tgt := 43) hx hb dX2_step_18 (by decide) (fun c_18_4 => ?_) (fun c_18_4 => ?_)
      · refine lv_bipush (v := (-101)) hx hb dX2_step_43 (by decide) ?_
        exact kj_6 _ (by unfold fX2_step_j45; rw [if_neg c_9_2, if_pos c_18_4])
      · refine lv_iload_n hx hb dX2_step_21 rfl (lv_at hl 2 rfl) ?_
        refine lv_if_ne (tgt := 34) hx hb dX2_step_22 (by decide) (fun c_22_5 => ?_) (fun c_22_5 => ?_)
        · refine lv_aload_n hx hb dX2_step_34 rfl (lv_at hl 0 rfl) ?_
          refine va_get (D := (dC, dI)) (ci := 2) (v := .ref o3) (C := RX2) (T := TX2) (N := 18) hx hb hts inX2_X2_step hown hK hP 0 rfl rfl 11 (by decide) (hts (.fieldLink RX2 16 "DigitDividerModel" "columns" "[I") (by decide +kernel)) (fun _ h9 => h9) rfl dX2_step_35 ?_
          refine lv_iload_n hx hb dX2_step_38 rfl (lv_at hl 1 rfl) ?_
          refine va_iald hx hb hK hP 3 0 rfl rfl (in_n20 hnn hn c_9_2) dX2_step_39 ?_
          refine lv_goto (tgt := 45) hx hb dX2_step_40 (by decide) ?_
          exact kj_6 _ (by unfold fX2_step_j45; rw [if_neg c_9_2, if_neg c_18_4, if_neg c_22_5])
        · refine lv_aload_n hx hb dX2_step_25 rfl (lv_at hl 0 rfl) ?_
          refine va_get (D := (dC, dI)) (ci := 2) (v := .ref o2) (C := RX2) (T := TX2) (N := 18) hx hb hts inX2_X2_step hown hK hP 0 rfl rfl 10 (by decide) (hts (.fieldLink RX2 13 "DigitDividerModel" "digits" "[I") (by decide +kernel)) (fun _ h9 => h9) rfl dX2_step_26 ?_
          refine lv_iload_n hx hb dX2_step_29 rfl (lv_at hl 1 rfl) ?_
          refine va_iald hx hb hK hP 2 0 rfl rfl (in_n20 hnn hn c_9_2) dX2_step_30 ?_
          refine lv_goto (tgt := 45) hx hb dX2_step_31 (by decide) ?_
          exact kj_6 _ (by unfold fX2_step_j45; rw [if_neg c_9_2, if_neg c_18_4, if_pos c_22_5])

def fX2_state_j77 (S : MV) (p0 : Int32) (p1 : Int32) : Int64 := (if p1 = 0 then (mv12 S) p0.toNatClampNeg else (if p1 = 1 then (mv13 S) p0.toNatClampNeg else (if p1 = 2 then (mv14 S) p0.toNatClampNeg else (if p1 = 3 then (mv15 S) p0.toNatClampNeg else 0))))
def fX2_state (S : MV) (p0 : Int32) (p1 : Int32) : Int64 := (if (mv9 S) = 0 then 0 else (if (fX2_in p0 (0) (mv2 S)) = 0 then 0 else (fX2_state_j77 S p0 p1)))
theorem inX2_X2_state : ∀ w ∈ wsX20, w ∈ wsX2_state := by decide +kernel
set_option maxHeartbeats 4000000 in
set_option maxRecDepth 100000 in
theorem kX2_state (l : Launch) (dC : Nat → ClassId) (dI : Nat → Nat → Nat) (o0 : Nat) (o1 : Nat) (o2 : Nat) (o3 : Nat) (o4 : Nat) (o5 : Nat) (o6 : Nat) (o7 : Nat) (o8 : Nat) (o9 : Nat) (cI : ClassId) (cJ : ClassId) (S : MV) (nn : Nat) (p0 : Int32) (p1 : Int32) (hnn : nn ≤ 17) (hn : mv2 S = nI nn) : Met l yX2_state wsX2_state ({ frames := 1, cells := 0, slots := 0, locals := 22 } : Room) (va_Pc [.ref o0, .int p0, .int p1] (fun U => va_P (dC, dI) vwCl [(o0, .inr (2, [.ref o1, .int (mv1 S), .int (mv2 S), .int (mv3 S), .int (mv4 S), .int (mv5 S), .int (mv6 S), .int (mv7 S), .int (mv8 S), .int (mv9 S), .ref o2, .ref o3, .ref o4, .ref o5, .ref o6, .ref o7, .ref o8, .ref o9])), (o1, .inl (cI, 8192, .inl (mv0 S))), (o2, .inl (cI, 20, .inl (mv10 S))), (o3, .inl (cI, 20, .inl (mv11 S))), (o4, .inl (cJ, 20, .inr (.inl (mv12 S)))), (o5, .inl (cJ, 20, .inr (.inl (mv13 S)))), (o6, .inl (cJ, 20, .inr (.inl (mv14 S)))), (o7, .inl (cJ, 20, .inr (.inl (mv15 S)))), (o8, .inl (cI, 48, .inl (mv16 S))), (o9, .inl (cJ, 80, .inr (.inl (mv17 S))))] U.heap ∧ va_K (dC, dI) vwCl [(cI, .int), (cJ, .long)] U)) (vp_Sl (fun r : Int64 => r = (fX2_state S p0 p1))) 0 0 (fun _ => False) := by
  refine Met.ofW (cc := cX2_state) (maxL := 3) (ret := (some .long)) (by decide) rfl ?_
  intro p e s m args below meth c s₁ B hml hv
  obtain ⟨rfl, hP, hK⟩ := hv
  have hx := B.exec
  have hb := B.bytes
  have hr := B.returns
  have hts := atoms_spec (ws := wsX2_state) B.pre
  have hown : s.vm.findClass RX2 = some m.cls := findClass_of_methodNamed B.named
  have hlocks := B.notSynchronized
  have hS : va_S (fun _ => False) s.heap s.heap [] := va_S.rf
  have hl := lv_entry ([.ref o0, .int p0, .int p1]) (n := 3) (Nat.le_of_ble_eq_true rfl)
  rw [lg_entry_eq]
  generalize (lg_sl ([.ref o0, .int p0, .int p1]) ++ List.replicate (3 - (lg_sl ([.ref o0, .int p0, .int p1])).length) Slot.unset).toArray = ls at hl ⊢
  have hl : lv_has ls 3 [(0, .ref o0), (1, .int p0), (2, .int p1)] := hl
  refine lv_aload_n hx hb dX2_state_0 rfl (lv_at hl 0 rfl) ?_
  refine va_get (D := (dC, dI)) (ci := 2) (v := .int (mv9 S)) (C := RX2) (T := TX2) (N := 18) hx hb hts inX2_X2_state hown hK hP 0 rfl rfl 9 (by decide) (hts (.fieldLink RX2 103 "DigitDividerModel" "any" "Z") (by decide +kernel)) (fun _ h9 => h9) rfl dX2_state_1 ?_
  refine lv_if_eq (tgt := 19) hx hb dX2_state_4 (by decide) (fun c_4_1 => ?_) (fun c_4_1 => ?_)
  · refine lv_lconst (v := 0) hx hb dX2_state_19 (by decide) ?_
    exact W.lret (v := 0) hx hb hr (fun t ht hW => ⟨0, rfl, (by unfold fX2_state; rw [if_pos c_4_1]), ht⟩) (fun q h => absurd h List.not_mem_nil) dX2_state_20
  · refine lv_iload_n hx hb dX2_state_7 rfl (lv_at hl 1 rfl) ?_
    refine lv_iconst (v := 0) hx hb dX2_state_8 (by decide) ?_
    refine lv_aload_n hx hb dX2_state_9 rfl (lv_at hl 0 rfl) ?_
    refine va_get (D := (dC, dI)) (ci := 2) (v := .int (mv2 S)) (C := RX2) (T := TX2) (N := 18) hx hb hts inX2_X2_state hown hK hP 0 rfl rfl 2 (by decide) (hts (.fieldLink RX2 107 "DigitDividerModel" "n" "I") (by decide +kernel)) (fun _ h9 => h9) rfl dX2_state_10 ?_
    refine vp_callSi (W.runS (As := [.int p0, .int 0, .int (mv2 S)]) (rest := []) ⟨hx, hb, hml, hown, hts⟩ (kX2_in l dC dI p0 (0) (mv2 S)) (va_cwS 3 hts gX2_state_X2_in rfl rfl rfl (by decide +kernel) ⟨Nat.le_of_ble_eq_true rfl, Nat.le_of_ble_eq_true rfl⟩) ⟨fun a U g mk q => by obtain ⟨q0, qt⟩ := q; exact ⟨q0, qt⟩, fun U hU hW => ⟨rfl, trivial⟩⟩ rfl rfl hl.1 rfl (lv_room (Nat.le_of_ble_eq_true rfl)) dX2_state_13 ⟨Nat.zero_le _, Nat.zero_le _⟩) (fun r_2 hr_2 => ?_)
    subst hr_2
    refine lv_if_ne (tgt := 21) hx hb dX2_state_16 (by decide) (fun c_16_3 => ?_) (fun c_16_3 => ?_)
    · refine lv_iload_n hx hb dX2_state_21 rfl (lv_at hl 2 rfl) ?_
      refine ax_joinL (J := 77) (v := (fX2_state_j77 S p0 p1)) (ls := ls) (rest := []) ?_ (fun kj_8 => ?_)
      · exact W.lret (v := (fX2_state_j77 S p0 p1)) hx hb hr (fun t ht hW => ⟨(fX2_state_j77 S p0 p1), rfl, (by unfold fX2_state; rw [if_neg c_4_1, if_neg c_16_3]), ht⟩) (fun q h => absurd h List.not_mem_nil) dX2_state_77
      · refine lv_if_ne (tgt := 34) hx hb dX2_state_22 (by decide) (fun c_22_4 => ?_) (fun c_22_4 => ?_)
        · refine lv_iload_n hx hb dX2_state_34 rfl (lv_at hl 2 rfl) ?_
          refine lv_iconst (v := 1) hx hb dX2_state_35 (by decide) ?_
          refine lv_icmp_ne (tgt := 48) hx hb dX2_state_36 (by decide) (fun c_36_5 => ?_) (fun c_36_5 => ?_)
          · refine lv_iload_n hx hb dX2_state_48 rfl (lv_at hl 2 rfl) ?_
            refine lv_iconst (v := 2) hx hb dX2_state_49 (by decide) ?_
            refine lv_icmp_ne (tgt := 62) hx hb dX2_state_50 (by decide) (fun c_50_6 => ?_) (fun c_50_6 => ?_)
            · refine lv_iload_n hx hb dX2_state_62 rfl (lv_at hl 2 rfl) ?_
              refine lv_iconst (v := 3) hx hb dX2_state_63 (by decide) ?_
              refine lv_icmp_ne (tgt := 76) hx hb dX2_state_64 (by decide) (fun c_64_7 => ?_) (fun c_64_7 => ?_)
              · refine lv_lconst (v := 0) hx hb dX2_state_76 (by decide) ?_
                exact kj_8 _ (by unfold fX2_state_j77; rw [if_neg c_22_4, if_neg c_36_5, if_neg c_50_6, if_neg c_64_7])
              · refine lv_aload_n hx hb dX2_state_67 rfl (lv_at hl 0 rfl) ?_
                refine va_get (D := (dC, dI)) (ci := 2) (v := .ref o7) (C := RX2) (T := TX2) (N := 18) hx hb hts inX2_X2_state hown hK hP 0 rfl rfl 15 (by decide) (hts (.fieldLink RX2 29 "DigitDividerModel" "lows" "[J") (by decide +kernel)) (fun _ h9 => h9) rfl dX2_state_68 ?_
                refine lv_iload_n hx hb dX2_state_71 rfl (lv_at hl 1 rfl) ?_
                refine va_lald hx hb hK hP 7 1 rfl rfl (in_n20 hnn hn c_16_3) dX2_state_72 ?_
                refine lv_goto (tgt := 77) hx hb dX2_state_73 (by decide) ?_
                exact kj_8 _ (by unfold fX2_state_j77; rw [if_neg c_22_4, if_neg c_36_5, if_neg c_50_6, if_pos c_64_7])
            · refine lv_aload_n hx hb dX2_state_53 rfl (lv_at hl 0 rfl) ?_
              refine va_get (D := (dC, dI)) (ci := 2) (v := .ref o6) (C := RX2) (T := TX2) (N := 18) hx hb hts inX2_X2_state hown hK hP 0 rfl rfl 14 (by decide) (hts (.fieldLink RX2 26 "DigitDividerModel" "highs" "[J") (by decide +kernel)) (fun _ h9 => h9) rfl dX2_state_54 ?_
              refine lv_iload_n hx hb dX2_state_57 rfl (lv_at hl 1 rfl) ?_
              refine va_lald hx hb hK hP 6 1 rfl rfl (in_n20 hnn hn c_16_3) dX2_state_58 ?_
              refine lv_goto (tgt := 77) hx hb dX2_state_59 (by decide) ?_
              exact kj_8 _ (by unfold fX2_state_j77; rw [if_neg c_22_4, if_neg c_36_5, if_pos c_50_6])
          · refine lv_aload_n hx hb dX2_state_39 rfl (lv_at hl 0 rfl) ?_
            refine va_get (D := (dC, dI)) (ci := 2) (v := .ref o5) (C := RX2) (T := TX2) (N := 18) hx hb hts inX2_X2_state hown hK hP 0 rfl rfl 13 (by decide) (hts (.fieldLink RX2 23 "DigitDividerModel" "carries" "[J") (by decide +kernel)) (fun _ h9 => h9) rfl dX2_state_40 ?_
            refine lv_iload_n hx hb dX2_state_43 rfl (lv_at hl 1 rfl) ?_
            refine va_lald hx hb hK hP 5 1 rfl rfl (in_n20 hnn hn c_16_3) dX2_state_44 ?_
            refine lv_goto (tgt := 77) hx hb dX2_state_45 (by decide) ?_
            exact kj_8 _ (by unfold fX2_state_j77; rw [if_neg c_22_4, if_pos c_36_5])
        · refine lv_aload_n hx hb dX2_state_25 rfl (lv_at hl 0 rfl) ?_
          refine va_get (D := (dC, dI)) (ci := 2) (v := .ref o4) (C := RX2) (T := TX2) (N := 18) hx hb hts inX2_X2_state hown hK hP 0 rfl rfl 12 (by decide) (hts (.fieldLink RX2 19 "DigitDividerModel" "sums" "[J") (by decide +kernel)) (fun _ h9 => h9) rfl dX2_state_26 ?_
          refine lv_iload_n hx hb dX2_state_29 rfl (lv_at hl 1 rfl) ?_
          refine va_lald hx hb hK hP 4 1 rfl rfl (in_n20 hnn hn c_16_3) dX2_state_30 ?_
          refine lv_goto (tgt := 77) hx hb dX2_state_31 (by decide) ?_
          exact kj_8 _ (by unfold fX2_state_j77; rw [if_pos c_22_4])
    · refine lv_lconst (v := 0) hx hb dX2_state_19 (by decide) ?_
      exact W.lret (v := 0) hx hb hr (fun t ht hW => ⟨0, rfl, (by unfold fX2_state; rw [if_neg c_4_1, if_pos c_16_3]), ht⟩) (fun q h => absurd h List.not_mem_nil) dX2_state_20

def fX2_told_j27 (S : MV) (i : Nat) : Int32 := (if ((mv10 S) (nI (i + 1)).toNatClampNeg) = 0 then 0 else 1)
def st_tlX2 (S : MV) (i : Nat) (w0 : Int32) : Int32 := w0 + (fX2_told_j27 S i)
def it_tlX2 (S : MV) : Nat → Int32
  | 0 => (0 : Int32)
  | i + 1 => st_tlX2 S i (it_tlX2 S i)
def fX2_told_j92 (S : MV) (nn : Nat) (p0 : Int32) : Int32 := (if p0 = 0 then (mv3 S) else (if p0 = 1 then (mv4 S) else (if p0 = 2 then (mv5 S) else (if p0 = 3 then (mv2 S) else (if p0 = 4 then (it_tlX2 S nn) else (-1))))))
def fX2_told (S : MV) (nn : Nat) (p0 : Int32) : Int32 := (fX2_told_j92 S nn p0)
theorem inX2_X2_told : ∀ w ∈ wsX20, w ∈ wsX2_told := by decide +kernel
set_option maxHeartbeats 4000000 in
set_option maxRecDepth 100000 in
theorem kX2_told (l : Launch) (dC : Nat → ClassId) (dI : Nat → Nat → Nat) (o0 : Nat) (o1 : Nat) (o2 : Nat) (o3 : Nat) (o4 : Nat) (o5 : Nat) (o6 : Nat) (o7 : Nat) (o8 : Nat) (o9 : Nat) (cI : ClassId) (cJ : ClassId) (S : MV) (nn : Nat) (p0 : Int32) (hnn : nn ≤ 17) (hn : mv2 S = nI nn) : Met l yX2_told wsX2_told ({ frames := 0, cells := 0, slots := 0, locals := 0 } : Room) (va_Pc [.ref o0, .int p0] (fun U => va_P (dC, dI) vwCl [(o0, .inr (2, [.ref o1, .int (mv1 S), .int (mv2 S), .int (mv3 S), .int (mv4 S), .int (mv5 S), .int (mv6 S), .int (mv7 S), .int (mv8 S), .int (mv9 S), .ref o2, .ref o3, .ref o4, .ref o5, .ref o6, .ref o7, .ref o8, .ref o9])), (o1, .inl (cI, 8192, .inl (mv0 S))), (o2, .inl (cI, 20, .inl (mv10 S))), (o3, .inl (cI, 20, .inl (mv11 S))), (o4, .inl (cJ, 20, .inr (.inl (mv12 S)))), (o5, .inl (cJ, 20, .inr (.inl (mv13 S)))), (o6, .inl (cJ, 20, .inr (.inl (mv14 S)))), (o7, .inl (cJ, 20, .inr (.inl (mv15 S)))), (o8, .inl (cI, 48, .inl (mv16 S))), (o9, .inl (cJ, 80, .inr (.inl (mv17 S))))] U.heap ∧ va_K (dC, dI) vwCl [(cI, .int), (cJ, .long)] U)) (vp_Si (fun r : Int32 => r = (fX2_told S nn p0))) 0 0 (fun _ => False) := by
  refine Met.ofW (cc := cX2_told) (maxL := 4) (ret := (some .int)) (by decide) rfl ?_
  intro p e s m args below meth c s₁ B hml hv
  obtain ⟨rfl, hP, hK⟩ := hv
  have hx := B.exec
  have hb := B.bytes
  have hr := B.returns
  have hts := atoms_spec (ws := wsX2_told) B.pre
  have hown : s.vm.findClass RX2 = some m.cls := findClass_of_methodNamed B.named
  have hlocks := B.notSynchronized
  have hS : va_S (fun _ => False) s.heap s.heap [] := va_S.rf
  have hl := lv_entry ([.ref o0, .int p0]) (n := 4) (Nat.le_of_ble_eq_true rfl)
  rw [lg_entry_eq]
  generalize (lg_sl ([.ref o0, .int p0]) ++ List.replicate (4 - (lg_sl ([.ref o0, .int p0])).length) Slot.unset).toArray = ls at hl ⊢
  have hl : lv_has ls 4 [(0, .ref o0), (1, .int p0)] := hl
  refine lv_iconst (v := 0) hx hb dX2_told_0 (by decide) ?_
  refine lv_istore_n (lv' := [(2, .int 0), (0, .ref o0), (1, .int p0)]) hx hb dX2_told_1 rfl hl (by decide) rfl (fun ls hl => ?_)
  refine lv_iconst (v := 1) hx hb dX2_told_2 (by decide) ?_
  refine lv_istore_n (lv' := [(3, .int 1), (2, .int 0), (0, .ref o0), (1, .int p0)]) hx hb dX2_told_3 rfl hl (by decide) rfl (fun ls hl => ?_)
  refine ax_loopP (pc := 4) (fun i ls => ∃ w0 : Int32, w0 = (it_tlX2 S i) ∧ lv_has ls 4 [(3, .int (nI (i + 1))), (2, .int w0), (0, .ref o0), (1, .int p0)]) nn (fun i hii ihi ls hIi => ?_) ⟨(0 : Int32), rfl, lv_sub hl [0, 1, 2, 3] rfl⟩
  obtain ⟨w0, ew0, hl⟩ := hIi
  refine lv_iload_n hx hb dX2_told_4 rfl (lv_at hl 0 rfl) ?_
  refine lv_aload_n hx hb dX2_told_5 rfl (lv_at hl 2 rfl) ?_
  refine va_get (D := (dC, dI)) (ci := 2) (v := .int (mv2 S)) (C := RX2) (T := TX2) (N := 18) hx hb hts inX2_X2_told hown hK hP 0 rfl rfl 2 (by decide) (hts (.fieldLink RX2 107 "DigitDividerModel" "n" "I") (by decide +kernel)) (fun _ h9 => h9) rfl dX2_told_6 ?_
  refine lv_icmp_gt (tgt := 35) hx hb dX2_told_9 (by decide) (fun c_9_1 => ?_) (fun c_9_1 => ?_)
  · have hiN : nn = i := (ax_endL hn (by omega) hii c_9_1).symm
    subst hiN
    subst ew0
    refine lv_iload_n hx hb dX2_told_35 rfl (lv_at hl 3 rfl) ?_
    refine ax_joinI (J := 92) (v := (fX2_told_j92 S nn p0)) (ls := ls) (rest := []) ?_ (fun kj_9 => ?_)
    · exact W.iret (v := (fX2_told_j92 S nn p0)) hx hb hr (fun t ht hW => ⟨(fX2_told_j92 S nn p0), rfl, rfl, ht⟩) (fun q h => absurd h List.not_mem_nil) dX2_told_92
    · refine lv_if_ne (tgt := 46) hx hb dX2_told_36 (by decide) (fun c_36_4 => ?_) (fun c_36_4 => ?_)
      · refine lv_iload_n hx hb dX2_told_46 rfl (lv_at hl 3 rfl) ?_
        refine lv_iconst (v := 1) hx hb dX2_told_47 (by decide) ?_
        refine lv_icmp_ne (tgt := 58) hx hb dX2_told_48 (by decide) (fun c_48_5 => ?_) (fun c_48_5 => ?_)
        · refine lv_iload_n hx hb dX2_told_58 rfl (lv_at hl 3 rfl) ?_
          refine lv_iconst (v := 2) hx hb dX2_told_59 (by decide) ?_
          refine lv_icmp_ne (tgt := 70) hx hb dX2_told_60 (by decide) (fun c_60_6 => ?_) (fun c_60_6 => ?_)
          · refine lv_iload_n hx hb dX2_told_70 rfl (lv_at hl 3 rfl) ?_
            refine lv_iconst (v := 3) hx hb dX2_told_71 (by decide) ?_
            refine lv_icmp_ne (tgt := 82) hx hb dX2_told_72 (by decide) (fun c_72_7 => ?_) (fun c_72_7 => ?_)
            · refine lv_iload_n hx hb dX2_told_82 rfl (lv_at hl 3 rfl) ?_
              refine lv_iconst (v := 4) hx hb dX2_told_83 (by decide) ?_
              refine lv_icmp_ne (tgt := 91) hx hb dX2_told_84 (by decide) (fun c_84_8 => ?_) (fun c_84_8 => ?_)
              · refine lv_iconst (v := (-1)) hx hb dX2_told_91 (by decide) ?_
                exact kj_9 _ (by unfold fX2_told_j92; rw [if_neg c_36_4, if_neg c_48_5, if_neg c_60_6, if_neg c_72_7, if_neg c_84_8])
              · refine lv_iload_n hx hb dX2_told_87 rfl (lv_at hl 1 rfl) ?_
                refine lv_goto (tgt := 92) hx hb dX2_told_88 (by decide) ?_
                exact kj_9 _ (by unfold fX2_told_j92; rw [if_neg c_36_4, if_neg c_48_5, if_neg c_60_6, if_neg c_72_7, if_pos c_84_8])
            · refine lv_aload_n hx hb dX2_told_75 rfl (lv_at hl 2 rfl) ?_
              refine va_get (D := (dC, dI)) (ci := 2) (v := .int (mv2 S)) (C := RX2) (T := TX2) (N := 18) hx hb hts inX2_X2_told hown hK hP 0 rfl rfl 2 (by decide) (hts (.fieldLink RX2 107 "DigitDividerModel" "n" "I") (by decide +kernel)) (fun _ h9 => h9) rfl dX2_told_76 ?_
              refine lv_goto (tgt := 92) hx hb dX2_told_79 (by decide) ?_
              exact kj_9 _ (by unfold fX2_told_j92; rw [if_neg c_36_4, if_neg c_48_5, if_neg c_60_6, if_pos c_72_7])
          · refine lv_aload_n hx hb dX2_told_63 rfl (lv_at hl 2 rfl) ?_
            refine va_get (D := (dC, dI)) (ci := 2) (v := .int (mv5 S)) (C := RX2) (T := TX2) (N := 18) hx hb hts inX2_X2_told hown hK hP 0 rfl rfl 5 (by decide) (hts (.fieldLink RX2 113 "DigitDividerModel" "upt" "I") (by decide +kernel)) (fun _ h9 => h9) rfl dX2_told_64 ?_
            refine lv_goto (tgt := 92) hx hb dX2_told_67 (by decide) ?_
            exact kj_9 _ (by unfold fX2_told_j92; rw [if_neg c_36_4, if_neg c_48_5, if_pos c_60_6])
        · refine lv_aload_n hx hb dX2_told_51 rfl (lv_at hl 2 rfl) ?_
          refine va_get (D := (dC, dI)) (ci := 2) (v := .int (mv4 S)) (C := RX2) (T := TX2) (N := 18) hx hb hts inX2_X2_told hown hK hP 0 rfl rfl 4 (by decide) (hts (.fieldLink RX2 110 "DigitDividerModel" "ups" "I") (by decide +kernel)) (fun _ h9 => h9) rfl dX2_told_52 ?_
          refine lv_goto (tgt := 92) hx hb dX2_told_55 (by decide) ?_
          exact kj_9 _ (by unfold fX2_told_j92; rw [if_neg c_36_4, if_pos c_48_5])
      · refine lv_aload_n hx hb dX2_told_39 rfl (lv_at hl 2 rfl) ?_
        refine va_get (D := (dC, dI)) (ci := 2) (v := .int (mv3 S)) (C := RX2) (T := TX2) (N := 18) hx hb hts inX2_X2_told hown hK hP 0 rfl rfl 3 (by decide) (hts (.fieldLink RX2 87 "DigitDividerModel" "row" "I") (by decide +kernel)) (fun _ h9 => h9) rfl dX2_told_40 ?_
        refine lv_goto (tgt := 92) hx hb dX2_told_43 (by decide) ?_
        exact kj_9 _ (by unfold fX2_told_j92; rw [if_pos c_36_4])
  · have hlti : i < nn := ax_moreL hn (by omega) hii c_9_1
    refine lv_iload_n hx hb dX2_told_12 rfl (lv_at hl 1 rfl) ?_
    refine lv_aload_n hx hb dX2_told_13 rfl (lv_at hl 2 rfl) ?_
    refine va_get (D := (dC, dI)) (ci := 2) (v := .ref o2) (C := RX2) (T := TX2) (N := 18) hx hb hts inX2_X2_told hown hK hP 0 rfl rfl 10 (by decide) (hts (.fieldLink RX2 13 "DigitDividerModel" "digits" "[I") (by decide +kernel)) (fun _ h9 => h9) rfl dX2_told_14 ?_
    refine lv_iload_n hx hb dX2_told_17 rfl (lv_at hl 0 rfl) ?_
    refine va_iald hx hb hK hP 2 0 rfl rfl (vp_in_nI (by omega) (by decide)) dX2_told_18 ?_
    refine ax_joinI (J := 27) (v := (fX2_told_j27 S i)) (ls := ls) (rest := [.int w0]) ?_ (fun kj_3 => ?_)
    · refine lv_iadd hx hb dX2_told_27 ?_
      refine lv_istore_n (lv' := [(2, .int (w0 + (fX2_told_j27 S i))), (3, .int (nI (i + 1))), (0, .ref o0), (1, .int p0)]) hx hb dX2_told_28 rfl hl (by decide) rfl (fun ls hl => ?_)
      refine lv_iinc (v := nI (i + 1 + 1)) (lv' := [(3, .int (nI (i + 1 + 1))), (2, .int (w0 + (fX2_told_j27 S i))), (0, .ref o0), (1, .int p0)]) hx hb dX2_told_29 hl (k := 1) rfl (nI_1 _) (by decide) rfl (fun ls hl => ?_)
      refine lv_goto (tgt := 4) hx hb dX2_told_32 (by decide) ?_
      have eb : st_tlX2 S i w0 = w0 + (fX2_told_j27 S i) := rfl
      have ebb : (it_tlX2 S (i + 1)) = w0 + (fX2_told_j27 S i) := by show st_tlX2 S i (it_tlX2 S i) = _; rw [← ew0]; exact eb
      exact ihi hlti _ ⟨w0 + (fX2_told_j27 S i), ebb.symm, lv_sub hl [0, 1, 2, 3] rfl⟩
    · refine lv_if_ne (tgt := 26) hx hb dX2_told_19 (by decide) (fun c_19_2 => ?_) (fun c_19_2 => ?_)
      · refine lv_iconst (v := 1) hx hb dX2_told_26 (by decide) ?_
        exact kj_3 _ (by unfold fX2_told_j27; rw [if_neg c_19_2])
      · refine lv_iconst (v := 0) hx hb dX2_told_22 (by decide) ?_
        refine lv_goto (tgt := 27) hx hb dX2_told_23 (by decide) ?_
        exact kj_3 _ (by unfold fX2_told_j27; rw [if_pos c_19_2])

