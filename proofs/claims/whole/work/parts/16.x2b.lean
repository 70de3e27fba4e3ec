def fX2_nextDigit_c40 (S : MV) (p0 : Int32) : Int32 := (((4 * ((mv12 S) (p0 - 1).toNatClampNeg)) >>> (((31 : Int32)).toInt64 &&& 63)) + ((4 * ((mv13 S) (p0 - 1).toNatClampNeg)) >>> (((31 : Int32)).toInt64 &&& 63))).toInt32
def fX2_nextDigit_j68 (S : MV) (p0 : Int32) : Int32 := (if (-64) ≤ (fX2_nextDigit_c40 S p0) then (if (fX2_nextDigit_c40 S p0) ≤ 63 then (fX2_nextDigit_c40 S p0) else 63) else (-64))
def fX2_nextDigit_c88 (S : MV) (p0 : Int32) : Int32 := (mv0 S) (fX2_cellAt (mv1 S) (mv3 S) (fX2_nextDigit_j68 S p0)).toNatClampNeg
def fX2_nextDigit_c114 (S : MV) (p0 : Int32) (p1 : Int64) : Int64 := ((4 * ((mv12 S) (p0 - 1).toNatClampNeg)) ^^^ (4 * ((mv13 S) (p0 - 1).toNatClampNeg))) ^^^ (((-8) * ((fX2_nextDigit_c88 S p0).toInt64)) * p1)
def fX2_nextDigit_c141 (S : MV) (p0 : Int32) (p1 : Int64) : Int64 := 2 * ((((4 * ((mv12 S) (p0 - 1).toNatClampNeg)) &&& (4 * ((mv13 S) (p0 - 1).toNatClampNeg))) ||| ((4 * ((mv12 S) (p0 - 1).toNatClampNeg)) &&& (((-8) * ((fX2_nextDigit_c88 S p0).toInt64)) * p1))) ||| ((4 * ((mv13 S) (p0 - 1).toNatClampNeg)) &&& (((-8) * ((fX2_nextDigit_c88 S p0).toInt64)) * p1)))
def fX2_nextDigit_j199 (S : MV) (p0 : Int32) : Int64 := (if (fX2_nextDigit_c88 S p0) < 0 then ((4 * ((mv15 S) (p0 - 1).toNatClampNeg)) + 4) + ((fX2_nextDigit_c88 S p0).toInt64) else (4 * ((mv14 S) (p0 - 1).toNatClampNeg)) + ((fX2_nextDigit_c88 S p0).toInt64))
def fX2_nextDigit_j239 (S : MV) (p0 : Int32) : Int64 := (if (fX2_nextDigit_c88 S p0) ≤ 0 then ((4 * ((mv15 S) (p0 - 1).toNatClampNeg)) + 3) + ((fX2_nextDigit_c88 S p0).toInt64) else ((4 * ((mv14 S) (p0 - 1).toNatClampNeg)) + ((fX2_nextDigit_c88 S p0).toInt64)) - 1)
def fX2_nextDigit_c269 (S : MV) (p0 : Int32) (p1 : Int64) : Int64 := ((vp_updL (mv12 S) p0.toNatClampNeg (fX2_nextDigit_c114 S p0 p1)) p0.toNatClampNeg) + ((vp_updL (mv13 S) p0.toNatClampNeg (fX2_nextDigit_c141 S p0 p1)) p0.toNatClampNeg)
def gX2_nextDigit (S : MV) (p0 : Int32) (p1 : Int64) : MV := (if (mv6 S) = 0 then (if ((16 * p1) / 3) < (fX2_nextDigit_c269 S p0 p1) then ((mv0 S), (mv1 S), (mv2 S), (mv3 S), (mv4 S), (mv5 S), p0, (mv7 S), (mv8 S), (mv9 S), (upd (mv10 S) p0.toNatClampNeg (fX2_nextDigit_c88 S p0)), (upd (mv11 S) p0.toNatClampNeg (fX2_nextDigit_c40 S p0)), (vp_updL (mv12 S) p0.toNatClampNeg (fX2_nextDigit_c114 S p0 p1)), (vp_updL (mv13 S) p0.toNatClampNeg (fX2_nextDigit_c141 S p0 p1)), (vp_updL (mv14 S) p0.toNatClampNeg (fX2_nextDigit_j199 S p0)), (vp_updL (mv15 S) p0.toNatClampNeg (fX2_nextDigit_j239 S p0)), (mv16 S), (mv17 S)) else (if (-((16 * p1) / 3)) ≤ (fX2_nextDigit_c269 S p0 p1) then ((mv0 S), (mv1 S), (mv2 S), (mv3 S), (mv4 S), (mv5 S), (mv6 S), (mv7 S), (mv8 S), (mv9 S), (upd (mv10 S) p0.toNatClampNeg (fX2_nextDigit_c88 S p0)), (upd (mv11 S) p0.toNatClampNeg (fX2_nextDigit_c40 S p0)), (vp_updL (mv12 S) p0.toNatClampNeg (fX2_nextDigit_c114 S p0 p1)), (vp_updL (mv13 S) p0.toNatClampNeg (fX2_nextDigit_c141 S p0 p1)), (vp_updL (mv14 S) p0.toNatClampNeg (fX2_nextDigit_j199 S p0)), (vp_updL (mv15 S) p0.toNatClampNeg (fX2_nextDigit_j239 S p0)), (mv16 S), (mv17 S)) else ((mv0 S), (mv1 S), (mv2 S), (mv3 S), (mv4 S), (mv5 S), p0, (mv7 S), (mv8 S), (mv9 S), (upd (mv10 S) p0.toNatClampNeg (fX2_nextDigit_c88 S p0)), (upd (mv11 S) p0.toNatClampNeg (fX2_nextDigit_c40 S p0)), (vp_updL (mv12 S) p0.toNatClampNeg (fX2_nextDigit_c114 S p0 p1)), (vp_updL (mv13 S) p0.toNatClampNeg (fX2_nextDigit_c141 S p0 p1)), (vp_updL (mv14 S) p0.toNatClampNeg (fX2_nextDigit_j199 S p0)), (vp_updL (mv15 S) p0.toNatClampNeg (fX2_nextDigit_j239 S p0)), (mv16 S), (mv17 S)))) else ((mv0 S), (mv1 S), (mv2 S), (mv3 S), (mv4 S), (mv5 S), (mv6 S), (mv7 S), (mv8 S), (mv9 S), (upd (mv10 S) p0.toNatClampNeg (fX2_nextDigit_c88 S p0)), (upd (mv11 S) p0.toNatClampNeg (fX2_nextDigit_c40 S p0)), (vp_updL (mv12 S) p0.toNatClampNeg (fX2_nextDigit_c114 S p0 p1)), (vp_updL (mv13 S) p0.toNatClampNeg (fX2_nextDigit_c141 S p0 p1)), (vp_updL (mv14 S) p0.toNatClampNeg (fX2_nextDigit_j199 S p0)), (vp_updL (mv15 S) p0.toNatClampNeg (fX2_nextDigit_j239 S p0)), (mv16 S), (mv17 S)))
theorem inX2_X2_nextDigit : ∀ w ∈ wsX20, w ∈ wsX2_nextDigit := by decide +kernel
set_option maxHeartbeats 4000000 in
set_option maxRecDepth 100000 in
theorem kX2_nextDigit (l : Launch) (dC : Nat → ClassId) (dI : Nat → Nat → Nat) (o0 : Nat) (o1 : Nat) (o2 : Nat) (o3 : Nat) (o4 : Nat) (o5 : Nat) (o6 : Nat) (o7 : Nat) (o8 : Nat) (o9 : Nat) (cI : ClassId) (cJ : ClassId) (sz : Nat) (S : MV) (p0 : Int32) (p1 : Int64) (hy0 : vp_in (p0 - 1) 20) (hy1 : vp_in (fX2_cellAt (mv1 S) (mv3 S) (fX2_nextDigit_j68 S p0)) 8192) (hy2 : vp_in p0 20) : Met l yX2_nextDigit wsX2_nextDigit ({ frames := 1, cells := 0, slots := 0, locals := 22 } : Room) (va_Pc [.ref o0, .int p0, .long p1] (fun U => U.heap.size = sz ∧ va_P (dC, dI) vwCl [(o0, .inr (2, [.ref o1, .int (mv1 S), .int (mv2 S), .int (mv3 S), .int (mv4 S), .int (mv5 S), .int (mv6 S), .int (mv7 S), .int (mv8 S), .int (mv9 S), .ref o2, .ref o3, .ref o4, .ref o5, .ref o6, .ref o7, .ref o8, .ref o9])), (o1, .inl (cI, 8192, .inl (mv0 S))), (o2, .inl (cI, 20, .inl (mv10 S))), (o3, .inl (cI, 20, .inl (mv11 S))), (o4, .inl (cJ, 20, .inr (.inl (mv12 S)))), (o5, .inl (cJ, 20, .inr (.inl (mv13 S)))), (o6, .inl (cJ, 20, .inr (.inl (mv14 S)))), (o7, .inl (cJ, 20, .inr (.inl (mv15 S)))), (o8, .inl (cI, 48, .inl (mv16 S))), (o9, .inl (cJ, 80, .inr (.inl (mv17 S))))] U.heap ∧ va_K (dC, dI) vwCl [(cI, .int), (cJ, .long)] U ∧ va_D (fun _ => True) [(o0, .inr (2, [.ref o1, .int (mv1 S), .int (mv2 S), .int (mv3 S), .int (mv4 S), .int (mv5 S), .int (mv6 S), .int (mv7 S), .int (mv8 S), .int (mv9 S), .ref o2, .ref o3, .ref o4, .ref o5, .ref o6, .ref o7, .ref o8, .ref o9])), (o1, .inl (cI, 8192, .inl (mv0 S))), (o2, .inl (cI, 20, .inl (mv10 S))), (o3, .inl (cI, 20, .inl (mv11 S))), (o4, .inl (cJ, 20, .inr (.inl (mv12 S)))), (o5, .inl (cJ, 20, .inr (.inl (mv13 S)))), (o6, .inl (cJ, 20, .inr (.inl (mv14 S)))), (o7, .inl (cJ, 20, .inr (.inl (mv15 S)))), (o8, .inl (cI, 48, .inl (mv16 S))), (o9, .inl (cJ, 80, .inr (.inl (mv17 S))))])) (va_Qv (fun u : MV => u = (gX2_nextDigit S p0 p1)) (fun (u : MV) (t : State) => va_P (dC, dI) vwCl [(o0, .inr (2, [.ref o1, .int (mv1 u), .int (mv2 u), .int (mv3 u), .int (mv4 u), .int (mv5 u), .int (mv6 u), .int (mv7 u), .int (mv8 u), .int (mv9 u), .ref o2, .ref o3, .ref o4, .ref o5, .ref o6, .ref o7, .ref o8, .ref o9])), (o1, .inl (cI, 8192, .inl (mv0 u))), (o2, .inl (cI, 20, .inl (mv10 u))), (o3, .inl (cI, 20, .inl (mv11 u))), (o4, .inl (cJ, 20, .inr (.inl (mv12 u)))), (o5, .inl (cJ, 20, .inr (.inl (mv13 u)))), (o6, .inl (cJ, 20, .inr (.inl (mv14 u)))), (o7, .inl (cJ, 20, .inr (.inl (mv15 u)))), (o8, .inl (cI, 48, .inl (mv16 u))), (o9, .inl (cJ, 80, .inr (.inl (mv17 u))))] t.heap ∧ va_K (dC, dI) vwCl [(cI, .int), (cJ, .long)] t ∧ va_D (va_A [(o0, .inr (2, [.ref o1, .int (mv1 S), .int (mv2 S), .int (mv3 S), .int (mv4 S), .int (mv5 S), .int (mv6 S), .int (mv7 S), .int (mv8 S), .int (mv9 S), .ref o2, .ref o3, .ref o4, .ref o5, .ref o6, .ref o7, .ref o8, .ref o9])), (o1, .inl (cI, 8192, .inl (mv0 S))), (o2, .inl (cI, 20, .inl (mv10 S))), (o3, .inl (cI, 20, .inl (mv11 S))), (o4, .inl (cJ, 20, .inr (.inl (mv12 S)))), (o5, .inl (cJ, 20, .inr (.inl (mv13 S)))), (o6, .inl (cJ, 20, .inr (.inl (mv14 S)))), (o7, .inl (cJ, 20, .inr (.inl (mv15 S)))), (o8, .inl (cI, 48, .inl (mv16 S))), (o9, .inl (cJ, 80, .inr (.inl (mv17 S))))] sz) [(o0, .inr (2, [.ref o1, .int (mv1 u), .int (mv2 u), .int (mv3 u), .int (mv4 u), .int (mv5 u), .int (mv6 u), .int (mv7 u), .int (mv8 u), .int (mv9 u), .ref o2, .ref o3, .ref o4, .ref o5, .ref o6, .ref o7, .ref o8, .ref o9])), (o1, .inl (cI, 8192, .inl (mv0 u))), (o2, .inl (cI, 20, .inl (mv10 u))), (o3, .inl (cI, 20, .inl (mv11 u))), (o4, .inl (cJ, 20, .inr (.inl (mv12 u)))), (o5, .inl (cJ, 20, .inr (.inl (mv13 u)))), (o6, .inl (cJ, 20, .inr (.inl (mv14 u)))), (o7, .inl (cJ, 20, .inr (.inl (mv15 u)))), (o8, .inl (cI, 48, .inl (mv16 u))), (o9, .inl (cJ, 80, .inr (.inl (mv17 u))))]) (va_A [(o0, .inr (2, [.ref o1, .int (mv1 S), .int (mv2 S), .int (mv3 S), .int (mv4 S), .int (mv5 S), .int (mv6 S), .int (mv7 S), .int (mv8 S), .int (mv9 S), .ref o2, .ref o3, .ref o4, .ref o5, .ref o6, .ref o7, .ref o8, .ref o9])), (o1, .inl (cI, 8192, .inl (mv0 S))), (o2, .inl (cI, 20, .inl (mv10 S))), (o3, .inl (cI, 20, .inl (mv11 S))), (o4, .inl (cJ, 20, .inr (.inl (mv12 S)))), (o5, .inl (cJ, 20, .inr (.inl (mv13 S)))), (o6, .inl (cJ, 20, .inr (.inl (mv14 S)))), (o7, .inl (cJ, 20, .inr (.inl (mv15 S)))), (o8, .inl (cI, 48, .inl (mv16 S))), (o9, .inl (cJ, 80, .inr (.inl (mv17 S))))] sz)) 0 0 (va_A [(o0, .inr (2, [.ref o1, .int (mv1 S), .int (mv2 S), .int (mv3 S), .int (mv4 S), .int (mv5 S), .int (mv6 S), .int (mv7 S), .int (mv8 S), .int (mv9 S), .ref o2, .ref o3, .ref o4, .ref o5, .ref o6, .ref o7, .ref o8, .ref o9])), (o1, .inl (cI, 8192, .inl (mv0 S))), (o2, .inl (cI, 20, .inl (mv10 S))), (o3, .inl (cI, 20, .inl (mv11 S))), (o4, .inl (cJ, 20, .inr (.inl (mv12 S)))), (o5, .inl (cJ, 20, .inr (.inl (mv13 S)))), (o6, .inl (cJ, 20, .inr (.inl (mv14 S)))), (o7, .inl (cJ, 20, .inr (.inl (mv15 S)))), (o8, .inl (cI, 48, .inl (mv16 S))), (o9, .inl (cJ, 80, .inr (.inl (mv17 S))))] sz) := by
  refine Met.ofW (cc := cX2_nextDigit) (maxL := 21) (ret := none) (by decide) rfl ?_
  intro p e s m args below meth c s₁ B hml hv
  obtain ⟨rfl, hsz, hP, hK, hD0⟩ := hv
  have hx := B.exec
  have hb := B.bytes
  have hr := B.returns
  have hts := atoms_spec (ws := wsX2_nextDigit) B.pre
  have hown : s.vm.findClass RX2 = some m.cls := findClass_of_methodNamed B.named
  have hlocks := B.notSynchronized
  subst hsz
  have hD := hD0.self (sz := s.heap.size)
  generalize hAe : va_A [(o0, .inr (2, [.ref o1, .int (mv1 S), .int (mv2 S), .int (mv3 S), .int (mv4 S), .int (mv5 S), .int (mv6 S), .int (mv7 S), .int (mv8 S), .int (mv9 S), .ref o2, .ref o3, .ref o4, .ref o5, .ref o6, .ref o7, .ref o8, .ref o9])), (o1, .inl (cI, 8192, .inl (mv0 S))), (o2, .inl (cI, 20, .inl (mv10 S))), (o3, .inl (cI, 20, .inl (mv11 S))), (o4, .inl (cJ, 20, .inr (.inl (mv12 S)))), (o5, .inl (cJ, 20, .inr (.inl (mv13 S)))), (o6, .inl (cJ, 20, .inr (.inl (mv14 S)))), (o7, .inl (cJ, 20, .inr (.inl (mv15 S)))), (o8, .inl (cI, 48, .inl (mv16 S))), (o9, .inl (cJ, 80, .inr (.inl (mv17 S))))] s.heap.size = A at hD  ⊢
  have hA : ∀ q : Nat, s.heap.size ≤ q → A q := fun q h => by rw [← hAe]; exact Or.inr h
  have hS : va_S A s.heap s.heap [] := va_S.rf
  have hP : va_P (dC, dI) vwCl [(o0, .inr (2, [.ref o1, .int (mv1 S), .int (mv2 S), .int (mv3 S), .int (mv4 S), .int (mv5 S), .int (mv6 S), .int (mv7 S), .int (mv8 S), .int (mv9 S), .ref o2, .ref o3, .ref o4, .ref o5, .ref o6, .ref o7, .ref o8, .ref o9])), (o1, .inl (cI, 8192, .inl (mv0 S))), (o2, .inl (cI, 20, .inl (mv10 S))), (o3, .inl (cI, 20, .inl (mv11 S))), (o4, .inl (cJ, 20, .inr (.inl (mv12 S)))), (o5, .inl (cJ, 20, .inr (.inl (mv13 S)))), (o6, .inl (cJ, 20, .inr (.inl (mv14 S)))), (o7, .inl (cJ, 20, .inr (.inl (mv15 S)))), (o8, .inl (cI, 48, .inl (mv16 S))), (o9, .inl (cJ, 80, .inr (.inl (mv17 S))))] s.heap := hP
  have hl := lv_entry ([.ref o0, .int p0, .long p1]) (n := 21) (Nat.le_of_ble_eq_true rfl)
  rw [lg_entry_eq]
  generalize (lg_sl ([.ref o0, .int p0, .long p1]) ++ List.replicate (21 - (lg_sl ([.ref o0, .int p0, .long p1])).length) Slot.unset).toArray = ls at hl ⊢
  have hl : lv_has ls 21 [(0, .ref o0), (1, .int p0), (2, .long p1)] := hl
  refine lv_ldc2 (v := 4) hx hb hown (hts (.constantLong RX2 81 (4)) (by decide +kernel)) dX2_nextDigit_0 ?_
  refine lv_aload_n hx hb dX2_nextDigit_3 rfl (lv_at hl 0 rfl) ?_
  refine va_get (D := (dC, dI)) (ci := 2) (v := .ref o4) (C := RX2) (T := TX2) (N := 18) hx hb hts inX2_X2_nextDigit hown hK hP 0 rfl rfl 12 (by decide) (hts (.fieldLink RX2 19 "DigitDividerModel" "sums" "[J") (by decide +kernel)) (fun _ h9 => h9) rfl dX2_nextDigit_4 ?_
  refine lv_iload_n hx hb dX2_nextDigit_7 rfl (lv_at hl 1 rfl) ?_
  refine lv_iconst (v := 1) hx hb dX2_nextDigit_8 (by decide) ?_
  refine lv_isub hx hb dX2_nextDigit_9 ?_
  refine va_lald hx hb hK hP 4 1 rfl rfl hy0 dX2_nextDigit_10 ?_
  refine lv_lmul hx hb dX2_nextDigit_11 ?_
  refine lv_lstore (lv' := [(4, .long (4 * ((mv12 S) (p0 - 1).toNatClampNeg))), (0, .ref o0), (1, .int p0), (2, .long p1)]) hx hb dX2_nextDigit_12 hl (by decide) rfl (fun ls hl => ?_)
  refine lv_ldc2 (v := 4) hx hb hown (hts (.constantLong RX2 81 (4)) (by decide +kernel)) dX2_nextDigit_14 ?_
  refine lv_aload_n hx hb dX2_nextDigit_17 rfl (lv_at hl 1 rfl) ?_
  refine va_get (D := (dC, dI)) (ci := 2) (v := .ref o5) (C := RX2) (T := TX2) (N := 18) hx hb hts inX2_X2_nextDigit hown hK hP 0 rfl rfl 13 (by decide) (hts (.fieldLink RX2 23 "DigitDividerModel" "carries" "[J") (by decide +kernel)) (fun _ h9 => h9) rfl dX2_nextDigit_18 ?_
  refine lv_iload_n hx hb dX2_nextDigit_21 rfl (lv_at hl 2 rfl) ?_
  refine lv_iconst (v := 1) hx hb dX2_nextDigit_22 (by decide) ?_
  refine lv_isub hx hb dX2_nextDigit_23 ?_
  refine va_lald hx hb hK hP 5 1 rfl rfl hy0 dX2_nextDigit_24 ?_
  refine lv_lmul hx hb dX2_nextDigit_25 ?_
  refine lv_lstore (lv' := [(6, .long (4 * ((mv13 S) (p0 - 1).toNatClampNeg))), (4, .long (4 * ((mv12 S) (p0 - 1).toNatClampNeg))), (0, .ref o0), (1, .int p0), (2, .long p1)]) hx hb dX2_nextDigit_26 hl (by decide) rfl (fun ls hl => ?_)
  refine lv_lload hx hb dX2_nextDigit_28 (lv_at hl 1 rfl) ?_
  refine lv_bipush (v := 31) hx hb dX2_nextDigit_30 (by decide) ?_
  refine lv_lshr (v := (4 * ((mv12 S) (p0 - 1).toNatClampNeg)) >>> (((31 : Int32)).toInt64 &&& 63)) hx hb dX2_nextDigit_32 rfl ?_
  refine lv_lload hx hb dX2_nextDigit_33 (lv_at hl 0 rfl) ?_
  refine lv_bipush (v := 31) hx hb dX2_nextDigit_35 (by decide) ?_
  refine lv_lshr (v := (4 * ((mv13 S) (p0 - 1).toNatClampNeg)) >>> (((31 : Int32)).toInt64 &&& 63)) hx hb dX2_nextDigit_37 rfl ?_
  refine lv_ladd hx hb dX2_nextDigit_38 ?_
  refine lv_l2i (v := (((4 * ((mv12 S) (p0 - 1).toNatClampNeg)) >>> (((31 : Int32)).toInt64 &&& 63)) + ((4 * ((mv13 S) (p0 - 1).toNatClampNeg)) >>> (((31 : Int32)).toInt64 &&& 63))).toInt32) hx hb dX2_nextDigit_39 rfl ?_
  refine ax_nmI (y := (fX2_nextDigit_c40 S p0)) rfl ?_
  refine lv_istore (lv' := [(8, .int (fX2_nextDigit_c40 S p0)), (6, .long (4 * ((mv13 S) (p0 - 1).toNatClampNeg))), (4, .long (4 * ((mv12 S) (p0 - 1).toNatClampNeg))), (0, .ref o0), (1, .int p0), (2, .long p1)]) hx hb dX2_nextDigit_40 hl (by decide) rfl (fun ls hl => ?_)
  refine lv_iload hx hb dX2_nextDigit_42 (lv_at hl 0 rfl) ?_
  refine lv_bipush (v := (-64)) hx hb dX2_nextDigit_44 (by decide) ?_
  refine ax_joinI (J := 68) (v := (fX2_nextDigit_j68 S p0)) (ls := ls) (rest := []) ?_ (fun kj_11 => ?_)
  · refine lv_istore (lv' := [(9, .int (fX2_nextDigit_j68 S p0)), (8, .int (fX2_nextDigit_c40 S p0)), (6, .long (4 * ((mv13 S) (p0 - 1).toNatClampNeg))), (4, .long (4 * ((mv12 S) (p0 - 1).toNatClampNeg))), (0, .ref o0), (1, .int p0), (2, .long p1)]) hx hb dX2_nextDigit_68 hl (by decide) rfl (fun ls hl => ?_)
    refine lv_aload_n hx hb dX2_nextDigit_70 rfl (lv_at hl 4 rfl) ?_
    refine va_get (D := (dC, dI)) (ci := 2) (v := .ref o1) (C := RX2) (T := TX2) (N := 18) hx hb hts inX2_X2_nextDigit hown hK hP 0 rfl rfl 0 (by decide) (hts (.fieldLink RX2 7 "DigitDividerModel" "tables" "[I") (by decide +kernel)) (fun _ h9 => h9) rfl dX2_nextDigit_71 ?_
    refine lv_aload_n hx hb dX2_nextDigit_74 rfl (lv_at hl 4 rfl) ?_
    refine va_get (D := (dC, dI)) (ci := 2) (v := .int (mv1 S)) (C := RX2) (T := TX2) (N := 18) hx hb hts inX2_X2_nextDigit hown hK hP 0 rfl rfl 1 (by decide) (hts (.fieldLink RX2 83 "DigitDividerModel" "used" "I") (by decide +kernel)) (fun _ h9 => h9) rfl dX2_nextDigit_75 ?_
    refine lv_aload_n hx hb dX2_nextDigit_78 rfl (lv_at hl 4 rfl) ?_
    refine va_get (D := (dC, dI)) (ci := 2) (v := .int (mv3 S)) (C := RX2) (T := TX2) (N := 18) hx hb hts inX2_X2_nextDigit hown hK hP 0 rfl rfl 3 (by decide) (hts (.fieldLink RX2 87 "DigitDividerModel" "row" "I") (by decide +kernel)) (fun _ h9 => h9) rfl dX2_nextDigit_79 ?_
    refine lv_iload hx hb dX2_nextDigit_82 (lv_at hl 0 rfl) ?_
    refine vp_callSi (W.runS (As := [.int (mv1 S), .int (mv3 S), .int (fX2_nextDigit_j68 S p0)]) (rest := [.ref o1]) ⟨hx, hb, hml, hown, hts⟩ (kX2_cellAt l dC dI (mv1 S) (mv3 S) (fX2_nextDigit_j68 S p0)) (va_cwS 3 hts gX2_nextDigit_X2_cellAt rfl rfl rfl (by decide +kernel) ⟨Nat.le_of_ble_eq_true rfl, Nat.le_of_ble_eq_true rfl⟩) ⟨fun a U g mk q => by obtain ⟨q0, qt⟩ := q; exact ⟨q0, qt⟩, fun U hU hW => ⟨rfl, trivial⟩⟩ rfl rfl hl.1 rfl (lv_room (Nat.le_of_ble_eq_true rfl)) dX2_nextDigit_84 ⟨Nat.zero_le _, Nat.zero_le _⟩) (fun r_3 hr_3 => ?_)
    subst hr_3
    refine va_iald hx hb hK hP 1 0 rfl rfl hy1 dX2_nextDigit_87 ?_
    refine ax_nmI (y := (fX2_nextDigit_c88 S p0)) rfl ?_
    refine lv_istore (lv' := [(10, .int (fX2_nextDigit_c88 S p0)), (9, .int (fX2_nextDigit_j68 S p0)), (8, .int (fX2_nextDigit_c40 S p0)), (6, .long (4 * ((mv13 S) (p0 - 1).toNatClampNeg))), (4, .long (4 * ((mv12 S) (p0 - 1).toNatClampNeg))), (0, .ref o0), (1, .int p0), (2, .long p1)]) hx hb dX2_nextDigit_88 hl (by decide) rfl (fun ls hl => ?_)
    refine lv_ldc2 (v := (-8)) hx hb hown (hts (.constantLong RX2 90 (-8)) (by decide +kernel)) dX2_nextDigit_90 ?_
    refine lv_iload hx hb dX2_nextDigit_93 (lv_at hl 0 rfl) ?_
    refine lv_i2l (v := (fX2_nextDigit_c88 S p0).toInt64) hx hb dX2_nextDigit_95 rfl ?_
    refine lv_lmul hx hb dX2_nextDigit_96 ?_
    refine lv_lload_n hx hb dX2_nextDigit_97 rfl (lv_at hl 7 rfl) ?_
    refine lv_lmul hx hb dX2_nextDigit_98 ?_
    refine lv_lstore (lv' := [(11, .long (((-8) * ((fX2_nextDigit_c88 S p0).toInt64)) * p1)), (10, .int (fX2_nextDigit_c88 S p0)), (9, .int (fX2_nextDigit_j68 S p0)), (8, .int (fX2_nextDigit_c40 S p0)), (6, .long (4 * ((mv13 S) (p0 - 1).toNatClampNeg))), (4, .long (4 * ((mv12 S) (p0 - 1).toNatClampNeg))), (0, .ref o0), (1, .int p0), (2, .long p1)]) hx hb dX2_nextDigit_99 hl (by decide) rfl (fun ls hl => ?_)
    refine lv_aload_n hx hb dX2_nextDigit_101 rfl (lv_at hl 6 rfl) ?_
    refine va_get (D := (dC, dI)) (ci := 2) (v := .ref o4) (C := RX2) (T := TX2) (N := 18) hx hb hts inX2_X2_nextDigit hown hK hP 0 rfl rfl 12 (by decide) (hts (.fieldLink RX2 19 "DigitDividerModel" "sums" "[J") (by decide +kernel)) (fun _ h9 => h9) rfl dX2_nextDigit_102 ?_
    refine lv_iload_n hx hb dX2_nextDigit_105 rfl (lv_at hl 7 rfl) ?_
    refine lv_lload hx hb dX2_nextDigit_106 (lv_at hl 5 rfl) ?_
    refine lv_lload hx hb dX2_nextDigit_108 (lv_at hl 4 rfl) ?_
    refine lv_lxor hx hb dX2_nextDigit_110 ?_
    refine lv_lload hx hb dX2_nextDigit_111 (lv_at hl 0 rfl) ?_
    refine lv_lxor hx hb dX2_nextDigit_113 ?_
    refine ax_nmL (y := (fX2_nextDigit_c114 S p0 p1)) rfl ?_
    refine va_last hx hb hK hP hD hS 4 1 rfl rfl hy2 dX2_nextDigit_114 (fun H locs hP hD hS => ?_)
    have hP : va_P (dC, dI) vwCl [(o0, .inr (2, [.ref o1, .int (mv1 S), .int (mv2 S), .int (mv3 S), .int (mv4 S), .int (mv5 S), .int (mv6 S), .int (mv7 S), .int (mv8 S), .int (mv9 S), .ref o2, .ref o3, .ref o4, .ref o5, .ref o6, .ref o7, .ref o8, .ref o9])), (o1, .inl (cI, 8192, .inl (mv0 S))), (o2, .inl (cI, 20, .inl (mv10 S))), (o3, .inl (cI, 20, .inl (mv11 S))), (o4, .inl (cJ, 20, .inr (.inl (vp_updL (mv12 S) p0.toNatClampNeg (fX2_nextDigit_c114 S p0 p1))))), (o5, .inl (cJ, 20, .inr (.inl (mv13 S)))), (o6, .inl (cJ, 20, .inr (.inl (mv14 S)))), (o7, .inl (cJ, 20, .inr (.inl (mv15 S)))), (o8, .inl (cI, 48, .inl (mv16 S))), (o9, .inl (cJ, 80, .inr (.inl (mv17 S))))] H := hP
    have hD : va_D A [(o0, .inr (2, [.ref o1, .int (mv1 S), .int (mv2 S), .int (mv3 S), .int (mv4 S), .int (mv5 S), .int (mv6 S), .int (mv7 S), .int (mv8 S), .int (mv9 S), .ref o2, .ref o3, .ref o4, .ref o5, .ref o6, .ref o7, .ref o8, .ref o9])), (o1, .inl (cI, 8192, .inl (mv0 S))), (o2, .inl (cI, 20, .inl (mv10 S))), (o3, .inl (cI, 20, .inl (mv11 S))), (o4, .inl (cJ, 20, .inr (.inl (vp_updL (mv12 S) p0.toNatClampNeg (fX2_nextDigit_c114 S p0 p1))))), (o5, .inl (cJ, 20, .inr (.inl (mv13 S)))), (o6, .inl (cJ, 20, .inr (.inl (mv14 S)))), (o7, .inl (cJ, 20, .inr (.inl (mv15 S)))), (o8, .inl (cI, 48, .inl (mv16 S))), (o9, .inl (cJ, 80, .inr (.inl (mv17 S))))] := hD
    refine lv_aload_n hx hb dX2_nextDigit_115 rfl (lv_at hl 6 rfl) ?_
    refine va_get (D := (dC, dI)) (ci := 2) (v := .ref o5) (C := RX2) (T := TX2) (N := 18) hx hb hts inX2_X2_nextDigit hown hK hP 0 rfl rfl 13 (by decide) (hts (.fieldLink RX2 23 "DigitDividerModel" "carries" "[J") (by decide +kernel)) (fun _ h9 => h9) rfl dX2_nextDigit_116 ?_
    refine lv_iload_n hx hb dX2_nextDigit_119 rfl (lv_at hl 7 rfl) ?_
    refine lv_ldc2 (v := 2) hx hb hown (hts (.constantLong RX2 79 (2)) (by decide +kernel)) dX2_nextDigit_120 ?_
    refine lv_lload hx hb dX2_nextDigit_123 (lv_at hl 5 rfl) ?_
    refine lv_lload hx hb dX2_nextDigit_125 (lv_at hl 4 rfl) ?_
    refine lv_land hx hb dX2_nextDigit_127 ?_
    refine lv_lload hx hb dX2_nextDigit_128 (lv_at hl 5 rfl) ?_
    refine lv_lload hx hb dX2_nextDigit_130 (lv_at hl 0 rfl) ?_
    refine lv_land hx hb dX2_nextDigit_132 ?_
    refine lv_lor hx hb dX2_nextDigit_133 ?_
    refine lv_lload hx hb dX2_nextDigit_134 (lv_at hl 4 rfl) ?_
    refine lv_lload hx hb dX2_nextDigit_136 (lv_at hl 0 rfl) ?_
    refine lv_land hx hb dX2_nextDigit_138 ?_
    refine lv_lor hx hb dX2_nextDigit_139 ?_
    refine lv_lmul hx hb dX2_nextDigit_140 ?_
    refine ax_nmL (y := (fX2_nextDigit_c141 S p0 p1)) rfl ?_
    refine va_last hx hb hK hP hD hS 5 1 rfl rfl hy2 dX2_nextDigit_141 (fun H locs hP hD hS => ?_)
    have hP : va_P (dC, dI) vwCl [(o0, .inr (2, [.ref o1, .int (mv1 S), .int (mv2 S), .int (mv3 S), .int (mv4 S), .int (mv5 S), .int (mv6 S), .int (mv7 S), .int (mv8 S), .int (mv9 S), .ref o2, .ref o3, .ref o4, .ref o5, .ref o6, .ref o7, .ref o8, .ref o9])), (o1, .inl (cI, 8192, .inl (mv0 S))), (o2, .inl (cI, 20, .inl (mv10 S))), (o3, .inl (cI, 20, .inl (mv11 S))), (o4, .inl (cJ, 20, .inr (.inl (vp_updL (mv12 S) p0.toNatClampNeg (fX2_nextDigit_c114 S p0 p1))))), (o5, .inl (cJ, 20, .inr (.inl (vp_updL (mv13 S) p0.toNatClampNeg (fX2_nextDigit_c141 S p0 p1))))), (o6, .inl (cJ, 20, .inr (.inl (mv14 S)))), (o7, .inl (cJ, 20, .inr (.inl (mv15 S)))), (o8, .inl (cI, 48, .inl (mv16 S))), (o9, .inl (cJ, 80, .inr (.inl (mv17 S))))] H := hP
    have hD : va_D A [(o0, .inr (2, [.ref o1, .int (mv1 S), .int (mv2 S), .int (mv3 S), .int (mv4 S), .int (mv5 S), .int (mv6 S), .int (mv7 S), .int (mv8 S), .int (mv9 S), .ref o2, .ref o3, .ref o4, .ref o5, .ref o6, .ref o7, .ref o8, .ref o9])), (o1, .inl (cI, 8192, .inl (mv0 S))), (o2, .inl (cI, 20, .inl (mv10 S))), (o3, .inl (cI, 20, .inl (mv11 S))), (o4, .inl (cJ, 20, .inr (.inl (vp_updL (mv12 S) p0.toNatClampNeg (fX2_nextDigit_c114 S p0 p1))))), (o5, .inl (cJ, 20, .inr (.inl (vp_updL (mv13 S) p0.toNatClampNeg (fX2_nextDigit_c141 S p0 p1))))), (o6, .inl (cJ, 20, .inr (.inl (mv14 S)))), (o7, .inl (cJ, 20, .inr (.inl (mv15 S)))), (o8, .inl (cI, 48, .inl (mv16 S))), (o9, .inl (cJ, 80, .inr (.inl (mv17 S))))] := hD
    refine lv_aload_n hx hb dX2_nextDigit_142 rfl (lv_at hl 6 rfl) ?_
    refine va_get (D := (dC, dI)) (ci := 2) (v := .ref o6) (C := RX2) (T := TX2) (N := 18) hx hb hts inX2_X2_nextDigit hown hK hP 0 rfl rfl 14 (by decide) (hts (.fieldLink RX2 26 "DigitDividerModel" "highs" "[J") (by decide +kernel)) (fun _ h9 => h9) rfl dX2_nextDigit_143 ?_
    refine lv_iload_n hx hb dX2_nextDigit_146 rfl (lv_at hl 7 rfl) ?_
    refine lv_iconst (v := 1) hx hb dX2_nextDigit_147 (by decide) ?_
    refine lv_isub hx hb dX2_nextDigit_148 ?_
    refine va_lald hx hb hK hP 6 1 rfl rfl hy0 dX2_nextDigit_149 ?_
    refine lv_lstore (lv' := [(13, .long ((mv14 S) (p0 - 1).toNatClampNeg)), (11, .long (((-8) * ((fX2_nextDigit_c88 S p0).toInt64)) * p1)), (10, .int (fX2_nextDigit_c88 S p0)), (9, .int (fX2_nextDigit_j68 S p0)), (8, .int (fX2_nextDigit_c40 S p0)), (6, .long (4 * ((mv13 S) (p0 - 1).toNatClampNeg))), (4, .long (4 * ((mv12 S) (p0 - 1).toNatClampNeg))), (0, .ref o0), (1, .int p0), (2, .long p1)]) hx hb dX2_nextDigit_150 hl (by decide) rfl (fun ls hl => ?_)
    refine lv_aload_n hx hb dX2_nextDigit_152 rfl (lv_at hl 7 rfl) ?_
    refine va_get (D := (dC, dI)) (ci := 2) (v := .ref o7) (C := RX2) (T := TX2) (N := 18) hx hb hts inX2_X2_nextDigit hown hK hP 0 rfl rfl 15 (by decide) (hts (.fieldLink RX2 29 "DigitDividerModel" "lows" "[J") (by decide +kernel)) (fun _ h9 => h9) rfl dX2_nextDigit_153 ?_
    refine lv_iload_n hx hb dX2_nextDigit_156 rfl (lv_at hl 8 rfl) ?_
    refine lv_iconst (v := 1) hx hb dX2_nextDigit_157 (by decide) ?_
    refine lv_isub hx hb dX2_nextDigit_158 ?_
    refine va_lald hx hb hK hP 7 1 rfl rfl hy0 dX2_nextDigit_159 ?_
    refine lv_lstore (lv' := [(15, .long ((mv15 S) (p0 - 1).toNatClampNeg)), (13, .long ((mv14 S) (p0 - 1).toNatClampNeg)), (11, .long (((-8) * ((fX2_nextDigit_c88 S p0).toInt64)) * p1)), (10, .int (fX2_nextDigit_c88 S p0)), (9, .int (fX2_nextDigit_j68 S p0)), (8, .int (fX2_nextDigit_c40 S p0)), (6, .long (4 * ((mv13 S) (p0 - 1).toNatClampNeg))), (4, .long (4 * ((mv12 S) (p0 - 1).toNatClampNeg))), (0, .ref o0), (1, .int p0), (2, .long p1)]) hx hb dX2_nextDigit_160 hl (by decide) rfl (fun ls hl => ?_)
    refine lv_aload_n hx hb dX2_nextDigit_162 rfl (lv_at hl 8 rfl) ?_
    refine va_get (D := (dC, dI)) (ci := 2) (v := .ref o6) (C := RX2) (T := TX2) (N := 18) hx hb hts inX2_X2_nextDigit hown hK hP 0 rfl rfl 14 (by decide) (hts (.fieldLink RX2 26 "DigitDividerModel" "highs" "[J") (by decide +kernel)) (fun _ h9 => h9) rfl dX2_nextDigit_163 ?_
    refine lv_iload_n hx hb dX2_nextDigit_166 rfl (lv_at hl 9 rfl) ?_
    refine lv_iload hx hb dX2_nextDigit_167 (lv_at hl 3 rfl) ?_
    refine ax_joinL (J := 199) (v := (fX2_nextDigit_j199 S p0)) (ls := ls) (rest := [.int p0, .ref o6]) ?_ (fun kj_10 => ?_)
    · refine va_last hx hb hK hP hD hS 6 1 rfl rfl hy2 dX2_nextDigit_199 (fun H locs hP hD hS => ?_)
      have hP : va_P (dC, dI) vwCl [(o0, .inr (2, [.ref o1, .int (mv1 S), .int (mv2 S), .int (mv3 S), .int (mv4 S), .int (mv5 S), .int (mv6 S), .int (mv7 S), .int (mv8 S), .int (mv9 S), .ref o2, .ref o3, .ref o4, .ref o5, .ref o6, .ref o7, .ref o8, .ref o9])), (o1, .inl (cI, 8192, .inl (mv0 S))), (o2, .inl (cI, 20, .inl (mv10 S))), (o3, .inl (cI, 20, .inl (mv11 S))), (o4, .inl (cJ, 20, .inr (.inl (vp_updL (mv12 S) p0.toNatClampNeg (fX2_nextDigit_c114 S p0 p1))))), (o5, .inl (cJ, 20, .inr (.inl (vp_updL (mv13 S) p0.toNatClampNeg (fX2_nextDigit_c141 S p0 p1))))), (o6, .inl (cJ, 20, .inr (.inl (vp_updL (mv14 S) p0.toNatClampNeg (fX2_nextDigit_j199 S p0))))), (o7, .inl (cJ, 20, .inr (.inl (mv15 S)))), (o8, .inl (cI, 48, .inl (mv16 S))), (o9, .inl (cJ, 80, .inr (.inl (mv17 S))))] H := hP
      have hD : va_D A [(o0, .inr (2, [.ref o1, .int (mv1 S), .int (mv2 S), .int (mv3 S), .int (mv4 S), .int (mv5 S), .int (mv6 S), .int (mv7 S), .int (mv8 S), .int (mv9 S), .ref o2, .ref o3, .ref o4, .ref o5, .ref o6, .ref o7, .ref o8, .ref o9])), (o1, .inl (cI, 8192, .inl (mv0 S))), (o2, .inl (cI, 20, .inl (mv10 S))), (o3, .inl (cI, 20, .inl (mv11 S))), (o4, .inl (cJ, 20, .inr (.inl (vp_updL (mv12 S) p0.toNatClampNeg (fX2_nextDigit_c114 S p0 p1))))), (o5, .inl (cJ, 20, .inr (.inl (vp_updL (mv13 S) p0.toNatClampNeg (fX2_nextDigit_c141 S p0 p1))))), (o6, .inl (cJ, 20, .inr (.inl (vp_updL (mv14 S) p0.toNatClampNeg (fX2_nextDigit_j199 S p0))))), (o7, .inl (cJ, 20, .inr (.inl (mv15 S)))), (o8, .inl (cI, 48, .inl (mv16 S))), (o9, .inl (cJ, 80, .inr (.inl (mv17 S))))] := hD
      refine lv_aload_n hx hb dX2_nextDigit_200 rfl (lv_at hl 8 rfl) ?_
      refine va_get (D := (dC, dI)) (ci := 2) (v := .ref o7) (C := RX2) (T := TX2) (N := 18) hx hb hts inX2_X2_nextDigit hown hK hP 0 rfl rfl 15 (by decide) (hts (.fieldLink RX2 29 "DigitDividerModel" "lows" "[J") (by decide +kernel)) (fun _ h9 => h9) rfl dX2_nextDigit_201 ?_
      refine lv_iload_n hx hb dX2_nextDigit_204 rfl (lv_at hl 9 rfl) ?_
      refine lv_iload hx hb dX2_nextDigit_205 (lv_at hl 3 rfl) ?_
      refine ax_joinL (J := 239) (v := (fX2_nextDigit_j239 S p0)) (ls := ls) (rest := [.int p0, .ref o7]) ?_ (fun kj_9 => ?_)
      · refine va_last hx hb hK hP hD hS 7 1 rfl rfl hy2 dX2_nextDigit_239 (fun H locs hP hD hS => ?_)
        have hP : va_P (dC, dI) vwCl [(o0, .inr (2, [.ref o1, .int (mv1 S), .int (mv2 S), .int (mv3 S), .int (mv4 S), .int (mv5 S), .int (mv6 S), .int (mv7 S), .int (mv8 S), .int (mv9 S), .ref o2, .ref o3, .ref o4, .ref o5, .ref o6, .ref o7, .ref o8, .ref o9])), (o1, .inl (cI, 8192, .inl (mv0 S))), (o2, .inl (cI, 20, .inl (mv10 S))), (o3, .inl (cI, 20, .inl (mv11 S))), (o4, .inl (cJ, 20, .inr (.inl (vp_updL (mv12 S) p0.toNatClampNeg (fX2_nextDigit_c114 S p0 p1))))), (o5, .inl (cJ, 20, .inr (.inl (vp_updL (mv13 S) p0.toNatClampNeg (fX2_nextDigit_c141 S p0 p1))))), (o6, .inl (cJ, 20, .inr (.inl (vp_updL (mv14 S) p0.toNatClampNeg (fX2_nextDigit_j199 S p0))))), (o7, .inl (cJ, 20, .inr (.inl (vp_updL (mv15 S) p0.toNatClampNeg (fX2_nextDigit_j239 S p0))))), (o8, .inl (cI, 48, .inl (mv16 S))), (o9, .inl (cJ, 80, .inr (.inl (mv17 S))))] H := hP
        have hD : va_D A [(o0, .inr (2, [.ref o1, .int (mv1 S), .int (mv2 S), .int (mv3 S), .int (mv4 S), .int (mv5 S), .int (mv6 S), .int (mv7 S), .int (mv8 S), .int (mv9 S), .ref o2, .ref o3, .ref o4, .ref o5, .ref o6, .ref o7, .ref o8, .ref o9])), (o1, .inl (cI, 8192, .inl (mv0 S))), (o2, .inl (cI, 20, .inl (mv10 S))), (o3, .inl (cI, 20, .inl (mv11 S))), (o4, .inl (cJ, 20, .inr (.inl (vp_updL (mv12 S) p0.toNatClampNeg (fX2_nextDigit_c114 S p0 p1))))), (o5, .inl (cJ, 20, .inr (.inl (vp_updL (mv13 S) p0.toNatClampNeg (fX2_nextDigit_c141 S p0 p1))))), (o6, .inl (cJ, 20, .inr (.inl (vp_updL (mv14 S) p0.toNatClampNeg (fX2_nextDigit_j199 S p0))))), (o7, .inl (cJ, 20, .inr (.inl (vp_updL (mv15 S) p0.toNatClampNeg (fX2_nextDigit_j239 S p0))))), (o8, .inl (cI, 48, .inl (mv16 S))), (o9, .inl (cJ, 80, .inr (.inl (mv17 S))))] := hD
        refine lv_aload_n hx hb dX2_nextDigit_240 rfl (lv_at hl 8 rfl) ?_
        refine va_get (D := (dC, dI)) (ci := 2) (v := .ref o2) (C := RX2) (T := TX2) (N := 18) hx hb hts inX2_X2_nextDigit hown hK hP 0 rfl rfl 10 (by decide) (hts (.fieldLink RX2 13 "DigitDividerModel" "digits" "[I") (by decide +kernel)) (fun _ h9 => h9) rfl dX2_nextDigit_241 ?_
        refine lv_iload_n hx hb dX2_nextDigit_244 rfl (lv_at hl 9 rfl) ?_
        refine lv_iload hx hb dX2_nextDigit_245 (lv_at hl 3 rfl) ?_
        refine va_iast hx hb hK hP hD hS 2 0 rfl rfl hy2 dX2_nextDigit_247 (fun H locs hP hD hS => ?_)
        have hP : va_P (dC, dI) vwCl [(o0, .inr (2, [.ref o1, .int (mv1 S), .int (mv2 S), .int (mv3 S), .int (mv4 S), .int (mv5 S), .int (mv6 S), .int (mv7 S), .int (mv8 S), .int (mv9 S), .ref o2, .ref o3, .ref o4, .ref o5, .ref o6, .ref o7, .ref o8, .ref o9])), (o1, .inl (cI, 8192, .inl (mv0 S))), (o2, .inl (cI, 20, .inl (upd (mv10 S) p0.toNatClampNeg (fX2_nextDigit_c88 S p0)))), (o3, .inl (cI, 20, .inl (mv11 S))), (o4, .inl (cJ, 20, .inr (.inl (vp_updL (mv12 S) p0.toNatClampNeg (fX2_nextDigit_c114 S p0 p1))))), (o5, .inl (cJ, 20, .inr (.inl (vp_updL (mv13 S) p0.toNatClampNeg (fX2_nextDigit_c141 S p0 p1))))), (o6, .inl (cJ, 20, .inr (.inl (vp_updL (mv14 S) p0.toNatClampNeg (fX2_nextDigit_j199 S p0))))), (o7, .inl (cJ, 20, .inr (.inl (vp_updL (mv15 S) p0.toNatClampNeg (fX2_nextDigit_j239 S p0))))), (o8, .inl (cI, 48, .inl (mv16 S))), (o9, .inl (cJ, 80, .inr (.inl (mv17 S))))] H := hP
        have hD : va_D A [(o0, .inr (2, [.ref o1, .int (mv1 S), .int (mv2 S), .int (mv3 S), .int (mv4 S), .int (mv5 S), .int (mv6 S), .int (mv7 S), .int (mv8 S), .int (mv9 S), .ref o2, .ref o3, .ref o4, .ref o5, .ref o6, .ref o7, .ref o8, .ref o9])), (o1, .inl (cI, 8192, .inl (mv0 S))), (o2, .inl (cI, 20, .inl (upd (mv10 S) p0.toNatClampNeg (fX2_nextDigit_c88 S p0)))), (o3, .inl (cI, 20, .inl (mv11 S))), (o4, .inl (cJ, 20, .inr (.inl (vp_updL (mv12 S) p0.toNatClampNeg (fX2_nextDigit_c114 S p0 p1))))), (o5, .inl (cJ, 20, .inr (.inl (vp_updL (mv13 S) p0.toNatClampNeg (fX2_nextDigit_c141 S p0 p1))))), (o6, .inl (cJ, 20, .inr (.inl (vp_updL (mv14 S) p0.toNatClampNeg (fX2_nextDigit_j199 S p0))))), (o7, .inl (cJ, 20, .inr (.inl (vp_updL (mv15 S) p0.toNatClampNeg (fX2_nextDigit_j239 S p0))))), (o8, .inl (cI, 48, .inl (mv16 S))), (o9, .inl (cJ, 80, .inr (.inl (mv17 S))))] := hD
        refine lv_aload_n hx hb dX2_nextDigit_248 rfl (lv_at hl 8 rfl) ?_
        refine va_get (D := (dC, dI)) (ci := 2) (v := .ref o3) (C := RX2) (T := TX2) (N := 18) hx hb hts inX2_X2_nextDigit hown hK hP 0 rfl rfl 11 (by decide) (hts (.fieldLink RX2 16 "DigitDividerModel" "columns" "[I") (by decide +kernel)) (fun _ h9 => h9) rfl dX2_nextDigit_249 ?_
        refine lv_iload_n hx hb dX2_nextDigit_252 rfl (lv_at hl 9 rfl) ?_
        refine lv_iload hx hb dX2_nextDigit_253 (lv_at hl 5 rfl) ?_
        refine va_iast hx hb hK hP hD hS 3 0 rfl rfl hy2 dX2_nextDigit_255 (fun H locs hP hD hS => ?_)
        have hP : va_P (dC, dI) vwCl [(o0, .inr (2, [.ref o1, .int (mv1 S), .int (mv2 S), .int (mv3 S), .int (mv4 S), .int (mv5 S), .int (mv6 S), .int (mv7 S), .int (mv8 S), .int (mv9 S), .ref o2, .ref o3, .ref o4, .ref o5, .ref o6, .ref o7, .ref o8, .ref o9])), (o1, .inl (cI, 8192, .inl (mv0 S))), (o2, .inl (cI, 20, .inl (upd (mv10 S) p0.toNatClampNeg (fX2_nextDigit_c88 S p0)))), (o3, .inl (cI, 20, .inl (upd (mv11 S) p0.toNatClampNeg (fX2_nextDigit_c40 S p0)))), (o4, .inl (cJ, 20, .inr (.inl (vp_updL (mv12 S) p0.toNatClampNeg (fX2_nextDigit_c114 S p0 p1))))), (o5, .inl (cJ, 20, .inr (.inl (vp_updL (mv13 S) p0.toNatClampNeg (fX2_nextDigit_c141 S p0 p1))))), (o6, .inl (cJ, 20, .inr (.inl (vp_updL (mv14 S) p0.toNatClampNeg (fX2_nextDigit_j199 S p0))))), (o7, .inl (cJ, 20, .inr (.inl (vp_updL (mv15 S) p0.toNatClampNeg (fX2_nextDigit_j239 S p0))))), (o8, .inl (cI, 48, .inl (mv16 S))), (o9, .inl (cJ, 80, .inr (.inl (mv17 S))))] H := hP
        have hD : va_D A [(o0, .inr (2, [.ref o1, .int (mv1 S), .int (mv2 S), .int (mv3 S), .int (mv4 S), .int (mv5 S), .int (mv6 S), .int (mv7 S), .int (mv8 S), .int (mv9 S), .ref o2, .ref o3, .ref o4, .ref o5, .ref o6, .ref o7, .ref o8, .ref o9])), (o1, .inl (cI, 8192, .inl (mv0 S))), (o2, .inl (cI, 20, .inl (upd (mv10 S) p0.toNatClampNeg (fX2_nextDigit_c88 S p0)))), (o3, .inl (cI, 20, .inl (upd (mv11 S) p0.toNatClampNeg (fX2_nextDigit_c40 S p0)))), (o4, .inl (cJ, 20, .inr (.inl (vp_updL (mv12 S) p0.toNatClampNeg (fX2_nextDigit_c114 S p0 p1))))), (o5, .inl (cJ, 20, .inr (.inl (vp_updL (mv13 S) p0.toNatClampNeg (fX2_nextDigit_c141 S p0 p1))))), (o6, .inl (cJ, 20, .inr (.inl (vp_updL (mv14 S) p0.toNatClampNeg (fX2_nextDigit_j199 S p0))))), (o7, .inl (cJ, 20, .inr (.inl (vp_updL (mv15 S) p0.toNatClampNeg (fX2_nextDigit_j239 S p0))))), (o8, .inl (cI, 48, .inl (mv16 S))), (o9, .inl (cJ, 80, .inr (.inl (mv17 S))))] := hD
        refine lv_aload_n hx hb dX2_nextDigit_256 rfl (lv_at hl 8 rfl) ?_
        refine va_get (D := (dC, dI)) (ci := 2) (v := .ref o4) (C := RX2) (T := TX2) (N := 18) hx hb hts inX2_X2_nextDigit hown hK hP 0 rfl rfl 12 (by decide) (hts (.fieldLink RX2 19 "DigitDividerModel" "sums" "[J") (by decide +kernel)) (fun _ h9 => h9) rfl dX2_nextDigit_257 ?_
        refine lv_iload_n hx hb dX2_nextDigit_260 rfl (lv_at hl 9 rfl) ?_
        refine va_lald hx hb hK hP 4 1 rfl rfl hy2 dX2_nextDigit_261 ?_
        refine lv_aload_n hx hb dX2_nextDigit_262 rfl (lv_at hl 8 rfl) ?_
        refine va_get (D := (dC, dI)) (ci := 2) (v := .ref o5) (C := RX2) (T := TX2) (N := 18) hx hb hts inX2_X2_nextDigit hown hK hP 0 rfl rfl 13 (by decide) (hts (.fieldLink RX2 23 "DigitDividerModel" "carries" "[J") (by decide +kernel)) (fun _ h9 => h9) rfl dX2_nextDigit_263 ?_
        refine lv_iload_n hx hb dX2_nextDigit_266 rfl (lv_at hl 9 rfl) ?_
        refine va_lald hx hb hK hP 5 1 rfl rfl hy2 dX2_nextDigit_267 ?_
        refine lv_ladd hx hb dX2_nextDigit_268 ?_
        refine ax_nmL (y := (fX2_nextDigit_c269 S p0 p1)) rfl ?_
        refine lv_lstore (lv' := [(17, .long (fX2_nextDigit_c269 S p0 p1)), (15, .long ((mv15 S) (p0 - 1).toNatClampNeg)), (13, .long ((mv14 S) (p0 - 1).toNatClampNeg)), (11, .long (((-8) * ((fX2_nextDigit_c88 S p0).toInt64)) * p1)), (10, .int (fX2_nextDigit_c88 S p0)), (9, .int (fX2_nextDigit_j68 S p0)), (8, .int (fX2_nextDigit_c40 S p0)), (6, .long (4 * ((mv13 S) (p0 - 1).toNatClampNeg))), (4, .long (4 * ((mv12 S) (p0 - 1).toNatClampNeg))), (0, .ref o0), (1, .int p0), (2, .long p1)]) hx hb dX2_nextDigit_269 hl (by decide) rfl (fun ls hl => ?_)
        refine lv_ldc2 (v := 16) hx hb hown (hts (.constantLong RX2 94 (16)) (by decide +kernel)) dX2_nextDigit_271 ?_
        refine lv_lload_n hx hb dX2_nextDigit_274 rfl (lv_at hl 11 rfl) ?_
        refine lv_lmul hx hb dX2_nextDigit_275 ?_
        refine lv_ldc2 (v := 3) hx hb hown (hts (.constantLong RX2 92 (3)) (by decide +kernel)) dX2_nextDigit_276 ?_
        refine lv_ldiv hx hb dX2_nextDigit_279 (by decide) ?_
        refine lv_lstore (lv' := [(19, .long ((16 * p1) / 3)), (17, .long (fX2_nextDigit_c269 S p0 p1)), (15, .long ((mv15 S) (p0 - 1).toNatClampNeg)), (13, .long ((mv14 S) (p0 - 1).toNatClampNeg)), (11, .long (((-8) * ((fX2_nextDigit_c88 S p0).toInt64)) * p1)), (10, .int (fX2_nextDigit_c88 S p0)), (9, .int (fX2_nextDigit_j68 S p0)), (8, .int (fX2_nextDigit_c40 S p0)), (6, .long (4 * ((mv13 S) (p0 - 1).toNatClampNeg))), (4, .long (4 * ((mv12 S) (p0 - 1).toNatClampNeg))), (0, .ref o0), (1, .int p0), (2, .long p1)]) hx hb dX2_nextDigit_280 hl (by decide) rfl (fun ls hl => ?_)
        refine lv_aload_n hx hb dX2_nextDigit_282 rfl (lv_at hl 10 rfl) ?_
        refine va_get (D := (dC, dI)) (ci := 2) (v := .int (mv6 S)) (C := RX2) (T := TX2) (N := 18) hx hb hts inX2_X2_nextDigit hown hK hP 0 rfl rfl 6 (by decide) (hts (.fieldLink RX2 96 "DigitDividerModel" "left" "I") (by decide +kernel)) (fun _ h9 => h9) rfl dX2_nextDigit_283 ?_
        refine lv_if_ne (tgt := 311) hx hb dX2_nextDigit_286 (by decide) (fun c_286_6 => ?_) (fun c_286_6 => ?_)
        · exact W.vret hx hb hr (fun t ht hW => ⟨⟨((mv0 S), (mv1 S), (mv2 S), (mv3 S), (mv4 S), (mv5 S), (mv6 S), (mv7 S), (mv8 S), (mv9 S), (upd (mv10 S) p0.toNatClampNeg (fX2_nextDigit_c88 S p0)), (upd (mv11 S) p0.toNatClampNeg (fX2_nextDigit_c40 S p0)), (vp_updL (mv12 S) p0.toNatClampNeg (fX2_nextDigit_c114 S p0 p1)), (vp_updL (mv13 S) p0.toNatClampNeg (fX2_nextDigit_c141 S p0 p1)), (vp_updL (mv14 S) p0.toNatClampNeg (fX2_nextDigit_j199 S p0)), (vp_updL (mv15 S) p0.toNatClampNeg (fX2_nextDigit_j239 S p0)), (mv16 S), (mv17 S)), rfl, (by unfold gX2_nextDigit; rw [if_neg c_286_6]), by rw [ht]; exact hP, va_K.moved hW.alike hK, hD⟩, hS.F ht⟩) hS.2.2 dX2_nextDigit_311
        · refine lv_lload hx hb dX2_nextDigit_289 (lv_at hl 1 rfl) ?_
          refine lv_lload hx hb dX2_nextDigit_291 (lv_at hl 0 rfl) ?_
          refine W.lcmp hx hb dX2_nextDigit_293 ?_
          refine lv_if_gt (tgt := 306) hx hb dX2_nextDigit_294 (by decide) (fun c_294_7 => ?_) (fun c_294_7 => ?_)
          · have c_294_7 := (lg_cmp_gt _ _).mp c_294_7
            refine lv_aload_n hx hb dX2_nextDigit_306 rfl (lv_at hl 10 rfl) ?_
            refine lv_iload_n hx hb dX2_nextDigit_307 rfl (lv_at hl 11 rfl) ?_
            refine va_put (D := (dC, dI)) (ci := 2) (v := .int p0) (ty := .int) (C := RX2) (T := TX2) (N := 18) hx hb hts inX2_X2_nextDigit tyX2 tyX2_ok nmX2 hown hK hP hD hS 0 rfl rfl 6 (by decide) (hts (.fieldLink RX2 96 "DigitDividerModel" "left" "I") (by decide +kernel)) (fun _ h9 => h9) rfl (by decide +kernel) rfl rfl (Nat.le_of_ble_eq_true rfl) dX2_nextDigit_308 (fun H locs hP hD hS => ?_)
            have hP : va_P (dC, dI) vwCl [(o0, .inr (2, [.ref o1, .int (mv1 S), .int (mv2 S), .int (mv3 S), .int (mv4 S), .int (mv5 S), .int p0, .int (mv7 S), .int (mv8 S), .int (mv9 S), .ref o2, .ref o3, .ref o4, .ref o5, .ref o6, .ref o7, .ref o8, .ref o9])), (o1, .inl (cI, 8192, .inl (mv0 S))), (o2, .inl (cI, 20, .inl (upd (mv10 S) p0.toNatClampNeg (fX2_nextDigit_c88 S p0)))), (o3, .inl (cI, 20, .inl (upd (mv11 S) p0.toNatClampNeg (fX2_nextDigit_c40 S p0)))), (o4, .inl (cJ, 20, .inr (.inl (vp_updL (mv12 S) p0.toNatClampNeg (fX2_nextDigit_c114 S p0 p1))))), (o5, .inl (cJ, 20, .inr (.inl (vp_updL (mv13 S) p0.toNatClampNeg (fX2_nextDigit_c141 S p0 p1))))), (o6, .inl (cJ, 20, .inr (.inl (vp_updL (mv14 S) p0.toNatClampNeg (fX2_nextDigit_j199 S p0))))), (o7, .inl (cJ, 20, .inr (.inl (vp_updL (mv15 S) p0.toNatClampNeg (fX2_nextDigit_j239 S p0))))), (o8, .inl (cI, 48, .inl (mv16 S))), (o9, .inl (cJ, 80, .inr (.inl (mv17 S))))] H := hP
            have hD : va_D A [(o0, .inr (2, [.ref o1, .int (mv1 S), .int (mv2 S), .int (mv3 S), .int (mv4 S), .int (mv5 S), .int p0, .int (mv7 S), .int (mv8 S), .int (mv9 S), .ref o2, .ref o3, .ref o4, .ref o5, .ref o6, .ref o7, .ref o8, .ref o9])), (o1, .inl (cI, 8192, .inl (mv0 S))), (o2, .inl (cI, 20, .inl (upd (mv10 S) p0.toNatClampNeg (fX2_nextDigit_c88 S p0)))), (o3, .inl (cI, 20, .inl (upd (mv11 S) p0.toNatClampNeg (fX2_nextDigit_c40 S p0)))), (o4, .inl (cJ, 20, .inr (.inl (vp_updL (mv12 S) p0.toNatClampNeg (fX2_nextDigit_c114 S p0 p1))))), (o5, .inl (cJ, 20, .inr (.inl (vp_updL (mv13 S) p0.toNatClampNeg (fX2_nextDigit_c141 S p0 p1))))), (o6, .inl (cJ, 20, .inr (.inl (vp_updL (mv14 S) p0.toNatClampNeg (fX2_nextDigit_j199 S p0))))), (o7, .inl (cJ, 20, .inr (.inl (vp_updL (mv15 S) p0.toNatClampNeg (fX2_nextDigit_j239 S p0))))), (o8, .inl (cI, 48, .inl (mv16 S))), (o9, .inl (cJ, 80, .inr (.inl (mv17 S))))] := hD
            exact W.vret hx hb hr (fun t ht hW => ⟨⟨((mv0 S), (mv1 S), (mv2 S), (mv3 S), (mv4 S), (mv5 S), p0, (mv7 S), (mv8 S), (mv9 S), (upd (mv10 S) p0.toNatClampNeg (fX2_nextDigit_c88 S p0)), (upd (mv11 S) p0.toNatClampNeg (fX2_nextDigit_c40 S p0)), (vp_updL (mv12 S) p0.toNatClampNeg (fX2_nextDigit_c114 S p0 p1)), (vp_updL (mv13 S) p0.toNatClampNeg (fX2_nextDigit_c141 S p0 p1)), (vp_updL (mv14 S) p0.toNatClampNeg (fX2_nextDigit_j199 S p0)), (vp_updL (mv15 S) p0.toNatClampNeg (fX2_nextDigit_j239 S p0)), (mv16 S), (mv17 S)), rfl, (by unfold gX2_nextDigit; rw [if_pos c_286_6, if_pos c_294_7]), by rw [ht]; exact hP, va_K.moved hW.alike hK, hD⟩, hS.F ht⟩) hS.2.2 dX2_nextDigit_311
          · have c_294_7 := (not_congr (lg_cmp_gt _ _)).mp c_294_7
            refine lv_lload hx hb dX2_nextDigit_297 (lv_at hl 1 rfl) ?_
            refine lv_lload hx hb dX2_nextDigit_299 (lv_at hl 0 rfl) ?_
            refine lv_lneg hx hb dX2_nextDigit_301 ?_
            refine W.lcmp hx hb dX2_nextDigit_302 ?_
            refine lv_if_ge (tgt := 311) hx hb dX2_nextDigit_303 (by decide) (fun c_303_8 => ?_) (fun c_303_8 => ?_)
            · have c_303_8 := (lg_cmp_ge _ _).mp c_303_8
              exact W.vret hx hb hr (fun t ht hW => ⟨⟨((mv0 S), (mv1 S), (mv2 S), (mv3 S), (mv4 S), (mv5 S), (mv6 S), (mv7 S), (mv8 S), (mv9 S), (upd (mv10 S) p0.toNatClampNeg (fX2_nextDigit_c88 S p0)), (upd (mv11 S) p0.toNatClampNeg (fX2_nextDigit_c40 S p0)), (vp_updL (mv12 S) p0.toNatClampNeg (fX2_nextDigit_c114 S p0 p1)), (vp_updL (mv13 S) p0.toNatClampNeg (fX2_nextDigit_c141 S p0 p1)), (vp_updL (mv14 S) p0.toNatClampNeg (fX2_nextDigit_j199 S p0)), (vp_updL (mv15 S) p0.toNatClampNeg (fX2_nextDigit_j239 S p0)), (mv16 S), (mv17 S)), rfl, (by unfold gX2_nextDigit; rw [if_pos c_286_6, if_neg c_294_7, if_pos c_303_8]), by rw [ht]; exact hP, va_K.moved hW.alike hK, hD⟩, hS.F ht⟩) hS.2.2 dX2_nextDigit_311
            · have c_303_8 := (not_congr (lg_cmp_ge _ _)).mp c_303_8
              refine lv_aload_n hx hb dX2_nextDigit_306 rfl (lv_at hl 10 rfl) ?_
              refine lv_iload_n hx hb dX2_nextDigit_307 rfl (lv_at hl 11 rfl) ?_
              refine va_put (D := (dC, dI)) (ci := 2) (v := .int p0) (ty := .int) (C := RX2) (T := TX2) (N := 18) hx hb hts inX2_X2_nextDigit tyX2 tyX2_ok nmX2 hown hK hP hD hS 0 rfl rfl 6 (by decide) (hts (.fieldLink RX2 96 "DigitDividerModel" "left" "I") (by decide +kernel)) (fun _ h9 => h9) rfl (by decide +kernel) rfl rfl (Nat.le_of_ble_eq_true rfl) dX2_nextDigit_308 (fun H locs hP hD hS => ?_)
              have hP : va_P (dC, dI) vwCl [(o0, .inr (2, [.ref o1, .int (mv1 S), .int (mv2 S), .int (mv3 S), .int (mv4 S), .int (mv5 S), .int p0, .int (mv7 S), .int (mv8 S), .int (mv9 S), .ref o2, .ref o3, .ref o4, .ref o5, .ref o6, .ref o7, .ref o8, .ref o9])), (o1, .inl (cI, 8192, .inl (mv0 S))), (o2, .inl (cI, 20, .inl (upd (mv10 S) p0.toNatClampNeg (fX2_nextDigit_c88 S p0)))), (o3, .inl (cI, 20, .inl (upd (mv11 S) p0.toNatClampNeg (fX2_nextDigit_c40 S p0)))), (o4, .inl (cJ, 20, .inr (.inl (vp_updL (mv12 S) p0.toNatClampNeg (fX2_nextDigit_c114 S p0 p1))))), (o5, .inl (cJ, 20, .inr (.inl (vp_updL (mv13 S) p0.toNatClampNeg (fX2_nextDigit_c141 S p0 p1))))), (o6, .inl (cJ, 20, .inr (.inl (vp_updL (mv14 S) p0.toNatClampNeg (fX2_nextDigit_j199 S p0))))), (o7, .inl (cJ, 20, .inr (.inl (vp_updL (mv15 S) p0.toNatClampNeg (fX2_nextDigit_j239 S p0))))), (o8, .inl (cI, 48, .inl (mv16 S))), (o9, .inl (cJ, 80, .inr (.inl (mv17 S))))] H := hP
              have hD : va_D A [(o0, .inr (2, [.ref o1, .int (mv1 S), .int (mv2 S), .int (mv3 S), .int (mv4 S), .int (mv5 S), .int p0, .int (mv7 S), .int (mv8 S), .int (mv9 S), .ref o2, .ref o3, .ref o4, .ref o5, .ref o6, .ref o7, .ref o8, .ref o9])), (o1, .inl (cI, 8192, .inl (mv0 S))), (o2, .inl (cI, 20, .inl (upd (mv10 S) p0.toNatClampNeg (fX2_nextDigit_c88 S p0)))), (o3, .inl (cI, 20, .inl (upd (mv11 S) p0.toNatClampNeg (fX2_nextDigit_c40 S p0)))), (o4, .inl (cJ, 20, .inr (.inl (vp_updL (mv12 S) p0.toNatClampNeg (fX2_nextDigit_c114 S p0 p1))))), (o5, .inl (cJ, 20, .inr (.inl (vp_updL (mv13 S) p0.toNatClampNeg (fX2_nextDigit_c141 S p0 p1))))), (o6, .inl (cJ, 20, .inr (.inl (vp_updL (mv14 S) p0.toNatClampNeg (fX2_nextDigit_j199 S p0))))), (o7, .inl (cJ, 20, .inr (.inl (vp_updL (mv15 S) p0.toNatClampNeg (fX2_nextDigit_j239 S p0))))), (o8, .inl (cI, 48, .inl (mv16 S))), (o9, .inl (cJ, 80, .inr (.inl (mv17 S))))] := hD
              exact W.vret hx hb hr (fun t ht hW => ⟨⟨((mv0 S), (mv1 S), (mv2 S), (mv3 S), (mv4 S), (mv5 S), p0, (mv7 S), (mv8 S), (mv9 S), (upd (mv10 S) p0.toNatClampNeg (fX2_nextDigit_c88 S p0)), (upd (mv11 S) p0.toNatClampNeg (fX2_nextDigit_c40 S p0)), (vp_updL (mv12 S) p0.toNatClampNeg (fX2_nextDigit_c114 S p0 p1)), (vp_updL (mv13 S) p0.toNatClampNeg (fX2_nextDigit_c141 S p0 p1)), (vp_updL (mv14 S) p0.toNatClampNeg (fX2_nextDigit_j199 S p0)), (vp_updL (mv15 S) p0.toNatClampNeg (fX2_nextDigit_j239 S p0)), (mv16 S), (mv17 S)), rfl, (by unfold gX2_nextDigit; rw [if_pos c_286_6, if_neg c_294_7, if_neg c_303_8]), by rw [ht]; exact hP, va_K.moved hW.alike hK, hD⟩, hS.F ht⟩) hS.2.2 dX2_nextDigit_311
      · refine lv_if_le (tgt := 225) hx hb dX2_nextDigit_207 (by decide) (fun c_207_5 => ?_) (fun c_207_5 => ?_)
        · refine lv_ldc2 (v := 4) hx hb hown (hts (.constantLong RX2 81 (4)) (by decide +kernel)) dX2_nextDigit_225 ?_
          refine lv_lload hx hb dX2_nextDigit_228 (lv_at hl 0 rfl) ?_
          refine lv_lmul hx hb dX2_nextDigit_230 ?_
          refine lv_ldc2 (v := 3) hx hb hown (hts (.constantLong RX2 92 (3)) (by decide +kernel)) dX2_nextDigit_231 ?_
          refine lv_ladd hx hb dX2_nextDigit_234 ?_
          refine lv_iload hx hb dX2_nextDigit_235 (lv_at hl 3 rfl) ?_
          refine lv_i2l (v := (fX2_nextDigit_c88 S p0).toInt64) hx hb dX2_nextDigit_237 rfl ?_
          refine lv_ladd hx hb dX2_nextDigit_238 ?_
          exact kj_9 _ (by unfold fX2_nextDigit_j239; rw [if_pos c_207_5])
        · refine lv_ldc2 (v := 4) hx hb hown (hts (.constantLong RX2 81 (4)) (by decide +kernel)) dX2_nextDigit_210 ?_
          refine lv_lload hx hb dX2_nextDigit_213 (lv_at hl 1 rfl) ?_
          refine lv_lmul hx hb dX2_nextDigit_215 ?_
          refine lv_iload hx hb dX2_nextDigit_216 (lv_at hl 3 rfl) ?_
          refine lv_i2l (v := (fX2_nextDigit_c88 S p0).toInt64) hx hb dX2_nextDigit_218 rfl ?_
          refine lv_ladd hx hb dX2_nextDigit_219 ?_
          refine lv_lconst (v := 1) hx hb dX2_nextDigit_220 (by decide) ?_
          refine lv_lsub hx hb dX2_nextDigit_221 ?_
          refine lv_goto (tgt := 239) hx hb dX2_nextDigit_222 (by decide) ?_
          exact kj_9 _ (by unfold fX2_nextDigit_j239; rw [if_neg c_207_5])
    · refine lv_if_lt (tgt := 185) hx hb dX2_nextDigit_169 (by decide) (fun c_169_4 => ?_) (fun c_169_4 => ?_)
      · refine lv_ldc2 (v := 4) hx hb hown (hts (.constantLong RX2 81 (4)) (by decide +kernel)) dX2_nextDigit_185 ?_
        refine lv_lload hx hb dX2_nextDigit_188 (lv_at hl 0 rfl) ?_
        refine lv_lmul hx hb dX2_nextDigit_190 ?_
        refine lv_ldc2 (v := 4) hx hb hown (hts (.constantLong RX2 81 (4)) (by decide +kernel)) dX2_nextDigit_191 ?_
        refine lv_ladd hx hb dX2_nextDigit_194 ?_
        refine lv_iload hx hb dX2_nextDigit_195 (lv_at hl 3 rfl) ?_
        refine lv_i2l (v := (fX2_nextDigit_c88 S p0).toInt64) hx hb dX2_nextDigit_197 rfl ?_
        refine lv_ladd hx hb dX2_nextDigit_198 ?_
        exact kj_10 _ (by unfold fX2_nextDigit_j199; rw [if_pos c_169_4])
      · refine lv_ldc2 (v := 4) hx hb hown (hts (.constantLong RX2 81 (4)) (by decide +kernel)) dX2_nextDigit_172 ?_
        refine lv_lload hx hb dX2_nextDigit_175 (lv_at hl 1 rfl) ?_
        refine lv_lmul hx hb dX2_nextDigit_177 ?_
        refine lv_iload hx hb dX2_nextDigit_178 (lv_at hl 3 rfl) ?_
        refine lv_i2l (v := (fX2_nextDigit_c88 S p0).toInt64) hx hb dX2_nextDigit_180 rfl ?_
        refine lv_ladd hx hb dX2_nextDigit_181 ?_
        refine lv_goto (tgt := 199) hx hb dX2_nextDigit_182 (by decide) ?_
        exact kj_10 _ (by unfold fX2_nextDigit_j199; rw [if_neg c_169_4])
  · refine lv_icmp_ge (tgt := 54) hx hb dX2_nextDigit_46 (by decide) (fun c_46_1 => ?_) (fun c_46_1 => ?_)
    · refine lv_iload hx hb dX2_nextDigit_54 (lv_at hl 0 rfl) ?_
      refine lv_bipush (v := 63) hx hb dX2_nextDigit_56 (by decide) ?_
      refine lv_icmp_le (tgt := 66) hx hb dX2_nextDigit_58 (by decide) (fun c_58_2 => ?_) (fun c_58_2 => ?_)
      · refine lv_iload hx hb dX2_nextDigit_66 (lv_at hl 0 rfl) ?_
        exact kj_11 _ (by unfold fX2_nextDigit_j68; rw [if_pos c_46_1, if_pos c_58_2])
      · refine lv_bipush (v := 63) hx hb dX2_nextDigit_61 (by decide) ?_
        refine lv_goto (tgt := 68) hx hb dX2_nextDigit_63 (by decide) ?_
        exact kj_11 _ (by unfold fX2_nextDigit_j68; rw [if_pos c_46_1, if_neg c_58_2])
    · refine lv_bipush (v := (-64)) hx hb dX2_nextDigit_49 (by decide) ?_
      refine lv_goto (tgt := 68) hx hb dX2_nextDigit_51 (by decide) ?_
      exact kj_11 _ (by unfold fX2_nextDigit_j68; rw [if_neg c_46_1])

def st_dbX2  (i : Nat) (w0 : Int64) : Int64 := 2 * w0
def it_dbX2 (p0 : Int64) : Nat → Int64
  | 0 => p0
  | i + 1 => st_dbX2  i (it_dbX2 p0 i)
set_option maxHeartbeats 4000000 in
set_option maxRecDepth 100000 in
theorem kX2_doublings (l : Launch) (dC : Nat → ClassId) (dI : Nat → Nat → Nat) (V : Nat) (p0 : Int64) (hp : p0 = lN V) (hV : V ≤ 2147483648) (hV1 : 1 ≤ V) : Met l yX2_doublings wsX2_doublings ({ frames := 0, cells := 0, slots := 0, locals := 0 } : Room) (va_Pc [.long p0] (fun U => True)) (vp_Si (fun r : Int32 => r = (nI (dbl V)))) 0 0 (fun _ => False) := by
  refine Met.ofW (cc := cX2_doublings) (maxL := 5) (ret := (some .int)) (by decide) rfl ?_
  intro p e s m args below meth c s₁ B hml hv
  obtain ⟨rfl, _⟩ := hv
  have hx := B.exec
  have hb := B.bytes
  have hr := B.returns
  have hts := atoms_spec (ws := wsX2_doublings) B.pre
  have hown : s.vm.findClass RX2 = some m.cls := findClass_of_methodNamed B.named
  have hlocks := B.notSynchronized
  have hS : va_S (fun _ => False) s.heap s.heap [] := va_S.rf
  have hl := lv_entry ([.long p0]) (n := 5) (Nat.le_of_ble_eq_true rfl)
  rw [lg_entry_eq]
  generalize (lg_sl ([.long p0]) ++ List.replicate (5 - (lg_sl ([.long p0])).length) Slot.unset).toArray = ls at hl ⊢
  have hl : lv_has ls 5 [(0, .long p0)] := hl
  refine lv_iconst (v := 0) hx hb dX2_doublings_0 (by decide) ?_
  refine lv_istore_n (lv' := [(2, .int 0), (0, .long p0)]) hx hb dX2_doublings_1 rfl hl (by decide) rfl (fun ls hl => ?_)
  refine lv_lload_n hx hb dX2_doublings_2 rfl (lv_at hl 1 rfl) ?_
  refine lv_lstore_n (lv' := [(3, .long p0), (2, .int 0), (0, .long p0)]) hx hb dX2_doublings_3 rfl hl (by decide) rfl (fun ls hl => ?_)
  refine ax_loopP (pc := 4) (fun i ls => ∃ w0 : Int64, w0 = (it_dbX2 p0 i) ∧ w0 = lN (V * 2 ^ i) ∧ dblF V (31 - i) i = dbl V ∧ lv_has ls 5 [(3, .long w0), (2, .int (nI i)), (0, .long p0)]) 31 (fun i hii ihi ls hIi => ?_) ⟨p0, rfl, (by rw [hp, Nat.pow_zero, Nat.mul_one]), rfl, lv_sub hl [0, 1, 2] rfl⟩
  obtain ⟨w0, ew0, iw, iv, hl⟩ := hIi
  refine lv_lload_n hx hb dX2_doublings_4 rfl (lv_at hl 0 rfl) ?_
  refine lv_ldc2 (v := 2147483648) hx hb hown (hts (.constantLong RX2 77 (2147483648)) (by decide +kernel)) dX2_doublings_5 ?_
  refine W.lcmp hx hb dX2_doublings_8 ?_
  refine lv_if_ge (tgt := 24) hx hb dX2_doublings_9 (by decide) (fun c_9_1 => ?_) (fun c_9_1 => ?_)
  · have c_9_1 := (lg_cmp_ge _ _).mp c_9_1
    have hex := c_9_1
    refine lv_iload_n hx hb dX2_doublings_24 rfl (lv_at hl 1 rfl) ?_
    exact W.iret (v := nI i) hx hb hr (fun t ht hW => ⟨nI i, rfl, (by rw [← iv, dblF_stop (dbm_stop hV hii iw hex)]), ht⟩) (fun q h => absurd h List.not_mem_nil) dX2_doublings_25
  · have c_9_1 := (not_congr (lg_cmp_ge _ _)).mp c_9_1
    have hlti : i < 31 := dbm_lt hV hV1 hii iw c_9_1
    have hbd : ¬ (2147483648 : Int64) ≤ w0 := by assumption
    refine lv_ldc2 (v := 2) hx hb hown (hts (.constantLong RX2 79 (2)) (by decide +kernel)) dX2_doublings_12 ?_
    refine lv_lload_n hx hb dX2_doublings_15 rfl (lv_at hl 0 rfl) ?_
    refine lv_lmul hx hb dX2_doublings_16 ?_
    refine lv_lstore_n (lv' := [(3, .long (2 * w0)), (2, .int (nI i)), (0, .long p0)]) hx hb dX2_doublings_17 rfl hl (by decide) rfl (fun ls hl => ?_)
    refine lv_iinc (v := nI (i + 1)) (lv' := [(2, .int (nI (i + 1))), (3, .long (2 * w0)), (0, .long p0)]) hx hb dX2_doublings_18 hl (k := 1) rfl (nI_1 _) (by decide) rfl (fun ls hl => ?_)
    refine lv_goto (tgt := 4) hx hb dX2_doublings_21 (by decide) ?_
    have eb : st_dbX2 i w0 = 2 * w0 := rfl
    have ebb : (it_dbX2 p0 (i + 1)) = 2 * w0 := by show st_dbX2  i (it_dbX2 p0 i) = _; rw [← ew0]; exact eb
    exact ihi hlti _ ⟨2 * w0, ebb.symm, (dbm_step iw), ((dbm_go hV hlti iw hbd).trans iv), lv_sub hl [1, 0, 2] rfl⟩

