def fX1_good_j35 (gd : Nat → Int32) (p0 : Int32) (p1 : Int32) (p2 : Int32) : Int32 := (if (fX1_isGood gd (fX1_cellAt p0 p1) p2) = 0 then 0 else 1)
def fX1_good (gd : Nat → Int32) (p0 : Int32) (p1 : Int32) (p2 : Int32) : Int32 := (if (fX1_isCell p0 p1) = 0 then (-1) else (if (fX1_isDigit p2) = 0 then (-1) else (fX1_good_j35 gd p0 p1 p2)))
set_option maxHeartbeats 4000000 in
set_option maxRecDepth 100000 in
theorem kX1_good (l : Launch) (dC : Nat → ClassId) (dI : Nat → Nat → Nat) (o0 : Nat) (oT : Nat) (oG : Nat) (l0 : Nat) (s0 : Nat) (cI : ClassId) (gd : Nat → Int32) (ui : Int32) (p0 : Int32) (p1 : Int32) (p2 : Int32)  : Met l yX1_good wsX1_good ({ frames := 1, cells := 0, slots := 0, locals := 22 } : Room) (va_Pc [.ref o0, .int p0, .int p1, .int p2] (fun U => va_P (dC, dI) vwCl [(o0, .inr (1, [.ref oT, .ref oG, .ref l0, .ref s0, .int ui])), (oG, .inl (cI, 2048, .inl gd))] U.heap ∧ va_K (dC, dI) vwCl [(cI, .int)] U)) (vp_Si (fun r : Int32 => r = (fX1_good gd p0 p1 p2))) 0 0 (fun _ => False) := by
  refine Met.ofW (cc := cX1_good) (maxL := 4) (ret := (some .int)) (by decide) rfl ?_
  intro p e s m args below meth c s₁ B hml hv
  obtain ⟨rfl, hP, hK⟩ := hv
  have hx := B.exec
  have hb := B.bytes
  have hr := B.returns
  have hts := atoms_spec (ws := wsX1_good) B.pre
  have hown : s.vm.findClass RX1 = some m.cls := findClass_of_methodNamed B.named
  have hlocks := B.notSynchronized
  have hS : va_S (fun _ => False) s.heap s.heap [] := va_S.rf
  have hl := lv_entry ([.ref o0, .int p0, .int p1, .int p2]) (n := 4) (Nat.le_of_ble_eq_true rfl)
  rw [lg_entry_eq]
  generalize (lg_sl ([.ref o0, .int p0, .int p1, .int p2]) ++ List.replicate (4 - (lg_sl ([.ref o0, .int p0, .int p1, .int p2])).length) Slot.unset).toArray = ls at hl ⊢
  have hl : lv_has ls 4 [(0, .ref o0), (1, .int p0), (2, .int p1), (3, .int p2)] := hl
  refine lv_iload_n hx hb dX1_good_0 rfl (lv_at hl 1 rfl) ?_
  refine lv_iload_n hx hb dX1_good_1 rfl (lv_at hl 2 rfl) ?_
  refine vp_callSi (W.runS (As := [.int p0, .int p1]) (rest := []) ⟨hx, hb, hml, hown, hts⟩ (kX1_isCell l dC dI p0 p1) (va_cwS 2 hts gX1_good_X1_isCell rfl rfl rfl (by decide +kernel) ⟨Nat.le_of_ble_eq_true rfl, Nat.le_of_ble_eq_true rfl⟩) ⟨fun a U g mk q => by obtain ⟨q0, qt⟩ := q; exact ⟨q0, qt⟩, fun U hU hW => ⟨rfl, trivial⟩⟩ rfl rfl hl.1 rfl (lv_room (Nat.le_of_ble_eq_true rfl)) dX1_good_2 ⟨Nat.zero_le _, Nat.zero_le _⟩) (fun r_1 hr_1 => ?_)
  subst hr_1
  refine lv_if_eq (tgt := 15) hx hb dX1_good_5 (by decide) (fun c_5_2 => ?_) (fun c_5_2 => ?_)
  · refine lv_iconst (v := (-1)) hx hb dX1_good_15 (by decide) ?_
    exact W.iret (v := (-1)) hx hb hr (fun t ht hW => ⟨(-1), rfl, (by unfold fX1_good; rw [if_pos c_5_2]), ht⟩) (fun q h => absurd h List.not_mem_nil) dX1_good_16
  · refine lv_iload_n hx hb dX1_good_8 rfl (lv_at hl 3 rfl) ?_
    refine vp_callSi (W.runS (As := [.int p2]) (rest := []) ⟨hx, hb, hml, hown, hts⟩ (kX1_isDigit l dC dI p2) (va_cwS 1 hts gX1_good_X1_isDigit rfl rfl rfl (by decide +kernel) ⟨Nat.le_of_ble_eq_true rfl, Nat.le_of_ble_eq_true rfl⟩) ⟨fun a U g mk q => by obtain ⟨q0, qt⟩ := q; exact ⟨q0, qt⟩, fun U hU hW => ⟨rfl, trivial⟩⟩ rfl rfl hl.1 rfl (lv_room (Nat.le_of_ble_eq_true rfl)) dX1_good_9 ⟨Nat.zero_le _, Nat.zero_le _⟩) (fun r_3 hr_3 => ?_)
    subst hr_3
    refine lv_if_ne (tgt := 17) hx hb dX1_good_12 (by decide) (fun c_12_4 => ?_) (fun c_12_4 => ?_)
    · refine lv_aload_n hx hb dX1_good_17 rfl (lv_at hl 0 rfl) ?_
      refine lv_iload_n hx hb dX1_good_18 rfl (lv_at hl 1 rfl) ?_
      refine lv_iload_n hx hb dX1_good_19 rfl (lv_at hl 2 rfl) ?_
      refine vp_callSi (W.runS (As := [.int p0, .int p1]) (rest := [.ref o0]) ⟨hx, hb, hml, hown, hts⟩ (kX1_cellAt l dC dI p0 p1) (va_cwS 2 hts gX1_good_X1_cellAt rfl rfl rfl (by decide +kernel) ⟨Nat.le_of_ble_eq_true rfl, Nat.le_of_ble_eq_true rfl⟩) ⟨fun a U g mk q => by obtain ⟨q0, qt⟩ := q; exact ⟨q0, qt⟩, fun U hU hW => ⟨rfl, trivial⟩⟩ rfl rfl hl.1 rfl (lv_room (Nat.le_of_ble_eq_true rfl)) dX1_good_20 ⟨Nat.zero_le _, Nat.zero_le _⟩) (fun r_5 hr_5 => ?_)
      subst hr_5
      refine lv_iload_n hx hb dX1_good_23 rfl (lv_at hl 3 rfl) ?_
      have hPc := hP.sub (ws' := [(o0, .inr (1, [.ref oT, .ref oG, .ref l0, .ref s0, .int ui])), (oG, .inl (cI, 2048, .inl gd))]) [0, 1] rfl
      have hKc := hK.sub (tys' := [(cI, .int)]) [0] rfl
      refine vp_callSi (W.runV (As := [.int (fX1_cellAt p0 p1), .int p2]) (rest := []) ⟨hx, hb, hml, hown, hts⟩ (kX1_isGood l dC dI o0 oT oG l0 s0 cI gd ui (fX1_cellAt p0 p1) p2 (cc_in c_5_2)) (cwV 2 hts gX1_good_X1_isGood rfl rfl rfl (by decide +kernel) ⟨Nat.le_of_ble_eq_true rfl, Nat.le_of_ble_eq_true rfl⟩) ⟨fun a U g mk q => by obtain ⟨q0, qP, qK⟩ := q; exact ⟨q0, qP, va_K.moved (u := U) (U := U.calling g mk a) (Vm.Alike.refl U.vm) qK⟩, va_recv hKc hPc (ci := 1) (q0 := 0) rfl rfl, fun U hU hW => ⟨rfl, by rw [hU]; exact hPc, va_K.moved hW.alike hKc⟩⟩ rfl rfl hl.1 rfl (lv_room (Nat.le_of_ble_eq_true rfl)) dX1_good_24 ⟨Nat.zero_le _, Nat.zero_le _⟩) (fun r_6 hr_6 => ?_)
      subst hr_6
      refine ax_joinI (J := 35) (v := (fX1_good_j35 gd p0 p1 p2)) (ls := ls) (rest := []) ?_ (fun kj_8 => ?_)
      · exact W.iret (v := (fX1_good_j35 gd p0 p1 p2)) hx hb hr (fun t ht hW => ⟨(fX1_good_j35 gd p0 p1 p2), rfl, (by unfold fX1_good; rw [if_neg c_5_2, if_neg c_12_4]), ht⟩) (fun q h => absurd h List.not_mem_nil) dX1_good_35
      · refine lv_if_eq (tgt := 34) hx hb dX1_good_27 (by decide) (fun c_27_7 => ?_) (fun c_27_7 => ?_)
        · refine lv_iconst (v := 0) hx hb dX1_good_34 (by decide) ?_
          exact kj_8 _ (by unfold fX1_good_j35; rw [if_pos c_27_7])
        · refine lv_iconst (v := 1) hx hb dX1_good_30 (by decide) ?_
          refine lv_goto (tgt := 35) hx hb dX1_good_31 (by decide) ?_
          exact kj_8 _ (by unfold fX1_good_j35; rw [if_neg c_27_7])
    · refine lv_iconst (v := (-1)) hx hb dX1_good_15 (by decide) ?_
      exact W.iret (v := (-1)) hx hb hr (fun t ht hW => ⟨(-1), rfl, (by unfold fX1_good; rw [if_neg c_5_2, if_pos c_12_4]), ht⟩) (fun q h => absurd h List.not_mem_nil) dX1_good_16

def fX1_holds_j23 (p0 : Int32) (p1 : Int32) : Int32 := (if (fX1_holdsAny p0 p1) = 0 then 0 else 1)
def fX1_holds (p0 : Int32) (p1 : Int32) : Int32 := (if (fX1_isCell p0 p1) = 0 then (-1) else (fX1_holds_j23 p0 p1))
set_option maxHeartbeats 4000000 in
set_option maxRecDepth 100000 in
theorem kX1_holds (l : Launch) (dC : Nat → ClassId) (dI : Nat → Nat → Nat) (o0 : Nat) (oT : Nat) (oG : Nat) (l0 : Nat) (s0 : Nat) (ui : Int32) (p0 : Int32) (p1 : Int32)  : Met l yX1_holds wsX1_holds ({ frames := 3, cells := 0, slots := 0, locals := 56 } : Room) (va_Pc [.ref o0, .int p0, .int p1] (fun U => va_P (dC, dI) vwCl [(o0, .inr (1, [.ref oT, .ref oG, .ref l0, .ref s0, .int ui]))] U.heap ∧ va_K (dC, dI) vwCl [] U)) (vp_Si (fun r : Int32 => r = (fX1_holds p0 p1))) 0 0 (fun _ => False) := by
  refine Met.ofW (cc := cX1_holds) (maxL := 3) (ret := (some .int)) (by decide) rfl ?_
  intro p e s m args below meth c s₁ B hml hv
  obtain ⟨rfl, hP, hK⟩ := hv
  have hx := B.exec
  have hb := B.bytes
  have hr := B.returns
  have hts := atoms_spec (ws := wsX1_holds) B.pre
  have hown : s.vm.findClass RX1 = some m.cls := findClass_of_methodNamed B.named
  have hlocks := B.notSynchronized
  have hS : va_S (fun _ => False) s.heap s.heap [] := va_S.rf
  have hl := lv_entry ([.ref o0, .int p0, .int p1]) (n := 3) (Nat.le_of_ble_eq_true rfl)
  rw [lg_entry_eq]
  generalize (lg_sl ([.ref o0, .int p0, .int p1]) ++ List.replicate (3 - (lg_sl ([.ref o0, .int p0, .int p1])).length) Slot.unset).toArray = ls at hl ⊢
  have hl : lv_has ls 3 [(0, .ref o0), (1, .int p0), (2, .int p1)] := hl
  refine lv_iload_n hx hb dX1_holds_0 rfl (lv_at hl 1 rfl) ?_
  refine lv_iload_n hx hb dX1_holds_1 rfl (lv_at hl 2 rfl) ?_
  refine vp_callSi (W.runS (As := [.int p0, .int p1]) (rest := []) ⟨hx, hb, hml, hown, hts⟩ (kX1_isCell l dC dI p0 p1) (va_cwS 2 hts gX1_holds_X1_isCell rfl rfl rfl (by decide +kernel) ⟨Nat.le_of_ble_eq_true rfl, Nat.le_of_ble_eq_true rfl⟩) ⟨fun a U g mk q => by obtain ⟨q0, qt⟩ := q; exact ⟨q0, qt⟩, fun U hU hW => ⟨rfl, trivial⟩⟩ rfl rfl hl.1 rfl (lv_room (Nat.le_of_ble_eq_true rfl)) dX1_holds_2 ⟨Nat.zero_le _, Nat.zero_le _⟩) (fun r_1 hr_1 => ?_)
  subst hr_1
  refine lv_if_ne (tgt := 10) hx hb dX1_holds_5 (by decide) (fun c_5_2 => ?_) (fun c_5_2 => ?_)
  · refine lv_iload_n hx hb dX1_holds_10 rfl (lv_at hl 1 rfl) ?_
    refine lv_iload_n hx hb dX1_holds_11 rfl (lv_at hl 2 rfl) ?_
    refine vp_callSi (W.runS (As := [.int p0, .int p1]) (rest := []) ⟨hx, hb, hml, hown, hts⟩ (kX1_holdsAny l dC dI p0 p1) (va_cwS 2 hts gX1_holds_X1_holdsAny rfl rfl rfl (by decide +kernel) ⟨Nat.le_of_ble_eq_true rfl, Nat.le_of_ble_eq_true rfl⟩) ⟨fun a U g mk q => by obtain ⟨q0, qt⟩ := q; exact ⟨q0, qt⟩, fun U hU hW => ⟨rfl, trivial⟩⟩ rfl rfl hl.1 rfl (lv_room (Nat.le_of_ble_eq_true rfl)) dX1_holds_12 ⟨Nat.zero_le _, Nat.zero_le _⟩) (fun r_3 hr_3 => ?_)
    subst hr_3
    refine ax_joinI (J := 23) (v := (fX1_holds_j23 p0 p1)) (ls := ls) (rest := []) ?_ (fun kj_5 => ?_)
    · exact W.iret (v := (fX1_holds_j23 p0 p1)) hx hb hr (fun t ht hW => ⟨(fX1_holds_j23 p0 p1), rfl, (by unfold fX1_holds; rw [if_neg c_5_2]), ht⟩) (fun q h => absurd h List.not_mem_nil) dX1_holds_23
    · refine lv_if_eq (tgt := 22) hx hb dX1_holds_15 (by decide) (fun c_15_4 => ?_) (fun c_15_4 => ?_)
      · refine lv_iconst (v := 0) hx hb dX1_holds_22 (by decide) ?_
        exact kj_5 _ (by unfold fX1_holds_j23; rw [if_pos c_15_4])
      · refine lv_iconst (v := 1) hx hb dX1_holds_18 (by decide) ?_
        refine lv_goto (tgt := 23) hx hb dX1_holds_19 (by decide) ?_
        exact kj_5 _ (by unfold fX1_holds_j23; rw [if_neg c_15_4])
  · refine lv_iconst (v := (-1)) hx hb dX1_holds_8 (by decide) ?_
    exact W.iret (v := (-1)) hx hb hr (fun t ht hW => ⟨(-1), rfl, (by unfold fX1_holds; rw [if_pos c_5_2]), ht⟩) (fun q h => absurd h List.not_mem_nil) dX1_holds_9

def st_ckX1 (M : Nat → Nat → Int32) (gd : Nat → Int32) (p0 : Int32) (i : Nat) (w0 : Int32) : Int32 := (if (fX1_isGood gd (nI i) ((M p0.toNatClampNeg) (nI i).toNatClampNeg)) = 0 then w0 + 1 else w0)
def it_ckX1 (M : Nat → Nat → Int32) (gd : Nat → Int32) (p0 : Int32) : Nat → Int32
  | 0 => (0 : Int32)
  | i + 1 => st_ckX1 M gd p0 i (it_ckX1 M gd p0 i)
def fX1_check (M : Nat → Nat → Int32) (gd : Nat → Int32) (p0 : Int32) : Int32 := (if (fX1_isTable p0) = 0 then (-1) else (it_ckX1 M gd p0 2048))
theorem inX1_X1_check : ∀ w ∈ wsX10, w ∈ wsX1_check := by decide +kernel
set_option maxHeartbeats 4000000 in
set_option maxRecDepth 100000 in
theorem kX1_check (l : Launch) (dC : Nat → ClassId) (dI : Nat → Nat → Nat) (o0 : Nat) (oT : Nat) (oG : Nat) (l0 : Nat) (s0 : Nat) (r : Nat → Nat) (cI : ClassId) (cT : ClassId) (M : Nat → Nat → Int32) (gd : Nat → Int32) (ui : Int32) (p0 : Int32)  : Met l yX1_check wsX1_check ({ frames := 1, cells := 0, slots := 0, locals := 22 } : Room) (va_Pc [.ref o0, .int p0] (fun U => va_P (dC, dI) vwCl [(o0, .inr (1, [.ref oT, .ref oG, .ref l0, .ref s0, .int ui])), (oT, .inl (cT, 4, .inr (.inr (.inr (.inr (ax_rows r)))))), (r 0, .inl (cI, 2048, .inl (M 0))), (r 1, .inl (cI, 2048, .inl (M 1))), (r 2, .inl (cI, 2048, .inl (M 2))), (r 3, .inl (cI, 2048, .inl (M 3))), (oG, .inl (cI, 2048, .inl gd))] U.heap ∧ va_K (dC, dI) vwCl [(cI, .int), (cT, .array .int)] U)) (vp_Si (fun r : Int32 => r = (fX1_check M gd p0))) 0 0 (fun _ => False) := by
  refine Met.ofW (cc := cX1_check) (maxL := 4) (ret := (some .int)) (by decide) rfl ?_
  intro p e s m args below meth c s₁ B hml hv
  obtain ⟨rfl, hP, hK⟩ := hv
  have hx := B.exec
  have hb := B.bytes
  have hr := B.returns
  have hts := atoms_spec (ws := wsX1_check) B.pre
  have hown : s.vm.findClass RX1 = some m.cls := findClass_of_methodNamed B.named
  have hlocks := B.notSynchronized
  have hS : va_S (fun _ => False) s.heap s.heap [] := va_S.rf
  have hl := lv_entry ([.ref o0, .int p0]) (n := 4) (Nat.le_of_ble_eq_true rfl)
  rw [lg_entry_eq]
  generalize (lg_sl ([.ref o0, .int p0]) ++ List.replicate (4 - (lg_sl ([.ref o0, .int p0])).length) Slot.unset).toArray = ls at hl ⊢
  have hl : lv_has ls 4 [(0, .ref o0), (1, .int p0)] := hl
  refine lv_iload_n hx hb dX1_check_0 rfl (lv_at hl 1 rfl) ?_
  refine vp_callSi (W.runS (As := [.int p0]) (rest := []) ⟨hx, hb, hml, hown, hts⟩ (kX1_isTable l dC dI p0) (va_cwS 1 hts gX1_check_X1_isTable rfl rfl rfl (by decide +kernel) ⟨Nat.le_of_ble_eq_true rfl, Nat.le_of_ble_eq_true rfl⟩) ⟨fun a U g mk q => by obtain ⟨q0, qt⟩ := q; exact ⟨q0, qt⟩, fun U hU hW => ⟨rfl, trivial⟩⟩ rfl rfl hl.1 rfl (lv_room (Nat.le_of_ble_eq_true rfl)) dX1_check_1 ⟨Nat.zero_le _, Nat.zero_le _⟩) (fun r_1 hr_1 => ?_)
  subst hr_1
  refine lv_if_ne (tgt := 9) hx hb dX1_check_4 (by decide) (fun c_4_2 => ?_) (fun c_4_2 => ?_)
  · refine lv_iconst (v := 0) hx hb dX1_check_9 (by decide) ?_
    refine lv_istore_n (lv' := [(2, .int 0), (0, .ref o0), (1, .int p0)]) hx hb dX1_check_10 rfl hl (by decide) rfl (fun ls hl => ?_)
    refine lv_iconst (v := 0) hx hb dX1_check_11 (by decide) ?_
    refine lv_istore_n (lv' := [(3, .int 0), (2, .int 0), (0, .ref o0), (1, .int p0)]) hx hb dX1_check_12 rfl hl (by decide) rfl (fun ls hl => ?_)
    refine ax_loopP (pc := 13) (fun i ls => ∃ w0 : Int32, w0 = (it_ckX1 M gd p0 i) ∧ lv_has ls 4 [(3, .int (nI i)), (2, .int w0), (0, .ref o0), (1, .int p0)]) 2048 (fun i hii ihi ls hIi => ?_) ⟨(0 : Int32), rfl, lv_sub hl [0, 1, 2, 3] rfl⟩
    obtain ⟨w0, ew0, hl⟩ := hIi
    refine lv_iload_n hx hb dX1_check_13 rfl (lv_at hl 0 rfl) ?_
    refine lv_sipush (v := 2048) hx hb dX1_check_14 (by decide) ?_
    refine lv_icmp_ge (tgt := 45) hx hb dX1_check_17 (by decide) (fun c_17_3 => ?_) (fun c_17_3 => ?_)
    · obtain rfl : i = 2048 := ax_end (N := 2048) rfl (by decide) hii c_17_3
      subst ew0
      refine lv_iload_n hx hb dX1_check_45 rfl (lv_at hl 1 rfl) ?_
      exact W.iret (v := (it_ckX1 M gd p0 2048)) hx hb hr (fun t ht hW => ⟨(it_ckX1 M gd p0 2048), rfl, (by unfold fX1_check; rw [if_neg c_4_2]), ht⟩) (fun q h => absurd h List.not_mem_nil) dX1_check_46
    · have hlti : i < 2048 := ax_more (N := 2048) rfl (by decide) hii c_17_3
      refine lv_aload_n hx hb dX1_check_20 rfl (lv_at hl 2 rfl) ?_
      refine lv_iload_n hx hb dX1_check_21 rfl (lv_at hl 0 rfl) ?_
      refine lv_aload_n hx hb dX1_check_22 rfl (lv_at hl 2 rfl) ?_
      refine va_get (D := (dC, dI)) (ci := 1) (v := .ref oT) (C := RX1) (T := TX1) (N := 5) hx hb hts inX1_X1_check hown hK hP 0 rfl rfl 0 (by decide) (hts (.fieldLink RX1 11 "DigitDivider" "tables" "[[I") (by decide +kernel)) (fun _ h9 => h9) rfl dX1_check_23 ?_
      refine lv_iload_n hx hb dX1_check_26 rfl (lv_at hl 3 rfl) ?_
      have h4_4 : p0.toNatClampNeg < 4 := ax_lt4 (ct_vp c_4_2)
      refine ax_aald (r := r) hx hb hK hP 1 1 rfl rfl (ct_vp c_4_2) dX1_check_27 ?_
      refine lv_iload_n hx hb dX1_check_28 rfl (lv_at hl 0 rfl) ?_
      refine va_iald hx hb hK hP (2 + p0.toNatClampNeg) 0 (ax_get (r := r) (M := M) h4_4) rfl (vp_in_nI hlti (by decide)) dX1_check_29 ?_
      have hPc := hP.sub (ws' := [(o0, .inr (1, [.ref oT, .ref oG, .ref l0, .ref s0, .int ui])), (oG, .inl (cI, 2048, .inl gd))]) [0, 6] rfl
      have hKc := hK.sub (tys' := [(cI, .int)]) [0] rfl
      refine vp_callSi (W.runV (As := [.int (nI i), .int ((M p0.toNatClampNeg) (nI i).toNatClampNeg)]) (rest := []) ⟨hx, hb, hml, hown, hts⟩ (kX1_isGood l dC dI o0 oT oG l0 s0 cI gd ui (nI i) ((M p0.toNatClampNeg) (nI i).toNatClampNeg) (vp_in_nI hlti (by decide))) (cwV 2 hts gX1_check_X1_isGood rfl rfl rfl (by decide +kernel) ⟨Nat.le_of_ble_eq_true rfl, Nat.le_of_ble_eq_true rfl⟩) ⟨fun a U g mk q => by obtain ⟨q0, qP, qK⟩ := q; exact ⟨q0, qP, va_K.moved (u := U) (U := U.calling g mk a) (Vm.Alike.refl U.vm) qK⟩, va_recv hKc hPc (ci := 1) (q0 := 0) rfl rfl, fun U hU hW => ⟨rfl, by rw [hU]; exact hPc, va_K.moved hW.alike hKc⟩⟩ rfl rfl hl.1 rfl (lv_room (Nat.le_of_ble_eq_true rfl)) dX1_check_30 ⟨Nat.zero_le _, Nat.zero_le _⟩) (fun r_5 hr_5 => ?_)
      subst hr_5
      refine lv_if_ne (tgt := 39) hx hb dX1_check_33 (by decide) (fun c_33_6 => ?_) (fun c_33_6 => ?_)
      · refine lv_iinc (v := nI (i + 1)) (lv' := [(3, .int (nI (i + 1))), (2, .int w0), (0, .ref o0), (1, .int p0)]) hx hb dX1_check_39 hl (k := 0) rfl (nI_1 _) (by decide) rfl (fun ls hl => ?_)
        refine lv_goto (tgt := 13) hx hb dX1_check_42 (by decide) ?_
        have eb : st_ckX1 M gd p0 i w0 = w0 := by unfold st_ckX1; rw [if_neg c_33_6]
        have ebb : (it_ckX1 M gd p0 (i + 1)) = w0 := by show st_ckX1 M gd p0 i (it_ckX1 M gd p0 i) = _; rw [← ew0]; exact eb
        exact ihi hlti _ ⟨w0, ebb.symm, lv_sub hl [0, 1, 2, 3] rfl⟩
      · refine lv_iinc (v := w0 + 1) (lv' := [(2, .int (w0 + 1)), (3, .int (nI i)), (0, .ref o0), (1, .int p0)]) hx hb dX1_check_36 hl (k := 1) rfl rfl (by decide) rfl (fun ls hl => ?_)
        refine lv_iinc (v := nI (i + 1)) (lv' := [(3, .int (nI (i + 1))), (2, .int (w0 + 1)), (0, .ref o0), (1, .int p0)]) hx hb dX1_check_39 hl (k := 1) rfl (nI_1 _) (by decide) rfl (fun ls hl => ?_)
        refine lv_goto (tgt := 13) hx hb dX1_check_42 (by decide) ?_
        have eb : st_ckX1 M gd p0 i w0 = w0 + 1 := by unfold st_ckX1; rw [if_pos c_33_6]
        have ebb : (it_ckX1 M gd p0 (i + 1)) = w0 + 1 := by show st_ckX1 M gd p0 i (it_ckX1 M gd p0 i) = _; rw [← ew0]; exact eb
        exact ihi hlti _ ⟨w0 + 1, ebb.symm, lv_sub hl [0, 1, 2, 3] rfl⟩
  · refine lv_iconst (v := (-1)) hx hb dX1_check_7 (by decide) ?_
    exact W.iret (v := (-1)) hx hb hr (fun t ht hW => ⟨(-1), rfl, (by unfold fX1_check; rw [if_pos c_4_2]), ht⟩) (fun q h => absurd h List.not_mem_nil) dX1_check_8

def st_wrX1 (M : Nat → Nat → Int32) (gd : Nat → Int32) (p0 : Int32) (i : Nat) (w0 : Int32) : Int32 := (if (fX1_isGood gd (nI i) ((M p0.toNatClampNeg) (nI i).toNatClampNeg)) = 0 then w0 + 1 else w0)
def it_wrX1 (M : Nat → Nat → Int32) (gd : Nat → Int32) (p0 : Int32) : Nat → Int32
  | 0 => (0 : Int32)
  | i + 1 => st_wrX1 M gd p0 i (it_wrX1 M gd p0 i)
def fX1_wrong (M : Nat → Nat → Int32) (gd : Nat → Int32) (p0 : Int32) (p1 : Int32) : Int32 := (if (fX1_isTable p0) = 0 then (-1) else (if 0 ≤ p1 then (wrF (fun y => decide ((fX1_isGood gd (nI y) ((M p0.toNatClampNeg) (nI y).toNatClampNeg)) = 0 ∧ (it_wrX1 M gd p0 y) = p1)) 2048 0) else (-1)))
theorem inX1_X1_wrong : ∀ w ∈ wsX10, w ∈ wsX1_wrong := by decide +kernel
set_option maxHeartbeats 4000000 in
set_option maxRecDepth 100000 in
theorem kX1_wrong (l : Launch) (dC : Nat → ClassId) (dI : Nat → Nat → Nat) (o0 : Nat) (oT : Nat) (oG : Nat) (l0 : Nat) (s0 : Nat) (r : Nat → Nat) (cI : ClassId) (cT : ClassId) (M : Nat → Nat → Int32) (gd : Nat → Int32) (ui : Int32) (p0 : Int32) (p1 : Int32)  : Met l yX1_wrong wsX1_wrong ({ frames := 1, cells := 0, slots := 0, locals := 22 } : Room) (va_Pc [.ref o0, .int p0, .int p1] (fun U => va_P (dC, dI) vwCl [(o0, .inr (1, [.ref oT, .ref oG, .ref l0, .ref s0, .int ui])), (oT, .inl (cT, 4, .inr (.inr (.inr (.inr (ax_rows r)))))), (r 0, .inl (cI, 2048, .inl (M 0))), (r 1, .inl (cI, 2048, .inl (M 1))), (r 2, .inl (cI, 2048, .inl (M 2))), (r 3, .inl (cI, 2048, .inl (M 3))), (oG, .inl (cI, 2048, .inl gd))] U.heap ∧ va_K (dC, dI) vwCl [(cI, .int), (cT, .array .int)] U)) (vp_Si (fun r : Int32 => r = (fX1_wrong M gd p0 p1))) 0 0 (fun _ => False) := by
  refine Met.ofW (cc := cX1_wrong) (maxL := 5) (ret := (some .int)) (by decide) rfl ?_
  intro p e s m args below meth c s₁ B hml hv
  obtain ⟨rfl, hP, hK⟩ := hv
  have hx := B.exec
  have hb := B.bytes
  have hr := B.returns
  have hts := atoms_spec (ws := wsX1_wrong) B.pre
  have hown : s.vm.findClass RX1 = some m.cls := findClass_of_methodNamed B.named
  have hlocks := B.notSynchronized
  have hS : va_S (fun _ => False) s.heap s.heap [] := va_S.rf
  have hl := lv_entry ([.ref o0, .int p0, .int p1]) (n := 5) (Nat.le_of_ble_eq_true rfl)
  rw [lg_entry_eq]
  generalize (lg_sl ([.ref o0, .int p0, .int p1]) ++ List.replicate (5 - (lg_sl ([.ref o0, .int p0, .int p1])).length) Slot.unset).toArray = ls at hl ⊢
  have hl : lv_has ls 5 [(0, .ref o0), (1, .int p0), (2, .int p1)] := hl
  refine lv_iload_n hx hb dX1_wrong_0 rfl (lv_at hl 1 rfl) ?_
  refine vp_callSi (W.runS (As := [.int p0]) (rest := []) ⟨hx, hb, hml, hown, hts⟩ (kX1_isTable l dC dI p0) (va_cwS 1 hts gX1_wrong_X1_isTable rfl rfl rfl (by decide +kernel) ⟨Nat.le_of_ble_eq_true rfl, Nat.le_of_ble_eq_true rfl⟩) ⟨fun a U g mk q => by obtain ⟨q0, qt⟩ := q; exact ⟨q0, qt⟩, fun U hU hW => ⟨rfl, trivial⟩⟩ rfl rfl hl.1 rfl (lv_room (Nat.le_of_ble_eq_true rfl)) dX1_wrong_1 ⟨Nat.zero_le _, Nat.zero_le _⟩) (fun r_1 hr_1 => ?_)
  subst hr_1
  refine lv_if_eq (tgt := 11) hx hb dX1_wrong_4 (by decide) (fun c_4_2 => ?_) (fun c_4_2 => ?_)
  · refine lv_iconst (v := (-1)) hx hb dX1_wrong_11 (by decide) ?_
    exact W.iret (v := (-1)) hx hb hr (fun t ht hW => ⟨(-1), rfl, (by unfold fX1_wrong; rw [if_pos c_4_2]), ht⟩) (fun q h => absurd h List.not_mem_nil) dX1_wrong_12
  · refine lv_iload_n hx hb dX1_wrong_7 rfl (lv_at hl 2 rfl) ?_
    refine lv_if_ge (tgt := 13) hx hb dX1_wrong_8 (by decide) (fun c_8_3 => ?_) (fun c_8_3 => ?_)
    · refine lv_iconst (v := 0) hx hb dX1_wrong_13 (by decide) ?_
      refine lv_istore_n (lv' := [(3, .int 0), (0, .ref o0), (1, .int p0), (2, .int p1)]) hx hb dX1_wrong_14 rfl hl (by decide) rfl (fun ls hl => ?_)
      refine lv_iconst (v := 0) hx hb dX1_wrong_15 (by decide) ?_
      refine lv_istore (lv' := [(4, .int 0), (3, .int 0), (0, .ref o0), (1, .int p0), (2, .int p1)]) hx hb dX1_wrong_16 hl (by decide) rfl (fun ls hl => ?_)
      refine ax_loopP (pc := 18) (fun i ls => ∃ w0 : Int32, w0 = (it_wrX1 M gd p0 i) ∧ wrF (fun y => decide ((fX1_isGood gd (nI y) ((M p0.toNatClampNeg) (nI y).toNatClampNeg)) = 0 ∧ (it_wrX1 M gd p0 y) = p1)) (2048 - i) i = wrF (fun y => decide ((fX1_isGood gd (nI y) ((M p0.toNatClampNeg) (nI y).toNatClampNeg)) = 0 ∧ (it_wrX1 M gd p0 y) = p1)) 2048 0 ∧ lv_has ls 5 [(4, .int (nI i)), (3, .int w0), (0, .ref o0), (1, .int p0), (2, .int p1)]) 2048 (fun i hii ihi ls hIi => ?_) ⟨(0 : Int32), rfl, rfl, lv_sub hl [0, 1, 2, 3, 4] rfl⟩
      obtain ⟨w0, ew0, iv, hl⟩ := hIi
      refine lv_iload hx hb dX1_wrong_18 (lv_at hl 0 rfl) ?_
      refine lv_sipush (v := 2048) hx hb dX1_wrong_20 (by decide) ?_
      refine lv_icmp_ge (tgt := 61) hx hb dX1_wrong_23 (by decide) (fun c_23_4 => ?_) (fun c_23_4 => ?_)
      · obtain rfl : i = 2048 := ax_end (N := 2048) rfl (by decide) hii c_23_4
        subst ew0
        refine lv_bipush (v := (-2)) hx hb dX1_wrong_61 (by decide) ?_
        exact W.iret (v := (-2)) hx hb hr (fun t ht hW => ⟨(-2), rfl, (by unfold fX1_wrong; rw [if_neg c_4_2, if_pos c_8_3, ← iv]; rfl), ht⟩) (fun q h => absurd h List.not_mem_nil) dX1_wrong_63
      · have hlti : i < 2048 := ax_more (N := 2048) rfl (by decide) hii c_23_4
        refine lv_aload_n hx hb dX1_wrong_26 rfl (lv_at hl 2 rfl) ?_
        refine lv_iload hx hb dX1_wrong_27 (lv_at hl 0 rfl) ?_
        refine lv_aload_n hx hb dX1_wrong_29 rfl (lv_at hl 2 rfl) ?_
        refine va_get (D := (dC, dI)) (ci := 1) (v := .ref oT) (C := RX1) (T := TX1) (N := 5) hx hb hts inX1_X1_wrong hown hK hP 0 rfl rfl 0 (by decide) (hts (.fieldLink RX1 11 "DigitDivider" "tables" "[[I") (by decide +kernel)) (fun _ h9 => h9) rfl dX1_wrong_30 ?_
        refine lv_iload_n hx hb dX1_wrong_33 rfl (lv_at hl 3 rfl) ?_
        have h4_5 : p0.toNatClampNeg < 4 := ax_lt4 (ct_vp c_4_2)
        refine ax_aald (r := r) hx hb hK hP 1 1 rfl rfl (ct_vp c_4_2) dX1_wrong_34 ?_
        refine lv_iload hx hb dX1_wrong_35 (lv_at hl 0 rfl) ?_
        refine va_iald hx hb hK hP (2 + p0.toNatClampNeg) 0 (ax_get (r := r) (M := M) h4_5) rfl (vp_in_nI hlti (by decide)) dX1_wrong_37 ?_
        have hPc := hP.sub (ws' := [(o0, .inr (1, [.ref oT, .ref oG, .ref l0, .ref s0, .int ui])), (oG, .inl (cI, 2048, .inl gd))]) [0, 6] rfl
        have hKc := hK.sub (tys' := [(cI, .int)]) [0] rfl
        refine vp_callSi (W.runV (As := [.int (nI i), .int ((M p0.toNatClampNeg) (nI i).toNatClampNeg)]) (rest := []) ⟨hx, hb, hml, hown, hts⟩ (kX1_isGood l dC dI o0 oT oG l0 s0 cI gd ui (nI i) ((M p0.toNatClampNeg) (nI i).toNatClampNeg) (vp_in_nI hlti (by decide))) (cwV 2 hts gX1_wrong_X1_isGood rfl rfl rfl (by decide +kernel) ⟨Nat.le_of_ble_eq_true rfl, Nat.le_of_ble_eq_true rfl⟩) ⟨fun a U g mk q => by obtain ⟨q0, qP, qK⟩ := q; exact ⟨q0, qP, va_K.moved (u := U) (U := U.calling g mk a) (Vm.Alike.refl U.vm) qK⟩, va_recv hKc hPc (ci := 1) (q0 := 0) rfl rfl, fun U hU hW => ⟨rfl, by rw [hU]; exact hPc, va_K.moved hW.alike hKc⟩⟩ rfl rfl hl.1 rfl (lv_room (Nat.le_of_ble_eq_true rfl)) dX1_wrong_38 ⟨Nat.zero_le _, Nat.zero_le _⟩) (fun r_6 hr_6 => ?_)
        subst hr_6
        refine lv_if_ne (tgt := 55) hx hb dX1_wrong_41 (by decide) (fun c_41_7 => ?_) (fun c_41_7 => ?_)
        · refine lv_iinc (v := nI (i + 1)) (lv' := [(4, .int (nI (i + 1))), (3, .int w0), (0, .ref o0), (1, .int p0), (2, .int p1)]) hx hb dX1_wrong_55 hl (k := 0) rfl (nI_1 _) (by decide) rfl (fun ls hl => ?_)
          refine lv_goto (tgt := 18) hx hb dX1_wrong_58 (by decide) ?_
          have eb : st_wrX1 M gd p0 i w0 = w0 := by unfold st_wrX1; rw [if_neg c_41_7]
          have ebb : (it_wrX1 M gd p0 (i + 1)) = w0 := by show st_wrX1 M gd p0 i (it_wrX1 M gd p0 i) = _; rw [← ew0]; exact eb
          exact ihi hlti _ ⟨w0, ebb.symm, ((wrF_go hlti (fun q => c_41_7 q.1)).trans iv), lv_sub hl [0, 1, 2, 3, 4] rfl⟩
        · refine lv_iload_n hx hb dX1_wrong_44 rfl (lv_at hl 1 rfl) ?_
          refine lv_iload_n hx hb dX1_wrong_45 rfl (lv_at hl 4 rfl) ?_
          refine lv_icmp_ne (tgt := 52) hx hb dX1_wrong_46 (by decide) (fun c_46_8 => ?_) (fun c_46_8 => ?_)
          · refine lv_iinc (v := w0 + 1) (lv' := [(3, .int (w0 + 1)), (4, .int (nI i)), (0, .ref o0), (1, .int p0), (2, .int p1)]) hx hb dX1_wrong_52 hl (k := 1) rfl rfl (by decide) rfl (fun ls hl => ?_)
            refine lv_iinc (v := nI (i + 1)) (lv' := [(4, .int (nI (i + 1))), (3, .int (w0 + 1)), (0, .ref o0), (1, .int p0), (2, .int p1)]) hx hb dX1_wrong_55 hl (k := 1) rfl (nI_1 _) (by decide) rfl (fun ls hl => ?_)
            refine lv_goto (tgt := 18) hx hb dX1_wrong_58 (by decide) ?_
            have eb : st_wrX1 M gd p0 i w0 = w0 + 1 := by unfold st_wrX1; rw [if_pos c_41_7]
            have ebb : (it_wrX1 M gd p0 (i + 1)) = w0 + 1 := by show st_wrX1 M gd p0 i (it_wrX1 M gd p0 i) = _; rw [← ew0]; exact eb
            exact ihi hlti _ ⟨w0 + 1, ebb.symm, ((wrF_go hlti (fun q => c_46_8 (ew0.trans q.2))).trans iv), lv_sub hl [0, 1, 2, 3, 4] rfl⟩
          · refine lv_iload hx hb dX1_wrong_49 (lv_at hl 0 rfl) ?_
            exact W.iret (v := nI i) hx hb hr (fun t ht hW => ⟨nI i, rfl, (by unfold fX1_wrong; rw [if_neg c_4_2, if_pos c_8_3, ← iv, wrF_hit hlti ⟨c_41_7, ew0.symm.trans c_46_8⟩]), ht⟩) (fun q h => absurd h List.not_mem_nil) dX1_wrong_51
    · refine lv_iconst (v := (-1)) hx hb dX1_wrong_11 (by decide) ?_
      exact W.iret (v := (-1)) hx hb hr (fun t ht hW => ⟨(-1), rfl, (by unfold fX1_wrong; rw [if_neg c_4_2, if_neg c_8_3]), ht⟩) (fun q h => absurd h List.not_mem_nil) dX1_wrong_12

def gX1_use (ui : Int32) (p0 : Int32) : Int32 × Int32 := (if (fX1_isTable p0) = 0 then ((-1), ui) else (ui, p0))
theorem inX1_X1_use : ∀ w ∈ wsX10, w ∈ wsX1_use := by decide +kernel
set_option maxHeartbeats 4000000 in
set_option maxRecDepth 100000 in
theorem kX1_use (l : Launch) (dC : Nat → ClassId) (dI : Nat → Nat → Nat) (o0 : Nat) (oT : Nat) (oG : Nat) (l0 : Nat) (s0 : Nat) (sz : Nat) (ui : Int32) (p0 : Int32)  : Met l yX1_use wsX1_use ({ frames := 1, cells := 0, slots := 0, locals := 20 } : Room) (va_Pc [.ref o0, .int p0] (fun U => U.heap.size = sz ∧ va_P (dC, dI) vwCl [(o0, .inr (1, [.ref oT, .ref oG, .ref l0, .ref s0, .int ui]))] U.heap ∧ va_K (dC, dI) vwCl [] U ∧ va_D (fun _ => True) [(o0, .inr (1, [.ref oT, .ref oG, .ref l0, .ref s0, .int ui]))])) (va_Qi (fun (r : Int32) (u : Int32) => r = (gX1_use ui p0).1 ∧ u = (gX1_use ui p0).2) (fun (u : Int32) (t : State) => va_P (dC, dI) vwCl [(o0, .inr (1, [.ref oT, .ref oG, .ref l0, .ref s0, .int u]))] t.heap ∧ va_K (dC, dI) vwCl [] t ∧ va_D (va_A [(o0, .inr (1, [.ref oT, .ref oG, .ref l0, .ref s0, .int ui]))] sz) [(o0, .inr (1, [.ref oT, .ref oG, .ref l0, .ref s0, .int u]))]) (va_A [(o0, .inr (1, [.ref oT, .ref oG, .ref l0, .ref s0, .int ui]))] sz)) 0 0 (va_A [(o0, .inr (1, [.ref oT, .ref oG, .ref l0, .ref s0, .int ui]))] sz) := by
  refine Met.ofW (cc := cX1_use) (maxL := 3) (ret := (some .int)) (by decide) rfl ?_
  intro p e s m args below meth c s₁ B hml hv
  obtain ⟨rfl, hsz, hP, hK, hD0⟩ := hv
  have hx := B.exec
  have hb := B.bytes
  have hr := B.returns
  have hts := atoms_spec (ws := wsX1_use) B.pre
  have hown : s.vm.findClass RX1 = some m.cls := findClass_of_methodNamed B.named
  have hlocks := B.notSynchronized
  subst hsz
  have hD := hD0.self (sz := s.heap.size)
  generalize hAe : va_A [(o0, .inr (1, [.ref oT, .ref oG, .ref l0, .ref s0, .int ui]))] s.heap.size = A at hD  ⊢
  have hA : ∀ q : Nat, s.heap.size ≤ q → A q := fun q h => by rw [← hAe]; exact Or.inr h
  have hS : va_S A s.heap s.heap [] := va_S.rf
  have hP : va_P (dC, dI) vwCl [(o0, .inr (1, [.ref oT, .ref oG, .ref l0, .ref s0, .int ui]))] s.heap := hP
  have hl := lv_entry ([.ref o0, .int p0]) (n := 3) (Nat.le_of_ble_eq_true rfl)
  rw [lg_entry_eq]
  generalize (lg_sl ([.ref o0, .int p0]) ++ List.replicate (3 - (lg_sl ([.ref o0, .int p0])).length) Slot.unset).toArray = ls at hl ⊢
  have hl : lv_has ls 3 [(0, .ref o0), (1, .int p0)] := hl
  refine lv_iload_n hx hb dX1_use_0 rfl (lv_at hl 1 rfl) ?_
  refine vp_callSi (W.runS (As := [.int p0]) (rest := []) ⟨hx, hb, hml, hown, hts⟩ (kX1_isTable l dC dI p0) (va_cwS 1 hts gX1_use_X1_isTable rfl rfl rfl (by decide +kernel) ⟨Nat.le_of_ble_eq_true rfl, Nat.le_of_ble_eq_true rfl⟩) ⟨fun a U g mk q => by obtain ⟨q0, qt⟩ := q; exact ⟨q0, qt⟩, fun U hU hW => ⟨rfl, trivial⟩⟩ rfl rfl hl.1 rfl (lv_room (Nat.le_of_ble_eq_true rfl)) dX1_use_1 ⟨Nat.zero_le _, Nat.zero_le _⟩) (fun r_1 hr_1 => ?_)
  subst hr_1
  refine lv_if_ne (tgt := 9) hx hb dX1_use_4 (by decide) (fun c_4_2 => ?_) (fun c_4_2 => ?_)
  · refine lv_aload_n hx hb dX1_use_9 rfl (lv_at hl 0 rfl) ?_
    refine va_get (D := (dC, dI)) (ci := 1) (v := .int ui) (C := RX1) (T := TX1) (N := 5) hx hb hts inX1_X1_use hown hK hP 0 rfl rfl 4 (by decide) (hts (.fieldLink RX1 28 "DigitDivider" "inUse" "I") (by decide +kernel)) (fun _ h9 => h9) rfl dX1_use_10 ?_
    refine lv_istore_n (lv' := [(2, .int ui), (0, .ref o0), (1, .int p0)]) hx hb dX1_use_13 rfl hl (by decide) rfl (fun ls hl => ?_)
    refine lv_aload_n hx hb dX1_use_14 rfl (lv_at hl 1 rfl) ?_
    refine lv_iload_n hx hb dX1_use_15 rfl (lv_at hl 2 rfl) ?_
    refine va_put (D := (dC, dI)) (ci := 1) (v := .int p0) (ty := .int) (C := RX1) (T := TX1) (N := 5) hx hb hts inX1_X1_use tyX1 tyX1_ok nmX1 hown hK hP hD hS 0 rfl rfl 4 (by decide) (hts (.fieldLink RX1 28 "DigitDivider" "inUse" "I") (by decide +kernel)) (fun _ h9 => h9) rfl (by decide +kernel) rfl rfl (Nat.le_of_ble_eq_true rfl) dX1_use_16 (fun H locs hP hD hS => ?_)
    have hP : va_P (dC, dI) vwCl [(o0, .inr (1, [.ref oT, .ref oG, .ref l0, .ref s0, .int p0]))] H := hP
    have hD : va_D A [(o0, .inr (1, [.ref oT, .ref oG, .ref l0, .ref s0, .int p0]))] := hD
    refine lv_iload_n hx hb dX1_use_19 rfl (lv_at hl 0 rfl) ?_
    have hg : (gX1_use ui p0) = (ui, p0) := by unfold gX1_use; rw [if_neg c_4_2]
    exact W.iret (v := ui) hx hb hr (fun t ht hW => ⟨⟨ui, p0, rfl, ⟨(congrArg Prod.fst hg).symm, (congrArg Prod.snd hg).symm⟩, by rw [ht]; exact hP, va_K.moved hW.alike hK, hD⟩, hS.F ht⟩) hS.2.2 dX1_use_20
  · refine lv_iconst (v := (-1)) hx hb dX1_use_7 (by decide) ?_
    have hg : (gX1_use ui p0) = ((-1), ui) := by unfold gX1_use; rw [if_pos c_4_2]
    exact W.iret (v := (-1)) hx hb hr (fun t ht hW => ⟨⟨(-1), ui, rfl, ⟨(congrArg Prod.fst hg).symm, (congrArg Prod.snd hg).symm⟩, by rw [ht]; exact hP, va_K.moved hW.alike hK, hD⟩, hS.F ht⟩) hS.2.2 dX1_use_8

def gX1_divide (M : Nat → Nat → Int32) (SL : DV) (ui : Int32) (p0 : Int32) (p1 : Int32) : Int32 × DV := (if p1 = 0 then ((-1), SL) else ((dv9 (gX0_run SL (M ui.toNatClampNeg) p0 p1)), (gX0_run SL (M ui.toNatClampNeg) p0 p1)))
theorem inX0_X1_divide : ∀ w ∈ wsX00, w ∈ wsX1_divide := by decide +kernel
theorem inX1_X1_divide : ∀ w ∈ wsX10, w ∈ wsX1_divide := by decide +kernel
set_option maxHeartbeats 4000000 in
set_option maxRecDepth 100000 in
theorem kX1_divide (l : Launch) (dC : Nat → ClassId) (dI : Nat → Nat → Nat) (o0 : Nat) (oT : Nat) (oG : Nat) (l0 : Nat) (s0 : Nat) (l1 : Nat) (l2 : Nat) (l3 : Nat) (l4 : Nat) (l5 : Nat) (l6 : Nat) (r : Nat → Nat) (cI : ClassId) (cJ : ClassId) (cT : ClassId) (sz : Nat) (M : Nat → Nat → Int32) (SL : DV) (ui : Int32) (p0 : Int32) (p1 : Int32) (hu : vp_in ui 4) : Met l yX1_divide wsX1_divide ({ frames := 3, cells := 0, slots := 0, locals := 89 } : Room) (va_Pc [.ref o0, .int p0, .int p1] (fun U => U.heap.size = sz ∧ va_P (dC, dI) vwCl [(o0, .inr (1, [.ref oT, .ref oG, .ref l0, .ref s0, .int ui])), (oT, .inl (cT, 4, .inr (.inr (.inr (.inr (ax_rows r)))))), (r 0, .inl (cI, 2048, .inl (M 0))), (r 1, .inl (cI, 2048, .inl (M 1))), (r 2, .inl (cI, 2048, .inl (M 2))), (r 3, .inl (cI, 2048, .inl (M 3))), (l0, .inr (0, [.ref l1, .ref l2, .ref l3, .ref l4, .ref l5, .ref l6, .int (dv6 SL), .int (dv7 SL), .int (dv8 SL), .int (dv9 SL), .int (dv10 SL), .int (dv11 SL), .int (dv12 SL), .int (dv13 SL)])), (l1, .inl (cI, 18, .inl (dv0 SL))), (l2, .inl (cI, 18, .inl (dv1 SL))), (l3, .inl (cJ, 18, .inr (.inl (dv2 SL)))), (l4, .inl (cJ, 18, .inr (.inl (dv3 SL)))), (l5, .inl (cJ, 18, .inr (.inl (dv4 SL)))), (l6, .inl (cJ, 18, .inr (.inl (dv5 SL))))] U.heap ∧ va_K (dC, dI) vwCl [(cI, .int), (cJ, .long), (cT, .array .int)] U ∧ va_D (fun _ => True) [(o0, .inr (1, [.ref oT, .ref oG, .ref l0, .ref s0, .int ui])), (oT, .inl (cT, 4, .inr (.inr (.inr (.inr (ax_rows r)))))), (r 0, .inl (cI, 2048, .inl (M 0))), (r 1, .inl (cI, 2048, .inl (M 1))), (r 2, .inl (cI, 2048, .inl (M 2))), (r 3, .inl (cI, 2048, .inl (M 3))), (l0, .inr (0, [.ref l1, .ref l2, .ref l3, .ref l4, .ref l5, .ref l6, .int (dv6 SL), .int (dv7 SL), .int (dv8 SL), .int (dv9 SL), .int (dv10 SL), .int (dv11 SL), .int (dv12 SL), .int (dv13 SL)])), (l1, .inl (cI, 18, .inl (dv0 SL))), (l2, .inl (cI, 18, .inl (dv1 SL))), (l3, .inl (cJ, 18, .inr (.inl (dv2 SL)))), (l4, .inl (cJ, 18, .inr (.inl (dv3 SL)))), (l5, .inl (cJ, 18, .inr (.inl (dv4 SL)))), (l6, .inl (cJ, 18, .inr (.inl (dv5 SL))))] ∧ nwX U)) (va_Qi (fun (r : Int32) (u : DV) => r = (gX1_divide M SL ui p0 p1).1 ∧ u = (gX1_divide M SL ui p0 p1).2) (fun (u : DV) (t : State) => va_P (dC, dI) vwCl [(o0, .inr (1, [.ref oT, .ref oG, .ref l0, .ref s0, .int ui])), (oT, .inl (cT, 4, .inr (.inr (.inr (.inr (ax_rows r)))))), (r 0, .inl (cI, 2048, .inl (M 0))), (r 1, .inl (cI, 2048, .inl (M 1))), (r 2, .inl (cI, 2048, .inl (M 2))), (r 3, .inl (cI, 2048, .inl (M 3))), (l0, .inr (0, [.ref l1, .ref l2, .ref l3, .ref l4, .ref l5, .ref l6, .int (dv6 u), .int (dv7 u), .int (dv8 u), .int (dv9 u), .int (dv10 u), .int (dv11 u), .int (dv12 u), .int (dv13 u)])), (l1, .inl (cI, 18, .inl (dv0 u))), (l2, .inl (cI, 18, .inl (dv1 u))), (l3, .inl (cJ, 18, .inr (.inl (dv2 u)))), (l4, .inl (cJ, 18, .inr (.inl (dv3 u)))), (l5, .inl (cJ, 18, .inr (.inl (dv4 u)))), (l6, .inl (cJ, 18, .inr (.inl (dv5 u))))] t.heap ∧ va_K (dC, dI) vwCl [(cI, .int), (cJ, .long), (cT, .array .int)] t ∧ va_D (va_A [(o0, .inr (1, [.ref oT, .ref oG, .ref l0, .ref s0, .int ui])), (oT, .inl (cT, 4, .inr (.inr (.inr (.inr (ax_rows r)))))), (r 0, .inl (cI, 2048, .inl (M 0))), (r 1, .inl (cI, 2048, .inl (M 1))), (r 2, .inl (cI, 2048, .inl (M 2))), (r 3, .inl (cI, 2048, .inl (M 3))), (l0, .inr (0, [.ref l1, .ref l2, .ref l3, .ref l4, .ref l5, .ref l6, .int (dv6 SL), .int (dv7 SL), .int (dv8 SL), .int (dv9 SL), .int (dv10 SL), .int (dv11 SL), .int (dv12 SL), .int (dv13 SL)])), (l1, .inl (cI, 18, .inl (dv0 SL))), (l2, .inl (cI, 18, .inl (dv1 SL))), (l3, .inl (cJ, 18, .inr (.inl (dv2 SL)))), (l4, .inl (cJ, 18, .inr (.inl (dv3 SL)))), (l5, .inl (cJ, 18, .inr (.inl (dv4 SL)))), (l6, .inl (cJ, 18, .inr (.inl (dv5 SL))))] sz) [(o0, .inr (1, [.ref oT, .ref oG, .ref l0, .ref s0, .int ui])), (oT, .inl (cT, 4, .inr (.inr (.inr (.inr (ax_rows r)))))), (r 0, .inl (cI, 2048, .inl (M 0))), (r 1, .inl (cI, 2048, .inl (M 1))), (r 2, .inl (cI, 2048, .inl (M 2))), (r 3, .inl (cI, 2048, .inl (M 3))), (l0, .inr (0, [.ref l1, .ref l2, .ref l3, .ref l4, .ref l5, .ref l6, .int (dv6 u), .int (dv7 u), .int (dv8 u), .int (dv9 u), .int (dv10 u), .int (dv11 u), .int (dv12 u), .int (dv13 u)])), (l1, .inl (cI, 18, .inl (dv0 u))), (l2, .inl (cI, 18, .inl (dv1 u))), (l3, .inl (cJ, 18, .inr (.inl (dv2 u)))), (l4, .inl (cJ, 18, .inr (.inl (dv3 u)))), (l5, .inl (cJ, 18, .inr (.inl (dv4 u)))), (l6, .inl (cJ, 18, .inr (.inl (dv5 u))))]) (va_A [(o0, .inr (1, [.ref oT, .ref oG, .ref l0, .ref s0, .int ui])), (oT, .inl (cT, 4, .inr (.inr (.inr (.inr (ax_rows r)))))), (r 0, .inl (cI, 2048, .inl (M 0))), (r 1, .inl (cI, 2048, .inl (M 1))), (r 2, .inl (cI, 2048, .inl (M 2))), (r 3, .inl (cI, 2048, .inl (M 3))), (l0, .inr (0, [.ref l1, .ref l2, .ref l3, .ref l4, .ref l5, .ref l6, .int (dv6 SL), .int (dv7 SL), .int (dv8 SL), .int (dv9 SL), .int (dv10 SL), .int (dv11 SL), .int (dv12 SL), .int (dv13 SL)])), (l1, .inl (cI, 18, .inl (dv0 SL))), (l2, .inl (cI, 18, .inl (dv1 SL))), (l3, .inl (cJ, 18, .inr (.inl (dv2 SL)))), (l4, .inl (cJ, 18, .inr (.inl (dv3 SL)))), (l5, .inl (cJ, 18, .inr (.inl (dv4 SL)))), (l6, .inl (cJ, 18, .inr (.inl (dv5 SL))))] sz)) 0 0 (va_A [(o0, .inr (1, [.ref oT, .ref oG, .ref l0, .ref s0, .int ui])), (oT, .inl (cT, 4, .inr (.inr (.inr (.inr (ax_rows r)))))), (r 0, .inl (cI, 2048, .inl (M 0))), (r 1, .inl (cI, 2048, .inl (M 1))), (r 2, .inl (cI, 2048, .inl (M 2))), (r 3, .inl (cI, 2048, .inl (M 3))), (l0, .inr (0, [.ref l1, .ref l2, .ref l3, .ref l4, .ref l5, .ref l6, .int (dv6 SL), .int (dv7 SL), .int (dv8 SL), .int (dv9 SL), .int (dv10 SL), .int (dv11 SL), .int (dv12 SL), .int (dv13 SL)])), (l1, .inl (cI, 18, .inl (dv0 SL))), (l2, .inl (cI, 18, .inl (dv1 SL))), (l3, .inl (cJ, 18, .inr (.inl (dv2 SL)))), (l4, .inl (cJ, 18, .inr (.inl (dv3 SL)))), (l5, .inl (cJ, 18, .inr (.inl (dv4 SL)))), (l6, .inl (cJ, 18, .inr (.inl (dv5 SL))))] sz) := by
  refine Met.ofW (cc := cX1_divide) (maxL := 3) (ret := (some .int)) (by decide) rfl ?_
  intro p e s m args below meth c s₁ B hml hv
  obtain ⟨rfl, hsz, hP, hK, hD0, hNw⟩ := hv
  have hx := B.exec
  have hb := B.bytes
  have hr := B.returns
  have hts := atoms_spec (ws := wsX1_divide) B.pre
  have hown : s.vm.findClass RX1 = some m.cls := findClass_of_methodNamed B.named
  have hlocks := B.notSynchronized
  subst hsz
  have hD := hD0.self (sz := s.heap.size)
  generalize hAe : va_A [(o0, .inr (1, [.ref oT, .ref oG, .ref l0, .ref s0, .int ui])), (oT, .inl (cT, 4, .inr (.inr (.inr (.inr (ax_rows r)))))), (r 0, .inl (cI, 2048, .inl (M 0))), (r 1, .inl (cI, 2048, .inl (M 1))), (r 2, .inl (cI, 2048, .inl (M 2))), (r 3, .inl (cI, 2048, .inl (M 3))), (l0, .inr (0, [.ref l1, .ref l2, .ref l3, .ref l4, .ref l5, .ref l6, .int (dv6 SL), .int (dv7 SL), .int (dv8 SL), .int (dv9 SL), .int (dv10 SL), .int (dv11 SL), .int (dv12 SL), .int (dv13 SL)])), (l1, .inl (cI, 18, .inl (dv0 SL))), (l2, .inl (cI, 18, .inl (dv1 SL))), (l3, .inl (cJ, 18, .inr (.inl (dv2 SL)))), (l4, .inl (cJ, 18, .inr (.inl (dv3 SL)))), (l5, .inl (cJ, 18, .inr (.inl (dv4 SL)))), (l6, .inl (cJ, 18, .inr (.inl (dv5 SL))))] s.heap.size = A at hD  ⊢
  have hA : ∀ q : Nat, s.heap.size ≤ q → A q := fun q h => by rw [← hAe]; exact Or.inr h
  have hS : va_S A s.heap s.heap [] := va_S.rf
  have hP : va_P (dC, dI) vwCl [(o0, .inr (1, [.ref oT, .ref oG, .ref l0, .ref s0, .int ui])), (oT, .inl (cT, 4, .inr (.inr (.inr (.inr (ax_rows r)))))), (r 0, .inl (cI, 2048, .inl (M 0))), (r 1, .inl (cI, 2048, .inl (M 1))), (r 2, .inl (cI, 2048, .inl (M 2))), (r 3, .inl (cI, 2048, .inl (M 3))), (l0, .inr (0, [.ref l1, .ref l2, .ref l3, .ref l4, .ref l5, .ref l6, .int (dv6 SL), .int (dv7 SL), .int (dv8 SL), .int (dv9 SL), .int (dv10 SL), .int (dv11 SL), .int (dv12 SL), .int (dv13 SL)])), (l1, .inl (cI, 18, .inl (dv0 SL))), (l2, .inl (cI, 18, .inl (dv1 SL))), (l3, .inl (cJ, 18, .inr (.inl (dv2 SL)))), (l4, .inl (cJ, 18, .inr (.inl (dv3 SL)))), (l5, .inl (cJ, 18, .inr (.inl (dv4 SL)))), (l6, .inl (cJ, 18, .inr (.inl (dv5 SL))))] s.heap := hP
  have hl := lv_entry ([.ref o0, .int p0, .int p1]) (n := 3) (Nat.le_of_ble_eq_true rfl)
  rw [lg_entry_eq]
  generalize (lg_sl ([.ref o0, .int p0, .int p1]) ++ List.replicate (3 - (lg_sl ([.ref o0, .int p0, .int p1])).length) Slot.unset).toArray = ls at hl ⊢
  have hl : lv_has ls 3 [(0, .ref o0), (1, .int p0), (2, .int p1)] := hl
  refine lv_iload_n hx hb dX1_divide_0 rfl (lv_at hl 2 rfl) ?_
  refine lv_if_ne (tgt := 6) hx hb dX1_divide_1 (by decide) (fun c_1_1 => ?_) (fun c_1_1 => ?_)
  · refine lv_aload_n hx hb dX1_divide_6 rfl (lv_at hl 0 rfl) ?_
    refine va_get (D := (dC, dI)) (ci := 1) (v := .ref l0) (C := RX1) (T := TX1) (N := 5) hx hb hts inX1_X1_divide hown hK hP 0 rfl rfl 2 (by decide) (hts (.fieldLink RX1 21 "DigitDivider" "latest" "LDigitDivider$Division;") (by decide +kernel)) (fun _ h9 => h9) rfl dX1_divide_7 ?_
    refine lv_iload_n hx hb dX1_divide_10 rfl (lv_at hl 1 rfl) ?_
    refine lv_iload_n hx hb dX1_divide_11 rfl (lv_at hl 2 rfl) ?_
    refine lv_aload_n hx hb dX1_divide_12 rfl (lv_at hl 0 rfl) ?_
    refine va_get (D := (dC, dI)) (ci := 1) (v := .ref oT) (C := RX1) (T := TX1) (N := 5) hx hb hts inX1_X1_divide hown hK hP 0 rfl rfl 0 (by decide) (hts (.fieldLink RX1 11 "DigitDivider" "tables" "[[I") (by decide +kernel)) (fun _ h9 => h9) rfl dX1_divide_13 ?_
    refine lv_aload_n hx hb dX1_divide_16 rfl (lv_at hl 0 rfl) ?_
    refine va_get (D := (dC, dI)) (ci := 1) (v := .int ui) (C := RX1) (T := TX1) (N := 5) hx hb hts inX1_X1_divide hown hK hP 0 rfl rfl 4 (by decide) (hts (.fieldLink RX1 28 "DigitDivider" "inUse" "I") (by decide +kernel)) (fun _ h9 => h9) rfl dX1_divide_17 ?_
    have h4_2 : ui.toNatClampNeg < 4 := ax_lt4 hu
    refine ax_aald (r := r) hx hb hK hP 1 2 rfl rfl hu dX1_divide_20 ?_
    have hPc := hP.sub (ws' := [(l0, .inr (0, [.ref l1, .ref l2, .ref l3, .ref l4, .ref l5, .ref l6, .int (dv6 SL), .int (dv7 SL), .int (dv8 SL), .int (dv9 SL), .int (dv10 SL), .int (dv11 SL), .int (dv12 SL), .int (dv13 SL)])), (l1, .inl (cI, 18, .inl (dv0 SL))), (l2, .inl (cI, 18, .inl (dv1 SL))), (l3, .inl (cJ, 18, .inr (.inl (dv2 SL)))), (l4, .inl (cJ, 18, .inr (.inl (dv3 SL)))), (l5, .inl (cJ, 18, .inr (.inl (dv4 SL)))), (l6, .inl (cJ, 18, .inr (.inl (dv5 SL))))]) [6, 7, 8, 9, 10, 11, 12] rfl
    have hKc := hK.sub (tys' := [(cI, .int), (cJ, .long)]) [0, 1] rfl
    have hDc := hD.sub (ws' := [(l0, .inr (0, [.ref l1, .ref l2, .ref l3, .ref l4, .ref l5, .ref l6, .int (dv6 SL), .int (dv7 SL), .int (dv8 SL), .int (dv9 SL), .int (dv10 SL), .int (dv11 SL), .int (dv12 SL), .int (dv13 SL)])), (l1, .inl (cI, 18, .inl (dv0 SL))), (l2, .inl (cI, 18, .inl (dv1 SL))), (l3, .inl (cJ, 18, .inr (.inl (dv2 SL)))), (l4, .inl (cJ, 18, .inr (.inl (dv3 SL)))), (l5, .inl (cJ, 18, .inr (.inl (dv4 SL)))), (l6, .inl (cJ, 18, .inr (.inl (dv5 SL))))]) [6, 7, 8, 9, 10, 11, 12] (by decide) rfl
    have hFc := va_free (wc := [(l0, .inr (0, [.ref l1, .ref l2, .ref l3, .ref l4, .ref l5, .ref l6, .int (dv6 SL), .int (dv7 SL), .int (dv8 SL), .int (dv9 SL), .int (dv10 SL), .int (dv11 SL), .int (dv12 SL), .int (dv13 SL)])), (l1, .inl (cI, 18, .inl (dv0 SL))), (l2, .inl (cI, 18, .inl (dv1 SL))), (l3, .inl (cJ, 18, .inr (.inl (dv2 SL)))), (l4, .inl (cJ, 18, .inr (.inl (dv3 SL)))), (l5, .inl (cJ, 18, .inr (.inl (dv4 SL)))), (l6, .inl (cJ, 18, .inr (.inl (dv5 SL))))]) hD hS hA [6, 7, 8, 9, 10, 11, 12] rfl
    refine va_callv (va_runVN (As := [.int p0, .int p1, .ref (r ui.toNatClampNeg)]) (rest := []) ⟨hx, hb, hml, hown, hts⟩ (kX0_run l dC dI l0 l1 l2 l3 l4 l5 l6 cI cJ s.heap.size SL (M ui.toNatClampNeg) p0 p1 (r ui.toNatClampNeg) c_1_1) ⟨va_cnB 3 hts gX1_divide_X0_run_n64 rfl rfl rfl (nw_15 hNw) (hts (.initialized RX0) (by decide +kernel)) (by decide +kernel) ⟨Nat.le_of_ble_eq_true rfl, Nat.le_of_ble_eq_true rfl⟩, hts (.instanceMethod yX0_run) (by decide +kernel), hts (.selects RX0 yX0_run yX0_run) (by decide +kernel)⟩ ⟨fun a U g mk q => by obtain ⟨q0, q1, qP, qK, qD, e5, e6⟩ := q; exact ⟨q0, q1, qP, va_K.moved (u := U) (U := U.calling g mk a) (Vm.Alike.refl U.vm) qK, qD, nw_same (u := U) (U := U.calling g mk a) rfl e5, e6⟩, va_recv hKc hPc (ci := 0) (q0 := 0) rfl rfl, fun U hU hW => ⟨rfl, by rw [hU], by rw [hU]; exact hPc, va_K.moved hW.alike hKc, hDc.weaken (fun _ _ _ _ => trivial), nw_warm hW hNw, by rw [hU]; exact va_T.moved hW.alike (ax_ro hK 0 rfl hP hD (2 + ui.toNatClampNeg) (ax_get (r := r) (M := M) h4_2) [6, 7, 8, 9, 10, 11, 12] rfl (by intro h9; simp at h9; omega) (by decide))⟩⟩ rfl rfl hl.1 rfl (lv_room (Nat.le_of_ble_eq_true rfl)) dX1_divide_21 ⟨Nat.zero_le _, Nat.zero_le _⟩) hS (fun q _ h => hFc q h) hFc (fun u_3 t H1 locs ht hvm hw hB hz1 hk1 hS => ?_)
    try dsimp only at hw
    subst hw
    obtain ⟨hP1, hK1, hD1⟩ := hB
    rw [ht] at hP1
    have hK1 := va_K.moved hvm.symm hK1
    obtain ⟨hP, hD⟩ := va_join (wr := [(o0, .inr (1, [.ref oT, .ref oG, .ref l0, .ref s0, .int ui])), (oT, .inl (cT, 4, .inr (.inr (.inr (.inr (ax_rows r)))))), (r 0, .inl (cI, 2048, .inl (M 0))), (r 1, .inl (cI, 2048, .inl (M 1))), (r 2, .inl (cI, 2048, .inl (M 2))), (r 3, .inl (cI, 2048, .inl (M 3)))]) (w1 := [(l0, .inr (0, [.ref l1, .ref l2, .ref l3, .ref l4, .ref l5, .ref l6, .int (dv6 (gX0_run SL (M ui.toNatClampNeg) p0 p1)), .int (dv7 (gX0_run SL (M ui.toNatClampNeg) p0 p1)), .int (dv8 (gX0_run SL (M ui.toNatClampNeg) p0 p1)), .int (dv9 (gX0_run SL (M ui.toNatClampNeg) p0 p1)), .int (dv10 (gX0_run SL (M ui.toNatClampNeg) p0 p1)), .int (dv11 (gX0_run SL (M ui.toNatClampNeg) p0 p1)), .int (dv12 (gX0_run SL (M ui.toNatClampNeg) p0 p1)), .int (dv13 (gX0_run SL (M ui.toNatClampNeg) p0 p1))])), (l1, .inl (cI, 18, .inl (dv0 (gX0_run SL (M ui.toNatClampNeg) p0 p1)))), (l2, .inl (cI, 18, .inl (dv1 (gX0_run SL (M ui.toNatClampNeg) p0 p1)))), (l3, .inl (cJ, 18, .inr (.inl (dv2 (gX0_run SL (M ui.toNatClampNeg) p0 p1))))), (l4, .inl (cJ, 18, .inr (.inl (dv3 (gX0_run SL (M ui.toNatClampNeg) p0 p1))))), (l5, .inl (cJ, 18, .inr (.inl (dv4 (gX0_run SL (M ui.toNatClampNeg) p0 p1))))), (l6, .inl (cJ, 18, .inr (.inl (dv5 (gX0_run SL (M ui.toNatClampNeg) p0 p1)))))]) hP hD [6, 7, 8, 9, 10, 11, 12] [0, 1, 2, 3, 4, 5] rfl rfl (by decide) (by decide) hk1 hFc hP1 hD1
    generalize H1 = H at hP hS ⊢
    have hP : va_P (dC, dI) vwCl [(o0, .inr (1, [.ref oT, .ref oG, .ref l0, .ref s0, .int ui])), (oT, .inl (cT, 4, .inr (.inr (.inr (.inr (ax_rows r)))))), (r 0, .inl (cI, 2048, .inl (M 0))), (r 1, .inl (cI, 2048, .inl (M 1))), (r 2, .inl (cI, 2048, .inl (M 2))), (r 3, .inl (cI, 2048, .inl (M 3))), (l0, .inr (0, [.ref l1, .ref l2, .ref l3, .ref l4, .ref l5, .ref l6, .int (dv6 (gX0_run SL (M ui.toNatClampNeg) p0 p1)), .int (dv7 (gX0_run SL (M ui.toNatClampNeg) p0 p1)), .int (dv8 (gX0_run SL (M ui.toNatClampNeg) p0 p1)), .int (dv9 (gX0_run SL (M ui.toNatClampNeg) p0 p1)), .int (dv10 (gX0_run SL (M ui.toNatClampNeg) p0 p1)), .int (dv11 (gX0_run SL (M ui.toNatClampNeg) p0 p1)), .int (dv12 (gX0_run SL (M ui.toNatClampNeg) p0 p1)), .int (dv13 (gX0_run SL (M ui.toNatClampNeg) p0 p1))])), (l1, .inl (cI, 18, .inl (dv0 (gX0_run SL (M ui.toNatClampNeg) p0 p1)))), (l2, .inl (cI, 18, .inl (dv1 (gX0_run SL (M ui.toNatClampNeg) p0 p1)))), (l3, .inl (cJ, 18, .inr (.inl (dv2 (gX0_run SL (M ui.toNatClampNeg) p0 p1))))), (l4, .inl (cJ, 18, .inr (.inl (dv3 (gX0_run SL (M ui.toNatClampNeg) p0 p1))))), (l5, .inl (cJ, 18, .inr (.inl (dv4 (gX0_run SL (M ui.toNatClampNeg) p0 p1))))), (l6, .inl (cJ, 18, .inr (.inl (dv5 (gX0_run SL (M ui.toNatClampNeg) p0 p1)))))] H := hP.sub [0, 1, 2, 3, 4, 5, 6, 7, 8, 9, 10, 11, 12] rfl
    have hD : va_D A [(o0, .inr (1, [.ref oT, .ref oG, .ref l0, .ref s0, .int ui])), (oT, .inl (cT, 4, .inr (.inr (.inr (.inr (ax_rows r)))))), (r 0, .inl (cI, 2048, .inl (M 0))), (r 1, .inl (cI, 2048, .inl (M 1))), (r 2, .inl (cI, 2048, .inl (M 2))), (r 3, .inl (cI, 2048, .inl (M 3))), (l0, .inr (0, [.ref l1, .ref l2, .ref l3, .ref l4, .ref l5, .ref l6, .int (dv6 (gX0_run SL (M ui.toNatClampNeg) p0 p1)), .int (dv7 (gX0_run SL (M ui.toNatClampNeg) p0 p1)), .int (dv8 (gX0_run SL (M ui.toNatClampNeg) p0 p1)), .int (dv9 (gX0_run SL (M ui.toNatClampNeg) p0 p1)), .int (dv10 (gX0_run SL (M ui.toNatClampNeg) p0 p1)), .int (dv11 (gX0_run SL (M ui.toNatClampNeg) p0 p1)), .int (dv12 (gX0_run SL (M ui.toNatClampNeg) p0 p1)), .int (dv13 (gX0_run SL (M ui.toNatClampNeg) p0 p1))])), (l1, .inl (cI, 18, .inl (dv0 (gX0_run SL (M ui.toNatClampNeg) p0 p1)))), (l2, .inl (cI, 18, .inl (dv1 (gX0_run SL (M ui.toNatClampNeg) p0 p1)))), (l3, .inl (cJ, 18, .inr (.inl (dv2 (gX0_run SL (M ui.toNatClampNeg) p0 p1))))), (l4, .inl (cJ, 18, .inr (.inl (dv3 (gX0_run SL (M ui.toNatClampNeg) p0 p1))))), (l5, .inl (cJ, 18, .inr (.inl (dv4 (gX0_run SL (M ui.toNatClampNeg) p0 p1))))), (l6, .inl (cJ, 18, .inr (.inl (dv5 (gX0_run SL (M ui.toNatClampNeg) p0 p1)))))] := hD.sub [0, 1, 2, 3, 4, 5, 6, 7, 8, 9, 10, 11, 12] (by decide) rfl
    refine lv_aload_n hx hb dX1_divide_24 rfl (lv_at hl 0 rfl) ?_
    refine va_get (D := (dC, dI)) (ci := 1) (v := .ref l0) (C := RX1) (T := TX1) (N := 5) hx hb hts inX1_X1_divide hown hK hP 0 rfl rfl 2 (by decide) (hts (.fieldLink RX1 21 "DigitDivider" "latest" "LDigitDivider$Division;") (by decide +kernel)) (fun _ h9 => h9) rfl dX1_divide_25 ?_
    refine va_getN (D := (dC, dI)) (ci := 0) (v := .int (dv9 (gX0_run SL (M ui.toNatClampNeg) p0 p1))) (C := RX0) (T := TX0) (N := 14) hx hb hts inX0_X1_divide hown hK hP 6 rfl rfl 9 (by decide) (va_Nw.use rfl (nw_9 hNw)) (fun _ h9 => h9) rfl dX1_divide_28 ?_
    have hg : (gX1_divide M SL ui p0 p1) = ((dv9 (gX0_run SL (M ui.toNatClampNeg) p0 p1)), (gX0_run SL (M ui.toNatClampNeg) p0 p1)) := by unfold gX1_divide; rw [if_neg c_1_1]
    exact W.iret (v := (dv9 (gX0_run SL (M ui.toNatClampNeg) p0 p1))) hx hb hr (fun t ht hW => ⟨⟨(dv9 (gX0_run SL (M ui.toNatClampNeg) p0 p1)), (gX0_run SL (M ui.toNatClampNeg) p0 p1), rfl, ⟨(congrArg Prod.fst hg).symm, (congrArg Prod.snd hg).symm⟩, by rw [ht]; exact hP, va_K.moved hW.alike hK, hD⟩, hS.F ht⟩) hS.2.2 dX1_divide_31
  · refine lv_iconst (v := (-1)) hx hb dX1_divide_4 (by decide) ?_
    have hg : (gX1_divide M SL ui p0 p1) = ((-1), SL) := by unfold gX1_divide; rw [if_pos c_1_1]
    exact W.iret (v := (-1)) hx hb hr (fun t ht hW => ⟨⟨(-1), SL, rfl, ⟨(congrArg Prod.fst hg).symm, (congrArg Prod.snd hg).symm⟩, by rw [ht]; exact hP, va_K.moved hW.alike hK, hD⟩, hS.F ht⟩) hS.2.2 dX1_divide_5

def fX1_quotient (SL : DV) : Int32 := (dv12 SL)
theorem inX0_X1_quotient : ∀ w ∈ wsX00, w ∈ wsX1_quotient := by decide +kernel
theorem inX1_X1_quotient : ∀ w ∈ wsX10, w ∈ wsX1_quotient := by decide +kernel
set_option maxHeartbeats 4000000 in
set_option maxRecDepth 100000 in
theorem kX1_quotient (l : Launch) (dC : Nat → ClassId) (dI : Nat → Nat → Nat) (o0 : Nat) (oT : Nat) (oG : Nat) (l0 : Nat) (s0 : Nat) (l1 : Nat) (l2 : Nat) (l3 : Nat) (l4 : Nat) (l5 : Nat) (l6 : Nat) (SL : DV) (ui : Int32)  : Met l yX1_quotient wsX1_quotient ({ frames := 0, cells := 0, slots := 0, locals := 0 } : Room) (va_Pc [.ref o0] (fun U => va_P (dC, dI) vwCl [(o0, .inr (1, [.ref oT, .ref oG, .ref l0, .ref s0, .int ui])), (l0, .inr (0, [.ref l1, .ref l2, .ref l3, .ref l4, .ref l5, .ref l6, .int (dv6 SL), .int (dv7 SL), .int (dv8 SL), .int (dv9 SL), .int (dv10 SL), .int (dv11 SL), .int (dv12 SL), .int (dv13 SL)]))] U.heap ∧ va_K (dC, dI) vwCl [] U ∧ nwX U)) (vp_Si (fun r : Int32 => r = (fX1_quotient SL))) 0 0 (fun _ => False) := by
  refine Met.ofW (cc := cX1_quotient) (maxL := 1) (ret := (some .int)) (by decide) rfl ?_
  intro p e s m args below meth c s₁ B hml hv
  obtain ⟨rfl, hP, hK, hNw⟩ := hv
  have hx := B.exec
  have hb := B.bytes
  have hr := B.returns
  have hts := atoms_spec (ws := wsX1_quotient) B.pre
  have hown : s.vm.findClass RX1 = some m.cls := findClass_of_methodNamed B.named
  have hlocks := B.notSynchronized
  have hS : va_S (fun _ => False) s.heap s.heap [] := va_S.rf
  have hl := lv_entry ([.ref o0]) (n := 1) (Nat.le_of_ble_eq_true rfl)
  rw [lg_entry_eq]
  generalize (lg_sl ([.ref o0]) ++ List.replicate (1 - (lg_sl ([.ref o0])).length) Slot.unset).toArray = ls at hl ⊢
  have hl : lv_has ls 1 [(0, .ref o0)] := hl
  refine lv_aload_n hx hb dX1_quotient_0 rfl (lv_at hl 0 rfl) ?_
  refine va_get (D := (dC, dI)) (ci := 1) (v := .ref l0) (C := RX1) (T := TX1) (N := 5) hx hb hts inX1_X1_quotient hown hK hP 0 rfl rfl 2 (by decide) (hts (.fieldLink RX1 21 "DigitDivider" "latest" "LDigitDivider$Division;") (by decide +kernel)) (fun _ h9 => h9) rfl dX1_quotient_1 ?_
  refine va_getN (D := (dC, dI)) (ci := 0) (v := .int (dv12 SL)) (C := RX0) (T := TX0) (N := 14) hx hb hts inX0_X1_quotient hown hK hP 1 rfl rfl 12 (by decide) (va_Nw.use rfl (nw_12 hNw)) (fun _ h9 => h9) rfl dX1_quotient_4 ?_
  exact W.iret (v := (dv12 SL)) hx hb hr (fun t ht hW => ⟨(dv12 SL), rfl, rfl, ht⟩) (fun q h => absurd h List.not_mem_nil) dX1_quotient_7

def fX1_rest (SL : DV) : Int32 := (dv13 SL)
theorem inX0_X1_rest : ∀ w ∈ wsX00, w ∈ wsX1_rest := by decide +kernel
theorem inX1_X1_rest : ∀ w ∈ wsX10, w ∈ wsX1_rest := by decide +kernel
set_option maxHeartbeats 4000000 in
set_option maxRecDepth 100000 in
theorem kX1_rest (l : Launch) (dC : Nat → ClassId) (dI : Nat → Nat → Nat) (o0 : Nat) (oT : Nat) (oG : Nat) (l0 : Nat) (s0 : Nat) (l1 : Nat) (l2 : Nat) (l3 : Nat) (l4 : Nat) (l5 : Nat) (l6 : Nat) (SL : DV) (ui : Int32)  : Met l yX1_rest wsX1_rest ({ frames := 0, cells := 0, slots := 0, locals := 0 } : Room) (va_Pc [.ref o0] (fun U => va_P (dC, dI) vwCl [(o0, .inr (1, [.ref oT, .ref oG, .ref l0, .ref s0, .int ui])), (l0, .inr (0, [.ref l1, .ref l2, .ref l3, .ref l4, .ref l5, .ref l6, .int (dv6 SL), .int (dv7 SL), .int (dv8 SL), .int (dv9 SL), .int (dv10 SL), .int (dv11 SL), .int (dv12 SL), .int (dv13 SL)]))] U.heap ∧ va_K (dC, dI) vwCl [] U ∧ nwX U)) (vp_Si (fun r : Int32 => r = (fX1_rest SL))) 0 0 (fun _ => False) := by
  refine Met.ofW (cc := cX1_rest) (maxL := 1) (ret := (some .int)) (by decide) rfl ?_
  intro p e s m args below meth c s₁ B hml hv
  obtain ⟨rfl, hP, hK, hNw⟩ := hv
  have hx := B.exec
  have hb := B.bytes
  have hr := B.returns
  have hts := atoms_spec (ws := wsX1_rest) B.pre
  have hown : s.vm.findClass RX1 = some m.cls := findClass_of_methodNamed B.named
  have hlocks := B.notSynchronized
  have hS : va_S (fun _ => False) s.heap s.heap [] := va_S.rf
  have hl := lv_entry ([.ref o0]) (n := 1) (Nat.le_of_ble_eq_true rfl)
  rw [lg_entry_eq]
  generalize (lg_sl ([.ref o0]) ++ List.replicate (1 - (lg_sl ([.ref o0])).length) Slot.unset).toArray = ls at hl ⊢
  have hl : lv_has ls 1 [(0, .ref o0)] := hl
  refine lv_aload_n hx hb dX1_rest_0 rfl (lv_at hl 0 rfl) ?_
  refine va_get (D := (dC, dI)) (ci := 1) (v := .ref l0) (C := RX1) (T := TX1) (N := 5) hx hb hts inX1_X1_rest hown hK hP 0 rfl rfl 2 (by decide) (hts (.fieldLink RX1 21 "DigitDivider" "latest" "LDigitDivider$Division;") (by decide +kernel)) (fun _ h9 => h9) rfl dX1_rest_1 ?_
  refine va_getN (D := (dC, dI)) (ci := 0) (v := .int (dv13 SL)) (C := RX0) (T := TX0) (N := 14) hx hb hts inX0_X1_rest hown hK hP 1 rfl rfl 13 (by decide) (va_Nw.use rfl (nw_13 hNw)) (fun _ h9 => h9) rfl dX1_rest_4 ?_
  exact W.iret (v := (dv13 SL)) hx hb hr (fun t ht hW => ⟨(dv13 SL), rfl, rfl, ht⟩) (fun q h => absurd h List.not_mem_nil) dX1_rest_7

def fX1_left (SL : DV) : Int32 := (dv11 SL)
theorem inX0_X1_left : ∀ w ∈ wsX00, w ∈ wsX1_left := by decide +kernel
theorem inX1_X1_left : ∀ w ∈ wsX10, w ∈ wsX1_left := by decide +kernel
set_option maxHeartbeats 4000000 in
set_option maxRecDepth 100000 in
theorem kX1_left (l : Launch) (dC : Nat → ClassId) (dI : Nat → Nat → Nat) (o0 : Nat) (oT : Nat) (oG : Nat) (l0 : Nat) (s0 : Nat) (l1 : Nat) (l2 : Nat) (l3 : Nat) (l4 : Nat) (l5 : Nat) (l6 : Nat) (SL : DV) (ui : Int32)  : Met l yX1_left wsX1_left ({ frames := 0, cells := 0, slots := 0, locals := 0 } : Room) (va_Pc [.ref o0] (fun U => va_P (dC, dI) vwCl [(o0, .inr (1, [.ref oT, .ref oG, .ref l0, .ref s0, .int ui])), (l0, .inr (0, [.ref l1, .ref l2, .ref l3, .ref l4, .ref l5, .ref l6, .int (dv6 SL), .int (dv7 SL), .int (dv8 SL), .int (dv9 SL), .int (dv10 SL), .int (dv11 SL), .int (dv12 SL), .int (dv13 SL)]))] U.heap ∧ va_K (dC, dI) vwCl [] U ∧ nwX U)) (vp_Si (fun r : Int32 => r = (fX1_left SL))) 0 0 (fun _ => False) := by
  refine Met.ofW (cc := cX1_left) (maxL := 1) (ret := (some .int)) (by decide) rfl ?_
  intro p e s m args below meth c s₁ B hml hv
  obtain ⟨rfl, hP, hK, hNw⟩ := hv
  have hx := B.exec
  have hb := B.bytes
  have hr := B.returns
  have hts := atoms_spec (ws := wsX1_left) B.pre
  have hown : s.vm.findClass RX1 = some m.cls := findClass_of_methodNamed B.named
  have hlocks := B.notSynchronized
  have hS : va_S (fun _ => False) s.heap s.heap [] := va_S.rf
  have hl := lv_entry ([.ref o0]) (n := 1) (Nat.le_of_ble_eq_true rfl)
  rw [lg_entry_eq]
  generalize (lg_sl ([.ref o0]) ++ List.replicate (1 - (lg_sl ([.ref o0])).length) Slot.unset).toArray = ls at hl ⊢
  have hl : lv_has ls 1 [(0, .ref o0)] := hl
  refine lv_aload_n hx hb dX1_left_0 rfl (lv_at hl 0 rfl) ?_
  refine va_get (D := (dC, dI)) (ci := 1) (v := .ref l0) (C := RX1) (T := TX1) (N := 5) hx hb hts inX1_X1_left hown hK hP 0 rfl rfl 2 (by decide) (hts (.fieldLink RX1 21 "DigitDivider" "latest" "LDigitDivider$Division;") (by decide +kernel)) (fun _ h9 => h9) rfl dX1_left_1 ?_
  refine va_getN (D := (dC, dI)) (ci := 0) (v := .int (dv11 SL)) (C := RX0) (T := TX0) (N := 14) hx hb hts inX0_X1_left hown hK hP 1 rfl rfl 11 (by decide) (va_Nw.use rfl (nw_11 hNw)) (fun _ h9 => h9) rfl dX1_left_4 ?_
  exact W.iret (v := (dv11 SL)) hx hb hr (fun t ht hW => ⟨(dv11 SL), rfl, rfl, ht⟩) (fun q h => absurd h List.not_mem_nil) dX1_left_7

def fX1_told (SL : DV) (p0 : Int32) : Int32 := (if p0 = 0 then (dv6 SL) else (if p0 = 1 then (dv7 SL) else (if p0 = 2 then (dv8 SL) else (if p0 = 3 then (dv9 SL) else (if p0 = 4 then (dv10 SL) else (-1))))))
theorem inX0_X1_told : ∀ w ∈ wsX00, w ∈ wsX1_told := by decide +kernel
theorem inX1_X1_told : ∀ w ∈ wsX10, w ∈ wsX1_told := by decide +kernel
set_option maxHeartbeats 4000000 in
set_option maxRecDepth 100000 in
theorem kX1_told (l : Launch) (dC : Nat → ClassId) (dI : Nat → Nat → Nat) (o0 : Nat) (oT : Nat) (oG : Nat) (l0 : Nat) (s0 : Nat) (l1 : Nat) (l2 : Nat) (l3 : Nat) (l4 : Nat) (l5 : Nat) (l6 : Nat) (SL : DV) (ui : Int32) (p0 : Int32)  : Met l yX1_told wsX1_told ({ frames := 0, cells := 0, slots := 0, locals := 0 } : Room) (va_Pc [.ref o0, .int p0] (fun U => va_P (dC, dI) vwCl [(o0, .inr (1, [.ref oT, .ref oG, .ref l0, .ref s0, .int ui])), (l0, .inr (0, [.ref l1, .ref l2, .ref l3, .ref l4, .ref l5, .ref l6, .int (dv6 SL), .int (dv7 SL), .int (dv8 SL), .int (dv9 SL), .int (dv10 SL), .int (dv11 SL), .int (dv12 SL), .int (dv13 SL)]))] U.heap ∧ va_K (dC, dI) vwCl [] U ∧ nwX U)) (vp_Si (fun r : Int32 => r = (fX1_told SL p0))) 0 0 (fun _ => False) := by
  refine Met.ofW (cc := cX1_told) (maxL := 2) (ret := (some .int)) (by decide) rfl ?_
  intro p e s m args below meth c s₁ B hml hv
  obtain ⟨rfl, hP, hK, hNw⟩ := hv
  have hx := B.exec
  have hb := B.bytes
  have hr := B.returns
  have hts := atoms_spec (ws := wsX1_told) B.pre
  have hown : s.vm.findClass RX1 = some m.cls := findClass_of_methodNamed B.named
  have hlocks := B.notSynchronized
  have hS : va_S (fun _ => False) s.heap s.heap [] := va_S.rf
  have hl := lv_entry ([.ref o0, .int p0]) (n := 2) (Nat.le_of_ble_eq_true rfl)
  rw [lg_entry_eq]
  generalize (lg_sl ([.ref o0, .int p0]) ++ List.replicate (2 - (lg_sl ([.ref o0, .int p0])).length) Slot.unset).toArray = ls at hl ⊢
  have hl : lv_has ls 2 [(0, .ref o0), (1, .int p0)] := hl
  refine lv_iload_n hx hb dX1_told_0 rfl (lv_at hl 1 rfl) ?_
  by_cases sw1_0 : p0 = 0
  · refine lv_tableIn (off := 35) (tgt := 36) hx hb dX1_told_1 (by rw [sw1_0]; decide) (by rw [sw1_0]; decide) (by rw [sw1_0]; rfl) (by decide) ?_
    refine lv_aload_n hx hb dX1_told_36 rfl (lv_at hl 0 rfl) ?_
    refine va_get (D := (dC, dI)) (ci := 1) (v := .ref l0) (C := RX1) (T := TX1) (N := 5) hx hb hts inX1_X1_told hown hK hP 0 rfl rfl 2 (by decide) (hts (.fieldLink RX1 21 "DigitDivider" "latest" "LDigitDivider$Division;") (by decide +kernel)) (fun _ h9 => h9) rfl dX1_told_37 ?_
    refine va_getN (D := (dC, dI)) (ci := 0) (v := .int (dv6 SL)) (C := RX0) (T := TX0) (N := 14) hx hb hts inX0_X1_told hown hK hP 1 rfl rfl 6 (by decide) (va_Nw.use rfl (nw_6 hNw)) (fun _ h9 => h9) rfl dX1_told_40 ?_
    exact W.iret (v := (dv6 SL)) hx hb hr (fun t ht hW => ⟨(dv6 SL), rfl, (by unfold fX1_told; rw [if_pos sw1_0]), ht⟩) (fun q h => absurd h List.not_mem_nil) dX1_told_43
  by_cases sw1_1 : p0 = 1
  · refine lv_tableIn (off := 43) (tgt := 44) hx hb dX1_told_1 (by rw [sw1_1]; decide) (by rw [sw1_1]; decide) (by rw [sw1_1]; rfl) (by decide) ?_
    refine lv_aload_n hx hb dX1_told_44 rfl (lv_at hl 0 rfl) ?_
    refine va_get (D := (dC, dI)) (ci := 1) (v := .ref l0) (C := RX1) (T := TX1) (N := 5) hx hb hts inX1_X1_told hown hK hP 0 rfl rfl 2 (by decide) (hts (.fieldLink RX1 21 "DigitDivider" "latest" "LDigitDivider$Division;") (by decide +kernel)) (fun _ h9 => h9) rfl dX1_told_45 ?_
    refine va_getN (D := (dC, dI)) (ci := 0) (v := .int (dv7 SL)) (C := RX0) (T := TX0) (N := 14) hx hb hts inX0_X1_told hown hK hP 1 rfl rfl 7 (by decide) (va_Nw.use rfl (nw_7 hNw)) (fun _ h9 => h9) rfl dX1_told_48 ?_
    exact W.iret (v := (dv7 SL)) hx hb hr (fun t ht hW => ⟨(dv7 SL), rfl, (by unfold fX1_told; rw [if_neg sw1_0, if_pos sw1_1]), ht⟩) (fun q h => absurd h List.not_mem_nil) dX1_told_51
  by_cases sw1_2 : p0 = 2
  · refine lv_tableIn (off := 51) (tgt := 52) hx hb dX1_told_1 (by rw [sw1_2]; decide) (by rw [sw1_2]; decide) (by rw [sw1_2]; rfl) (by decide) ?_
    refine lv_aload_n hx hb dX1_told_52 rfl (lv_at hl 0 rfl) ?_
    refine va_get (D := (dC, dI)) (ci := 1) (v := .ref l0) (C := RX1) (T := TX1) (N := 5) hx hb hts inX1_X1_told hown hK hP 0 rfl rfl 2 (by decide) (hts (.fieldLink RX1 21 "DigitDivider" "latest" "LDigitDivider$Division;") (by decide +kernel)) (fun _ h9 => h9) rfl dX1_told_53 ?_
    refine va_getN (D := (dC, dI)) (ci := 0) (v := .int (dv8 SL)) (C := RX0) (T := TX0) (N := 14) hx hb hts inX0_X1_told hown hK hP 1 rfl rfl 8 (by decide) (va_Nw.use rfl (nw_8 hNw)) (fun _ h9 => h9) rfl dX1_told_56 ?_
    exact W.iret (v := (dv8 SL)) hx hb hr (fun t ht hW => ⟨(dv8 SL), rfl, (by unfold fX1_told; rw [if_neg sw1_0, if_neg sw1_1, if_pos sw1_2]), ht⟩) (fun q h => absurd h List.not_mem_nil) dX1_told_59
  by_cases sw1_3 : p0 = 3
  · refine lv_tableIn (off := 59) (tgt := 60) hx hb dX1_told_1 (by rw [sw1_3]; decide) (by rw [sw1_3]; decide) (by rw [sw1_3]; rfl) (by decide) ?_
    refine lv_aload_n hx hb dX1_told_60 rfl (lv_at hl 0 rfl) ?_
    refine va_get (D := (dC, dI)) (ci := 1) (v := .ref l0) (C := RX1) (T := TX1) (N := 5) hx hb hts inX1_X1_told hown hK hP 0 rfl rfl 2 (by decide) (hts (.fieldLink RX1 21 "DigitDivider" "latest" "LDigitDivider$Division;") (by decide +kernel)) (fun _ h9 => h9) rfl dX1_told_61 ?_
    refine va_getN (D := (dC, dI)) (ci := 0) (v := .int (dv9 SL)) (C := RX0) (T := TX0) (N := 14) hx hb hts inX0_X1_told hown hK hP 1 rfl rfl 9 (by decide) (va_Nw.use rfl (nw_9 hNw)) (fun _ h9 => h9) rfl dX1_told_64 ?_
    exact W.iret (v := (dv9 SL)) hx hb hr (fun t ht hW => ⟨(dv9 SL), rfl, (by unfold fX1_told; rw [if_neg sw1_0, if_neg sw1_1, if_neg sw1_2, if_pos sw1_3]), ht⟩) (fun q h => absurd h List.not_mem_nil) dX1_told_67
  by_cases sw1_4 : p0 = 4
  · refine lv_tableIn (off := 67) (tgt := 68) hx hb dX1_told_1 (by rw [sw1_4]; decide) (by rw [sw1_4]; decide) (by rw [sw1_4]; rfl) (by decide) ?_
    refine lv_aload_n hx hb dX1_told_68 rfl (lv_at hl 0 rfl) ?_
    refine va_get (D := (dC, dI)) (ci := 1) (v := .ref l0) (C := RX1) (T := TX1) (N := 5) hx hb hts inX1_X1_told hown hK hP 0 rfl rfl 2 (by decide) (hts (.fieldLink RX1 21 "DigitDivider" "latest" "LDigitDivider$Division;") (by decide +kernel)) (fun _ h9 => h9) rfl dX1_told_69 ?_
    refine va_getN (D := (dC, dI)) (ci := 0) (v := .int (dv10 SL)) (C := RX0) (T := TX0) (N := 14) hx hb hts inX0_X1_told hown hK hP 1 rfl rfl 10 (by decide) (va_Nw.use rfl (nw_10 hNw)) (fun _ h9 => h9) rfl dX1_told_72 ?_
    exact W.iret (v := (dv10 SL)) hx hb hr (fun t ht hW => ⟨(dv10 SL), rfl, (by unfold fX1_told; rw [if_neg sw1_0, if_neg sw1_1, if_neg sw1_2, if_neg sw1_3, if_pos sw1_4]), ht⟩) (fun q h => absurd h List.not_mem_nil) dX1_told_75
  refine lv_tableOut (tgt := 76) hx hb dX1_told_1 (by have z0 := ax_ne sw1_0 (z := 0) (by decide); have z1 := ax_ne sw1_1 (z := 1) (by decide); have z2 := ax_ne sw1_2 (z := 2) (by decide); have z3 := ax_ne sw1_3 (z := 3) (by decide); have z4 := ax_ne sw1_4 (z := 4) (by decide); omega) (by decide) ?_
  refine lv_iconst (v := (-1)) hx hb dX1_told_76 (by decide) ?_
  exact W.iret (v := (-1)) hx hb hr (fun t ht hW => ⟨(-1), rfl, (by unfold fX1_told; rw [if_neg sw1_0, if_neg sw1_1, if_neg sw1_2, if_neg sw1_3, if_neg sw1_4]), ht⟩) (fun q h => absurd h List.not_mem_nil) dX1_told_77

def fX1_step (SL : DV) (p0 : Int32) (p1 : Int32) : Int32 := (if p0 < 1 then (-101) else (if p0 ≤ (dv9 SL) then (if p1 = 0 then (dv0 SL) p0.toNatClampNeg else (if p1 = 1 then (dv1 SL) p0.toNatClampNeg else (-101))) else (-101)))
theorem inX0_X1_step : ∀ w ∈ wsX00, w ∈ wsX1_step := by decide +kernel
theorem inX1_X1_step : ∀ w ∈ wsX10, w ∈ wsX1_step := by decide +kernel
set_option maxHeartbeats 4000000 in
set_option maxRecDepth 100000 in
theorem kX1_step (l : Launch) (dC : Nat → ClassId) (dI : Nat → Nat → Nat) (o0 : Nat) (oT : Nat) (oG : Nat) (l0 : Nat) (s0 : Nat) (l1 : Nat) (l2 : Nat) (l3 : Nat) (l4 : Nat) (l5 : Nat) (l6 : Nat) (cI : ClassId) (cJ : ClassId) (SL : DV) (ui : Int32) (nn : Nat) (p0 : Int32) (p1 : Int32) (hnn : nn ≤ 17) (hn : dv9 SL = nI nn) : Met l yX1_step wsX1_step ({ frames := 0, cells := 0, slots := 0, locals := 0 } : Room) (va_Pc [.ref o0, .int p0, .int p1] (fun U => va_P (dC, dI) vwCl [(o0, .inr (1, [.ref oT, .ref oG, .ref l0, .ref s0, .int ui])), (l0, .inr (0, [.ref l1, .ref l2, .ref l3, .ref l4, .ref l5, .ref l6, .int (dv6 SL), .int (dv7 SL), .int (dv8 SL), .int (dv9 SL), .int (dv10 SL), .int (dv11 SL), .int (dv12 SL), .int (dv13 SL)])), (l1, .inl (cI, 18, .inl (dv0 SL))), (l2, .inl (cI, 18, .inl (dv1 SL))), (l3, .inl (cJ, 18, .inr (.inl (dv2 SL)))), (l4, .inl (cJ, 18, .inr (.inl (dv3 SL)))), (l5, .inl (cJ, 18, .inr (.inl (dv4 SL)))), (l6, .inl (cJ, 18, .inr (.inl (dv5 SL))))] U.heap ∧ va_K (dC, dI) vwCl [(cI, .int), (cJ, .long)] U ∧ nwX U)) (vp_Si (fun r : Int32 => r = (fX1_step SL p0 p1))) 0 0 (fun _ => False) := by
  refine Met.ofW (cc := cX1_step) (maxL := 3) (ret := (some .int)) (by decide) rfl ?_
  intro p e s m args below meth c s₁ B hml hv
  obtain ⟨rfl, hP, hK, hNw⟩ := hv
  have hx := B.exec
  have hb := B.bytes
  have hr := B.returns
  have hts := atoms_spec (ws := wsX1_step) B.pre
  have hown : s.vm.findClass RX1 = some m.cls := findClass_of_methodNamed B.named
  have hlocks := B.notSynchronized
  have hS : va_S (fun _ => False) s.heap s.heap [] := va_S.rf
  have hl := lv_entry ([.ref o0, .int p0, .int p1]) (n := 3) (Nat.le_of_ble_eq_true rfl)
  rw [lg_entry_eq]
  generalize (lg_sl ([.ref o0, .int p0, .int p1]) ++ List.replicate (3 - (lg_sl ([.ref o0, .int p0, .int p1])).length) Slot.unset).toArray = ls at hl ⊢
  have hl : lv_has ls 3 [(0, .ref o0), (1, .int p0), (2, .int p1)] := hl
  refine lv_iload_n hx hb dX1_step_0 rfl (lv_at hl 1 rfl) ?_
  refine lv_iconst (v := 1) hx hb dX1_step_1 (by decide) ?_
  refine lv_icmp_lt (tgt := 16) hx hb dX1_step_2 (by decide) (fun c_2_1 => ?_) (fun c_2_1 => ?_)
  · refine lv_bipush (v := (-101)) hx hb dX1_step_16 (by decide) ?_
    exact W.iret (v := (-101)) hx hb hr (fun t ht hW => ⟨(-101), rfl, (by unfold fX1_step; rw [if_pos c_2_1]), ht⟩) (fun q h => absurd h List.not_mem_nil) dX1_step_18
  · refine lv_iload_n hx hb dX1_step_5 rfl (lv_at hl 1 rfl) ?_
    refine lv_aload_n hx hb dX1_step_6 rfl (lv_at hl 0 rfl) ?_
    refine va_get (D := (dC, dI)) (ci := 1) (v := .ref l0) (C := RX1) (T := TX1) (N := 5) hx hb hts inX1_X1_step hown hK hP 0 rfl rfl 2 (by decide) (hts (.fieldLink RX1 21 "DigitDivider" "latest" "LDigitDivider$Division;") (by decide +kernel)) (fun _ h9 => h9) rfl dX1_step_7 ?_
    refine va_getN (D := (dC, dI)) (ci := 0) (v := .int (dv9 SL)) (C := RX0) (T := TX0) (N := 14) hx hb hts inX0_X1_step hown hK hP 1 rfl rfl 9 (by decide) (va_Nw.use rfl (nw_9 hNw)) (fun _ h9 => h9) rfl dX1_step_10 ?_
    refine lv_icmp_le (tgt := 19) hx hb dX1_step_13 (by decide) (fun c_13_2 => ?_) (fun c_13_2 => ?_)
    · refine lv_iload_n hx hb dX1_step_19 rfl (lv_at hl 2 rfl) ?_
      by_cases sw3_0 : p1 = 0
      · refine lv_lookup (off := 28) (tgt := 48) hx hb dX1_step_20 (by decide) (by rw [sw3_0]; rfl) (by decide) ?_
        refine lv_aload_n hx hb dX1_step_48 rfl (lv_at hl 0 rfl) ?_
        refine va_get (D := (dC, dI)) (ci := 1) (v := .ref l0) (C := RX1) (T := TX1) (N := 5) hx hb hts inX1_X1_step hown hK hP 0 rfl rfl 2 (by decide) (hts (.fieldLink RX1 21 "DigitDivider" "latest" "LDigitDivider$Division;") (by decide +kernel)) (fun _ h9 => h9) rfl dX1_step_49 ?_
        refine va_getN (D := (dC, dI)) (ci := 0) (v := .ref l1) (C := RX0) (T := TX0) (N := 14) hx hb hts inX0_X1_step hown hK hP 1 rfl rfl 0 (by decide) (va_Nw.use rfl (nw_0 hNw)) (fun _ h9 => h9) rfl dX1_step_52 ?_
        refine lv_iload_n hx hb dX1_step_55 rfl (lv_at hl 1 rfl) ?_
        refine va_iald hx hb hK hP 2 0 rfl rfl (st_in hnn hn c_2_1 c_13_2) dX1_step_56 ?_
        exact W.iret (v := (dv0 SL) p0.toNatClampNeg) hx hb hr (fun t ht hW => ⟨(dv0 SL) p0.toNatClampNeg, rfl, (by unfold fX1_step; rw [if_neg c_2_1, if_pos c_13_2, if_pos sw3_0]), ht⟩) (fun q h => absurd h List.not_mem_nil) dX1_step_57
      by_cases sw3_1 : p1 = 1
      · refine lv_lookup (off := 38) (tgt := 58) hx hb dX1_step_20 (by decide) (by rw [sw3_1]; rfl) (by decide) ?_
        refine lv_aload_n hx hb dX1_step_58 rfl (lv_at hl 0 rfl) ?_
        refine va_get (D := (dC, dI)) (ci := 1) (v := .ref l0) (C := RX1) (T := TX1) (N := 5) hx hb hts inX1_X1_step hown hK hP 0 rfl rfl 2 (by decide) (hts (.fieldLink RX1 21 "DigitDivider" "latest" "LDigitDivider$Division;") (by decide +kernel)) (fun _ h9 => h9) rfl dX1_step_59 ?_
        refine va_getN (D := (dC, dI)) (ci := 0) (v := .ref l2) (C := RX0) (T := TX0) (N := 14) hx hb hts inX0_X1_step hown hK hP 1 rfl rfl 1 (by decide) (va_Nw.use rfl (nw_1 hNw)) (fun _ h9 => h9) rfl dX1_step_62 ?_
        refine lv_iload_n hx hb dX1_step_65 rfl (lv_at hl 1 rfl) ?_
        refine va_iald hx hb hK hP 3 0 rfl rfl (st_in hnn hn c_2_1 c_13_2) dX1_step_66 ?_
        exact W.iret (v := (dv1 SL) p0.toNatClampNeg) hx hb hr (fun t ht hW => ⟨(dv1 SL) p0.toNatClampNeg, rfl, (by unfold fX1_step; rw [if_neg c_2_1, if_pos c_13_2, if_neg sw3_0, if_pos sw3_1]), ht⟩) (fun q h => absurd h List.not_mem_nil) dX1_step_67
      refine lv_lookup (off := 48) (tgt := 68) hx hb dX1_step_20 (by decide) (by have z0 := ax_ne sw3_0 (z := 0) (by decide); have z1 := ax_ne sw3_1 (z := 1) (by decide); exact ax_look2 z0 z1) (by decide) ?_
      refine lv_bipush (v := (-101)) hx hb dX1_step_68 (by decide) ?_
      exact W.iret (v := (-101)) hx hb hr (fun t ht hW => ⟨(-101), rfl, (by unfold fX1_step; rw [if_neg c_2_1, if_pos c_13_2, if_neg sw3_0, if_neg sw3_1]), ht⟩) (fun q h => absurd h List.not_mem_nil) dX1_step_70
    · refine lv_bipush (v := (-101)) hx hb dX1_step_16 (by decide) ?_
      exact W.iret (v := (-101)) hx hb hr (fun t ht hW => ⟨(-101), rfl, (by unfold fX1_step; rw [if_neg c_2_1, if_neg c_13_2]), ht⟩) (fun q h => absurd h List.not_mem_nil) dX1_step_18

def fX1_state (SL : DV) (p0 : Int32) (p1 : Int32) : Int64 := (if p0 < 0 then 0 else (if p0 ≤ (dv9 SL) then (if p1 = 0 then (dv2 SL) p0.toNatClampNeg else (if p1 = 1 then (dv3 SL) p0.toNatClampNeg else (if p1 = 2 then (dv4 SL) p0.toNatClampNeg else (if p1 = 3 then (dv5 SL) p0.toNatClampNeg else 0)))) else 0))
theorem inX0_X1_state : ∀ w ∈ wsX00, w ∈ wsX1_state := by decide +kernel
theorem inX1_X1_state : ∀ w ∈ wsX10, w ∈ wsX1_state := by decide +kernel
set_option maxHeartbeats 4000000 in
set_option maxRecDepth 100000 in
theorem kX1_state (l : Launch) (dC : Nat → ClassId) (dI : Nat → Nat → Nat) (o0 : Nat) (oT : Nat) (oG : Nat) (l0 : Nat) (s0 : Nat) (l1 : Nat) (l2 : Nat) (l3 : Nat) (l4 : Nat) (l5 : Nat) (l6 : Nat) (cI : ClassId) (cJ : ClassId) (SL : DV) (ui : Int32) (nn : Nat) (p0 : Int32) (p1 : Int32) (hnn : nn ≤ 17) (hn : dv9 SL = nI nn) : Met l yX1_state wsX1_state ({ frames := 0, cells := 0, slots := 0, locals := 0 } : Room) (va_Pc [.ref o0, .int p0, .int p1] (fun U => va_P (dC, dI) vwCl [(o0, .inr (1, [.ref oT, .ref oG, .ref l0, .ref s0, .int ui])), (l0, .inr (0, [.ref l1, .ref l2, .ref l3, .ref l4, .ref l5, .ref l6, .int (dv6 SL), .int (dv7 SL), .int (dv8 SL), .int (dv9 SL), .int (dv10 SL), .int (dv11 SL), .int (dv12 SL), .int (dv13 SL)])), (l1, .inl (cI, 18, .inl (dv0 SL))), (l2, .inl (cI, 18, .inl (dv1 SL))), (l3, .inl (cJ, 18, .inr (.inl (dv2 SL)))), (l4, .inl (cJ, 18, .inr (.inl (dv3 SL)))), (l5, .inl (cJ, 18, .inr (.inl (dv4 SL)))), (l6, .inl (cJ, 18, .inr (.inl (dv5 SL))))] U.heap ∧ va_K (dC, dI) vwCl [(cI, .int), (cJ, .long)] U ∧ nwX U)) (vp_Sl (fun r : Int64 => r = (fX1_state SL p0 p1))) 0 0 (fun _ => False) := by
  refine Met.ofW (cc := cX1_state) (maxL := 3) (ret := (some .long)) (by decide) rfl ?_
  intro p e s m args below meth c s₁ B hml hv
  obtain ⟨rfl, hP, hK, hNw⟩ := hv
  have hx := B.exec
  have hb := B.bytes
  have hr := B.returns
  have hts := atoms_spec (ws := wsX1_state) B.pre
  have hown : s.vm.findClass RX1 = some m.cls := findClass_of_methodNamed B.named
  have hlocks := B.notSynchronized
  have hS : va_S (fun _ => False) s.heap s.heap [] := va_S.rf
  have hl := lv_entry ([.ref o0, .int p0, .int p1]) (n := 3) (Nat.le_of_ble_eq_true rfl)
  rw [lg_entry_eq]
  generalize (lg_sl ([.ref o0, .int p0, .int p1]) ++ List.replicate (3 - (lg_sl ([.ref o0, .int p0, .int p1])).length) Slot.unset).toArray = ls at hl ⊢
  have hl : lv_has ls 3 [(0, .ref o0), (1, .int p0), (2, .int p1)] := hl
  refine lv_iload_n hx hb dX1_state_0 rfl (lv_at hl 1 rfl) ?_
  refine lv_if_lt (tgt := 15) hx hb dX1_state_1 (by decide) (fun c_1_1 => ?_) (fun c_1_1 => ?_)
  · refine lv_lconst (v := 0) hx hb dX1_state_15 (by decide) ?_
    exact W.lret (v := 0) hx hb hr (fun t ht hW => ⟨0, rfl, (by unfold fX1_state; rw [if_pos c_1_1]), ht⟩) (fun q h => absurd h List.not_mem_nil) dX1_state_16
  · refine lv_iload_n hx hb dX1_state_4 rfl (lv_at hl 1 rfl) ?_
    refine lv_aload_n hx hb dX1_state_5 rfl (lv_at hl 0 rfl) ?_
    refine va_get (D := (dC, dI)) (ci := 1) (v := .ref l0) (C := RX1) (T := TX1) (N := 5) hx hb hts inX1_X1_state hown hK hP 0 rfl rfl 2 (by decide) (hts (.fieldLink RX1 21 "DigitDivider" "latest" "LDigitDivider$Division;") (by decide +kernel)) (fun _ h9 => h9) rfl dX1_state_6 ?_
    refine va_getN (D := (dC, dI)) (ci := 0) (v := .int (dv9 SL)) (C := RX0) (T := TX0) (N := 14) hx hb hts inX0_X1_state hown hK hP 1 rfl rfl 9 (by decide) (va_Nw.use rfl (nw_9 hNw)) (fun _ h9 => h9) rfl dX1_state_9 ?_
    refine lv_icmp_le (tgt := 17) hx hb dX1_state_12 (by decide) (fun c_12_2 => ?_) (fun c_12_2 => ?_)
    · refine lv_iload_n hx hb dX1_state_17 rfl (lv_at hl 2 rfl) ?_
      by_cases sw3_0 : p1 = 0
      · refine lv_tableIn (off := 30) (tgt := 48) hx hb dX1_state_18 (by rw [sw3_0]; decide) (by rw [sw3_0]; decide) (by rw [sw3_0]; rfl) (by decide) ?_
        refine lv_aload_n hx hb dX1_state_48 rfl (lv_at hl 0 rfl) ?_
        refine va_get (D := (dC, dI)) (ci := 1) (v := .ref l0) (C := RX1) (T := TX1) (N := 5) hx hb hts inX1_X1_state hown hK hP 0 rfl rfl 2 (by decide) (hts (.fieldLink RX1 21 "DigitDivider" "latest" "LDigitDivider$Division;") (by decide +kernel)) (fun _ h9 => h9) rfl dX1_state_49 ?_
        refine va_getN (D := (dC, dI)) (ci := 0) (v := .ref l3) (C := RX0) (T := TX0) (N := 14) hx hb hts inX0_X1_state hown hK hP 1 rfl rfl 2 (by decide) (va_Nw.use rfl (nw_2 hNw)) (fun _ h9 => h9) rfl dX1_state_52 ?_
        refine lv_iload_n hx hb dX1_state_55 rfl (lv_at hl 1 rfl) ?_
        refine va_lald hx hb hK hP 4 1 rfl rfl (st_in0 hnn hn c_1_1 c_12_2) dX1_state_56 ?_
        exact W.lret (v := (dv2 SL) p0.toNatClampNeg) hx hb hr (fun t ht hW => ⟨(dv2 SL) p0.toNatClampNeg, rfl, (by unfold fX1_state; rw [if_neg c_1_1, if_pos c_12_2, if_pos sw3_0]), ht⟩) (fun q h => absurd h List.not_mem_nil) dX1_state_57
      by_cases sw3_1 : p1 = 1
      · refine lv_tableIn (off := 40) (tgt := 58) hx hb dX1_state_18 (by rw [sw3_1]; decide) (by rw [sw3_1]; decide) (by rw [sw3_1]; rfl) (by decide) ?_
        refine lv_aload_n hx hb dX1_state_58 rfl (lv_at hl 0 rfl) ?_
        refine va_get (D := (dC, dI)) (ci := 1) (v := .ref l0) (C := RX1) (T := TX1) (N := 5) hx hb hts inX1_X1_state hown hK hP 0 rfl rfl 2 (by decide) (hts (.fieldLink RX1 21 "DigitDivider" "latest" "LDigitDivider$Division;") (by decide +kernel)) (fun _ h9 => h9) rfl dX1_state_59 ?_
        refine va_getN (D := (dC, dI)) (ci := 0) (v := .ref l4) (C := RX0) (T := TX0) (N := 14) hx hb hts inX0_X1_state hown hK hP 1 rfl rfl 3 (by decide) (va_Nw.use rfl (nw_3 hNw)) (fun _ h9 => h9) rfl dX1_state_62 ?_
        refine lv_iload_n hx hb dX1_state_65 rfl (lv_at hl 1 rfl) ?_
        refine va_lald hx hb hK hP 5 1 rfl rfl (st_in0 hnn hn c_1_1 c_12_2) dX1_state_66 ?_
        exact W.lret (v := (dv3 SL) p0.toNatClampNeg) hx hb hr (fun t ht hW => ⟨(dv3 SL) p0.toNatClampNeg, rfl, (by unfold fX1_state; rw [if_neg c_1_1, if_pos c_12_2, if_neg sw3_0, if_pos sw3_1]), ht⟩) (fun q h => absurd h List.not_mem_nil) dX1_state_67
      by_cases sw3_2 : p1 = 2
      · refine lv_tableIn (off := 50) (tgt := 68) hx hb dX1_state_18 (by rw [sw3_2]; decide) (by rw [sw3_2]; decide) (by rw [sw3_2]; rfl) (by decide) ?_
        refine lv_aload_n hx hb dX1_state_68 rfl (lv_at hl 0 rfl) ?_
        refine va_get (D := (dC, dI)) (ci := 1) (v := .ref l0) (C := RX1) (T := TX1) (N := 5) hx hb hts inX1_X1_state hown hK hP 0 rfl rfl 2 (by decide) (hts (.fieldLink RX1 21 "DigitDivider" "latest" "LDigitDivider$Division;") (by decide +kernel)) (fun _ h9 => h9) rfl dX1_state_69 ?_
        refine va_getN (D := (dC, dI)) (ci := 0) (v := .ref l5) (C := RX0) (T := TX0) (N := 14) hx hb hts inX0_X1_state hown hK hP 1 rfl rfl 4 (by decide) (va_Nw.use rfl (nw_4 hNw)) (fun _ h9 => h9) rfl dX1_state_72 ?_
        refine lv_iload_n hx hb dX1_state_75 rfl (lv_at hl 1 rfl) ?_
        refine va_lald hx hb hK hP 6 1 rfl rfl (st_in0 hnn hn c_1_1 c_12_2) dX1_state_76 ?_
        exact W.lret (v := (dv4 SL) p0.toNatClampNeg) hx hb hr (fun t ht hW => ⟨(dv4 SL) p0.toNatClampNeg, rfl, (by unfold fX1_state; rw [if_neg c_1_1, if_pos c_12_2, if_neg sw3_0, if_neg sw3_1, if_pos sw3_2]), ht⟩) (fun q h => absurd h List.not_mem_nil) dX1_state_77
      by_cases sw3_3 : p1 = 3
      · refine lv_tableIn (off := 60) (tgt := 78) hx hb dX1_state_18 (by rw [sw3_3]; decide) (by rw [sw3_3]; decide) (by rw [sw3_3]; rfl) (by decide) ?_
        refine lv_aload_n hx hb dX1_state_78 rfl (lv_at hl 0 rfl) ?_
        refine va_get (D := (dC, dI)) (ci := 1) (v := .ref l0) (C := RX1) (T := TX1) (N := 5) hx hb hts inX1_X1_state hown hK hP 0 rfl rfl 2 (by decide) (hts (.fieldLink RX1 21 "DigitDivider" "latest" "LDigitDivider$Division;") (by decide +kernel)) (fun _ h9 => h9) rfl dX1_state_79 ?_
        refine va_getN (D := (dC, dI)) (ci := 0) (v := .ref l6) (C := RX0) (T := TX0) (N := 14) hx hb hts inX0_X1_state hown hK hP 1 rfl rfl 5 (by decide) (va_Nw.use rfl (nw_5 hNw)) (fun _ h9 => h9) rfl dX1_state_82 ?_
        refine lv_iload_n hx hb dX1_state_85 rfl (lv_at hl 1 rfl) ?_
        refine va_lald hx hb hK hP 7 1 rfl rfl (st_in0 hnn hn c_1_1 c_12_2) dX1_state_86 ?_
        exact W.lret (v := (dv5 SL) p0.toNatClampNeg) hx hb hr (fun t ht hW => ⟨(dv5 SL) p0.toNatClampNeg, rfl, (by unfold fX1_state; rw [if_neg c_1_1, if_pos c_12_2, if_neg sw3_0, if_neg sw3_1, if_neg sw3_2, if_pos sw3_3]), ht⟩) (fun q h => absurd h List.not_mem_nil) dX1_state_87
      refine lv_tableOut (tgt := 88) hx hb dX1_state_18 (by have z0 := ax_ne sw3_0 (z := 0) (by decide); have z1 := ax_ne sw3_1 (z := 1) (by decide); have z2 := ax_ne sw3_2 (z := 2) (by decide); have z3 := ax_ne sw3_3 (z := 3) (by decide); omega) (by decide) ?_
      refine lv_lconst (v := 0) hx hb dX1_state_88 (by decide) ?_
      exact W.lret (v := 0) hx hb hr (fun t ht hW => ⟨0, rfl, (by unfold fX1_state; rw [if_neg c_1_1, if_pos c_12_2, if_neg sw3_0, if_neg sw3_1, if_neg sw3_2, if_neg sw3_3]), ht⟩) (fun q h => absurd h List.not_mem_nil) dX1_state_89
    · refine lv_lconst (v := 0) hx hb dX1_state_15 (by decide) ?_
      exact W.lret (v := 0) hx hb hr (fun t ht hW => ⟨0, rfl, (by unfold fX1_state; rw [if_neg c_1_1, if_neg c_12_2]), ht⟩) (fun q h => absurd h List.not_mem_nil) dX1_state_16

def st_swX1 (M : Nat → Nat → Int32) (ui : Int32) (p0 : Int32) (p2 : Int32) (i : Nat) (w0 : Int32) (w1 : DV) : Int32 × DV := (if (dv12 (gX0_run w1 (M ui.toNatClampNeg) (p0 + (nI i)) p2)) = ((p0 + (nI i)) / p2) then (if (dv13 (gX0_run w1 (M ui.toNatClampNeg) (p0 + (nI i)) p2)) = ((p0 + (nI i)) - (p0 + (nI i)) / p2 * p2) then (w0, (gX0_run w1 (M ui.toNatClampNeg) (p0 + (nI i)) p2)) else (w0 + 1, (gX0_run w1 (M ui.toNatClampNeg) (p0 + (nI i)) p2))) else (w0 + 1, (gX0_run w1 (M ui.toNatClampNeg) (p0 + (nI i)) p2)))
def it_swX1 (M : Nat → Nat → Int32) (SS : DV) (ui : Int32) (p0 : Int32) (p2 : Int32) : Nat → Int32 × DV
  | 0 => ((0 : Int32), SS)
  | i + 1 => st_swX1 M ui p0 p2 i (it_swX1 M SS ui p0 p2 i).1 (it_swX1 M SS ui p0 p2 i).2
def gX1_sweep (M : Nat → Nat → Int32) (SS : DV) (ui : Int32) (p0 : Int32) (p1 : Int32) (p2 : Int32) : Int32 × DV := (if p1 < 1 then ((-1), SS) else (if 300 < p1 then ((-1), SS) else (if p2 = 0 then ((-1), SS) else ((it_swX1 M SS ui p0 p2 p1.toNatClampNeg).1, (it_swX1 M SS ui p0 p2 p1.toNatClampNeg).2))))
theorem inX0_X1_sweep : ∀ w ∈ wsX00, w ∈ wsX1_sweep := by decide +kernel
theorem inX1_X1_sweep : ∀ w ∈ wsX10, w ∈ wsX1_sweep := by decide +kernel
set_option maxHeartbeats 4000000 in
set_option maxRecDepth 100000 in
theorem kX1_sweep (l : Launch) (dC : Nat → ClassId) (dI : Nat → Nat → Nat) (o0 : Nat) (oT : Nat) (oG : Nat) (l0 : Nat) (s0 : Nat) (s1 : Nat) (s2 : Nat) (s3 : Nat) (s4 : Nat) (s5 : Nat) (s6 : Nat) (r : Nat → Nat) (cI : ClassId) (cJ : ClassId) (cT : ClassId) (sz : Nat) (M : Nat → Nat → Int32) (SS : DV) (ui : Int32) (p0 : Int32) (p1 : Int32) (p2 : Int32) (hu : vp_in ui 4) : Met l yX1_sweep wsX1_sweep ({ frames := 3, cells := 0, slots := 0, locals := 89 } : Room) (va_Pc [.ref o0, .int p0, .int p1, .int p2] (fun U => U.heap.size = sz ∧ va_P (dC, dI) vwCl [(o0, .inr (1, [.ref oT, .ref oG, .ref l0, .ref s0, .int ui])), (oT, .inl (cT, 4, .inr (.inr (.inr (.inr (ax_rows r)))))), (r 0, .inl (cI, 2048, .inl (M 0))), (r 1, .inl (cI, 2048, .inl (M 1))), (r 2, .inl (cI, 2048, .inl (M 2))), (r 3, .inl (cI, 2048, .inl (M 3))), (s0, .inr (0, [.ref s1, .ref s2, .ref s3, .ref s4, .ref s5, .ref s6, .int (dv6 SS), .int (dv7 SS), .int (dv8 SS), .int (dv9 SS), .int (dv10 SS), .int (dv11 SS), .int (dv12 SS), .int (dv13 SS)])), (s1, .inl (cI, 18, .inl (dv0 SS))), (s2, .inl (cI, 18, .inl (dv1 SS))), (s3, .inl (cJ, 18, .inr (.inl (dv2 SS)))), (s4, .inl (cJ, 18, .inr (.inl (dv3 SS)))), (s5, .inl (cJ, 18, .inr (.inl (dv4 SS)))), (s6, .inl (cJ, 18, .inr (.inl (dv5 SS))))] U.heap ∧ va_K (dC, dI) vwCl [(cI, .int), (cJ, .long), (cT, .array .int)] U ∧ va_D (fun _ => True) [(o0, .inr (1, [.ref oT, .ref oG, .ref l0, .ref s0, .int ui])), (oT, .inl (cT, 4, .inr (.inr (.inr (.inr (ax_rows r)))))), (r 0, .inl (cI, 2048, .inl (M 0))), (r 1, .inl (cI, 2048, .inl (M 1))), (r 2, .inl (cI, 2048, .inl (M 2))), (r 3, .inl (cI, 2048, .inl (M 3))), (s0, .inr (0, [.ref s1, .ref s2, .ref s3, .ref s4, .ref s5, .ref s6, .int (dv6 SS), .int (dv7 SS), .int (dv8 SS), .int (dv9 SS), .int (dv10 SS), .int (dv11 SS), .int (dv12 SS), .int (dv13 SS)])), (s1, .inl (cI, 18, .inl (dv0 SS))), (s2, .inl (cI, 18, .inl (dv1 SS))), (s3, .inl (cJ, 18, .inr (.inl (dv2 SS)))), (s4, .inl (cJ, 18, .inr (.inl (dv3 SS)))), (s5, .inl (cJ, 18, .inr (.inl (dv4 SS)))), (s6, .inl (cJ, 18, .inr (.inl (dv5 SS))))] ∧ nwX U)) (va_Qi (fun (r : Int32) (u : DV) => r = (gX1_sweep M SS ui p0 p1 p2).1 ∧ u = (gX1_sweep M SS ui p0 p1 p2).2) (fun (u : DV) (t : State) => va_P (dC, dI) vwCl [(o0, .inr (1, [.ref oT, .ref oG, .ref l0, .ref s0, .int ui])), (oT, .inl (cT, 4, .inr (.inr (.inr (.inr (ax_rows r)))))), (r 0, .inl (cI, 2048, .inl (M 0))), (r 1, .inl (cI, 2048, .inl (M 1))), (r 2, .inl (cI, 2048, .inl (M 2))), (r 3, .inl (cI, 2048, .inl (M 3))), (s0, .inr (0, [.ref s1, .ref s2, .ref s3, .ref s4, .ref s5, .ref s6, .int (dv6 u), .int (dv7 u), .int (dv8 u), .int (dv9 u), .int (dv10 u), .int (dv11 u), .int (dv12 u), .int (dv13 u)])), (s1, .inl (cI, 18, .inl (dv0 u))), (s2, .inl (cI, 18, .inl (dv1 u))), (s3, .inl (cJ, 18, .inr (.inl (dv2 u)))), (s4, .inl (cJ, 18, .inr (.inl (dv3 u)))), (s5, .inl (cJ, 18, .inr (.inl (dv4 u)))), (s6, .inl (cJ, 18, .inr (.inl (dv5 u))))] t.heap ∧ va_K (dC, dI) vwCl [(cI, .int), (cJ, .long), (cT, .array .int)] t ∧ va_D (va_A [(o0, .inr (1, [.ref oT, .ref oG, .ref l0, .ref s0, .int ui])), (oT, .inl (cT, 4, .inr (.inr (.inr (.inr (ax_rows r)))))), (r 0, .inl (cI, 2048, .inl (M 0))), (r 1, .inl (cI, 2048, .inl (M 1))), (r 2, .inl (cI, 2048, .inl (M 2))), (r 3, .inl (cI, 2048, .inl (M 3))), (s0, .inr (0, [.ref s1, .ref s2, .ref s3, .ref s4, .ref s5, .ref s6, .int (dv6 SS), .int (dv7 SS), .int (dv8 SS), .int (dv9 SS), .int (dv10 SS), .int (dv11 SS), .int (dv12 SS), .int (dv13 SS)])), (s1, .inl (cI, 18, .inl (dv0 SS))), (s2, .inl (cI, 18, .inl (dv1 SS))), (s3, .inl (cJ, 18, .inr (.inl (dv2 SS)))), (s4, .inl (cJ, 18, .inr (.inl (dv3 SS)))), (s5, .inl (cJ, 18, .inr (.inl (dv4 SS)))), (s6, .inl (cJ, 18, .inr (.inl (dv5 SS))))] sz) [(o0, .inr (1, [.ref oT, .ref oG, .ref l0, .ref s0, .int ui])), (oT, .inl (cT, 4, .inr (.inr (.inr (.inr (ax_rows r)))))), (r 0, .inl (cI, 2048, .inl (M 0))), (r 1, .inl (cI, 2048, .inl (M 1))), (r 2, .inl (cI, 2048, .inl (M 2))), (r 3, .inl (cI, 2048, .inl (M 3))), (s0, .inr (0, [.ref s1, .ref s2, .ref s3, .ref s4, .ref s5, .ref s6, .int (dv6 u), .int (dv7 u), .int (dv8 u), .int (dv9 u), .int (dv10 u), .int (dv11 u), .int (dv12 u), .int (dv13 u)])), (s1, .inl (cI, 18, .inl (dv0 u))), (s2, .inl (cI, 18, .inl (dv1 u))), (s3, .inl (cJ, 18, .inr (.inl (dv2 u)))), (s4, .inl (cJ, 18, .inr (.inl (dv3 u)))), (s5, .inl (cJ, 18, .inr (.inl (dv4 u)))), (s6, .inl (cJ, 18, .inr (.inl (dv5 u))))]) (va_A [(o0, .inr (1, [.ref oT, .ref oG, .ref l0, .ref s0, .int ui])), (oT, .inl (cT, 4, .inr (.inr (.inr (.inr (ax_rows r)))))), (r 0, .inl (cI, 2048, .inl (M 0))), (r 1, .inl (cI, 2048, .inl (M 1))), (r 2, .inl (cI, 2048, .inl (M 2))), (r 3, .inl (cI, 2048, .inl (M 3))), (s0, .inr (0, [.ref s1, .ref s2, .ref s3, .ref s4, .ref s5, .ref s6, .int (dv6 SS), .int (dv7 SS), .int (dv8 SS), .int (dv9 SS), .int (dv10 SS), .int (dv11 SS), .int (dv12 SS), .int (dv13 SS)])), (s1, .inl (cI, 18, .inl (dv0 SS))), (s2, .inl (cI, 18, .inl (dv1 SS))), (s3, .inl (cJ, 18, .inr (.inl (dv2 SS)))), (s4, .inl (cJ, 18, .inr (.inl (dv3 SS)))), (s5, .inl (cJ, 18, .inr (.inl (dv4 SS)))), (s6, .inl (cJ, 18, .inr (.inl (dv5 SS))))] sz)) 0 0 (va_A [(o0, .inr (1, [.ref oT, .ref oG, .ref l0, .ref s0, .int ui])), (oT, .inl (cT, 4, .inr (.inr (.inr (.inr (ax_rows r)))))), (r 0, .inl (cI, 2048, .inl (M 0))), (r 1, .inl (cI, 2048, .inl (M 1))), (r 2, .inl (cI, 2048, .inl (M 2))), (r 3, .inl (cI, 2048, .inl (M 3))), (s0, .inr (0, [.ref s1, .ref s2, .ref s3, .ref s4, .ref s5, .ref s6, .int (dv6 SS), .int (dv7 SS), .int (dv8 SS), .int (dv9 SS), .int (dv10 SS), .int (dv11 SS), .int (dv12 SS), .int (dv13 SS)])), (s1, .inl (cI, 18, .inl (dv0 SS))), (s2, .inl (cI, 18, .inl (dv1 SS))), (s3, .inl (cJ, 18, .inr (.inl (dv2 SS)))), (s4, .inl (cJ, 18, .inr (.inl (dv3 SS)))), (s5, .inl (cJ, 18, .inr (.inl (dv4 SS)))), (s6, .inl (cJ, 18, .inr (.inl (dv5 SS))))] sz) := by
  refine Met.ofW (cc := cX1_sweep) (maxL := 7) (ret := (some .int)) (by decide) rfl ?_
  intro p e s m args below meth c s₁ B hml hv
  obtain ⟨rfl, hsz, hP, hK, hD0, hNw⟩ := hv
  have hx := B.exec
  have hb := B.bytes
  have hr := B.returns
  have hts := atoms_spec (ws := wsX1_sweep) B.pre
  have hown : s.vm.findClass RX1 = some m.cls := findClass_of_methodNamed B.named
  have hlocks := B.notSynchronized
  subst hsz
  have hD := hD0.self (sz := s.heap.size)
  generalize hAe : va_A [(o0, .inr (1, [.ref oT, .ref oG, .ref l0, .ref s0, .int ui])), (oT, .inl (cT, 4, .inr (.inr (.inr (.inr (ax_rows r)))))), (r 0, .inl (cI, 2048, .inl (M 0))), (r 1, .inl (cI, 2048, .inl (M 1))), (r 2, .inl (cI, 2048, .inl (M 2))), (r 3, .inl (cI, 2048, .inl (M 3))), (s0, .inr (0, [.ref s1, .ref s2, .ref s3, .ref s4, .ref s5, .ref s6, .int (dv6 SS), .int (dv7 SS), .int (dv8 SS), .int (dv9 SS), .int (dv10 SS), .int (dv11 SS), .int (dv12 SS), .int (dv13 SS)])), (s1, .inl (cI, 18, .inl (dv0 SS))), (s2, .inl (cI, 18, .inl (dv1 SS))), (s3, .inl (cJ, 18, .inr (.inl (dv2 SS)))), (s4, .inl (cJ, 18, .inr (.inl (dv3 SS)))), (s5, .inl (cJ, 18, .inr (.inl (dv4 SS)))), (s6, .inl (cJ, 18, .inr (.inl (dv5 SS))))] s.heap.size = A at hD  ⊢
  have hA : ∀ q : Nat, s.heap.size ≤ q → A q := fun q h => by rw [← hAe]; exact Or.inr h
  have hS : va_S A s.heap s.heap [] := va_S.rf
  have hP : va_P (dC, dI) vwCl [(o0, .inr (1, [.ref oT, .ref oG, .ref l0, .ref s0, .int ui])), (oT, .inl (cT, 4, .inr (.inr (.inr (.inr (ax_rows r)))))), (r 0, .inl (cI, 2048, .inl (M 0))), (r 1, .inl (cI, 2048, .inl (M 1))), (r 2, .inl (cI, 2048, .inl (M 2))), (r 3, .inl (cI, 2048, .inl (M 3))), (s0, .inr (0, [.ref s1, .ref s2, .ref s3, .ref s4, .ref s5, .ref s6, .int (dv6 SS), .int (dv7 SS), .int (dv8 SS), .int (dv9 SS), .int (dv10 SS), .int (dv11 SS), .int (dv12 SS), .int (dv13 SS)])), (s1, .inl (cI, 18, .inl (dv0 SS))), (s2, .inl (cI, 18, .inl (dv1 SS))), (s3, .inl (cJ, 18, .inr (.inl (dv2 SS)))), (s4, .inl (cJ, 18, .inr (.inl (dv3 SS)))), (s5, .inl (cJ, 18, .inr (.inl (dv4 SS)))), (s6, .inl (cJ, 18, .inr (.inl (dv5 SS))))] s.heap := hP
  have hl := lv_entry ([.ref o0, .int p0, .int p1, .int p2]) (n := 7) (Nat.le_of_ble_eq_true rfl)
  rw [lg_entry_eq]
  generalize (lg_sl ([.ref o0, .int p0, .int p1, .int p2]) ++ List.replicate (7 - (lg_sl ([.ref o0, .int p0, .int p1, .int p2])).length) Slot.unset).toArray = ls at hl ⊢
  have hl : lv_has ls 7 [(0, .ref o0), (1, .int p0), (2, .int p1), (3, .int p2)] := hl
  refine lv_iload_n hx hb dX1_sweep_0 rfl (lv_at hl 2 rfl) ?_
  refine lv_iconst (v := 1) hx hb dX1_sweep_1 (by decide) ?_
  refine lv_icmp_lt (tgt := 16) hx hb dX1_sweep_2 (by decide) (fun c_2_1 => ?_) (fun c_2_1 => ?_)
  · refine lv_iconst (v := (-1)) hx hb dX1_sweep_16 (by decide) ?_
    have hg : (gX1_sweep M SS ui p0 p1 p2) = ((-1), SS) := by unfold gX1_sweep; rw [if_pos c_2_1]
    exact W.iret (v := (-1)) hx hb hr (fun t ht hW => ⟨⟨(-1), SS, rfl, ⟨(congrArg Prod.fst hg).symm, (congrArg Prod.snd hg).symm⟩, by rw [ht]; exact hP, va_K.moved hW.alike hK, hD⟩, hS.F ht⟩) hS.2.2 dX1_sweep_17
  · refine lv_iload_n hx hb dX1_sweep_5 rfl (lv_at hl 2 rfl) ?_
    refine lv_sipush (v := 300) hx hb dX1_sweep_6 (by decide) ?_
    refine lv_icmp_gt (tgt := 16) hx hb dX1_sweep_9 (by decide) (fun c_9_2 => ?_) (fun c_9_2 => ?_)
    · refine lv_iconst (v := (-1)) hx hb dX1_sweep_16 (by decide) ?_
      have hg : (gX1_sweep M SS ui p0 p1 p2) = ((-1), SS) := by unfold gX1_sweep; rw [if_neg c_2_1, if_pos c_9_2]
      exact W.iret (v := (-1)) hx hb hr (fun t ht hW => ⟨⟨(-1), SS, rfl, ⟨(congrArg Prod.fst hg).symm, (congrArg Prod.snd hg).symm⟩, by rw [ht]; exact hP, va_K.moved hW.alike hK, hD⟩, hS.F ht⟩) hS.2.2 dX1_sweep_17
    · refine lv_iload_n hx hb dX1_sweep_12 rfl (lv_at hl 3 rfl) ?_
      refine lv_if_ne (tgt := 18) hx hb dX1_sweep_13 (by decide) (fun c_13_3 => ?_) (fun c_13_3 => ?_)
      · obtain ⟨hN1, hN2⟩ := many_C c_2_1 c_9_2
        refine lv_iconst (v := 0) hx hb dX1_sweep_18 (by decide) ?_
        refine lv_istore (lv' := [(4, .int 0), (0, .ref o0), (1, .int p0), (2, .int p1), (3, .int p2)]) hx hb dX1_sweep_19 hl (by decide) rfl (fun ls hl => ?_)
        refine lv_iconst (v := 0) hx hb dX1_sweep_21 (by decide) ?_
        refine lv_istore (lv' := [(5, .int 0), (4, .int 0), (0, .ref o0), (1, .int p0), (2, .int p1), (3, .int p2)]) hx hb dX1_sweep_22 hl (by decide) rfl (fun ls hl => ?_)
        refine ax_loopS (pc := 24) (fun i H locs ls => ∃ w0 : Int32, ∃ w1 : DV, w0 = (it_swX1 M SS ui p0 p2 i).1 ∧ w1 = (it_swX1 M SS ui p0 p2 i).2 ∧ va_P (dC, dI) vwCl [(o0, .inr (1, [.ref oT, .ref oG, .ref l0, .ref s0, .int ui])), (oT, .inl (cT, 4, .inr (.inr (.inr (.inr (ax_rows r)))))), (r 0, .inl (cI, 2048, .inl (M 0))), (r 1, .inl (cI, 2048, .inl (M 1))), (r 2, .inl (cI, 2048, .inl (M 2))), (r 3, .inl (cI, 2048, .inl (M 3))), (s0, .inr (0, [.ref s1, .ref s2, .ref s3, .ref s4, .ref s5, .ref s6, .int (dv6 w1), .int (dv7 w1), .int (dv8 w1), .int (dv9 w1), .int (dv10 w1), .int (dv11 w1), .int (dv12 w1), .int (dv13 w1)])), (s1, .inl (cI, 18, .inl (dv0 w1))), (s2, .inl (cI, 18, .inl (dv1 w1))), (s3, .inl (cJ, 18, .inr (.inl (dv2 w1)))), (s4, .inl (cJ, 18, .inr (.inl (dv3 w1)))), (s5, .inl (cJ, 18, .inr (.inl (dv4 w1)))), (s6, .inl (cJ, 18, .inr (.inl (dv5 w1))))] H ∧ va_D A [(o0, .inr (1, [.ref oT, .ref oG, .ref l0, .ref s0, .int ui])), (oT, .inl (cT, 4, .inr (.inr (.inr (.inr (ax_rows r)))))), (r 0, .inl (cI, 2048, .inl (M 0))), (r 1, .inl (cI, 2048, .inl (M 1))), (r 2, .inl (cI, 2048, .inl (M 2))), (r 3, .inl (cI, 2048, .inl (M 3))), (s0, .inr (0, [.ref s1, .ref s2, .ref s3, .ref s4, .ref s5, .ref s6, .int (dv6 w1), .int (dv7 w1), .int (dv8 w1), .int (dv9 w1), .int (dv10 w1), .int (dv11 w1), .int (dv12 w1), .int (dv13 w1)])), (s1, .inl (cI, 18, .inl (dv0 w1))), (s2, .inl (cI, 18, .inl (dv1 w1))), (s3, .inl (cJ, 18, .inr (.inl (dv2 w1)))), (s4, .inl (cJ, 18, .inr (.inl (dv3 w1)))), (s5, .inl (cJ, 18, .inr (.inl (dv4 w1)))), (s6, .inl (cJ, 18, .inr (.inl (dv5 w1))))] ∧ va_S A s.heap H locs ∧ lv_has ls 7 [(5, .int (nI i)), (4, .int w0), (0, .ref o0), (1, .int p0), (2, .int p1), (3, .int p2)]) p1.toNatClampNeg (fun i hii ihi H locs ls hIi => ?_) ⟨(0 : Int32), SS, rfl, rfl, hP, hD, hS, lv_sub hl [0, 1, 2, 3, 4, 5] rfl⟩
        obtain ⟨w0, w1, ew0, ew1, hP, hD, hS, hl⟩ := hIi
        have hP : va_P (dC, dI) vwCl [(o0, .inr (1, [.ref oT, .ref oG, .ref l0, .ref s0, .int ui])), (oT, .inl (cT, 4, .inr (.inr (.inr (.inr (ax_rows r)))))), (r 0, .inl (cI, 2048, .inl (M 0))), (r 1, .inl (cI, 2048, .inl (M 1))), (r 2, .inl (cI, 2048, .inl (M 2))), (r 3, .inl (cI, 2048, .inl (M 3))), (s0, .inr (0, [.ref s1, .ref s2, .ref s3, .ref s4, .ref s5, .ref s6, .int (dv6 w1), .int (dv7 w1), .int (dv8 w1), .int (dv9 w1), .int (dv10 w1), .int (dv11 w1), .int (dv12 w1), .int (dv13 w1)])), (s1, .inl (cI, 18, .inl (dv0 w1))), (s2, .inl (cI, 18, .inl (dv1 w1))), (s3, .inl (cJ, 18, .inr (.inl (dv2 w1)))), (s4, .inl (cJ, 18, .inr (.inl (dv3 w1)))), (s5, .inl (cJ, 18, .inr (.inl (dv4 w1)))), (s6, .inl (cJ, 18, .inr (.inl (dv5 w1))))] H := hP
        have hD : va_D A [(o0, .inr (1, [.ref oT, .ref oG, .ref l0, .ref s0, .int ui])), (oT, .inl (cT, 4, .inr (.inr (.inr (.inr (ax_rows r)))))), (r 0, .inl (cI, 2048, .inl (M 0))), (r 1, .inl (cI, 2048, .inl (M 1))), (r 2, .inl (cI, 2048, .inl (M 2))), (r 3, .inl (cI, 2048, .inl (M 3))), (s0, .inr (0, [.ref s1, .ref s2, .ref s3, .ref s4, .ref s5, .ref s6, .int (dv6 w1), .int (dv7 w1), .int (dv8 w1), .int (dv9 w1), .int (dv10 w1), .int (dv11 w1), .int (dv12 w1), .int (dv13 w1)])), (s1, .inl (cI, 18, .inl (dv0 w1))), (s2, .inl (cI, 18, .inl (dv1 w1))), (s3, .inl (cJ, 18, .inr (.inl (dv2 w1)))), (s4, .inl (cJ, 18, .inr (.inl (dv3 w1)))), (s5, .inl (cJ, 18, .inr (.inl (dv4 w1)))), (s6, .inl (cJ, 18, .inr (.inl (dv5 w1))))] := hD
        refine lv_iload hx hb dX1_sweep_24 (lv_at hl 0 rfl) ?_
        refine lv_iload_n hx hb dX1_sweep_26 rfl (lv_at hl 4 rfl) ?_
        refine lv_icmp_ge (tgt := 92) hx hb dX1_sweep_27 (by decide) (fun c_27_4 => ?_) (fun c_27_4 => ?_)
        · obtain rfl : i = p1.toNatClampNeg := ax_end hN1 (by omega) hii c_27_4
          subst ew0
          subst ew1
          refine lv_iload hx hb dX1_sweep_92 (lv_at hl 1 rfl) ?_
          have hg : (gX1_sweep M SS ui p0 p1 p2) = ((it_swX1 M SS ui p0 p2 p1.toNatClampNeg).1, (it_swX1 M SS ui p0 p2 p1.toNatClampNeg).2) := by unfold gX1_sweep; rw [if_neg c_2_1, if_neg c_9_2, if_neg c_13_3]
          exact W.iret (v := (it_swX1 M SS ui p0 p2 p1.toNatClampNeg).1) hx hb hr (fun t ht hW => ⟨⟨(it_swX1 M SS ui p0 p2 p1.toNatClampNeg).1, (it_swX1 M SS ui p0 p2 p1.toNatClampNeg).2, rfl, ⟨(congrArg Prod.fst hg).symm, (congrArg Prod.snd hg).symm⟩, by rw [ht]; exact hP, va_K.moved hW.alike hK, hD⟩, hS.F ht⟩) hS.2.2 dX1_sweep_94
        · have hlti : i < p1.toNatClampNeg := ax_more hN1 (by omega) hii c_27_4
          refine lv_iload_n hx hb dX1_sweep_30 rfl (lv_at hl 3 rfl) ?_
          refine lv_iload hx hb dX1_sweep_31 (lv_at hl 0 rfl) ?_
          refine lv_iadd hx hb dX1_sweep_33 ?_
          refine lv_istore (lv' := [(6, .int (p0 + (nI i))), (5, .int (nI i)), (4, .int w0), (0, .ref o0), (1, .int p0), (2, .int p1), (3, .int p2)]) hx hb dX1_sweep_34 hl (by decide) rfl (fun ls hl => ?_)
          refine lv_aload_n hx hb dX1_sweep_36 rfl (lv_at hl 3 rfl) ?_
          refine va_get (D := (dC, dI)) (ci := 1) (v := .ref s0) (C := RX1) (T := TX1) (N := 5) hx hb hts inX1_X1_sweep hown hK hP 0 rfl rfl 3 (by decide) (hts (.fieldLink RX1 25 "DigitDivider" "swept" "LDigitDivider$Division;") (by decide +kernel)) (fun _ h9 => h9) rfl dX1_sweep_37 ?_
          refine lv_iload hx hb dX1_sweep_40 (lv_at hl 0 rfl) ?_
          refine lv_iload_n hx hb dX1_sweep_42 rfl (lv_at hl 6 rfl) ?_
          refine lv_aload_n hx hb dX1_sweep_43 rfl (lv_at hl 3 rfl) ?_
          refine va_get (D := (dC, dI)) (ci := 1) (v := .ref oT) (C := RX1) (T := TX1) (N := 5) hx hb hts inX1_X1_sweep hown hK hP 0 rfl rfl 0 (by decide) (hts (.fieldLink RX1 11 "DigitDivider" "tables" "[[I") (by decide +kernel)) (fun _ h9 => h9) rfl dX1_sweep_44 ?_
          refine lv_aload_n hx hb dX1_sweep_47 rfl (lv_at hl 3 rfl) ?_
          refine va_get (D := (dC, dI)) (ci := 1) (v := .int ui) (C := RX1) (T := TX1) (N := 5) hx hb hts inX1_X1_sweep hown hK hP 0 rfl rfl 4 (by decide) (hts (.fieldLink RX1 28 "DigitDivider" "inUse" "I") (by decide +kernel)) (fun _ h9 => h9) rfl dX1_sweep_48 ?_
          have h4_5 : ui.toNatClampNeg < 4 := ax_lt4 hu
          refine ax_aald (r := r) hx hb hK hP 1 2 rfl rfl hu dX1_sweep_51 ?_
          have hPc := hP.sub (ws' := [(s0, .inr (0, [.ref s1, .ref s2, .ref s3, .ref s4, .ref s5, .ref s6, .int (dv6 w1), .int (dv7 w1), .int (dv8 w1), .int (dv9 w1), .int (dv10 w1), .int (dv11 w1), .int (dv12 w1), .int (dv13 w1)])), (s1, .inl (cI, 18, .inl (dv0 w1))), (s2, .inl (cI, 18, .inl (dv1 w1))), (s3, .inl (cJ, 18, .inr (.inl (dv2 w1)))), (s4, .inl (cJ, 18, .inr (.inl (dv3 w1)))), (s5, .inl (cJ, 18, .inr (.inl (dv4 w1)))), (s6, .inl (cJ, 18, .inr (.inl (dv5 w1))))]) [6, 7, 8, 9, 10, 11, 12] rfl
          have hKc := hK.sub (tys' := [(cI, .int), (cJ, .long)]) [0, 1] rfl
          have hDc := hD.sub (ws' := [(s0, .inr (0, [.ref s1, .ref s2, .ref s3, .ref s4, .ref s5, .ref s6, .int (dv6 w1), .int (dv7 w1), .int (dv8 w1), .int (dv9 w1), .int (dv10 w1), .int (dv11 w1), .int (dv12 w1), .int (dv13 w1)])), (s1, .inl (cI, 18, .inl (dv0 w1))), (s2, .inl (cI, 18, .inl (dv1 w1))), (s3, .inl (cJ, 18, .inr (.inl (dv2 w1)))), (s4, .inl (cJ, 18, .inr (.inl (dv3 w1)))), (s5, .inl (cJ, 18, .inr (.inl (dv4 w1)))), (s6, .inl (cJ, 18, .inr (.inl (dv5 w1))))]) [6, 7, 8, 9, 10, 11, 12] (by decide) rfl
          have hFc := va_free (wc := [(s0, .inr (0, [.ref s1, .ref s2, .ref s3, .ref s4, .ref s5, .ref s6, .int (dv6 w1), .int (dv7 w1), .int (dv8 w1), .int (dv9 w1), .int (dv10 w1), .int (dv11 w1), .int (dv12 w1), .int (dv13 w1)])), (s1, .inl (cI, 18, .inl (dv0 w1))), (s2, .inl (cI, 18, .inl (dv1 w1))), (s3, .inl (cJ, 18, .inr (.inl (dv2 w1)))), (s4, .inl (cJ, 18, .inr (.inl (dv3 w1)))), (s5, .inl (cJ, 18, .inr (.inl (dv4 w1)))), (s6, .inl (cJ, 18, .inr (.inl (dv5 w1))))]) hD hS hA [6, 7, 8, 9, 10, 11, 12] rfl
          refine va_callv (va_runVN (As := [.int (p0 + (nI i)), .int p2, .ref (r ui.toNatClampNeg)]) (rest := []) ⟨hx, hb, hml, hown, hts⟩ (kX0_run l dC dI s0 s1 s2 s3 s4 s5 s6 cI cJ H.size w1 (M ui.toNatClampNeg) (p0 + (nI i)) p2 (r ui.toNatClampNeg) c_13_3) ⟨va_cnB 3 hts gX1_sweep_X0_run_n64 rfl rfl rfl (nw_15 hNw) (hts (.initialized RX0) (by decide +kernel)) (by decide +kernel) ⟨Nat.le_of_ble_eq_true rfl, Nat.le_of_ble_eq_true rfl⟩, hts (.instanceMethod yX0_run) (by decide +kernel), hts (.selects RX0 yX0_run yX0_run) (by decide +kernel)⟩ ⟨fun a U g mk q => by obtain ⟨q0, q1, qP, qK, qD, e5, e6⟩ := q; exact ⟨q0, q1, qP, va_K.moved (u := U) (U := U.calling g mk a) (Vm.Alike.refl U.vm) qK, qD, nw_same (u := U) (U := U.calling g mk a) rfl e5, e6⟩, va_recv hKc hPc (ci := 0) (q0 := 0) rfl rfl, fun U hU hW => ⟨rfl, by rw [hU], by rw [hU]; exact hPc, va_K.moved hW.alike hKc, hDc.weaken (fun _ _ _ _ => trivial), nw_warm hW hNw, by rw [hU]; exact va_T.moved hW.alike (ax_ro hK 0 rfl hP hD (2 + ui.toNatClampNeg) (ax_get (r := r) (M := M) h4_5) [6, 7, 8, 9, 10, 11, 12] rfl (by intro h9; simp at h9; omega) (by decide))⟩⟩ rfl rfl hl.1 rfl (lv_room (Nat.le_of_ble_eq_true rfl)) dX1_sweep_52 ⟨Nat.zero_le _, Nat.zero_le _⟩) hS (fun q _ h => hFc q h) hFc (fun u_6 t H1 locs ht hvm hw hB hz1 hk1 hS => ?_)
          try dsimp only at hw
          subst hw
          obtain ⟨hP1, hK1, hD1⟩ := hB
          rw [ht] at hP1
          have hK1 := va_K.moved hvm.symm hK1
          obtain ⟨hP, hD⟩ := va_join (wr := [(o0, .inr (1, [.ref oT, .ref oG, .ref l0, .ref s0, .int ui])), (oT, .inl (cT, 4, .inr (.inr (.inr (.inr (ax_rows r)))))), (r 0, .inl (cI, 2048, .inl (M 0))), (r 1, .inl (cI, 2048, .inl (M 1))), (r 2, .inl (cI, 2048, .inl (M 2))), (r 3, .inl (cI, 2048, .inl (M 3)))]) (w1 := [(s0, .inr (0, [.ref s1, .ref s2, .ref s3, .ref s4, .ref s5, .ref s6, .int (dv6 (gX0_run w1 (M ui.toNatClampNeg) (p0 + (nI i)) p2)), .int (dv7 (gX0_run w1 (M ui.toNatClampNeg) (p0 + (nI i)) p2)), .int (dv8 (gX0_run w1 (M ui.toNatClampNeg) (p0 + (nI i)) p2)), .int (dv9 (gX0_run w1 (M ui.toNatClampNeg) (p0 + (nI i)) p2)), .int (dv10 (gX0_run w1 (M ui.toNatClampNeg) (p0 + (nI i)) p2)), .int (dv11 (gX0_run w1 (M ui.toNatClampNeg) (p0 + (nI i)) p2)), .int (dv12 (gX0_run w1 (M ui.toNatClampNeg) (p0 + (nI i)) p2)), .int (dv13 (gX0_run w1 (M ui.toNatClampNeg) (p0 + (nI i)) p2))])), (s1, .inl (cI, 18, .inl (dv0 (gX0_run w1 (M ui.toNatClampNeg) (p0 + (nI i)) p2)))), (s2, .inl (cI, 18, .inl (dv1 (gX0_run w1 (M ui.toNatClampNeg) (p0 + (nI i)) p2)))), (s3, .inl (cJ, 18, .inr (.inl (dv2 (gX0_run w1 (M ui.toNatClampNeg) (p0 + (nI i)) p2))))), (s4, .inl (cJ, 18, .inr (.inl (dv3 (gX0_run w1 (M ui.toNatClampNeg) (p0 + (nI i)) p2))))), (s5, .inl (cJ, 18, .inr (.inl (dv4 (gX0_run w1 (M ui.toNatClampNeg) (p0 + (nI i)) p2))))), (s6, .inl (cJ, 18, .inr (.inl (dv5 (gX0_run w1 (M ui.toNatClampNeg) (p0 + (nI i)) p2)))))]) hP hD [6, 7, 8, 9, 10, 11, 12] [0, 1, 2, 3, 4, 5] rfl rfl (by decide) (by decide) hk1 hFc hP1 hD1
          generalize H1 = H at hP hS ⊢
          have hP : va_P (dC, dI) vwCl [(o0, .inr (1, [.ref oT, .ref oG, .ref l0, .ref s0, .int ui])), (oT, .inl (cT, 4, .inr (.inr (.inr (.inr (ax_rows r)))))), (r 0, .inl (cI, 2048, .inl (M 0))), (r 1, .inl (cI, 2048, .inl (M 1))), (r 2, .inl (cI, 2048, .inl (M 2))), (r 3, .inl (cI, 2048, .inl (M 3))), (s0, .inr (0, [.ref s1, .ref s2, .ref s3, .ref s4, .ref s5, .ref s6, .int (dv6 (gX0_run w1 (M ui.toNatClampNeg) (p0 + (nI i)) p2)), .int (dv7 (gX0_run w1 (M ui.toNatClampNeg) (p0 + (nI i)) p2)), .int (dv8 (gX0_run w1 (M ui.toNatClampNeg) (p0 + (nI i)) p2)), .int (dv9 (gX0_run w1 (M ui.toNatClampNeg) (p0 + (nI i)) p2)), .int (dv10 (gX0_run w1 (M ui.toNatClampNeg) (p0 + (nI i)) p2)), .int (dv11 (gX0_run w1 (M ui.toNatClampNeg) (p0 + (nI i)) p2)), .int (dv12 (gX0_run w1 (M ui.toNatClampNeg) (p0 + (nI i)) p2)), .int (dv13 (gX0_run w1 (M ui.toNatClampNeg) (p0 + (nI i)) p2))])), (s1, .inl (cI, 18, .inl (dv0 (gX0_run w1 (M ui.toNatClampNeg) (p0 + (nI i)) p2)))), (s2, .inl (cI, 18, .inl (dv1 (gX0_run w1 (M ui.toNatClampNeg) (p0 + (nI i)) p2)))), (s3, .inl (cJ, 18, .inr (.inl (dv2 (gX0_run w1 (M ui.toNatClampNeg) (p0 + (nI i)) p2))))), (s4, .inl (cJ, 18, .inr (.inl (dv3 (gX0_run w1 (M ui.toNatClampNeg) (p0 + (nI i)) p2))))), (s5, .inl (cJ, 18, .inr (.inl (dv4 (gX0_run w1 (M ui.toNatClampNeg) (p0 + (nI i)) p2))))), (s6, .inl (cJ, 18, .inr (.inl (dv5 (gX0_run w1 (M ui.toNatClampNeg) (p0 + (nI i)) p2)))))] H := hP.sub [0, 1, 2, 3, 4, 5, 6, 7, 8, 9, 10, 11, 12] rfl
          have hD : va_D A [(o0, .inr (1, [.ref oT, .ref oG, .ref l0, .ref s0, .int ui])), (oT, .inl (cT, 4, .inr (.inr (.inr (.inr (ax_rows r)))))), (r 0, .inl (cI, 2048, .inl (M 0))), (r 1, .inl (cI, 2048, .inl (M 1))), (r 2, .inl (cI, 2048, .inl (M 2))), (r 3, .inl (cI, 2048, .inl (M 3))), (s0, .inr (0, [.ref s1, .ref s2, .ref s3, .ref s4, .ref s5, .ref s6, .int (dv6 (gX0_run w1 (M ui.toNatClampNeg) (p0 + (nI i)) p2)), .int (dv7 (gX0_run w1 (M ui.toNatClampNeg) (p0 + (nI i)) p2)), .int (dv8 (gX0_run w1 (M ui.toNatClampNeg) (p0 + (nI i)) p2)), .int (dv9 (gX0_run w1 (M ui.toNatClampNeg) (p0 + (nI i)) p2)), .int (dv10 (gX0_run w1 (M ui.toNatClampNeg) (p0 + (nI i)) p2)), .int (dv11 (gX0_run w1 (M ui.toNatClampNeg) (p0 + (nI i)) p2)), .int (dv12 (gX0_run w1 (M ui.toNatClampNeg) (p0 + (nI i)) p2)), .int (dv13 (gX0_run w1 (M ui.toNatClampNeg) (p0 + (nI i)) p2))])), (s1, .inl (cI, 18, .inl (dv0 (gX0_run w1 (M ui.toNatClampNeg) (p0 + (nI i)) p2)))), (s2, .inl (cI, 18, .inl (dv1 (gX0_run w1 (M ui.toNatClampNeg) (p0 + (nI i)) p2)))), (s3, .inl (cJ, 18, .inr (.inl (dv2 (gX0_run w1 (M ui.toNatClampNeg) (p0 + (nI i)) p2))))), (s4, .inl (cJ, 18, .inr (.inl (dv3 (gX0_run w1 (M ui.toNatClampNeg) (p0 + (nI i)) p2))))), (s5, .inl (cJ, 18, .inr (.inl (dv4 (gX0_run w1 (M ui.toNatClampNeg) (p0 + (nI i)) p2))))), (s6, .inl (cJ, 18, .inr (.inl (dv5 (gX0_run w1 (M ui.toNatClampNeg) (p0 + (nI i)) p2)))))] := hD.sub [0, 1, 2, 3, 4, 5, 6, 7, 8, 9, 10, 11, 12] (by decide) rfl
          refine lv_aload_n hx hb dX1_sweep_55 rfl (lv_at hl 3 rfl) ?_
          refine va_get (D := (dC, dI)) (ci := 1) (v := .ref s0) (C := RX1) (T := TX1) (N := 5) hx hb hts inX1_X1_sweep hown hK hP 0 rfl rfl 3 (by decide) (hts (.fieldLink RX1 25 "DigitDivider" "swept" "LDigitDivider$Division;") (by decide +kernel)) (fun _ h9 => h9) rfl dX1_sweep_56 ?_
          refine va_getN (D := (dC, dI)) (ci := 0) (v := .int (dv12 (gX0_run w1 (M ui.toNatClampNeg) (p0 + (nI i)) p2))) (C := RX0) (T := TX0) (N := 14) hx hb hts inX0_X1_sweep hown hK hP 6 rfl rfl 12 (by decide) (va_Nw.use rfl (nw_12 hNw)) (fun _ h9 => h9) rfl dX1_sweep_59 ?_
          refine lv_iload hx hb dX1_sweep_62 (lv_at hl 0 rfl) ?_
          refine lv_iload_n hx hb dX1_sweep_64 rfl (lv_at hl 6 rfl) ?_
          refine lv_idiv hx hb dX1_sweep_65 c_13_3 ?_
          refine lv_icmp_ne (tgt := 83) hx hb dX1_sweep_66 (by decide) (fun c_66_7 => ?_) (fun c_66_7 => ?_)
          · refine lv_iinc (v := w0 + 1) (lv' := [(4, .int (w0 + 1)), (6, .int (p0 + (nI i))), (5, .int (nI i)), (0, .ref o0), (1, .int p0), (2, .int p1), (3, .int p2)]) hx hb dX1_sweep_83 hl (k := 2) rfl rfl (by decide) rfl (fun ls hl => ?_)
            refine lv_iinc (v := nI (i + 1)) (lv' := [(5, .int (nI (i + 1))), (4, .int (w0 + 1)), (6, .int (p0 + (nI i))), (0, .ref o0), (1, .int p0), (2, .int p1), (3, .int p2)]) hx hb dX1_sweep_86 hl (k := 2) rfl (nI_1 _) (by decide) rfl (fun ls hl => ?_)
            refine lv_goto (tgt := 24) hx hb dX1_sweep_89 (by decide) ?_
            have eb : st_swX1 M ui p0 p2 i w0 w1 = (w0 + 1, (gX0_run w1 (M ui.toNatClampNeg) (p0 + (nI i)) p2)) := by unfold st_swX1; rw [if_neg c_66_7]
            have ebb : (it_swX1 M SS ui p0 p2 (i + 1)) = (w0 + 1, (gX0_run w1 (M ui.toNatClampNeg) (p0 + (nI i)) p2)) := by show st_swX1 M ui p0 p2 i (it_swX1 M SS ui p0 p2 i).1 (it_swX1 M SS ui p0 p2 i).2 = _; rw [← ew0, ← ew1]; exact eb
            exact ihi hlti _ _ _ ⟨w0 + 1, (gX0_run w1 (M ui.toNatClampNeg) (p0 + (nI i)) p2), (congrArg Prod.fst ebb).symm, (congrArg Prod.snd ebb).symm, hP, hD, hS, lv_sub hl [0, 1, 3, 4, 5, 6] rfl⟩
          · refine lv_aload_n hx hb dX1_sweep_69 rfl (lv_at hl 3 rfl) ?_
            refine va_get (D := (dC, dI)) (ci := 1) (v := .ref s0) (C := RX1) (T := TX1) (N := 5) hx hb hts inX1_X1_sweep hown hK hP 0 rfl rfl 3 (by decide) (hts (.fieldLink RX1 25 "DigitDivider" "swept" "LDigitDivider$Division;") (by decide +kernel)) (fun _ h9 => h9) rfl dX1_sweep_70 ?_
            refine va_getN (D := (dC, dI)) (ci := 0) (v := .int (dv13 (gX0_run w1 (M ui.toNatClampNeg) (p0 + (nI i)) p2))) (C := RX0) (T := TX0) (N := 14) hx hb hts inX0_X1_sweep hown hK hP 6 rfl rfl 13 (by decide) (va_Nw.use rfl (nw_13 hNw)) (fun _ h9 => h9) rfl dX1_sweep_73 ?_
            refine lv_iload hx hb dX1_sweep_76 (lv_at hl 0 rfl) ?_
            refine lv_iload_n hx hb dX1_sweep_78 rfl (lv_at hl 6 rfl) ?_
            refine lv_irem hx hb dX1_sweep_79 c_13_3 ?_
            refine lv_icmp_eq (tgt := 86) hx hb dX1_sweep_80 (by decide) (fun c_80_8 => ?_) (fun c_80_8 => ?_)
            · refine lv_iinc (v := nI (i + 1)) (lv' := [(5, .int (nI (i + 1))), (6, .int (p0 + (nI i))), (4, .int w0), (0, .ref o0), (1, .int p0), (2, .int p1), (3, .int p2)]) hx hb dX1_sweep_86 hl (k := 1) rfl (nI_1 _) (by decide) rfl (fun ls hl => ?_)
              refine lv_goto (tgt := 24) hx hb dX1_sweep_89 (by decide) ?_
              have eb : st_swX1 M ui p0 p2 i w0 w1 = (w0, (gX0_run w1 (M ui.toNatClampNeg) (p0 + (nI i)) p2)) := by unfold st_swX1; rw [if_pos c_66_7, if_pos c_80_8]
              have ebb : (it_swX1 M SS ui p0 p2 (i + 1)) = (w0, (gX0_run w1 (M ui.toNatClampNeg) (p0 + (nI i)) p2)) := by show st_swX1 M ui p0 p2 i (it_swX1 M SS ui p0 p2 i).1 (it_swX1 M SS ui p0 p2 i).2 = _; rw [← ew0, ← ew1]; exact eb
              exact ihi hlti _ _ _ ⟨w0, (gX0_run w1 (M ui.toNatClampNeg) (p0 + (nI i)) p2), (congrArg Prod.fst ebb).symm, (congrArg Prod.snd ebb).symm, hP, hD, hS, lv_sub hl [0, 2, 3, 4, 5, 6] rfl⟩
            · refine lv_iinc (v := w0 + 1) (lv' := [(4, .int (w0 + 1)), (6, .int (p0 + (nI i))), (5, .int (nI i)), (0, .ref o0), (1, .int p0), (2, .int p1), (3, .int p2)]) hx hb dX1_sweep_83 hl (k := 2) rfl rfl (by decide) rfl (fun ls hl => ?_)
              refine lv_iinc (v := nI (i + 1)) (lv' := [(5, .int (nI (i + 1))), (4, .int (w0 + 1)), (6, .int (p0 + (nI i))), (0, .ref o0), (1, .int p0), (2, .int p1), (3, .int p2)]) hx hb dX1_sweep_86 hl (k := 2) rfl (nI_1 _) (by decide) rfl (fun ls hl => ?_)
              refine lv_goto (tgt := 24) hx hb dX1_sweep_89 (by decide) ?_
              have eb : st_swX1 M ui p0 p2 i w0 w1 = (w0 + 1, (gX0_run w1 (M ui.toNatClampNeg) (p0 + (nI i)) p2)) := by unfold st_swX1; rw [if_pos c_66_7, if_neg c_80_8]
              have ebb : (it_swX1 M SS ui p0 p2 (i + 1)) = (w0 + 1, (gX0_run w1 (M ui.toNatClampNeg) (p0 + (nI i)) p2)) := by show st_swX1 M ui p0 p2 i (it_swX1 M SS ui p0 p2 i).1 (it_swX1 M SS ui p0 p2 i).2 = _; rw [← ew0, ← ew1]; exact eb
              exact ihi hlti _ _ _ ⟨w0 + 1, (gX0_run w1 (M ui.toNatClampNeg) (p0 + (nI i)) p2), (congrArg Prod.fst ebb).symm, (congrArg Prod.snd ebb).symm, hP, hD, hS, lv_sub hl [0, 1, 3, 4, 5, 6] rfl⟩
      · refine lv_iconst (v := (-1)) hx hb dX1_sweep_16 (by decide) ?_
        have hg : (gX1_sweep M SS ui p0 p1 p2) = ((-1), SS) := by unfold gX1_sweep; rw [if_neg c_2_1, if_neg c_9_2, if_pos c_13_3]
        exact W.iret (v := (-1)) hx hb hr (fun t ht hW => ⟨⟨(-1), SS, rfl, ⟨(congrArg Prod.fst hg).symm, (congrArg Prod.snd hg).symm⟩, by rw [ht]; exact hP, va_K.moved hW.alike hK, hD⟩, hS.F ht⟩) hS.2.2 dX1_sweep_17

