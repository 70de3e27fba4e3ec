def st_mkX1 (gd : Nat → Int32) (p0 : Int32) (i : Nat) (w0 : Int32) (w1 : Nat → Nat → Int32) : Int32 × (Nat → Nat → Int32) := (w0 + ((gX1_replace w1 p0 (nI i) (fX1_madeDigit gd (nI i))).1), ((gX1_replace w1 p0 (nI i) (fX1_madeDigit gd (nI i))).2))
def it_mkX1 (M : Nat → Nat → Int32) (gd : Nat → Int32) (p0 : Int32) : Nat → Int32 × (Nat → Nat → Int32)
  | 0 => ((0 : Int32), M)
  | i + 1 => st_mkX1 gd p0 i (it_mkX1 M gd p0 i).1 (it_mkX1 M gd p0 i).2
def gX1_make_o (M : Nat → Nat → Int32) (p0 : Int32) (w0 : Int32) (w1 : Nat → Nat → Int32) : Int32 × (Nat → Nat → Int32) := (if (fX1_isTable p0) = 0 then ((-1), M) else (w0, w1))
def gX1_make (M : Nat → Nat → Int32) (gd : Nat → Int32) (p0 : Int32) : Int32 × (Nat → Nat → Int32) := (gX1_make_o M p0 (it_mkX1 M gd p0 2048).1 (it_mkX1 M gd p0 2048).2)
set_option maxHeartbeats 4000000 in
set_option maxRecDepth 100000 in
theorem kX1_make (l : Launch) (dC : Nat → ClassId) (dI : Nat → Nat → Nat) (o0 : Nat) (oT : Nat) (oG : Nat) (l0 : Nat) (s0 : Nat) (r : Nat → Nat) (cI : ClassId) (cT : ClassId) (sz : Nat) (M : Nat → Nat → Int32) (gd : Nat → Int32) (ui : Int32) (tq : Nat) (p0 : Int32)  : Met l yX1_make wsX1_make ({ frames := 2, cells := 0, slots := 0, locals := 47 } : Room) (va_Pc [.ref o0, .int p0] (fun U => U.heap.size = sz ∧ va_P (dC, dI) vwCl [(o0, .inr (1, [.ref oT, .ref oG, .ref l0, .ref s0, .int ui])), (oT, .inl (cT, 4, .inr (.inr (.inr (.inr (ax_rows r)))))), (r 0, .inl (cI, 2048, .inl (M 0))), (r 1, .inl (cI, 2048, .inl (M 1))), (r 2, .inl (cI, 2048, .inl (M 2))), (r 3, .inl (cI, 2048, .inl (M 3))), (oG, .inl (cI, 2048, .inl gd))] U.heap ∧ va_K (dC, dI) vwCl [(cI, .int), (cT, .array .int)] U ∧ va_D (fun _ => True) [(o0, .inr (1, [.ref oT, .ref oG, .ref l0, .ref s0, .int ui])), (oT, .inl (cT, 4, .inr (.inr (.inr (.inr (ax_rows r)))))), (r 0, .inl (cI, 2048, .inl (M 0))), (r 1, .inl (cI, 2048, .inl (M 1))), (r 2, .inl (cI, 2048, .inl (M 2))), (r 3, .inl (cI, 2048, .inl (M 3))), (oG, .inl (cI, 2048, .inl gd))] ∧ va_Z "DigitDivider" "DIGITS_NEAREST_FIRST" "[I" (.ref tq) (va_A [(o0, .inr (1, [.ref oT, .ref oG, .ref l0, .ref s0, .int ui])), (oT, .inl (cT, 4, .inr (.inr (.inr (.inr (ax_rows r)))))), (r 0, .inl (cI, 2048, .inl (M 0))), (r 1, .inl (cI, 2048, .inl (M 1))), (r 2, .inl (cI, 2048, .inl (M 2))), (r 3, .inl (cI, 2048, .inl (M 3))), (oG, .inl (cI, 2048, .inl gd))] sz) U U.heap ∧ va_T .int tq 5 (fun j => .int (dnf j)) (va_A [(o0, .inr (1, [.ref oT, .ref oG, .ref l0, .ref s0, .int ui])), (oT, .inl (cT, 4, .inr (.inr (.inr (.inr (ax_rows r)))))), (r 0, .inl (cI, 2048, .inl (M 0))), (r 1, .inl (cI, 2048, .inl (M 1))), (r 2, .inl (cI, 2048, .inl (M 2))), (r 3, .inl (cI, 2048, .inl (M 3))), (oG, .inl (cI, 2048, .inl gd))] sz) U U.heap)) (va_Qi (fun (r : Int32) (u : Nat → Nat → Int32) => r = (gX1_make M gd p0).1 ∧ u = (gX1_make M gd p0).2) (fun (u : Nat → Nat → Int32) (t : State) => va_P (dC, dI) vwCl [(o0, .inr (1, [.ref oT, .ref oG, .ref l0, .ref s0, .int ui])), (oT, .inl (cT, 4, .inr (.inr (.inr (.inr (ax_rows r)))))), (r 0, .inl (cI, 2048, .inl (u 0))), (r 1, .inl (cI, 2048, .inl (u 1))), (r 2, .inl (cI, 2048, .inl (u 2))), (r 3, .inl (cI, 2048, .inl (u 3))), (oG, .inl (cI, 2048, .inl gd))] t.heap ∧ va_K (dC, dI) vwCl [(cI, .int), (cT, .array .int)] t ∧ va_D (va_A [(o0, .inr (1, [.ref oT, .ref oG, .ref l0, .ref s0, .int ui])), (oT, .inl (cT, 4, .inr (.inr (.inr (.inr (ax_rows r)))))), (r 0, .inl (cI, 2048, .inl (M 0))), (r 1, .inl (cI, 2048, .inl (M 1))), (r 2, .inl (cI, 2048, .inl (M 2))), (r 3, .inl (cI, 2048, .inl (M 3))), (oG, .inl (cI, 2048, .inl gd))] sz) [(o0, .inr (1, [.ref oT, .ref oG, .ref l0, .ref s0, .int ui])), (oT, .inl (cT, 4, .inr (.inr (.inr (.inr (ax_rows r)))))), (r 0, .inl (cI, 2048, .inl (u 0))), (r 1, .inl (cI, 2048, .inl (u 1))), (r 2, .inl (cI, 2048, .inl (u 2))), (r 3, .inl (cI, 2048, .inl (u 3))), (oG, .inl (cI, 2048, .inl gd))]) (va_A [(o0, .inr (1, [.ref oT, .ref oG, .ref l0, .ref s0, .int ui])), (oT, .inl (cT, 4, .inr (.inr (.inr (.inr (ax_rows r)))))), (r 0, .inl (cI, 2048, .inl (M 0))), (r 1, .inl (cI, 2048, .inl (M 1))), (r 2, .inl (cI, 2048, .inl (M 2))), (r 3, .inl (cI, 2048, .inl (M 3))), (oG, .inl (cI, 2048, .inl gd))] sz)) 0 0 (va_A [(o0, .inr (1, [.ref oT, .ref oG, .ref l0, .ref s0, .int ui])), (oT, .inl (cT, 4, .inr (.inr (.inr (.inr (ax_rows r)))))), (r 0, .inl (cI, 2048, .inl (M 0))), (r 1, .inl (cI, 2048, .inl (M 1))), (r 2, .inl (cI, 2048, .inl (M 2))), (r 3, .inl (cI, 2048, .inl (M 3))), (oG, .inl (cI, 2048, .inl gd))] sz) := by
  refine Met.ofW (cc := cX1_make) (maxL := 4) (ret := (some .int)) (by decide) rfl ?_
  intro p e s m args below meth c s₁ B hml hv
  obtain ⟨rfl, hsz, hP, hK, hD0, hZ, hTq⟩ := hv
  have hx := B.exec
  have hb := B.bytes
  have hr := B.returns
  have hts := atoms_spec (ws := wsX1_make) B.pre
  have hown : s.vm.findClass RX1 = some m.cls := findClass_of_methodNamed B.named
  have hlocks := B.notSynchronized
  subst hsz
  have hD := hD0.self (sz := s.heap.size)
  generalize hAe : va_A [(o0, .inr (1, [.ref oT, .ref oG, .ref l0, .ref s0, .int ui])), (oT, .inl (cT, 4, .inr (.inr (.inr (.inr (ax_rows r)))))), (r 0, .inl (cI, 2048, .inl (M 0))), (r 1, .inl (cI, 2048, .inl (M 1))), (r 2, .inl (cI, 2048, .inl (M 2))), (r 3, .inl (cI, 2048, .inl (M 3))), (oG, .inl (cI, 2048, .inl gd))] s.heap.size = A at hD hZ hTq ⊢
  have hA : ∀ q : Nat, s.heap.size ≤ q → A q := fun q h => by rw [← hAe]; exact Or.inr h
  have hS : va_S A s.heap s.heap [] := va_S.rf
  have hP : va_P (dC, dI) vwCl [(o0, .inr (1, [.ref oT, .ref oG, .ref l0, .ref s0, .int ui])), (oT, .inl (cT, 4, .inr (.inr (.inr (.inr (ax_rows r)))))), (r 0, .inl (cI, 2048, .inl (M 0))), (r 1, .inl (cI, 2048, .inl (M 1))), (r 2, .inl (cI, 2048, .inl (M 2))), (r 3, .inl (cI, 2048, .inl (M 3))), (oG, .inl (cI, 2048, .inl gd))] s.heap := hP
  have hl := lv_entry ([.ref o0, .int p0]) (n := 4) (Nat.le_of_ble_eq_true rfl)
  rw [lg_entry_eq]
  generalize (lg_sl ([.ref o0, .int p0]) ++ List.replicate (4 - (lg_sl ([.ref o0, .int p0])).length) Slot.unset).toArray = ls at hl ⊢
  have hl : lv_has ls 4 [(0, .ref o0), (1, .int p0)] := hl
  refine lv_iload_n hx hb dX1_make_0 rfl (lv_at hl 1 rfl) ?_
  refine vp_callSi (W.runS (As := [.int p0]) (rest := []) ⟨hx, hb, hml, hown, hts⟩ (kX1_isTable l dC dI p0) (va_cwS 1 hts gX1_make_X1_isTable rfl rfl rfl (by decide +kernel) ⟨Nat.le_of_ble_eq_true rfl, Nat.le_of_ble_eq_true rfl⟩) ⟨fun a U g mk q => by obtain ⟨q0, qt⟩ := q; exact ⟨q0, qt⟩, fun U hU hW => ⟨rfl, trivial⟩⟩ rfl rfl hl.1 rfl (lv_room (Nat.le_of_ble_eq_true rfl)) dX1_make_1 ⟨Nat.zero_le _, Nat.zero_le _⟩) (fun r_1 hr_1 => ?_)
  subst hr_1
  refine lv_if_ne (tgt := 9) hx hb dX1_make_4 (by decide) (fun c_4_2 => ?_) (fun c_4_2 => ?_)
  · refine lv_iconst (v := 0) hx hb dX1_make_9 (by decide) ?_
    refine lv_istore_n (lv' := [(2, .int 0), (0, .ref o0), (1, .int p0)]) hx hb dX1_make_10 rfl hl (by decide) rfl (fun ls hl => ?_)
    refine lv_iconst (v := 0) hx hb dX1_make_11 (by decide) ?_
    refine lv_istore_n (lv' := [(3, .int 0), (2, .int 0), (0, .ref o0), (1, .int p0)]) hx hb dX1_make_12 rfl hl (by decide) rfl (fun ls hl => ?_)
    refine ax_loopS (pc := 13) (fun i H locs ls => ∃ w0 : Int32, ∃ w1 : Nat → Nat → Int32, w0 = (it_mkX1 M gd p0 i).1 ∧ w1 = (it_mkX1 M gd p0 i).2 ∧ va_P (dC, dI) vwCl [(o0, .inr (1, [.ref oT, .ref oG, .ref l0, .ref s0, .int ui])), (oT, .inl (cT, 4, .inr (.inr (.inr (.inr (ax_rows r)))))), (r 0, .inl (cI, 2048, .inl (w1 0))), (r 1, .inl (cI, 2048, .inl (w1 1))), (r 2, .inl (cI, 2048, .inl (w1 2))), (r 3, .inl (cI, 2048, .inl (w1 3))), (oG, .inl (cI, 2048, .inl gd))] H ∧ va_D A [(o0, .inr (1, [.ref oT, .ref oG, .ref l0, .ref s0, .int ui])), (oT, .inl (cT, 4, .inr (.inr (.inr (.inr (ax_rows r)))))), (r 0, .inl (cI, 2048, .inl (w1 0))), (r 1, .inl (cI, 2048, .inl (w1 1))), (r 2, .inl (cI, 2048, .inl (w1 2))), (r 3, .inl (cI, 2048, .inl (w1 3))), (oG, .inl (cI, 2048, .inl gd))] ∧ va_S A s.heap H locs ∧ lv_has ls 4 [(3, .int (nI i)), (2, .int w0), (0, .ref o0), (1, .int p0)]) 2048 (fun i hii ihi H locs ls hIi => ?_) ⟨(0 : Int32), M, rfl, rfl, hP, hD, hS, lv_sub hl [0, 1, 2, 3] rfl⟩
    obtain ⟨w0, w1, ew0, ew1, hP, hD, hS, hl⟩ := hIi
    have hP : va_P (dC, dI) vwCl [(o0, .inr (1, [.ref oT, .ref oG, .ref l0, .ref s0, .int ui])), (oT, .inl (cT, 4, .inr (.inr (.inr (.inr (ax_rows r)))))), (r 0, .inl (cI, 2048, .inl (w1 0))), (r 1, .inl (cI, 2048, .inl (w1 1))), (r 2, .inl (cI, 2048, .inl (w1 2))), (r 3, .inl (cI, 2048, .inl (w1 3))), (oG, .inl (cI, 2048, .inl gd))] H := hP
    have hD : va_D A [(o0, .inr (1, [.ref oT, .ref oG, .ref l0, .ref s0, .int ui])), (oT, .inl (cT, 4, .inr (.inr (.inr (.inr (ax_rows r)))))), (r 0, .inl (cI, 2048, .inl (w1 0))), (r 1, .inl (cI, 2048, .inl (w1 1))), (r 2, .inl (cI, 2048, .inl (w1 2))), (r 3, .inl (cI, 2048, .inl (w1 3))), (oG, .inl (cI, 2048, .inl gd))] := hD
    refine lv_iload_n hx hb dX1_make_13 rfl (lv_at hl 0 rfl) ?_
    refine lv_sipush (v := 2048) hx hb dX1_make_14 (by decide) ?_
    refine lv_icmp_ge (tgt := 40) hx hb dX1_make_17 (by decide) (fun c_17_3 => ?_) (fun c_17_3 => ?_)
    · obtain rfl : i = 2048 := ax_end (N := 2048) rfl (by decide) hii c_17_3
      refine lv_iload_n hx hb dX1_make_40 rfl (lv_at hl 1 rfl) ?_
      have hg : (gX1_make M gd p0) = (w0, w1) := by unfold gX1_make; rw [← ew0, ← ew1]; unfold gX1_make_o; rw [if_neg c_4_2]
      exact W.iret (v := w0) hx hb hr (fun t ht hW => ⟨⟨w0, w1, rfl, ⟨(congrArg Prod.fst hg).symm, (congrArg Prod.snd hg).symm⟩, by rw [ht]; exact hP, va_K.moved hW.alike hK, hD⟩, hS.F ht⟩) hS.2.2 dX1_make_41
    · have hlti : i < 2048 := ax_more (N := 2048) rfl (by decide) hii c_17_3
      refine lv_iload_n hx hb dX1_make_20 rfl (lv_at hl 1 rfl) ?_
      refine lv_aload_n hx hb dX1_make_21 rfl (lv_at hl 2 rfl) ?_
      refine lv_iload_n hx hb dX1_make_22 rfl (lv_at hl 3 rfl) ?_
      refine lv_iload_n hx hb dX1_make_23 rfl (lv_at hl 0 rfl) ?_
      refine lv_aload_n hx hb dX1_make_24 rfl (lv_at hl 2 rfl) ?_
      refine lv_iload_n hx hb dX1_make_25 rfl (lv_at hl 0 rfl) ?_
      have hPc := hP.sub (ws' := [(o0, .inr (1, [.ref oT, .ref oG, .ref l0, .ref s0, .int ui])), (oG, .inl (cI, 2048, .inl gd))]) [0, 6] rfl
      have hKc := hK.sub (tys' := [(cI, .int)]) [0] rfl
      refine vp_callSi (W.runV (As := [.int (nI i)]) (rest := [.int (nI i), .int p0, .ref o0, .int w0]) ⟨hx, hb, hml, hown, hts⟩ (kX1_madeDigit l dC dI o0 oT oG l0 s0 cI gd ui tq (nI i) (vp_in_nI hlti (by decide))) (cwV 1 hts gX1_make_X1_madeDigit rfl rfl rfl (by decide +kernel) ⟨Nat.le_of_ble_eq_true rfl, Nat.le_of_ble_eq_true rfl⟩) ⟨fun a U g mk q => by obtain ⟨q0, qP, qK, e3, e4⟩ := q; exact ⟨q0, qP, va_K.moved (u := U) (U := U.calling g mk a) (Vm.Alike.refl U.vm) qK, e3, e4⟩, va_recv hKc hPc (ci := 1) (q0 := 0) rfl rfl, fun U hU hW => ⟨rfl, by rw [hU]; exact hPc, va_K.moved hW.alike hKc, by rw [hU]; exact va_Z.moved hW.alike ((va_Z.kept hZ (fun a h1 h2 => hS.2.1 a h1 h2)).narrow (fun _ h => h.elim)), by rw [hU]; exact va_T.moved hW.alike ((va_T.kept hTq (fun a h1 h2 => hS.2.1 a h1 h2)).narrow (fun _ h => h.elim))⟩⟩ rfl rfl hl.1 rfl (lv_room (Nat.le_of_ble_eq_true rfl)) dX1_make_26 ⟨Nat.zero_le _, Nat.zero_le _⟩) (fun r_4 hr_4 => ?_)
      subst hr_4
      have hPc := hP.sub (ws' := [(o0, .inr (1, [.ref oT, .ref oG, .ref l0, .ref s0, .int ui])), (oT, .inl (cT, 4, .inr (.inr (.inr (.inr (ax_rows r)))))), (r 0, .inl (cI, 2048, .inl (w1 0))), (r 1, .inl (cI, 2048, .inl (w1 1))), (r 2, .inl (cI, 2048, .inl (w1 2))), (r 3, .inl (cI, 2048, .inl (w1 3)))]) [0, 1, 2, 3, 4, 5] rfl
      have hKc := hK.sub (tys' := [(cI, .int), (cT, .array .int)]) [0, 1] rfl
      have hDc := hD.sub (ws' := [(o0, .inr (1, [.ref oT, .ref oG, .ref l0, .ref s0, .int ui])), (oT, .inl (cT, 4, .inr (.inr (.inr (.inr (ax_rows r)))))), (r 0, .inl (cI, 2048, .inl (w1 0))), (r 1, .inl (cI, 2048, .inl (w1 1))), (r 2, .inl (cI, 2048, .inl (w1 2))), (r 3, .inl (cI, 2048, .inl (w1 3)))]) [0, 1, 2, 3, 4, 5] (by decide) rfl
      have hFc := va_free (wc := [(o0, .inr (1, [.ref oT, .ref oG, .ref l0, .ref s0, .int ui])), (oT, .inl (cT, 4, .inr (.inr (.inr (.inr (ax_rows r)))))), (r 0, .inl (cI, 2048, .inl (w1 0))), (r 1, .inl (cI, 2048, .inl (w1 1))), (r 2, .inl (cI, 2048, .inl (w1 2))), (r 3, .inl (cI, 2048, .inl (w1 3)))]) hD hS hA [0, 1, 2, 3, 4, 5] rfl
      refine va_calli (va_runV (As := [.int p0, .int (nI i), .int (fX1_madeDigit gd (nI i))]) (rest := [.int w0]) ⟨hx, hb, hml, hown, hts⟩ (kX1_replace l dC dI o0 oT oG l0 s0 r cI cT H.size w1 ui p0 (nI i) (fX1_madeDigit gd (nI i)) (ct_vp c_4_2) (vp_in_nI hlti (by decide))) (cwV 3 hts gX1_make_X1_replace rfl rfl rfl (by decide +kernel) ⟨Nat.le_of_ble_eq_true rfl, Nat.le_of_ble_eq_true rfl⟩) ⟨fun a U g mk q => by obtain ⟨q0, q1, qP, qK, qD⟩ := q; exact ⟨q0, q1, qP, va_K.moved (u := U) (U := U.calling g mk a) (Vm.Alike.refl U.vm) qK, qD⟩, va_recv hKc hPc (ci := 1) (q0 := 0) rfl rfl, fun U hU hW => ⟨rfl, by rw [hU], by rw [hU]; exact hPc, va_K.moved hW.alike hKc, hDc.weaken (fun _ _ _ _ => trivial)⟩⟩ rfl rfl hl.1 rfl (lv_room (Nat.le_of_ble_eq_true rfl)) dX1_make_29 ⟨Nat.zero_le _, Nat.zero_le _⟩) hS (fun q _ h => hFc q h) hFc (fun r_5 u_5 t H1 locs ht hvm hw hB hz1 hk1 hS => ?_)
      try dsimp only at hw
      obtain ⟨hw1, hw2⟩ := hw
      subst hw1
      subst hw2
      obtain ⟨hP1, hK1, hD1⟩ := hB
      rw [ht] at hP1
      have hK1 := va_K.moved hvm.symm hK1
      obtain ⟨hP, hD⟩ := va_join (wr := [(oG, .inl (cI, 2048, .inl gd))]) (w1 := [(o0, .inr (1, [.ref oT, .ref oG, .ref l0, .ref s0, .int ui])), (oT, .inl (cT, 4, .inr (.inr (.inr (.inr (ax_rows r)))))), (r 0, .inl (cI, 2048, .inl (((gX1_replace w1 p0 (nI i) (fX1_madeDigit gd (nI i))).2) 0))), (r 1, .inl (cI, 2048, .inl (((gX1_replace w1 p0 (nI i) (fX1_madeDigit gd (nI i))).2) 1))), (r 2, .inl (cI, 2048, .inl (((gX1_replace w1 p0 (nI i) (fX1_madeDigit gd (nI i))).2) 2))), (r 3, .inl (cI, 2048, .inl (((gX1_replace w1 p0 (nI i) (fX1_madeDigit gd (nI i))).2) 3)))]) hP hD [0, 1, 2, 3, 4, 5] [6] rfl rfl (by decide) (by decide) hk1 hFc hP1 hD1
      generalize H1 = H at hP hS ⊢
      have hP : va_P (dC, dI) vwCl [(o0, .inr (1, [.ref oT, .ref oG, .ref l0, .ref s0, .int ui])), (oT, .inl (cT, 4, .inr (.inr (.inr (.inr (ax_rows r)))))), (r 0, .inl (cI, 2048, .inl (((gX1_replace w1 p0 (nI i) (fX1_madeDigit gd (nI i))).2) 0))), (r 1, .inl (cI, 2048, .inl (((gX1_replace w1 p0 (nI i) (fX1_madeDigit gd (nI i))).2) 1))), (r 2, .inl (cI, 2048, .inl (((gX1_replace w1 p0 (nI i) (fX1_madeDigit gd (nI i))).2) 2))), (r 3, .inl (cI, 2048, .inl (((gX1_replace w1 p0 (nI i) (fX1_madeDigit gd (nI i))).2) 3))), (oG, .inl (cI, 2048, .inl gd))] H := hP.sub [1, 2, 3, 4, 5, 6, 0] rfl
      have hD : va_D A [(o0, .inr (1, [.ref oT, .ref oG, .ref l0, .ref s0, .int ui])), (oT, .inl (cT, 4, .inr (.inr (.inr (.inr (ax_rows r)))))), (r 0, .inl (cI, 2048, .inl (((gX1_replace w1 p0 (nI i) (fX1_madeDigit gd (nI i))).2) 0))), (r 1, .inl (cI, 2048, .inl (((gX1_replace w1 p0 (nI i) (fX1_madeDigit gd (nI i))).2) 1))), (r 2, .inl (cI, 2048, .inl (((gX1_replace w1 p0 (nI i) (fX1_madeDigit gd (nI i))).2) 2))), (r 3, .inl (cI, 2048, .inl (((gX1_replace w1 p0 (nI i) (fX1_madeDigit gd (nI i))).2) 3))), (oG, .inl (cI, 2048, .inl gd))] := hD.sub [1, 2, 3, 4, 5, 6, 0] (by decide) rfl
      refine lv_iadd hx hb dX1_make_32 ?_
      refine lv_istore_n (lv' := [(2, .int (w0 + ((gX1_replace w1 p0 (nI i) (fX1_madeDigit gd (nI i))).1))), (3, .int (nI i)), (0, .ref o0), (1, .int p0)]) hx hb dX1_make_33 rfl hl (by decide) rfl (fun ls hl => ?_)
      refine lv_iinc (v := nI (i + 1)) (lv' := [(3, .int (nI (i + 1))), (2, .int (w0 + ((gX1_replace w1 p0 (nI i) (fX1_madeDigit gd (nI i))).1))), (0, .ref o0), (1, .int p0)]) hx hb dX1_make_34 hl (k := 1) rfl (nI_1 _) (by decide) rfl (fun ls hl => ?_)
      refine lv_goto (tgt := 13) hx hb dX1_make_37 (by decide) ?_
      have eb : st_mkX1 gd p0 i w0 w1 = (w0 + ((gX1_replace w1 p0 (nI i) (fX1_madeDigit gd (nI i))).1), ((gX1_replace w1 p0 (nI i) (fX1_madeDigit gd (nI i))).2)) := rfl
      have ebb : (it_mkX1 M gd p0 (i + 1)) = (w0 + ((gX1_replace w1 p0 (nI i) (fX1_madeDigit gd (nI i))).1), ((gX1_replace w1 p0 (nI i) (fX1_madeDigit gd (nI i))).2)) := by show st_mkX1 gd p0 i (it_mkX1 M gd p0 i).1 (it_mkX1 M gd p0 i).2 = _; rw [← ew0, ← ew1]; exact eb
      exact ihi hlti _ _ _ ⟨w0 + ((gX1_replace w1 p0 (nI i) (fX1_madeDigit gd (nI i))).1), ((gX1_replace w1 p0 (nI i) (fX1_madeDigit gd (nI i))).2), (congrArg Prod.fst ebb).symm, (congrArg Prod.snd ebb).symm, hP, hD, hS, lv_sub hl [0, 1, 2, 3] rfl⟩
  · refine lv_iconst (v := (-1)) hx hb dX1_make_7 (by decide) ?_
    have hg : (gX1_make M gd p0) = ((-1), M) := by unfold gX1_make; unfold gX1_make_o; rw [if_pos c_4_2]
    exact W.iret (v := (-1)) hx hb hr (fun t ht hW => ⟨⟨(-1), M, rfl, ⟨(congrArg Prod.fst hg).symm, (congrArg Prod.snd hg).symm⟩, by rw [ht]; exact hP, va_K.moved hW.alike hK, hD⟩, hS.F ht⟩) hS.2.2 dX1_make_8

def fX1_copy_c47 (p0 : Int32) (p1 : Int32) (i : Nat) (w0 : Int32) (w1 : Nat → Nat → Int32) : Int32 := w0 + ((gX1_replace w1 p1 (nI i) ((w1 p0.toNatClampNeg) (nI i).toNatClampNeg)).1)
def st_cpX1 (p0 : Int32) (p1 : Int32) (i : Nat) (w0 : Int32) (w1 : Nat → Nat → Int32) : Int32 × (Nat → Nat → Int32) := ((fX1_copy_c47 p0 p1 i w0 w1), ((gX1_replace w1 p1 (nI i) ((w1 p0.toNatClampNeg) (nI i).toNatClampNeg)).2))
def it_cpX1 (M : Nat → Nat → Int32) (p0 : Int32) (p1 : Int32) : Nat → Int32 × (Nat → Nat → Int32)
  | 0 => ((0 : Int32), M)
  | i + 1 => st_cpX1 p0 p1 i (it_cpX1 M p0 p1 i).1 (it_cpX1 M p0 p1 i).2
def gX1_copy_o (M : Nat → Nat → Int32) (p0 : Int32) (p1 : Int32) (w0 : Int32) (w1 : Nat → Nat → Int32) : Int32 × (Nat → Nat → Int32) := (if (fX1_isTable p0) = 0 then ((-1), M) else (if (fX1_isTable p1) = 0 then ((-1), M) else (w0, w1)))
def gX1_copy (M : Nat → Nat → Int32) (p0 : Int32) (p1 : Int32) : Int32 × (Nat → Nat → Int32) := (gX1_copy_o M p0 p1 (it_cpX1 M p0 p1 2048).1 (it_cpX1 M p0 p1 2048).2)
theorem inX1_X1_copy : ∀ w ∈ wsX10, w ∈ wsX1_copy := by decide +kernel
set_option maxHeartbeats 4000000 in
set_option maxRecDepth 100000 in
theorem kX1_copy (l : Launch) (dC : Nat → ClassId) (dI : Nat → Nat → Nat) (o0 : Nat) (oT : Nat) (oG : Nat) (l0 : Nat) (s0 : Nat) (r : Nat → Nat) (cI : ClassId) (cT : ClassId) (sz : Nat) (M : Nat → Nat → Int32) (ui : Int32) (p0 : Int32) (p1 : Int32)  : Met l yX1_copy wsX1_copy ({ frames := 1, cells := 0, slots := 0, locals := 23 } : Room) (va_Pc [.ref o0, .int p0, .int p1] (fun U => U.heap.size = sz ∧ va_P (dC, dI) vwCl [(o0, .inr (1, [.ref oT, .ref oG, .ref l0, .ref s0, .int ui])), (oT, .inl (cT, 4, .inr (.inr (.inr (.inr (ax_rows r)))))), (r 0, .inl (cI, 2048, .inl (M 0))), (r 1, .inl (cI, 2048, .inl (M 1))), (r 2, .inl (cI, 2048, .inl (M 2))), (r 3, .inl (cI, 2048, .inl (M 3)))] U.heap ∧ va_K (dC, dI) vwCl [(cI, .int), (cT, .array .int)] U ∧ va_D (fun _ => True) [(o0, .inr (1, [.ref oT, .ref oG, .ref l0, .ref s0, .int ui])), (oT, .inl (cT, 4, .inr (.inr (.inr (.inr (ax_rows r)))))), (r 0, .inl (cI, 2048, .inl (M 0))), (r 1, .inl (cI, 2048, .inl (M 1))), (r 2, .inl (cI, 2048, .inl (M 2))), (r 3, .inl (cI, 2048, .inl (M 3)))])) (va_Qi (fun (r : Int32) (u : Nat → Nat → Int32) => r = (gX1_copy M p0 p1).1 ∧ u = (gX1_copy M p0 p1).2) (fun (u : Nat → Nat → Int32) (t : State) => va_P (dC, dI) vwCl [(o0, .inr (1, [.ref oT, .ref oG, .ref l0, .ref s0, .int ui])), (oT, .inl (cT, 4, .inr (.inr (.inr (.inr (ax_rows r)))))), (r 0, .inl (cI, 2048, .inl (u 0))), (r 1, .inl (cI, 2048, .inl (u 1))), (r 2, .inl (cI, 2048, .inl (u 2))), (r 3, .inl (cI, 2048, .inl (u 3)))] t.heap ∧ va_K (dC, dI) vwCl [(cI, .int), (cT, .array .int)] t ∧ va_D (va_A [(o0, .inr (1, [.ref oT, .ref oG, .ref l0, .ref s0, .int ui])), (oT, .inl (cT, 4, .inr (.inr (.inr (.inr (ax_rows r)))))), (r 0, .inl (cI, 2048, .inl (M 0))), (r 1, .inl (cI, 2048, .inl (M 1))), (r 2, .inl (cI, 2048, .inl (M 2))), (r 3, .inl (cI, 2048, .inl (M 3)))] sz) [(o0, .inr (1, [.ref oT, .ref oG, .ref l0, .ref s0, .int ui])), (oT, .inl (cT, 4, .inr (.inr (.inr (.inr (ax_rows r)))))), (r 0, .inl (cI, 2048, .inl (u 0))), (r 1, .inl (cI, 2048, .inl (u 1))), (r 2, .inl (cI, 2048, .inl (u 2))), (r 3, .inl (cI, 2048, .inl (u 3)))]) (va_A [(o0, .inr (1, [.ref oT, .ref oG, .ref l0, .ref s0, .int ui])), (oT, .inl (cT, 4, .inr (.inr (.inr (.inr (ax_rows r)))))), (r 0, .inl (cI, 2048, .inl (M 0))), (r 1, .inl (cI, 2048, .inl (M 1))), (r 2, .inl (cI, 2048, .inl (M 2))), (r 3, .inl (cI, 2048, .inl (M 3)))] sz)) 0 0 (va_A [(o0, .inr (1, [.ref oT, .ref oG, .ref l0, .ref s0, .int ui])), (oT, .inl (cT, 4, .inr (.inr (.inr (.inr (ax_rows r)))))), (r 0, .inl (cI, 2048, .inl (M 0))), (r 1, .inl (cI, 2048, .inl (M 1))), (r 2, .inl (cI, 2048, .inl (M 2))), (r 3, .inl (cI, 2048, .inl (M 3)))] sz) := by
  refine Met.ofW (cc := cX1_copy) (maxL := 5) (ret := (some .int)) (by decide) rfl ?_
  intro p e s m args below meth c s₁ B hml hv
  obtain ⟨rfl, hsz, hP, hK, hD0⟩ := hv
  have hx := B.exec
  have hb := B.bytes
  have hr := B.returns
  have hts := atoms_spec (ws := wsX1_copy) B.pre
  have hown : s.vm.findClass RX1 = some m.cls := findClass_of_methodNamed B.named
  have hlocks := B.notSynchronized
  subst hsz
  have hD := hD0.self (sz := s.heap.size)
  generalize hAe : va_A [(o0, .inr (1, [.ref oT, .ref oG, .ref l0, .ref s0, .int ui])), (oT, .inl (cT, 4, .inr (.inr (.inr (.inr (ax_rows r)))))), (r 0, .inl (cI, 2048, .inl (M 0))), (r 1, .inl (cI, 2048, .inl (M 1))), (r 2, .inl (cI, 2048, .inl (M 2))), (r 3, .inl (cI, 2048, .inl (M 3)))] s.heap.size = A at hD  ⊢
  have hA : ∀ q : Nat, s.heap.size ≤ q → A q := fun q h => by rw [← hAe]; exact Or.inr h
  have hS : va_S A s.heap s.heap [] := va_S.rf
  have hP : va_P (dC, dI) vwCl [(o0, .inr (1, [.ref oT, .ref oG, .ref l0, .ref s0, .int ui])), (oT, .inl (cT, 4, .inr (.inr (.inr (.inr (ax_rows r)))))), (r 0, .inl (cI, 2048, .inl (M 0))), (r 1, .inl (cI, 2048, .inl (M 1))), (r 2, .inl (cI, 2048, .inl (M 2))), (r 3, .inl (cI, 2048, .inl (M 3)))] s.heap := hP
  have hl := lv_entry ([.ref o0, .int p0, .int p1]) (n := 5) (Nat.le_of_ble_eq_true rfl)
  rw [lg_entry_eq]
  generalize (lg_sl ([.ref o0, .int p0, .int p1]) ++ List.replicate (5 - (lg_sl ([.ref o0, .int p0, .int p1])).length) Slot.unset).toArray = ls at hl ⊢
  have hl : lv_has ls 5 [(0, .ref o0), (1, .int p0), (2, .int p1)] := hl
  refine lv_iload_n hx hb dX1_copy_0 rfl (lv_at hl 1 rfl) ?_
  refine vp_callSi (W.runS (As := [.int p0]) (rest := []) ⟨hx, hb, hml, hown, hts⟩ (kX1_isTable l dC dI p0) (va_cwS 1 hts gX1_copy_X1_isTable rfl rfl rfl (by decide +kernel) ⟨Nat.le_of_ble_eq_true rfl, Nat.le_of_ble_eq_true rfl⟩) ⟨fun a U g mk q => by obtain ⟨q0, qt⟩ := q; exact ⟨q0, qt⟩, fun U hU hW => ⟨rfl, trivial⟩⟩ rfl rfl hl.1 rfl (lv_room (Nat.le_of_ble_eq_true rfl)) dX1_copy_1 ⟨Nat.zero_le _, Nat.zero_le _⟩) (fun r_1 hr_1 => ?_)
  subst hr_1
  refine lv_if_eq (tgt := 14) hx hb dX1_copy_4 (by decide) (fun c_4_2 => ?_) (fun c_4_2 => ?_)
  · refine lv_iconst (v := (-1)) hx hb dX1_copy_14 (by decide) ?_
    have hg : (gX1_copy M p0 p1) = ((-1), M) := by unfold gX1_copy; unfold gX1_copy_o; rw [if_pos c_4_2]
    exact W.iret (v := (-1)) hx hb hr (fun t ht hW => ⟨⟨(-1), M, rfl, ⟨(congrArg Prod.fst hg).symm, (congrArg Prod.snd hg).symm⟩, by rw [ht]; exact hP, va_K.moved hW.alike hK, hD⟩, hS.F ht⟩) hS.2.2 dX1_copy_15
  · refine lv_iload_n hx hb dX1_copy_7 rfl (lv_at hl 2 rfl) ?_
    refine vp_callSi (W.runS (As := [.int p1]) (rest := []) ⟨hx, hb, hml, hown, hts⟩ (kX1_isTable l dC dI p1) (va_cwS 1 hts gX1_copy_X1_isTable rfl rfl rfl (by decide +kernel) ⟨Nat.le_of_ble_eq_true rfl, Nat.le_of_ble_eq_true rfl⟩) ⟨fun a U g mk q => by obtain ⟨q0, qt⟩ := q; exact ⟨q0, qt⟩, fun U hU hW => ⟨rfl, trivial⟩⟩ rfl rfl hl.1 rfl (lv_room (Nat.le_of_ble_eq_true rfl)) dX1_copy_8 ⟨Nat.zero_le _, Nat.zero_le _⟩) (fun r_3 hr_3 => ?_)
    subst hr_3
    refine lv_if_ne (tgt := 16) hx hb dX1_copy_11 (by decide) (fun c_11_4 => ?_) (fun c_11_4 => ?_)
    · refine lv_iconst (v := 0) hx hb dX1_copy_16 (by decide) ?_
      refine lv_istore_n (lv' := [(3, .int 0), (0, .ref o0), (1, .int p0), (2, .int p1)]) hx hb dX1_copy_17 rfl hl (by decide) rfl (fun ls hl => ?_)
      refine lv_iconst (v := 0) hx hb dX1_copy_18 (by decide) ?_
      refine lv_istore (lv' := [(4, .int 0), (3, .int 0), (0, .ref o0), (1, .int p0), (2, .int p1)]) hx hb dX1_copy_19 hl (by decide) rfl (fun ls hl => ?_)
      refine ax_loopS (pc := 21) (fun i H locs ls => ∃ w0 : Int32, ∃ w1 : Nat → Nat → Int32, w0 = (it_cpX1 M p0 p1 i).1 ∧ w1 = (it_cpX1 M p0 p1 i).2 ∧ va_P (dC, dI) vwCl [(o0, .inr (1, [.ref oT, .ref oG, .ref l0, .ref s0, .int ui])), (oT, .inl (cT, 4, .inr (.inr (.inr (.inr (ax_rows r)))))), (r 0, .inl (cI, 2048, .inl (w1 0))), (r 1, .inl (cI, 2048, .inl (w1 1))), (r 2, .inl (cI, 2048, .inl (w1 2))), (r 3, .inl (cI, 2048, .inl (w1 3)))] H ∧ va_D A [(o0, .inr (1, [.ref oT, .ref oG, .ref l0, .ref s0, .int ui])), (oT, .inl (cT, 4, .inr (.inr (.inr (.inr (ax_rows r)))))), (r 0, .inl (cI, 2048, .inl (w1 0))), (r 1, .inl (cI, 2048, .inl (w1 1))), (r 2, .inl (cI, 2048, .inl (w1 2))), (r 3, .inl (cI, 2048, .inl (w1 3)))] ∧ va_S A s.heap H locs ∧ lv_has ls 5 [(4, .int (nI i)), (3, .int w0), (0, .ref o0), (1, .int p0), (2, .int p1)]) 2048 (fun i hii ihi H locs ls hIi => ?_) ⟨(0 : Int32), M, rfl, rfl, hP, hD, hS, lv_sub hl [0, 1, 2, 3, 4] rfl⟩
      obtain ⟨w0, w1, ew0, ew1, hP, hD, hS, hl⟩ := hIi
      have hP : va_P (dC, dI) vwCl [(o0, .inr (1, [.ref oT, .ref oG, .ref l0, .ref s0, .int ui])), (oT, .inl (cT, 4, .inr (.inr (.inr (.inr (ax_rows r)))))), (r 0, .inl (cI, 2048, .inl (w1 0))), (r 1, .inl (cI, 2048, .inl (w1 1))), (r 2, .inl (cI, 2048, .inl (w1 2))), (r 3, .inl (cI, 2048, .inl (w1 3)))] H := hP
      have hD : va_D A [(o0, .inr (1, [.ref oT, .ref oG, .ref l0, .ref s0, .int ui])), (oT, .inl (cT, 4, .inr (.inr (.inr (.inr (ax_rows r)))))), (r 0, .inl (cI, 2048, .inl (w1 0))), (r 1, .inl (cI, 2048, .inl (w1 1))), (r 2, .inl (cI, 2048, .inl (w1 2))), (r 3, .inl (cI, 2048, .inl (w1 3)))] := hD
      refine lv_iload hx hb dX1_copy_21 (lv_at hl 0 rfl) ?_
      refine lv_sipush (v := 2048) hx hb dX1_copy_23 (by decide) ?_
      refine lv_icmp_ge (tgt := 54) hx hb dX1_copy_26 (by decide) (fun c_26_5 => ?_) (fun c_26_5 => ?_)
      · obtain rfl : i = 2048 := ax_end (N := 2048) rfl (by decide) hii c_26_5
        refine lv_iload_n hx hb dX1_copy_54 rfl (lv_at hl 1 rfl) ?_
        have hg : (gX1_copy M p0 p1) = (w0, w1) := by unfold gX1_copy; rw [← ew0, ← ew1]; unfold gX1_copy_o; rw [if_neg c_4_2, if_neg c_11_4]
        exact W.iret (v := w0) hx hb hr (fun t ht hW => ⟨⟨w0, w1, rfl, ⟨(congrArg Prod.fst hg).symm, (congrArg Prod.snd hg).symm⟩, by rw [ht]; exact hP, va_K.moved hW.alike hK, hD⟩, hS.F ht⟩) hS.2.2 dX1_copy_55
      · have hlti : i < 2048 := ax_more (N := 2048) rfl (by decide) hii c_26_5
        refine lv_iload_n hx hb dX1_copy_29 rfl (lv_at hl 1 rfl) ?_
        refine lv_aload_n hx hb dX1_copy_30 rfl (lv_at hl 2 rfl) ?_
        refine lv_iload_n hx hb dX1_copy_31 rfl (lv_at hl 4 rfl) ?_
        refine lv_iload hx hb dX1_copy_32 (lv_at hl 0 rfl) ?_
        refine lv_aload_n hx hb dX1_copy_34 rfl (lv_at hl 2 rfl) ?_
        refine va_get (D := (dC, dI)) (ci := 1) (v := .ref oT) (C := RX1) (T := TX1) (N := 5) hx hb hts inX1_X1_copy hown hK hP 0 rfl rfl 0 (by decide) (hts (.fieldLink RX1 11 "DigitDivider" "tables" "[[I") (by decide +kernel)) (fun _ h9 => h9) rfl dX1_copy_35 ?_
        refine lv_iload_n hx hb dX1_copy_38 rfl (lv_at hl 3 rfl) ?_
        have h4_6 : p0.toNatClampNeg < 4 := ax_lt4 (ct_vp c_4_2)
        refine ax_aald (r := r) hx hb hK hP 1 1 rfl rfl (ct_vp c_4_2) dX1_copy_39 ?_
        refine lv_iload hx hb dX1_copy_40 (lv_at hl 0 rfl) ?_
        refine va_iald hx hb hK hP (2 + p0.toNatClampNeg) 0 (ax_get (r := r) (M := w1) h4_6) rfl (vp_in_nI hlti (by decide)) dX1_copy_42 ?_
        have hPc := hP.sub (ws' := [(o0, .inr (1, [.ref oT, .ref oG, .ref l0, .ref s0, .int ui])), (oT, .inl (cT, 4, .inr (.inr (.inr (.inr (ax_rows r)))))), (r 0, .inl (cI, 2048, .inl (w1 0))), (r 1, .inl (cI, 2048, .inl (w1 1))), (r 2, .inl (cI, 2048, .inl (w1 2))), (r 3, .inl (cI, 2048, .inl (w1 3)))]) [0, 1, 2, 3, 4, 5] rfl
        have hKc := hK.sub (tys' := [(cI, .int), (cT, .array .int)]) [0, 1] rfl
        have hDc := hD.sub (ws' := [(o0, .inr (1, [.ref oT, .ref oG, .ref l0, .ref s0, .int ui])), (oT, .inl (cT, 4, .inr (.inr (.inr (.inr (ax_rows r)))))), (r 0, .inl (cI, 2048, .inl (w1 0))), (r 1, .inl (cI, 2048, .inl (w1 1))), (r 2, .inl (cI, 2048, .inl (w1 2))), (r 3, .inl (cI, 2048, .inl (w1 3)))]) [0, 1, 2, 3, 4, 5] (by decide) rfl
        have hFc := va_free (wc := [(o0, .inr (1, [.ref oT, .ref oG, .ref l0, .ref s0, .int ui])), (oT, .inl (cT, 4, .inr (.inr (.inr (.inr (ax_rows r)))))), (r 0, .inl (cI, 2048, .inl (w1 0))), (r 1, .inl (cI, 2048, .inl (w1 1))), (r 2, .inl (cI, 2048, .inl (w1 2))), (r 3, .inl (cI, 2048, .inl (w1 3)))]) hD hS hA [0, 1, 2, 3, 4, 5] rfl
        refine va_calli (va_runV (As := [.int p1, .int (nI i), .int ((w1 p0.toNatClampNeg) (nI i).toNatClampNeg)]) (rest := [.int w0]) ⟨hx, hb, hml, hown, hts⟩ (kX1_replace l dC dI o0 oT oG l0 s0 r cI cT H.size w1 ui p1 (nI i) ((w1 p0.toNatClampNeg) (nI i).toNatClampNeg) (ct_vp c_11_4) (vp_in_nI hlti (by decide))) (cwV 3 hts gX1_copy_X1_replace rfl rfl rfl (by decide +kernel) ⟨Nat.le_of_ble_eq_true rfl, Nat.le_of_ble_eq_true rfl⟩) ⟨fun a U g mk q => by obtain ⟨q0, q1, qP, qK, qD⟩ := q; exact ⟨q0, q1, qP, va_K.moved (u := U) (U := U.calling g mk a) (Vm.Alike.refl U.vm) qK, qD⟩, va_recv hKc hPc (ci := 1) (q0 := 0) rfl rfl, fun U hU hW => ⟨rfl, by rw [hU], by rw [hU]; exact hPc, va_K.moved hW.alike hKc, hDc.weaken (fun _ _ _ _ => trivial)⟩⟩ rfl rfl hl.1 rfl (lv_room (Nat.le_of_ble_eq_true rfl)) dX1_copy_43 ⟨Nat.zero_le _, Nat.zero_le _⟩) hS (fun q _ h => hFc q h) hFc (fun r_7 u_7 t H1 locs ht hvm hw hB hz1 hk1 hS => ?_)
        try dsimp only at hw
        obtain ⟨hw1, hw2⟩ := hw
        subst hw1
        subst hw2
        obtain ⟨hP1, hK1, hD1⟩ := hB
        rw [ht] at hP1
        have hK1 := va_K.moved hvm.symm hK1
        obtain ⟨hP, hD⟩ := va_join (wr := []) (w1 := [(o0, .inr (1, [.ref oT, .ref oG, .ref l0, .ref s0, .int ui])), (oT, .inl (cT, 4, .inr (.inr (.inr (.inr (ax_rows r)))))), (r 0, .inl (cI, 2048, .inl (((gX1_replace w1 p1 (nI i) ((w1 p0.toNatClampNeg) (nI i).toNatClampNeg)).2) 0))), (r 1, .inl (cI, 2048, .inl (((gX1_replace w1 p1 (nI i) ((w1 p0.toNatClampNeg) (nI i).toNatClampNeg)).2) 1))), (r 2, .inl (cI, 2048, .inl (((gX1_replace w1 p1 (nI i) ((w1 p0.toNatClampNeg) (nI i).toNatClampNeg)).2) 2))), (r 3, .inl (cI, 2048, .inl (((gX1_replace w1 p1 (nI i) ((w1 p0.toNatClampNeg) (nI i).toNatClampNeg)).2) 3)))]) hP hD [0, 1, 2, 3, 4, 5] [] rfl rfl (by decide) (by decide) hk1 hFc hP1 hD1
        generalize H1 = H at hP hS ⊢
        have hP : va_P (dC, dI) vwCl [(o0, .inr (1, [.ref oT, .ref oG, .ref l0, .ref s0, .int ui])), (oT, .inl (cT, 4, .inr (.inr (.inr (.inr (ax_rows r)))))), (r 0, .inl (cI, 2048, .inl (((gX1_replace w1 p1 (nI i) ((w1 p0.toNatClampNeg) (nI i).toNatClampNeg)).2) 0))), (r 1, .inl (cI, 2048, .inl (((gX1_replace w1 p1 (nI i) ((w1 p0.toNatClampNeg) (nI i).toNatClampNeg)).2) 1))), (r 2, .inl (cI, 2048, .inl (((gX1_replace w1 p1 (nI i) ((w1 p0.toNatClampNeg) (nI i).toNatClampNeg)).2) 2))), (r 3, .inl (cI, 2048, .inl (((gX1_replace w1 p1 (nI i) ((w1 p0.toNatClampNeg) (nI i).toNatClampNeg)).2) 3)))] H := hP.sub [0, 1, 2, 3, 4, 5] rfl
        have hD : va_D A [(o0, .inr (1, [.ref oT, .ref oG, .ref l0, .ref s0, .int ui])), (oT, .inl (cT, 4, .inr (.inr (.inr (.inr (ax_rows r)))))), (r 0, .inl (cI, 2048, .inl (((gX1_replace w1 p1 (nI i) ((w1 p0.toNatClampNeg) (nI i).toNatClampNeg)).2) 0))), (r 1, .inl (cI, 2048, .inl (((gX1_replace w1 p1 (nI i) ((w1 p0.toNatClampNeg) (nI i).toNatClampNeg)).2) 1))), (r 2, .inl (cI, 2048, .inl (((gX1_replace w1 p1 (nI i) ((w1 p0.toNatClampNeg) (nI i).toNatClampNeg)).2) 2))), (r 3, .inl (cI, 2048, .inl (((gX1_replace w1 p1 (nI i) ((w1 p0.toNatClampNeg) (nI i).toNatClampNeg)).2) 3)))] := hD.sub [0, 1, 2, 3, 4, 5] (by decide) rfl
        refine lv_iadd hx hb dX1_copy_46 ?_
        refine ax_nmI (y := (fX1_copy_c47 p0 p1 i w0 w1)) rfl ?_
        refine lv_istore_n (lv' := [(3, .int (fX1_copy_c47 p0 p1 i w0 w1)), (4, .int (nI i)), (0, .ref o0), (1, .int p0), (2, .int p1)]) hx hb dX1_copy_47 rfl hl (by decide) rfl (fun ls hl => ?_)
        refine lv_iinc (v := nI (i + 1)) (lv' := [(4, .int (nI (i + 1))), (3, .int (fX1_copy_c47 p0 p1 i w0 w1)), (0, .ref o0), (1, .int p0), (2, .int p1)]) hx hb dX1_copy_48 hl (k := 1) rfl (nI_1 _) (by decide) rfl (fun ls hl => ?_)
        refine lv_goto (tgt := 21) hx hb dX1_copy_51 (by decide) ?_
        have eb : st_cpX1 p0 p1 i w0 w1 = ((fX1_copy_c47 p0 p1 i w0 w1), ((gX1_replace w1 p1 (nI i) ((w1 p0.toNatClampNeg) (nI i).toNatClampNeg)).2)) := rfl
        have ebb : (it_cpX1 M p0 p1 (i + 1)) = ((fX1_copy_c47 p0 p1 i w0 w1), ((gX1_replace w1 p1 (nI i) ((w1 p0.toNatClampNeg) (nI i).toNatClampNeg)).2)) := by show st_cpX1 p0 p1 i (it_cpX1 M p0 p1 i).1 (it_cpX1 M p0 p1 i).2 = _; rw [← ew0, ← ew1]; exact eb
        exact ihi hlti _ _ _ ⟨(fX1_copy_c47 p0 p1 i w0 w1), ((gX1_replace w1 p1 (nI i) ((w1 p0.toNatClampNeg) (nI i).toNatClampNeg)).2), (congrArg Prod.fst ebb).symm, (congrArg Prod.snd ebb).symm, hP, hD, hS, lv_sub hl [0, 1, 2, 3, 4] rfl⟩
    · refine lv_iconst (v := (-1)) hx hb dX1_copy_14 (by decide) ?_
      have hg : (gX1_copy M p0 p1) = ((-1), M) := by unfold gX1_copy; unfold gX1_copy_o; rw [if_neg c_4_2, if_pos c_11_4]
      exact W.iret (v := (-1)) hx hb hr (fun t ht hW => ⟨⟨(-1), M, rfl, ⟨(congrArg Prod.fst hg).symm, (congrArg Prod.snd hg).symm⟩, by rw [ht]; exact hP, va_K.moved hW.alike hK, hD⟩, hS.F ht⟩) hS.2.2 dX1_copy_15

