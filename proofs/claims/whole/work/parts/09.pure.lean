def fX1_isTable (p0 : Int32) : Int32 := (if p0 < 0 then 0 else (if 4 ≤ p0 then 0 else 1))
theorem fX1_isTable_01 (p0 : Int32) : (fX1_isTable p0) = 0 ∨ (fX1_isTable p0) = 1 := by unfold fX1_isTable; (repeat' split) <;> simp
set_option maxHeartbeats 4000000 in
set_option maxRecDepth 100000 in
theorem kX1_isTable (l : Launch) (dC : Nat → ClassId) (dI : Nat → Nat → Nat) (p0 : Int32)  : Met l yX1_isTable wsX1_isTable ({ frames := 0, cells := 0, slots := 0, locals := 0 } : Room) (va_Pc [.int p0] (fun U => True)) (vp_Si (fun r : Int32 => r = (fX1_isTable p0))) 0 0 (fun _ => False) := by
  refine Met.ofW (cc := cX1_isTable) (maxL := 1) (ret := (some .boolean)) (by decide) rfl ?_
  intro p e s m args below meth c s₁ B hml hv
  obtain ⟨rfl, _⟩ := hv
  have hx := B.exec
  have hb := B.bytes
  have hr := B.returns
  have hts := atoms_spec (ws := wsX1_isTable) B.pre
  have hown : s.vm.findClass RX1 = some m.cls := findClass_of_methodNamed B.named
  have hlocks := B.notSynchronized
  have hS : va_S (fun _ => False) s.heap s.heap [] := va_S.rf
  have hl := lv_entry ([.int p0]) (n := 1) (Nat.le_of_ble_eq_true rfl)
  rw [lg_entry_eq]
  generalize (lg_sl ([.int p0]) ++ List.replicate (1 - (lg_sl ([.int p0])).length) Slot.unset).toArray = ls at hl ⊢
  have hl : lv_has ls 1 [(0, .int p0)] := hl
  refine lv_iload_n hx hb dX1_isTable_0 rfl (lv_at hl 0 rfl) ?_
  refine lv_if_lt (tgt := 13) hx hb dX1_isTable_1 (by decide) (fun c_1_1 => ?_) (fun c_1_1 => ?_)
  · refine lv_iconst (v := 0) hx hb dX1_isTable_13 (by decide) ?_
    exact W.zret (ty := .boolean) (v := 0) hx hb hr rfl (fun t ht hW => ⟨0, rfl, (by unfold fX1_isTable; rw [if_pos c_1_1]), ht⟩) (fun q h => absurd h List.not_mem_nil) dX1_isTable_14
  · refine lv_iload_n hx hb dX1_isTable_4 rfl (lv_at hl 0 rfl) ?_
    refine lv_iconst (v := 4) hx hb dX1_isTable_5 (by decide) ?_
    refine lv_icmp_ge (tgt := 13) hx hb dX1_isTable_6 (by decide) (fun c_6_2 => ?_) (fun c_6_2 => ?_)
    · refine lv_iconst (v := 0) hx hb dX1_isTable_13 (by decide) ?_
      exact W.zret (ty := .boolean) (v := 0) hx hb hr rfl (fun t ht hW => ⟨0, rfl, (by unfold fX1_isTable; rw [if_neg c_1_1, if_pos c_6_2]), ht⟩) (fun q h => absurd h List.not_mem_nil) dX1_isTable_14
    · refine lv_iconst (v := 1) hx hb dX1_isTable_9 (by decide) ?_
      refine lv_goto (tgt := 14) hx hb dX1_isTable_10 (by decide) ?_
      exact W.zret (ty := .boolean) (v := 1) hx hb hr rfl (fun t ht hW => ⟨1, rfl, (by unfold fX1_isTable; rw [if_neg c_1_1, if_neg c_6_2]), ht⟩) (fun q h => absurd h List.not_mem_nil) dX1_isTable_14

def fX1_isCell (p0 : Int32) (p1 : Int32) : Int32 := (if p0 < 0 then 0 else (if 16 ≤ p0 then 0 else (if p1 < (-64) then 0 else (if 63 < p1 then 0 else 1))))
theorem fX1_isCell_01 (p0 : Int32) (p1 : Int32) : (fX1_isCell p0 p1) = 0 ∨ (fX1_isCell p0 p1) = 1 := by unfold fX1_isCell; (repeat' split) <;> simp
set_option maxHeartbeats 4000000 in
set_option maxRecDepth 100000 in
theorem kX1_isCell (l : Launch) (dC : Nat → ClassId) (dI : Nat → Nat → Nat) (p0 : Int32) (p1 : Int32)  : Met l yX1_isCell wsX1_isCell ({ frames := 0, cells := 0, slots := 0, locals := 0 } : Room) (va_Pc [.int p0, .int p1] (fun U => True)) (vp_Si (fun r : Int32 => r = (fX1_isCell p0 p1))) 0 0 (fun _ => False) := by
  refine Met.ofW (cc := cX1_isCell) (maxL := 2) (ret := (some .boolean)) (by decide) rfl ?_
  intro p e s m args below meth c s₁ B hml hv
  obtain ⟨rfl, _⟩ := hv
  have hx := B.exec
  have hb := B.bytes
  have hr := B.returns
  have hts := atoms_spec (ws := wsX1_isCell) B.pre
  have hown : s.vm.findClass RX1 = some m.cls := findClass_of_methodNamed B.named
  have hlocks := B.notSynchronized
  have hS : va_S (fun _ => False) s.heap s.heap [] := va_S.rf
  have hl := lv_entry ([.int p0, .int p1]) (n := 2) (Nat.le_of_ble_eq_true rfl)
  rw [lg_entry_eq]
  generalize (lg_sl ([.int p0, .int p1]) ++ List.replicate (2 - (lg_sl ([.int p0, .int p1])).length) Slot.unset).toArray = ls at hl ⊢
  have hl : lv_has ls 2 [(0, .int p0), (1, .int p1)] := hl
  refine lv_iload_n hx hb dX1_isCell_0 rfl (lv_at hl 0 rfl) ?_
  refine lv_if_lt (tgt := 26) hx hb dX1_isCell_1 (by decide) (fun c_1_1 => ?_) (fun c_1_1 => ?_)
  · refine lv_iconst (v := 0) hx hb dX1_isCell_26 (by decide) ?_
    exact W.zret (ty := .boolean) (v := 0) hx hb hr rfl (fun t ht hW => ⟨0, rfl, (by unfold fX1_isCell; rw [if_pos c_1_1]), ht⟩) (fun q h => absurd h List.not_mem_nil) dX1_isCell_27
  · refine lv_iload_n hx hb dX1_isCell_4 rfl (lv_at hl 0 rfl) ?_
    refine lv_bipush (v := 16) hx hb dX1_isCell_5 (by decide) ?_
    refine lv_icmp_ge (tgt := 26) hx hb dX1_isCell_7 (by decide) (fun c_7_2 => ?_) (fun c_7_2 => ?_)
    · refine lv_iconst (v := 0) hx hb dX1_isCell_26 (by decide) ?_
      exact W.zret (ty := .boolean) (v := 0) hx hb hr rfl (fun t ht hW => ⟨0, rfl, (by unfold fX1_isCell; rw [if_neg c_1_1, if_pos c_7_2]), ht⟩) (fun q h => absurd h List.not_mem_nil) dX1_isCell_27
    · refine lv_iload_n hx hb dX1_isCell_10 rfl (lv_at hl 1 rfl) ?_
      refine lv_bipush (v := (-64)) hx hb dX1_isCell_11 (by decide) ?_
      refine lv_icmp_lt (tgt := 26) hx hb dX1_isCell_13 (by decide) (fun c_13_3 => ?_) (fun c_13_3 => ?_)
      · refine lv_iconst (v := 0) hx hb dX1_isCell_26 (by decide) ?_
        exact W.zret (ty := .boolean) (v := 0) hx hb hr rfl (fun t ht hW => ⟨0, rfl, (by unfold fX1_isCell; rw [if_neg c_1_1, if_neg c_7_2, if_pos c_13_3]), ht⟩) (fun q h => absurd h List.not_mem_nil) dX1_isCell_27
      · refine lv_iload_n hx hb dX1_isCell_16 rfl (lv_at hl 1 rfl) ?_
        refine lv_bipush (v := 63) hx hb dX1_isCell_17 (by decide) ?_
        refine lv_icmp_gt (tgt := 26) hx hb dX1_isCell_19 (by decide) (fun c_19_4 => ?_) (fun c_19_4 => ?_)
        · refine lv_iconst (v := 0) hx hb dX1_isCell_26 (by decide) ?_
          exact W.zret (ty := .boolean) (v := 0) hx hb hr rfl (fun t ht hW => ⟨0, rfl, (by unfold fX1_isCell; rw [if_neg c_1_1, if_neg c_7_2, if_neg c_13_3, if_pos c_19_4]), ht⟩) (fun q h => absurd h List.not_mem_nil) dX1_isCell_27
        · refine lv_iconst (v := 1) hx hb dX1_isCell_22 (by decide) ?_
          refine lv_goto (tgt := 27) hx hb dX1_isCell_23 (by decide) ?_
          exact W.zret (ty := .boolean) (v := 1) hx hb hr rfl (fun t ht hW => ⟨1, rfl, (by unfold fX1_isCell; rw [if_neg c_1_1, if_neg c_7_2, if_neg c_13_3, if_neg c_19_4]), ht⟩) (fun q h => absurd h List.not_mem_nil) dX1_isCell_27

def fX1_isDigit (p0 : Int32) : Int32 := (if p0 < (-2) then 0 else (if 2 < p0 then 0 else 1))
theorem fX1_isDigit_01 (p0 : Int32) : (fX1_isDigit p0) = 0 ∨ (fX1_isDigit p0) = 1 := by unfold fX1_isDigit; (repeat' split) <;> simp
set_option maxHeartbeats 4000000 in
set_option maxRecDepth 100000 in
theorem kX1_isDigit (l : Launch) (dC : Nat → ClassId) (dI : Nat → Nat → Nat) (p0 : Int32)  : Met l yX1_isDigit wsX1_isDigit ({ frames := 0, cells := 0, slots := 0, locals := 0 } : Room) (va_Pc [.int p0] (fun U => True)) (vp_Si (fun r : Int32 => r = (fX1_isDigit p0))) 0 0 (fun _ => False) := by
  refine Met.ofW (cc := cX1_isDigit) (maxL := 1) (ret := (some .boolean)) (by decide) rfl ?_
  intro p e s m args below meth c s₁ B hml hv
  obtain ⟨rfl, _⟩ := hv
  have hx := B.exec
  have hb := B.bytes
  have hr := B.returns
  have hts := atoms_spec (ws := wsX1_isDigit) B.pre
  have hown : s.vm.findClass RX1 = some m.cls := findClass_of_methodNamed B.named
  have hlocks := B.notSynchronized
  have hS : va_S (fun _ => False) s.heap s.heap [] := va_S.rf
  have hl := lv_entry ([.int p0]) (n := 1) (Nat.le_of_ble_eq_true rfl)
  rw [lg_entry_eq]
  generalize (lg_sl ([.int p0]) ++ List.replicate (1 - (lg_sl ([.int p0])).length) Slot.unset).toArray = ls at hl ⊢
  have hl : lv_has ls 1 [(0, .int p0)] := hl
  refine lv_iload_n hx hb dX1_isDigit_0 rfl (lv_at hl 0 rfl) ?_
  refine lv_bipush (v := (-2)) hx hb dX1_isDigit_1 (by decide) ?_
  refine lv_icmp_lt (tgt := 15) hx hb dX1_isDigit_3 (by decide) (fun c_3_1 => ?_) (fun c_3_1 => ?_)
  · refine lv_iconst (v := 0) hx hb dX1_isDigit_15 (by decide) ?_
    exact W.zret (ty := .boolean) (v := 0) hx hb hr rfl (fun t ht hW => ⟨0, rfl, (by unfold fX1_isDigit; rw [if_pos c_3_1]), ht⟩) (fun q h => absurd h List.not_mem_nil) dX1_isDigit_16
  · refine lv_iload_n hx hb dX1_isDigit_6 rfl (lv_at hl 0 rfl) ?_
    refine lv_iconst (v := 2) hx hb dX1_isDigit_7 (by decide) ?_
    refine lv_icmp_gt (tgt := 15) hx hb dX1_isDigit_8 (by decide) (fun c_8_2 => ?_) (fun c_8_2 => ?_)
    · refine lv_iconst (v := 0) hx hb dX1_isDigit_15 (by decide) ?_
      exact W.zret (ty := .boolean) (v := 0) hx hb hr rfl (fun t ht hW => ⟨0, rfl, (by unfold fX1_isDigit; rw [if_neg c_3_1, if_pos c_8_2]), ht⟩) (fun q h => absurd h List.not_mem_nil) dX1_isDigit_16
    · refine lv_iconst (v := 1) hx hb dX1_isDigit_11 (by decide) ?_
      refine lv_goto (tgt := 16) hx hb dX1_isDigit_12 (by decide) ?_
      exact W.zret (ty := .boolean) (v := 1) hx hb hr rfl (fun t ht hW => ⟨1, rfl, (by unfold fX1_isDigit; rw [if_neg c_3_1, if_neg c_8_2]), ht⟩) (fun q h => absurd h List.not_mem_nil) dX1_isDigit_16

def fX1_cellAt (p0 : Int32) (p1 : Int32) : Int32 := ((p0 * 128) + p1) - (-64)
set_option maxHeartbeats 4000000 in
set_option maxRecDepth 100000 in
theorem kX1_cellAt (l : Launch) (dC : Nat → ClassId) (dI : Nat → Nat → Nat) (p0 : Int32) (p1 : Int32)  : Met l yX1_cellAt wsX1_cellAt ({ frames := 0, cells := 0, slots := 0, locals := 0 } : Room) (va_Pc [.int p0, .int p1] (fun U => True)) (vp_Si (fun r : Int32 => r = (fX1_cellAt p0 p1))) 0 0 (fun _ => False) := by
  refine Met.ofW (cc := cX1_cellAt) (maxL := 2) (ret := (some .int)) (by decide) rfl ?_
  intro p e s m args below meth c s₁ B hml hv
  obtain ⟨rfl, _⟩ := hv
  have hx := B.exec
  have hb := B.bytes
  have hr := B.returns
  have hts := atoms_spec (ws := wsX1_cellAt) B.pre
  have hown : s.vm.findClass RX1 = some m.cls := findClass_of_methodNamed B.named
  have hlocks := B.notSynchronized
  have hS : va_S (fun _ => False) s.heap s.heap [] := va_S.rf
  have hl := lv_entry ([.int p0, .int p1]) (n := 2) (Nat.le_of_ble_eq_true rfl)
  rw [lg_entry_eq]
  generalize (lg_sl ([.int p0, .int p1]) ++ List.replicate (2 - (lg_sl ([.int p0, .int p1])).length) Slot.unset).toArray = ls at hl ⊢
  have hl : lv_has ls 2 [(0, .int p0), (1, .int p1)] := hl
  refine lv_iload_n hx hb dX1_cellAt_0 rfl (lv_at hl 0 rfl) ?_
  refine lv_sipush (v := 128) hx hb dX1_cellAt_1 (by decide) ?_
  refine lv_imul hx hb dX1_cellAt_4 ?_
  refine lv_iload_n hx hb dX1_cellAt_5 rfl (lv_at hl 1 rfl) ?_
  refine lv_iadd hx hb dX1_cellAt_6 ?_
  refine lv_bipush (v := (-64)) hx hb dX1_cellAt_7 (by decide) ?_
  refine lv_isub hx hb dX1_cellAt_9 ?_
  exact W.iret (v := ((p0 * 128) + p1) - (-64)) hx hb hr (fun t ht hW => ⟨((p0 * 128) + p1) - (-64), rfl, rfl, ht⟩) (fun q h => absurd h List.not_mem_nil) dX1_cellAt_10

def fX1_leastDivisor_m5 (p1 : Int32) : Int32 := (if p1 < (-(p1 + 2)) then (-(p1 + 2)) else p1)
def fX1_leastDivisor_m18 (p0 : Int32) (p1 : Int32) : Int32 := (if (4 * (16 + p0)) < (3 * (fX1_leastDivisor_m5 p1)) then (3 * (fX1_leastDivisor_m5 p1)) else (4 * (16 + p0)))
def fX1_leastDivisor (p0 : Int32) (p1 : Int32) : Int32 := (fX1_leastDivisor_m18 p0 p1)
set_option maxHeartbeats 4000000 in
set_option maxRecDepth 100000 in
theorem kX1_leastDivisor (l : Launch) (dC : Nat → ClassId) (dI : Nat → Nat → Nat) (p0 : Int32) (p1 : Int32)  : Met l yX1_leastDivisor wsX1_leastDivisor ({ frames := 1, cells := 0, slots := 0, locals := 13 } : Room) (va_Pc [.int p0, .int p1] (fun U => True)) (vp_Si (fun r : Int32 => r = (fX1_leastDivisor p0 p1))) 0 0 (fun _ => False) := by
  refine Met.ofW (cc := cX1_leastDivisor) (maxL := 3) (ret := (some .int)) (by decide) rfl ?_
  intro p e s m args below meth c s₁ B hml hv
  obtain ⟨rfl, _⟩ := hv
  have hx := B.exec
  have hb := B.bytes
  have hr := B.returns
  have hts := atoms_spec (ws := wsX1_leastDivisor) B.pre
  have hown : s.vm.findClass RX1 = some m.cls := findClass_of_methodNamed B.named
  have hlocks := B.notSynchronized
  have hS : va_S (fun _ => False) s.heap s.heap [] := va_S.rf
  have hl := lv_entry ([.int p0, .int p1]) (n := 3) (Nat.le_of_ble_eq_true rfl)
  rw [lg_entry_eq]
  generalize (lg_sl ([.int p0, .int p1]) ++ List.replicate (3 - (lg_sl ([.int p0, .int p1])).length) Slot.unset).toArray = ls at hl ⊢
  have hl : lv_has ls 3 [(0, .int p0), (1, .int p1)] := hl
  refine lv_iload_n hx hb dX1_leastDivisor_0 rfl (lv_at hl 1 rfl) ?_
  refine lv_iload_n hx hb dX1_leastDivisor_1 rfl (lv_at hl 1 rfl) ?_
  refine lv_iconst (v := 2) hx hb dX1_leastDivisor_2 (by decide) ?_
  refine lv_iadd hx hb dX1_leastDivisor_3 ?_
  refine lv_ineg hx hb dX1_leastDivisor_4 ?_
  refine va_mmax hx hb (hml.trans hl.1.symm) hown (hts (.methodLink RX1 118 Lib.Math.max.name) (by decide +kernel)) (hts (.static Lib.Math.max.name) (by decide +kernel)) (hts (.initialized "java/lang/Math") (by decide +kernel)) (hts (.code Lib.Math.max.name Lib.Math.max.code 2 (some .int)) (by decide +kernel)) (Nat.le_of_ble_eq_true rfl) (Nat.le_of_ble_eq_true rfl) (Nat.zero_le _) (Nat.zero_le _) dX1_leastDivisor_5 ?_
  refine ax_nmI (y := (fX1_leastDivisor_m5 p1)) rfl ?_
  refine lv_istore_n (lv' := [(2, .int (fX1_leastDivisor_m5 p1)), (0, .int p0), (1, .int p1)]) hx hb dX1_leastDivisor_8 rfl hl (by decide) rfl (fun ls hl => ?_)
  refine lv_iconst (v := 4) hx hb dX1_leastDivisor_9 (by decide) ?_
  refine lv_bipush (v := 16) hx hb dX1_leastDivisor_10 (by decide) ?_
  refine lv_iload_n hx hb dX1_leastDivisor_12 rfl (lv_at hl 1 rfl) ?_
  refine lv_iadd hx hb dX1_leastDivisor_13 ?_
  refine lv_imul hx hb dX1_leastDivisor_14 ?_
  refine lv_iconst (v := 3) hx hb dX1_leastDivisor_15 (by decide) ?_
  refine lv_iload_n hx hb dX1_leastDivisor_16 rfl (lv_at hl 0 rfl) ?_
  refine lv_imul hx hb dX1_leastDivisor_17 ?_
  refine va_mmax hx hb (hml.trans hl.1.symm) hown (hts (.methodLink RX1 118 Lib.Math.max.name) (by decide +kernel)) (hts (.static Lib.Math.max.name) (by decide +kernel)) (hts (.initialized "java/lang/Math") (by decide +kernel)) (hts (.code Lib.Math.max.name Lib.Math.max.code 2 (some .int)) (by decide +kernel)) (Nat.le_of_ble_eq_true rfl) (Nat.le_of_ble_eq_true rfl) (Nat.zero_le _) (Nat.zero_le _) dX1_leastDivisor_18 ?_
  refine ax_nmI (y := (fX1_leastDivisor_m18 p0 p1)) rfl ?_
  exact W.iret (v := (fX1_leastDivisor_m18 p0 p1)) hx hb hr (fun t ht hW => ⟨(fX1_leastDivisor_m18 p0 p1), rfl, rfl, ht⟩) (fun q h => absurd h List.not_mem_nil) dX1_leastDivisor_21

def fX1_endOfDivisors (p0 : Int32) : Int32 := 4 * (17 + p0)
set_option maxHeartbeats 4000000 in
set_option maxRecDepth 100000 in
theorem kX1_endOfDivisors (l : Launch) (dC : Nat → ClassId) (dI : Nat → Nat → Nat) (p0 : Int32)  : Met l yX1_endOfDivisors wsX1_endOfDivisors ({ frames := 0, cells := 0, slots := 0, locals := 0 } : Room) (va_Pc [.int p0] (fun U => True)) (vp_Si (fun r : Int32 => r = (fX1_endOfDivisors p0))) 0 0 (fun _ => False) := by
  refine Met.ofW (cc := cX1_endOfDivisors) (maxL := 1) (ret := (some .int)) (by decide) rfl ?_
  intro p e s m args below meth c s₁ B hml hv
  obtain ⟨rfl, _⟩ := hv
  have hx := B.exec
  have hb := B.bytes
  have hr := B.returns
  have hts := atoms_spec (ws := wsX1_endOfDivisors) B.pre
  have hown : s.vm.findClass RX1 = some m.cls := findClass_of_methodNamed B.named
  have hlocks := B.notSynchronized
  have hS : va_S (fun _ => False) s.heap s.heap [] := va_S.rf
  have hl := lv_entry ([.int p0]) (n := 1) (Nat.le_of_ble_eq_true rfl)
  rw [lg_entry_eq]
  generalize (lg_sl ([.int p0]) ++ List.replicate (1 - (lg_sl ([.int p0])).length) Slot.unset).toArray = ls at hl ⊢
  have hl : lv_has ls 1 [(0, .int p0)] := hl
  refine lv_iconst (v := 4) hx hb dX1_endOfDivisors_0 (by decide) ?_
  refine lv_bipush (v := 17) hx hb dX1_endOfDivisors_1 (by decide) ?_
  refine lv_iload_n hx hb dX1_endOfDivisors_3 rfl (lv_at hl 0 rfl) ?_
  refine lv_iadd hx hb dX1_endOfDivisors_4 ?_
  refine lv_imul hx hb dX1_endOfDivisors_5 ?_
  exact W.iret (v := 4 * (17 + p0)) hx hb hr (fun t ht hW => ⟨4 * (17 + p0), rfl, rfl, ht⟩) (fun q h => absurd h List.not_mem_nil) dX1_endOfDivisors_6

def fX1_holdsAny (p0 : Int32) (p1 : Int32) : Int32 := (if (fX1_endOfDivisors p0) ≤ (fX1_leastDivisor p0 p1) then 0 else 1)
theorem fX1_holdsAny_01 (p0 : Int32) (p1 : Int32) : (fX1_holdsAny p0 p1) = 0 ∨ (fX1_holdsAny p0 p1) = 1 := by unfold fX1_holdsAny; (repeat' split) <;> simp
set_option maxHeartbeats 4000000 in
set_option maxRecDepth 100000 in
theorem kX1_holdsAny (l : Launch) (dC : Nat → ClassId) (dI : Nat → Nat → Nat) (p0 : Int32) (p1 : Int32)  : Met l yX1_holdsAny wsX1_holdsAny ({ frames := 2, cells := 0, slots := 0, locals := 35 } : Room) (va_Pc [.int p0, .int p1] (fun U => True)) (vp_Si (fun r : Int32 => r = (fX1_holdsAny p0 p1))) 0 0 (fun _ => False) := by
  refine Met.ofW (cc := cX1_holdsAny) (maxL := 2) (ret := (some .boolean)) (by decide) rfl ?_
  intro p e s m args below meth c s₁ B hml hv
  obtain ⟨rfl, _⟩ := hv
  have hx := B.exec
  have hb := B.bytes
  have hr := B.returns
  have hts := atoms_spec (ws := wsX1_holdsAny) B.pre
  have hown : s.vm.findClass RX1 = some m.cls := findClass_of_methodNamed B.named
  have hlocks := B.notSynchronized
  have hS : va_S (fun _ => False) s.heap s.heap [] := va_S.rf
  have hl := lv_entry ([.int p0, .int p1]) (n := 2) (Nat.le_of_ble_eq_true rfl)
  rw [lg_entry_eq]
  generalize (lg_sl ([.int p0, .int p1]) ++ List.replicate (2 - (lg_sl ([.int p0, .int p1])).length) Slot.unset).toArray = ls at hl ⊢
  have hl : lv_has ls 2 [(0, .int p0), (1, .int p1)] := hl
  refine lv_iload_n hx hb dX1_holdsAny_0 rfl (lv_at hl 0 rfl) ?_
  refine lv_iload_n hx hb dX1_holdsAny_1 rfl (lv_at hl 1 rfl) ?_
  refine vp_callSi (W.runS (As := [.int p0, .int p1]) (rest := []) ⟨hx, hb, hml, hown, hts⟩ (kX1_leastDivisor l dC dI p0 p1) (va_cwS 2 hts gX1_holdsAny_X1_leastDivisor rfl rfl rfl (by decide +kernel) ⟨Nat.le_of_ble_eq_true rfl, Nat.le_of_ble_eq_true rfl⟩) ⟨fun a U g mk q => by obtain ⟨q0, qt⟩ := q; exact ⟨q0, qt⟩, fun U hU hW => ⟨rfl, trivial⟩⟩ rfl rfl hl.1 rfl (lv_room (Nat.le_of_ble_eq_true rfl)) dX1_holdsAny_2 ⟨Nat.zero_le _, Nat.zero_le _⟩) (fun r_1 hr_1 => ?_)
  subst hr_1
  refine lv_iload_n hx hb dX1_holdsAny_5 rfl (lv_at hl 0 rfl) ?_
  refine vp_callSi (W.runS (As := [.int p0]) (rest := [.int (fX1_leastDivisor p0 p1)]) ⟨hx, hb, hml, hown, hts⟩ (kX1_endOfDivisors l dC dI p0) (va_cwS 1 hts gX1_holdsAny_X1_endOfDivisors rfl rfl rfl (by decide +kernel) ⟨Nat.le_of_ble_eq_true rfl, Nat.le_of_ble_eq_true rfl⟩) ⟨fun a U g mk q => by obtain ⟨q0, qt⟩ := q; exact ⟨q0, qt⟩, fun U hU hW => ⟨rfl, trivial⟩⟩ rfl rfl hl.1 rfl (lv_room (Nat.le_of_ble_eq_true rfl)) dX1_holdsAny_6 ⟨Nat.zero_le _, Nat.zero_le _⟩) (fun r_2 hr_2 => ?_)
  subst hr_2
  refine lv_icmp_ge (tgt := 16) hx hb dX1_holdsAny_9 (by decide) (fun c_9_3 => ?_) (fun c_9_3 => ?_)
  · refine lv_iconst (v := 0) hx hb dX1_holdsAny_16 (by decide) ?_
    exact W.zret (ty := .boolean) (v := 0) hx hb hr rfl (fun t ht hW => ⟨0, rfl, (by unfold fX1_holdsAny; rw [if_pos c_9_3]), ht⟩) (fun q h => absurd h List.not_mem_nil) dX1_holdsAny_17
  · refine lv_iconst (v := 1) hx hb dX1_holdsAny_12 (by decide) ?_
    refine lv_goto (tgt := 17) hx hb dX1_holdsAny_13 (by decide) ?_
    exact W.zret (ty := .boolean) (v := 1) hx hb hr rfl (fun t ht hW => ⟨1, rfl, (by unfold fX1_holdsAny; rw [if_neg c_9_3]), ht⟩) (fun q h => absurd h List.not_mem_nil) dX1_holdsAny_17

def fX1_staysWithin_j69 (p0 : Int32) (p1 : Int32) (p2 : Int32) : Int32 := (if p2 = 2 then 1 else (if (((3 * p2) + 2) * (fX1_leastDivisor p0 p1)) < (24 * (p1 + 2)) then 0 else (if (((3 * p2) + 2) * (fX1_endOfDivisors p0)) < (24 * (p1 + 2)) then 0 else 1)))
def fX1_staysWithin_j101 (p0 : Int32) (p1 : Int32) (p2 : Int32) : Int32 := (if p2 = (-2) then 1 else (if (24 * p1) < (((3 * p2) - 2) * (fX1_leastDivisor p0 p1)) then 0 else (if (24 * p1) < (((3 * p2) - 2) * (fX1_endOfDivisors p0)) then 0 else 1)))
def fX1_staysWithin (p0 : Int32) (p1 : Int32) (p2 : Int32) : Int32 := (if (fX1_staysWithin_j69 p0 p1 p2) = 0 then 0 else (if (fX1_staysWithin_j101 p0 p1 p2) = 0 then 0 else 1))
theorem fX1_staysWithin_01 (p0 : Int32) (p1 : Int32) (p2 : Int32) : (fX1_staysWithin p0 p1 p2) = 0 ∨ (fX1_staysWithin p0 p1 p2) = 1 := by unfold fX1_staysWithin; (repeat' split) <;> simp
set_option maxHeartbeats 4000000 in
set_option maxRecDepth 100000 in
theorem kX1_staysWithin (l : Launch) (dC : Nat → ClassId) (dI : Nat → Nat → Nat) (p0 : Int32) (p1 : Int32) (p2 : Int32)  : Met l yX1_staysWithin wsX1_staysWithin ({ frames := 2, cells := 0, slots := 0, locals := 35 } : Room) (va_Pc [.int p0, .int p1, .int p2] (fun U => True)) (vp_Si (fun r : Int32 => r = (fX1_staysWithin p0 p1 p2))) 0 0 (fun _ => False) := by
  refine Met.ofW (cc := cX1_staysWithin) (maxL := 11) (ret := (some .boolean)) (by decide) rfl ?_
  intro p e s m args below meth c s₁ B hml hv
  obtain ⟨rfl, _⟩ := hv
  have hx := B.exec
  have hb := B.bytes
  have hr := B.returns
  have hts := atoms_spec (ws := wsX1_staysWithin) B.pre
  have hown : s.vm.findClass RX1 = some m.cls := findClass_of_methodNamed B.named
  have hlocks := B.notSynchronized
  have hS : va_S (fun _ => False) s.heap s.heap [] := va_S.rf
  have hl := lv_entry ([.int p0, .int p1, .int p2]) (n := 11) (Nat.le_of_ble_eq_true rfl)
  rw [lg_entry_eq]
  generalize (lg_sl ([.int p0, .int p1, .int p2]) ++ List.replicate (11 - (lg_sl ([.int p0, .int p1, .int p2])).length) Slot.unset).toArray = ls at hl ⊢
  have hl : lv_has ls 11 [(0, .int p0), (1, .int p1), (2, .int p2)] := hl
  refine lv_iload_n hx hb dX1_staysWithin_0 rfl (lv_at hl 0 rfl) ?_
  refine lv_iload_n hx hb dX1_staysWithin_1 rfl (lv_at hl 1 rfl) ?_
  refine vp_callSi (W.runS (As := [.int p0, .int p1]) (rest := []) ⟨hx, hb, hml, hown, hts⟩ (kX1_leastDivisor l dC dI p0 p1) (va_cwS 2 hts gX1_staysWithin_X1_leastDivisor rfl rfl rfl (by decide +kernel) ⟨Nat.le_of_ble_eq_true rfl, Nat.le_of_ble_eq_true rfl⟩) ⟨fun a U g mk q => by obtain ⟨q0, qt⟩ := q; exact ⟨q0, qt⟩, fun U hU hW => ⟨rfl, trivial⟩⟩ rfl rfl hl.1 rfl (lv_room (Nat.le_of_ble_eq_true rfl)) dX1_staysWithin_2 ⟨Nat.zero_le _, Nat.zero_le _⟩) (fun r_1 hr_1 => ?_)
  subst hr_1
  refine lv_istore_n (lv' := [(3, .int (fX1_leastDivisor p0 p1)), (0, .int p0), (1, .int p1), (2, .int p2)]) hx hb dX1_staysWithin_5 rfl hl (by decide) rfl (fun ls hl => ?_)
  refine lv_iload_n hx hb dX1_staysWithin_6 rfl (lv_at hl 1 rfl) ?_
  refine vp_callSi (W.runS (As := [.int p0]) (rest := []) ⟨hx, hb, hml, hown, hts⟩ (kX1_endOfDivisors l dC dI p0) (va_cwS 1 hts gX1_staysWithin_X1_endOfDivisors rfl rfl rfl (by decide +kernel) ⟨Nat.le_of_ble_eq_true rfl, Nat.le_of_ble_eq_true rfl⟩) ⟨fun a U g mk q => by obtain ⟨q0, qt⟩ := q; exact ⟨q0, qt⟩, fun U hU hW => ⟨rfl, trivial⟩⟩ rfl rfl hl.1 rfl (lv_room (Nat.le_of_ble_eq_true rfl)) dX1_staysWithin_7 ⟨Nat.zero_le _, Nat.zero_le _⟩) (fun r_2 hr_2 => ?_)
  subst hr_2
  refine lv_istore (lv' := [(4, .int (fX1_endOfDivisors p0)), (3, .int (fX1_leastDivisor p0 p1)), (0, .int p0), (1, .int p1), (2, .int p2)]) hx hb dX1_staysWithin_10 hl (by decide) rfl (fun ls hl => ?_)
  refine lv_bipush (v := 24) hx hb dX1_staysWithin_12 (by decide) ?_
  refine lv_iload_n hx hb dX1_staysWithin_14 rfl (lv_at hl 3 rfl) ?_
  refine lv_iconst (v := 2) hx hb dX1_staysWithin_15 (by decide) ?_
  refine lv_iadd hx hb dX1_staysWithin_16 ?_
  refine lv_imul hx hb dX1_staysWithin_17 ?_
  refine lv_istore (lv' := [(5, .int (24 * (p1 + 2))), (4, .int (fX1_endOfDivisors p0)), (3, .int (fX1_leastDivisor p0 p1)), (0, .int p0), (1, .int p1), (2, .int p2)]) hx hb dX1_staysWithin_18 hl (by decide) rfl (fun ls hl => ?_)
  refine lv_bipush (v := 24) hx hb dX1_staysWithin_20 (by decide) ?_
  refine lv_iload_n hx hb dX1_staysWithin_22 rfl (lv_at hl 4 rfl) ?_
  refine lv_imul hx hb dX1_staysWithin_23 ?_
  refine lv_istore (lv' := [(6, .int (24 * p1)), (5, .int (24 * (p1 + 2))), (4, .int (fX1_endOfDivisors p0)), (3, .int (fX1_leastDivisor p0 p1)), (0, .int p0), (1, .int p1), (2, .int p2)]) hx hb dX1_staysWithin_24 hl (by decide) rfl (fun ls hl => ?_)
  refine lv_iconst (v := 3) hx hb dX1_staysWithin_26 (by decide) ?_
  refine lv_iload_n hx hb dX1_staysWithin_27 rfl (lv_at hl 6 rfl) ?_
  refine lv_imul hx hb dX1_staysWithin_28 ?_
  refine lv_iconst (v := 2) hx hb dX1_staysWithin_29 (by decide) ?_
  refine lv_iadd hx hb dX1_staysWithin_30 ?_
  refine lv_istore (lv' := [(7, .int ((3 * p2) + 2)), (6, .int (24 * p1)), (5, .int (24 * (p1 + 2))), (4, .int (fX1_endOfDivisors p0)), (3, .int (fX1_leastDivisor p0 p1)), (0, .int p0), (1, .int p1), (2, .int p2)]) hx hb dX1_staysWithin_31 hl (by decide) rfl (fun ls hl => ?_)
  refine lv_iconst (v := 3) hx hb dX1_staysWithin_33 (by decide) ?_
  refine lv_iload_n hx hb dX1_staysWithin_34 rfl (lv_at hl 7 rfl) ?_
  refine lv_imul hx hb dX1_staysWithin_35 ?_
  refine lv_iconst (v := 2) hx hb dX1_staysWithin_36 (by decide) ?_
  refine lv_isub hx hb dX1_staysWithin_37 ?_
  refine lv_istore (lv' := [(8, .int ((3 * p2) - 2)), (7, .int ((3 * p2) + 2)), (6, .int (24 * p1)), (5, .int (24 * (p1 + 2))), (4, .int (fX1_endOfDivisors p0)), (3, .int (fX1_leastDivisor p0 p1)), (0, .int p0), (1, .int p1), (2, .int p2)]) hx hb dX1_staysWithin_38 hl (by decide) rfl (fun ls hl => ?_)
  refine lv_iload_n hx hb dX1_staysWithin_40 rfl (lv_at hl 8 rfl) ?_
  refine lv_iconst (v := 2) hx hb dX1_staysWithin_41 (by decide) ?_
  refine ax_joinI (J := 69) (v := (fX1_staysWithin_j69 p0 p1 p2)) (ls := ls) (rest := []) ?_ (fun kj_12 => ?_)
  · refine lv_istore (lv' := [(9, .int (fX1_staysWithin_j69 p0 p1 p2)), (8, .int ((3 * p2) - 2)), (7, .int ((3 * p2) + 2)), (6, .int (24 * p1)), (5, .int (24 * (p1 + 2))), (4, .int (fX1_endOfDivisors p0)), (3, .int (fX1_leastDivisor p0 p1)), (0, .int p0), (1, .int p1), (2, .int p2)]) hx hb dX1_staysWithin_69 hl (by decide) rfl (fun ls hl => ?_)
    refine lv_iload_n hx hb dX1_staysWithin_71 rfl (lv_at hl 9 rfl) ?_
    refine lv_bipush (v := (-2)) hx hb dX1_staysWithin_72 (by decide) ?_
    refine ax_joinI (J := 101) (v := (fX1_staysWithin_j101 p0 p1 p2)) (ls := ls) (rest := []) ?_ (fun kj_11 => ?_)
    · refine lv_istore (lv' := [(10, .int (fX1_staysWithin_j101 p0 p1 p2)), (9, .int (fX1_staysWithin_j69 p0 p1 p2)), (8, .int ((3 * p2) - 2)), (7, .int ((3 * p2) + 2)), (6, .int (24 * p1)), (5, .int (24 * (p1 + 2))), (4, .int (fX1_endOfDivisors p0)), (3, .int (fX1_leastDivisor p0 p1)), (0, .int p0), (1, .int p1), (2, .int p2)]) hx hb dX1_staysWithin_101 hl (by decide) rfl (fun ls hl => ?_)
      refine lv_iload hx hb dX1_staysWithin_103 (lv_at hl 1 rfl) ?_
      refine lv_if_eq (tgt := 117) hx hb dX1_staysWithin_105 (by decide) (fun c_105_9 => ?_) (fun c_105_9 => ?_)
      · refine lv_iconst (v := 0) hx hb dX1_staysWithin_117 (by decide) ?_
        exact W.zret (ty := .boolean) (v := 0) hx hb hr rfl (fun t ht hW => ⟨0, rfl, (by unfold fX1_staysWithin; rw [if_pos c_105_9]), ht⟩) (fun q h => absurd h List.not_mem_nil) dX1_staysWithin_118
      · refine lv_iload hx hb dX1_staysWithin_108 (lv_at hl 0 rfl) ?_
        refine lv_if_eq (tgt := 117) hx hb dX1_staysWithin_110 (by decide) (fun c_110_10 => ?_) (fun c_110_10 => ?_)
        · refine lv_iconst (v := 0) hx hb dX1_staysWithin_117 (by decide) ?_
          exact W.zret (ty := .boolean) (v := 0) hx hb hr rfl (fun t ht hW => ⟨0, rfl, (by unfold fX1_staysWithin; rw [if_neg c_105_9, if_pos c_110_10]), ht⟩) (fun q h => absurd h List.not_mem_nil) dX1_staysWithin_118
        · refine lv_iconst (v := 1) hx hb dX1_staysWithin_113 (by decide) ?_
          refine lv_goto (tgt := 118) hx hb dX1_staysWithin_114 (by decide) ?_
          exact W.zret (ty := .boolean) (v := 1) hx hb hr rfl (fun t ht hW => ⟨1, rfl, (by unfold fX1_staysWithin; rw [if_neg c_105_9, if_neg c_110_10]), ht⟩) (fun q h => absurd h List.not_mem_nil) dX1_staysWithin_118
    · refine lv_icmp_eq (tgt := 96) hx hb dX1_staysWithin_74 (by decide) (fun c_74_6 => ?_) (fun c_74_6 => ?_)
      · refine lv_iconst (v := 1) hx hb dX1_staysWithin_96 (by decide) ?_
        refine lv_goto (tgt := 101) hx hb dX1_staysWithin_97 (by decide) ?_
        exact kj_11 _ (by unfold fX1_staysWithin_j101; rw [if_pos c_74_6])
      · refine lv_iload hx hb dX1_staysWithin_77 (lv_at hl 3 rfl) ?_
        refine lv_iload hx hb dX1_staysWithin_79 (lv_at hl 1 rfl) ?_
        refine lv_iload_n hx hb dX1_staysWithin_81 rfl (lv_at hl 6 rfl) ?_
        refine lv_imul hx hb dX1_staysWithin_82 ?_
        refine lv_icmp_lt (tgt := 100) hx hb dX1_staysWithin_83 (by decide) (fun c_83_7 => ?_) (fun c_83_7 => ?_)
        · refine lv_iconst (v := 0) hx hb dX1_staysWithin_100 (by decide) ?_
          exact kj_11 _ (by unfold fX1_staysWithin_j101; rw [if_neg c_74_6, if_pos c_83_7])
        · refine lv_iload hx hb dX1_staysWithin_86 (lv_at hl 3 rfl) ?_
          refine lv_iload hx hb dX1_staysWithin_88 (lv_at hl 1 rfl) ?_
          refine lv_iload hx hb dX1_staysWithin_90 (lv_at hl 5 rfl) ?_
          refine lv_imul hx hb dX1_staysWithin_92 ?_
          refine lv_icmp_lt (tgt := 100) hx hb dX1_staysWithin_93 (by decide) (fun c_93_8 => ?_) (fun c_93_8 => ?_)
          · refine lv_iconst (v := 0) hx hb dX1_staysWithin_100 (by decide) ?_
            exact kj_11 _ (by unfold fX1_staysWithin_j101; rw [if_neg c_74_6, if_neg c_83_7, if_pos c_93_8])
          · refine lv_iconst (v := 1) hx hb dX1_staysWithin_96 (by decide) ?_
            refine lv_goto (tgt := 101) hx hb dX1_staysWithin_97 (by decide) ?_
            exact kj_11 _ (by unfold fX1_staysWithin_j101; rw [if_neg c_74_6, if_neg c_83_7, if_neg c_93_8])
  · refine lv_icmp_eq (tgt := 64) hx hb dX1_staysWithin_42 (by decide) (fun c_42_3 => ?_) (fun c_42_3 => ?_)
    · refine lv_iconst (v := 1) hx hb dX1_staysWithin_64 (by decide) ?_
      refine lv_goto (tgt := 69) hx hb dX1_staysWithin_65 (by decide) ?_
      exact kj_12 _ (by unfold fX1_staysWithin_j69; rw [if_pos c_42_3])
    · refine lv_iload hx hb dX1_staysWithin_45 (lv_at hl 3 rfl) ?_
      refine lv_iload hx hb dX1_staysWithin_47 (lv_at hl 1 rfl) ?_
      refine lv_iload_n hx hb dX1_staysWithin_49 rfl (lv_at hl 5 rfl) ?_
      refine lv_imul hx hb dX1_staysWithin_50 ?_
      refine lv_icmp_gt (tgt := 68) hx hb dX1_staysWithin_51 (by decide) (fun c_51_4 => ?_) (fun c_51_4 => ?_)
      · refine lv_iconst (v := 0) hx hb dX1_staysWithin_68 (by decide) ?_
        exact kj_12 _ (by unfold fX1_staysWithin_j69; rw [if_neg c_42_3, if_pos c_51_4])
      · refine lv_iload hx hb dX1_staysWithin_54 (lv_at hl 3 rfl) ?_
        refine lv_iload hx hb dX1_staysWithin_56 (lv_at hl 1 rfl) ?_
        refine lv_iload hx hb dX1_staysWithin_58 (lv_at hl 4 rfl) ?_
        refine lv_imul hx hb dX1_staysWithin_60 ?_
        refine lv_icmp_gt (tgt := 68) hx hb dX1_staysWithin_61 (by decide) (fun c_61_5 => ?_) (fun c_61_5 => ?_)
        · refine lv_iconst (v := 0) hx hb dX1_staysWithin_68 (by decide) ?_
          exact kj_12 _ (by unfold fX1_staysWithin_j69; rw [if_neg c_42_3, if_neg c_51_4, if_pos c_61_5])
        · refine lv_iconst (v := 1) hx hb dX1_staysWithin_64 (by decide) ?_
          refine lv_goto (tgt := 69) hx hb dX1_staysWithin_65 (by decide) ?_
          exact kj_12 _ (by unfold fX1_staysWithin_j69; rw [if_neg c_42_3, if_neg c_51_4, if_neg c_61_5])

def fX2_in (p0 : Int32) (p1 : Int32) (p2 : Int32) : Int32 := (if p0 < p1 then 0 else (if p2 < p0 then 0 else 1))
theorem fX2_in_01 (p0 : Int32) (p1 : Int32) (p2 : Int32) : (fX2_in p0 p1 p2) = 0 ∨ (fX2_in p0 p1 p2) = 1 := by unfold fX2_in; (repeat' split) <;> simp
set_option maxHeartbeats 4000000 in
set_option maxRecDepth 100000 in
theorem kX2_in (l : Launch) (dC : Nat → ClassId) (dI : Nat → Nat → Nat) (p0 : Int32) (p1 : Int32) (p2 : Int32)  : Met l yX2_in wsX2_in ({ frames := 0, cells := 0, slots := 0, locals := 0 } : Room) (va_Pc [.int p0, .int p1, .int p2] (fun U => True)) (vp_Si (fun r : Int32 => r = (fX2_in p0 p1 p2))) 0 0 (fun _ => False) := by
  refine Met.ofW (cc := cX2_in) (maxL := 3) (ret := (some .boolean)) (by decide) rfl ?_
  intro p e s m args below meth c s₁ B hml hv
  obtain ⟨rfl, _⟩ := hv
  have hx := B.exec
  have hb := B.bytes
  have hr := B.returns
  have hts := atoms_spec (ws := wsX2_in) B.pre
  have hown : s.vm.findClass RX2 = some m.cls := findClass_of_methodNamed B.named
  have hlocks := B.notSynchronized
  have hS : va_S (fun _ => False) s.heap s.heap [] := va_S.rf
  have hl := lv_entry ([.int p0, .int p1, .int p2]) (n := 3) (Nat.le_of_ble_eq_true rfl)
  rw [lg_entry_eq]
  generalize (lg_sl ([.int p0, .int p1, .int p2]) ++ List.replicate (3 - (lg_sl ([.int p0, .int p1, .int p2])).length) Slot.unset).toArray = ls at hl ⊢
  have hl : lv_has ls 3 [(0, .int p0), (1, .int p1), (2, .int p2)] := hl
  refine lv_iload_n hx hb dX2_in_0 rfl (lv_at hl 0 rfl) ?_
  refine lv_iload_n hx hb dX2_in_1 rfl (lv_at hl 1 rfl) ?_
  refine lv_icmp_lt (tgt := 14) hx hb dX2_in_2 (by decide) (fun c_2_1 => ?_) (fun c_2_1 => ?_)
  · refine lv_iconst (v := 0) hx hb dX2_in_14 (by decide) ?_
    exact W.zret (ty := .boolean) (v := 0) hx hb hr rfl (fun t ht hW => ⟨0, rfl, (by unfold fX2_in; rw [if_pos c_2_1]), ht⟩) (fun q h => absurd h List.not_mem_nil) dX2_in_15
  · refine lv_iload_n hx hb dX2_in_5 rfl (lv_at hl 0 rfl) ?_
    refine lv_iload_n hx hb dX2_in_6 rfl (lv_at hl 2 rfl) ?_
    refine lv_icmp_gt (tgt := 14) hx hb dX2_in_7 (by decide) (fun c_7_2 => ?_) (fun c_7_2 => ?_)
    · refine lv_iconst (v := 0) hx hb dX2_in_14 (by decide) ?_
      exact W.zret (ty := .boolean) (v := 0) hx hb hr rfl (fun t ht hW => ⟨0, rfl, (by unfold fX2_in; rw [if_neg c_2_1, if_pos c_7_2]), ht⟩) (fun q h => absurd h List.not_mem_nil) dX2_in_15
    · refine lv_iconst (v := 1) hx hb dX2_in_10 (by decide) ?_
      refine lv_goto (tgt := 15) hx hb dX2_in_11 (by decide) ?_
      exact W.zret (ty := .boolean) (v := 1) hx hb hr rfl (fun t ht hW => ⟨1, rfl, (by unfold fX2_in; rw [if_neg c_2_1, if_neg c_7_2]), ht⟩) (fun q h => absurd h List.not_mem_nil) dX2_in_15

def fX2_isHeld (p0 : Int32) (p1 : Int32) : Int32 := (if p1 = (-1) then 1 else (if p1 < 0 then (if (4 * (17 + p0)) ≤ ((-3) * (p1 + 2)) then 0 else 1) else (if (4 * (17 + p0)) ≤ (3 * p1) then 0 else 1)))
theorem fX2_isHeld_01 (p0 : Int32) (p1 : Int32) : (fX2_isHeld p0 p1) = 0 ∨ (fX2_isHeld p0 p1) = 1 := by unfold fX2_isHeld; (repeat' split) <;> simp
set_option maxHeartbeats 4000000 in
set_option maxRecDepth 100000 in
theorem kX2_isHeld (l : Launch) (dC : Nat → ClassId) (dI : Nat → Nat → Nat) (p0 : Int32) (p1 : Int32)  : Met l yX2_isHeld wsX2_isHeld ({ frames := 0, cells := 0, slots := 0, locals := 0 } : Room) (va_Pc [.int p0, .int p1] (fun U => True)) (vp_Si (fun r : Int32 => r = (fX2_isHeld p0 p1))) 0 0 (fun _ => False) := by
  refine Met.ofW (cc := cX2_isHeld) (maxL := 3) (ret := (some .boolean)) (by decide) rfl ?_
  intro p e s m args below meth c s₁ B hml hv
  obtain ⟨rfl, _⟩ := hv
  have hx := B.exec
  have hb := B.bytes
  have hr := B.returns
  have hts := atoms_spec (ws := wsX2_isHeld) B.pre
  have hown : s.vm.findClass RX2 = some m.cls := findClass_of_methodNamed B.named
  have hlocks := B.notSynchronized
  have hS : va_S (fun _ => False) s.heap s.heap [] := va_S.rf
  have hl := lv_entry ([.int p0, .int p1]) (n := 3) (Nat.le_of_ble_eq_true rfl)
  rw [lg_entry_eq]
  generalize (lg_sl ([.int p0, .int p1]) ++ List.replicate (3 - (lg_sl ([.int p0, .int p1])).length) Slot.unset).toArray = ls at hl ⊢
  have hl : lv_has ls 3 [(0, .int p0), (1, .int p1)] := hl
  refine lv_iconst (v := 4) hx hb dX2_isHeld_0 (by decide) ?_
  refine lv_bipush (v := 17) hx hb dX2_isHeld_1 (by decide) ?_
  refine lv_iload_n hx hb dX2_isHeld_3 rfl (lv_at hl 0 rfl) ?_
  refine lv_iadd hx hb dX2_isHeld_4 ?_
  refine lv_imul hx hb dX2_isHeld_5 ?_
  refine lv_istore_n (lv' := [(2, .int (4 * (17 + p0))), (0, .int p0), (1, .int p1)]) hx hb dX2_isHeld_6 rfl hl (by decide) rfl (fun ls hl => ?_)
  refine lv_iload_n hx hb dX2_isHeld_7 rfl (lv_at hl 2 rfl) ?_
  refine lv_iconst (v := (-1)) hx hb dX2_isHeld_8 (by decide) ?_
  refine lv_icmp_eq (tgt := 36) hx hb dX2_isHeld_9 (by decide) (fun c_9_1 => ?_) (fun c_9_1 => ?_)
  · refine lv_iconst (v := 1) hx hb dX2_isHeld_36 (by decide) ?_
    refine lv_goto (tgt := 41) hx hb dX2_isHeld_37 (by decide) ?_
    exact W.zret (ty := .boolean) (v := 1) hx hb hr rfl (fun t ht hW => ⟨1, rfl, (by unfold fX2_isHeld; rw [if_pos c_9_1]), ht⟩) (fun q h => absurd h List.not_mem_nil) dX2_isHeld_41
  · refine lv_iload_n hx hb dX2_isHeld_12 rfl (lv_at hl 2 rfl) ?_
    refine lv_if_lt (tgt := 26) hx hb dX2_isHeld_13 (by decide) (fun c_13_2 => ?_) (fun c_13_2 => ?_)
    · refine lv_bipush (v := (-3)) hx hb dX2_isHeld_26 (by decide) ?_
      refine lv_iload_n hx hb dX2_isHeld_28 rfl (lv_at hl 2 rfl) ?_
      refine lv_iconst (v := 2) hx hb dX2_isHeld_29 (by decide) ?_
      refine lv_iadd hx hb dX2_isHeld_30 ?_
      refine lv_imul hx hb dX2_isHeld_31 ?_
      refine lv_iload_n hx hb dX2_isHeld_32 rfl (lv_at hl 0 rfl) ?_
      refine lv_icmp_ge (tgt := 40) hx hb dX2_isHeld_33 (by decide) (fun c_33_3 => ?_) (fun c_33_3 => ?_)
      · refine lv_iconst (v := 0) hx hb dX2_isHeld_40 (by decide) ?_
        exact W.zret (ty := .boolean) (v := 0) hx hb hr rfl (fun t ht hW => ⟨0, rfl, (by unfold fX2_isHeld; rw [if_neg c_9_1, if_pos c_13_2, if_pos c_33_3]), ht⟩) (fun q h => absurd h List.not_mem_nil) dX2_isHeld_41
      · refine lv_iconst (v := 1) hx hb dX2_isHeld_36 (by decide) ?_
        refine lv_goto (tgt := 41) hx hb dX2_isHeld_37 (by decide) ?_
        exact W.zret (ty := .boolean) (v := 1) hx hb hr rfl (fun t ht hW => ⟨1, rfl, (by unfold fX2_isHeld; rw [if_neg c_9_1, if_pos c_13_2, if_neg c_33_3]), ht⟩) (fun q h => absurd h List.not_mem_nil) dX2_isHeld_41
    · refine lv_iconst (v := 3) hx hb dX2_isHeld_16 (by decide) ?_
      refine lv_iload_n hx hb dX2_isHeld_17 rfl (lv_at hl 2 rfl) ?_
      refine lv_imul hx hb dX2_isHeld_18 ?_
      refine lv_iload_n hx hb dX2_isHeld_19 rfl (lv_at hl 0 rfl) ?_
      refine lv_icmp_ge (tgt := 40) hx hb dX2_isHeld_20 (by decide) (fun c_20_4 => ?_) (fun c_20_4 => ?_)
      · refine lv_iconst (v := 0) hx hb dX2_isHeld_40 (by decide) ?_
        exact W.zret (ty := .boolean) (v := 0) hx hb hr rfl (fun t ht hW => ⟨0, rfl, (by unfold fX2_isHeld; rw [if_neg c_9_1, if_neg c_13_2, if_pos c_20_4]), ht⟩) (fun q h => absurd h List.not_mem_nil) dX2_isHeld_41
      · refine lv_goto (tgt := 36) hx hb dX2_isHeld_23 (by decide) ?_
        refine lv_iconst (v := 1) hx hb dX2_isHeld_36 (by decide) ?_
        refine lv_goto (tgt := 41) hx hb dX2_isHeld_37 (by decide) ?_
        exact W.zret (ty := .boolean) (v := 1) hx hb hr rfl (fun t ht hW => ⟨1, rfl, (by unfold fX2_isHeld; rw [if_neg c_9_1, if_neg c_13_2, if_neg c_20_4]), ht⟩) (fun q h => absurd h List.not_mem_nil) dX2_isHeld_41

def fX2_isOver_j36 (p0 : Int32) (p1 : Int32) : Int32 := (if (3 * p1) ≤ (4 * (16 + p0)) then 4 * (16 + p0) else 3 * p1)
def fX2_isOver_j67 (p0 : Int32) (p1 : Int32) (p2 : Int32) : Int32 := (if 0 ≤ p2 then (fX2_isOver_j36 p0 p1) else 4 * (17 + p0))
def fX2_isOver (p0 : Int32) (p1 : Int32) (p2 : Int32) : Int32 := (if p2 = 2 then 0 else (if (4 * (17 + p0)) ≤ (fX2_isOver_j36 p0 p1) then 0 else (if (24 * (p1 + 2)) ≤ (((3 * p2) + 2) * (fX2_isOver_j67 p0 p1 p2)) then 0 else 1)))
theorem fX2_isOver_01 (p0 : Int32) (p1 : Int32) (p2 : Int32) : (fX2_isOver p0 p1 p2) = 0 ∨ (fX2_isOver p0 p1 p2) = 1 := by unfold fX2_isOver; (repeat' split) <;> simp
set_option maxHeartbeats 4000000 in
set_option maxRecDepth 100000 in
theorem kX2_isOver (l : Launch) (dC : Nat → ClassId) (dI : Nat → Nat → Nat) (p0 : Int32) (p1 : Int32) (p2 : Int32)  : Met l yX2_isOver wsX2_isOver ({ frames := 0, cells := 0, slots := 0, locals := 0 } : Room) (va_Pc [.int p0, .int p1, .int p2] (fun U => True)) (vp_Si (fun r : Int32 => r = (fX2_isOver p0 p1 p2))) 0 0 (fun _ => False) := by
  refine Met.ofW (cc := cX2_isOver) (maxL := 6) (ret := (some .boolean)) (by decide) rfl ?_
  intro p e s m args below meth c s₁ B hml hv
  obtain ⟨rfl, _⟩ := hv
  have hx := B.exec
  have hb := B.bytes
  have hr := B.returns
  have hts := atoms_spec (ws := wsX2_isOver) B.pre
  have hown : s.vm.findClass RX2 = some m.cls := findClass_of_methodNamed B.named
  have hlocks := B.notSynchronized
  have hS : va_S (fun _ => False) s.heap s.heap [] := va_S.rf
  have hl := lv_entry ([.int p0, .int p1, .int p2]) (n := 6) (Nat.le_of_ble_eq_true rfl)
  rw [lg_entry_eq]
  generalize (lg_sl ([.int p0, .int p1, .int p2]) ++ List.replicate (6 - (lg_sl ([.int p0, .int p1, .int p2])).length) Slot.unset).toArray = ls at hl ⊢
  have hl : lv_has ls 6 [(0, .int p0), (1, .int p1), (2, .int p2)] := hl
  refine lv_iload_n hx hb dX2_isOver_0 rfl (lv_at hl 2 rfl) ?_
  refine lv_iconst (v := 2) hx hb dX2_isOver_1 (by decide) ?_
  refine lv_icmp_ne (tgt := 7) hx hb dX2_isOver_2 (by decide) (fun c_2_1 => ?_) (fun c_2_1 => ?_)
  · refine lv_iconst (v := 4) hx hb dX2_isOver_7 (by decide) ?_
    refine lv_bipush (v := 16) hx hb dX2_isOver_8 (by decide) ?_
    refine lv_iload_n hx hb dX2_isOver_10 rfl (lv_at hl 0 rfl) ?_
    refine lv_iadd hx hb dX2_isOver_11 ?_
    refine lv_imul hx hb dX2_isOver_12 ?_
    refine lv_istore_n (lv' := [(3, .int (4 * (16 + p0))), (0, .int p0), (1, .int p1), (2, .int p2)]) hx hb dX2_isOver_13 rfl hl (by decide) rfl (fun ls hl => ?_)
    refine lv_iconst (v := 4) hx hb dX2_isOver_14 (by decide) ?_
    refine lv_bipush (v := 17) hx hb dX2_isOver_15 (by decide) ?_
    refine lv_iload_n hx hb dX2_isOver_17 rfl (lv_at hl 1 rfl) ?_
    refine lv_iadd hx hb dX2_isOver_18 ?_
    refine lv_imul hx hb dX2_isOver_19 ?_
    refine lv_istore (lv' := [(4, .int (4 * (17 + p0))), (3, .int (4 * (16 + p0))), (0, .int p0), (1, .int p1), (2, .int p2)]) hx hb dX2_isOver_20 hl (by decide) rfl (fun ls hl => ?_)
    refine lv_iconst (v := 3) hx hb dX2_isOver_22 (by decide) ?_
    refine lv_iload_n hx hb dX2_isOver_23 rfl (lv_at hl 3 rfl) ?_
    refine lv_imul hx hb dX2_isOver_24 ?_
    refine lv_iload_n hx hb dX2_isOver_25 rfl (lv_at hl 1 rfl) ?_
    refine ax_joinI (J := 36) (v := (fX2_isOver_j36 p0 p1)) (ls := ls) (rest := []) ?_ (fun kj_7 => ?_)
    · refine lv_istore (lv' := [(5, .int (fX2_isOver_j36 p0 p1)), (4, .int (4 * (17 + p0))), (3, .int (4 * (16 + p0))), (0, .int p0), (1, .int p1), (2, .int p2)]) hx hb dX2_isOver_36 hl (by decide) rfl (fun ls hl => ?_)
      refine lv_iload hx hb dX2_isOver_38 (lv_at hl 0 rfl) ?_
      refine lv_iload hx hb dX2_isOver_40 (lv_at hl 1 rfl) ?_
      refine lv_icmp_ge (tgt := 75) hx hb dX2_isOver_42 (by decide) (fun c_42_3 => ?_) (fun c_42_3 => ?_)
      · refine lv_iconst (v := 0) hx hb dX2_isOver_75 (by decide) ?_
        exact W.zret (ty := .boolean) (v := 0) hx hb hr rfl (fun t ht hW => ⟨0, rfl, (by unfold fX2_isOver; rw [if_neg c_2_1, if_pos c_42_3]), ht⟩) (fun q h => absurd h List.not_mem_nil) dX2_isOver_76
      · refine lv_bipush (v := 24) hx hb dX2_isOver_45 (by decide) ?_
        refine lv_iload_n hx hb dX2_isOver_47 rfl (lv_at hl 4 rfl) ?_
        refine lv_iconst (v := 2) hx hb dX2_isOver_48 (by decide) ?_
        refine lv_iadd hx hb dX2_isOver_49 ?_
        refine lv_imul hx hb dX2_isOver_50 ?_
        refine lv_iconst (v := 3) hx hb dX2_isOver_51 (by decide) ?_
        refine lv_iload_n hx hb dX2_isOver_52 rfl (lv_at hl 5 rfl) ?_
        refine lv_imul hx hb dX2_isOver_53 ?_
        refine lv_iconst (v := 2) hx hb dX2_isOver_54 (by decide) ?_
        refine lv_iadd hx hb dX2_isOver_55 ?_
        refine lv_iload_n hx hb dX2_isOver_56 rfl (lv_at hl 5 rfl) ?_
        refine ax_joinI (J := 67) (v := (fX2_isOver_j67 p0 p1 p2)) (ls := ls) (rest := [.int ((3 * p2) + 2), .int (24 * (p1 + 2))]) ?_ (fun kj_6 => ?_)
        · refine lv_imul hx hb dX2_isOver_67 ?_
          refine lv_icmp_le (tgt := 75) hx hb dX2_isOver_68 (by decide) (fun c_68_5 => ?_) (fun c_68_5 => ?_)
          · refine lv_iconst (v := 0) hx hb dX2_isOver_75 (by decide) ?_
            exact W.zret (ty := .boolean) (v := 0) hx hb hr rfl (fun t ht hW => ⟨0, rfl, (by unfold fX2_isOver; rw [if_neg c_2_1, if_neg c_42_3, if_pos c_68_5]), ht⟩) (fun q h => absurd h List.not_mem_nil) dX2_isOver_76
          · refine lv_iconst (v := 1) hx hb dX2_isOver_71 (by decide) ?_
            refine lv_goto (tgt := 76) hx hb dX2_isOver_72 (by decide) ?_
            exact W.zret (ty := .boolean) (v := 1) hx hb hr rfl (fun t ht hW => ⟨1, rfl, (by unfold fX2_isOver; rw [if_neg c_2_1, if_neg c_42_3, if_neg c_68_5]), ht⟩) (fun q h => absurd h List.not_mem_nil) dX2_isOver_76
        · refine lv_if_ge (tgt := 65) hx hb dX2_isOver_57 (by decide) (fun c_57_4 => ?_) (fun c_57_4 => ?_)
          · refine lv_iload hx hb dX2_isOver_65 (lv_at hl 0 rfl) ?_
            exact kj_6 _ (by unfold fX2_isOver_j67; rw [if_pos c_57_4])
          · refine lv_iload hx hb dX2_isOver_60 (lv_at hl 1 rfl) ?_
            refine lv_goto (tgt := 67) hx hb dX2_isOver_62 (by decide) ?_
            exact kj_6 _ (by unfold fX2_isOver_j67; rw [if_neg c_57_4])
    · refine lv_icmp_le (tgt := 35) hx hb dX2_isOver_26 (by decide) (fun c_26_2 => ?_) (fun c_26_2 => ?_)
      · refine lv_iload_n hx hb dX2_isOver_35 rfl (lv_at hl 1 rfl) ?_
        exact kj_7 _ (by unfold fX2_isOver_j36; rw [if_pos c_26_2])
      · refine lv_iconst (v := 3) hx hb dX2_isOver_29 (by decide) ?_
        refine lv_iload_n hx hb dX2_isOver_30 rfl (lv_at hl 3 rfl) ?_
        refine lv_imul hx hb dX2_isOver_31 ?_
        refine lv_goto (tgt := 36) hx hb dX2_isOver_32 (by decide) ?_
        exact kj_7 _ (by unfold fX2_isOver_j36; rw [if_neg c_26_2])
  · refine lv_iconst (v := 0) hx hb dX2_isOver_5 (by decide) ?_
    exact W.zret (ty := .boolean) (v := 0) hx hb hr rfl (fun t ht hW => ⟨0, rfl, (by unfold fX2_isOver; rw [if_pos c_2_1]), ht⟩) (fun q h => absurd h List.not_mem_nil) dX2_isOver_6

def fX2_isUnder (p0 : Int32) (p1 : Int32) (p2 : Int32) : Int32 := (if p2 = (-2) then 0 else (if p2 ≤ 0 then (if (4 * (16 + p0)) ≤ ((-3) * (p1 + 2)) then (if (4 * (17 + p0)) ≤ ((-3) * (p1 + 2)) then 0 else (if (((3 * p2) - 2) * ((-3) * (p1 + 2))) ≤ (24 * p1) then 0 else 1)) else (if (((3 * p2) - 2) * (4 * (16 + p0))) ≤ (24 * p1) then 0 else 1)) else (if (((3 * p2) - 2) * (4 * (17 + p0))) ≤ (24 * p1) then 0 else (if (4 * (17 + p0)) ≤ ((-3) * (p1 + 2)) then 0 else 1))))
theorem fX2_isUnder_01 (p0 : Int32) (p1 : Int32) (p2 : Int32) : (fX2_isUnder p0 p1 p2) = 0 ∨ (fX2_isUnder p0 p1 p2) = 1 := by unfold fX2_isUnder; (repeat' split) <;> simp
set_option maxHeartbeats 4000000 in
set_option maxRecDepth 100000 in
theorem kX2_isUnder (l : Launch) (dC : Nat → ClassId) (dI : Nat → Nat → Nat) (p0 : Int32) (p1 : Int32) (p2 : Int32)  : Met l yX2_isUnder wsX2_isUnder ({ frames := 0, cells := 0, slots := 0, locals := 0 } : Room) (va_Pc [.int p0, .int p1, .int p2] (fun U => True)) (vp_Si (fun r : Int32 => r = (fX2_isUnder p0 p1 p2))) 0 0 (fun _ => False) := by
  refine Met.ofW (cc := cX2_isUnder) (maxL := 6) (ret := (some .boolean)) (by decide) rfl ?_
  intro p e s m args below meth c s₁ B hml hv
  obtain ⟨rfl, _⟩ := hv
  have hx := B.exec
  have hb := B.bytes
  have hr := B.returns
  have hts := atoms_spec (ws := wsX2_isUnder) B.pre
  have hown : s.vm.findClass RX2 = some m.cls := findClass_of_methodNamed B.named
  have hlocks := B.notSynchronized
  have hS : va_S (fun _ => False) s.heap s.heap [] := va_S.rf
  have hl := lv_entry ([.int p0, .int p1, .int p2]) (n := 6) (Nat.le_of_ble_eq_true rfl)
  rw [lg_entry_eq]
  generalize (lg_sl ([.int p0, .int p1, .int p2]) ++ List.replicate (6 - (lg_sl ([.int p0, .int p1, .int p2])).length) Slot.unset).toArray = ls at hl ⊢
  have hl : lv_has ls 6 [(0, .int p0), (1, .int p1), (2, .int p2)] := hl
  refine lv_iload_n hx hb dX2_isUnder_0 rfl (lv_at hl 2 rfl) ?_
  refine lv_bipush (v := (-2)) hx hb dX2_isUnder_1 (by decide) ?_
  refine lv_icmp_ne (tgt := 8) hx hb dX2_isUnder_3 (by decide) (fun c_3_1 => ?_) (fun c_3_1 => ?_)
  · refine lv_iconst (v := 4) hx hb dX2_isUnder_8 (by decide) ?_
    refine lv_bipush (v := 16) hx hb dX2_isUnder_9 (by decide) ?_
    refine lv_iload_n hx hb dX2_isUnder_11 rfl (lv_at hl 0 rfl) ?_
    refine lv_iadd hx hb dX2_isUnder_12 ?_
    refine lv_imul hx hb dX2_isUnder_13 ?_
    refine lv_istore_n (lv' := [(3, .int (4 * (16 + p0))), (0, .int p0), (1, .int p1), (2, .int p2)]) hx hb dX2_isUnder_14 rfl hl (by decide) rfl (fun ls hl => ?_)
    refine lv_iconst (v := 4) hx hb dX2_isUnder_15 (by decide) ?_
    refine lv_bipush (v := 17) hx hb dX2_isUnder_16 (by decide) ?_
    refine lv_iload_n hx hb dX2_isUnder_18 rfl (lv_at hl 1 rfl) ?_
    refine lv_iadd hx hb dX2_isUnder_19 ?_
    refine lv_imul hx hb dX2_isUnder_20 ?_
    refine lv_istore (lv' := [(4, .int (4 * (17 + p0))), (3, .int (4 * (16 + p0))), (0, .int p0), (1, .int p1), (2, .int p2)]) hx hb dX2_isUnder_21 hl (by decide) rfl (fun ls hl => ?_)
    refine lv_bipush (v := (-3)) hx hb dX2_isUnder_23 (by decide) ?_
    refine lv_iload_n hx hb dX2_isUnder_25 rfl (lv_at hl 3 rfl) ?_
    refine lv_iconst (v := 2) hx hb dX2_isUnder_26 (by decide) ?_
    refine lv_iadd hx hb dX2_isUnder_27 ?_
    refine lv_imul hx hb dX2_isUnder_28 ?_
    refine lv_istore (lv' := [(5, .int ((-3) * (p1 + 2))), (4, .int (4 * (17 + p0))), (3, .int (4 * (16 + p0))), (0, .int p0), (1, .int p1), (2, .int p2)]) hx hb dX2_isUnder_29 hl (by decide) rfl (fun ls hl => ?_)
    refine lv_iload_n hx hb dX2_isUnder_31 rfl (lv_at hl 5 rfl) ?_
    refine lv_if_le (tgt := 63) hx hb dX2_isUnder_32 (by decide) (fun c_32_2 => ?_) (fun c_32_2 => ?_)
    · refine lv_iload hx hb dX2_isUnder_63 (lv_at hl 0 rfl) ?_
      refine lv_iload_n hx hb dX2_isUnder_65 rfl (lv_at hl 2 rfl) ?_
      refine lv_icmp_ge (tgt := 91) hx hb dX2_isUnder_66 (by decide) (fun c_66_3 => ?_) (fun c_66_3 => ?_)
      · refine lv_iload hx hb dX2_isUnder_91 (lv_at hl 0 rfl) ?_
        refine lv_iload hx hb dX2_isUnder_93 (lv_at hl 1 rfl) ?_
        refine lv_icmp_ge (tgt := 117) hx hb dX2_isUnder_95 (by decide) (fun c_95_4 => ?_) (fun c_95_4 => ?_)
        · refine lv_iconst (v := 0) hx hb dX2_isUnder_117 (by decide) ?_
          exact W.zret (ty := .boolean) (v := 0) hx hb hr rfl (fun t ht hW => ⟨0, rfl, (by unfold fX2_isUnder; rw [if_neg c_3_1, if_pos c_32_2, if_pos c_66_3, if_pos c_95_4]), ht⟩) (fun q h => absurd h List.not_mem_nil) dX2_isUnder_118
        · refine lv_bipush (v := 24) hx hb dX2_isUnder_98 (by decide) ?_
          refine lv_iload_n hx hb dX2_isUnder_100 rfl (lv_at hl 4 rfl) ?_
          refine lv_imul hx hb dX2_isUnder_101 ?_
          refine lv_iconst (v := 3) hx hb dX2_isUnder_102 (by decide) ?_
          refine lv_iload_n hx hb dX2_isUnder_103 rfl (lv_at hl 5 rfl) ?_
          refine lv_imul hx hb dX2_isUnder_104 ?_
          refine lv_iconst (v := 2) hx hb dX2_isUnder_105 (by decide) ?_
          refine lv_isub hx hb dX2_isUnder_106 ?_
          refine lv_iload hx hb dX2_isUnder_107 (lv_at hl 0 rfl) ?_
          refine lv_imul hx hb dX2_isUnder_109 ?_
          refine lv_icmp_ge (tgt := 117) hx hb dX2_isUnder_110 (by decide) (fun c_110_5 => ?_) (fun c_110_5 => ?_)
          · refine lv_iconst (v := 0) hx hb dX2_isUnder_117 (by decide) ?_
            exact W.zret (ty := .boolean) (v := 0) hx hb hr rfl (fun t ht hW => ⟨0, rfl, (by unfold fX2_isUnder; rw [if_neg c_3_1, if_pos c_32_2, if_pos c_66_3, if_neg c_95_4, if_pos c_110_5]), ht⟩) (fun q h => absurd h List.not_mem_nil) dX2_isUnder_118
          · refine lv_iconst (v := 1) hx hb dX2_isUnder_113 (by decide) ?_
            refine lv_goto (tgt := 118) hx hb dX2_isUnder_114 (by decide) ?_
            exact W.zret (ty := .boolean) (v := 1) hx hb hr rfl (fun t ht hW => ⟨1, rfl, (by unfold fX2_isUnder; rw [if_neg c_3_1, if_pos c_32_2, if_pos c_66_3, if_neg c_95_4, if_neg c_110_5]), ht⟩) (fun q h => absurd h List.not_mem_nil) dX2_isUnder_118
      · refine lv_bipush (v := 24) hx hb dX2_isUnder_69 (by decide) ?_
        refine lv_iload_n hx hb dX2_isUnder_71 rfl (lv_at hl 4 rfl) ?_
        refine lv_imul hx hb dX2_isUnder_72 ?_
        refine lv_iconst (v := 3) hx hb dX2_isUnder_73 (by decide) ?_
        refine lv_iload_n hx hb dX2_isUnder_74 rfl (lv_at hl 5 rfl) ?_
        refine lv_imul hx hb dX2_isUnder_75 ?_
        refine lv_iconst (v := 2) hx hb dX2_isUnder_76 (by decide) ?_
        refine lv_isub hx hb dX2_isUnder_77 ?_
        refine lv_iload_n hx hb dX2_isUnder_78 rfl (lv_at hl 2 rfl) ?_
        refine lv_imul hx hb dX2_isUnder_79 ?_
        refine lv_icmp_ge (tgt := 87) hx hb dX2_isUnder_80 (by decide) (fun c_80_6 => ?_) (fun c_80_6 => ?_)
        · refine lv_iconst (v := 0) hx hb dX2_isUnder_87 (by decide) ?_
          refine lv_goto (tgt := 118) hx hb dX2_isUnder_88 (by decide) ?_
          exact W.zret (ty := .boolean) (v := 0) hx hb hr rfl (fun t ht hW => ⟨0, rfl, (by unfold fX2_isUnder; rw [if_neg c_3_1, if_pos c_32_2, if_neg c_66_3, if_pos c_80_6]), ht⟩) (fun q h => absurd h List.not_mem_nil) dX2_isUnder_118
        · refine lv_iconst (v := 1) hx hb dX2_isUnder_83 (by decide) ?_
          refine lv_goto (tgt := 118) hx hb dX2_isUnder_84 (by decide) ?_
          exact W.zret (ty := .boolean) (v := 1) hx hb hr rfl (fun t ht hW => ⟨1, rfl, (by unfold fX2_isUnder; rw [if_neg c_3_1, if_pos c_32_2, if_neg c_66_3, if_neg c_80_6]), ht⟩) (fun q h => absurd h List.not_mem_nil) dX2_isUnder_118
    · refine lv_bipush (v := 24) hx hb dX2_isUnder_35 (by decide) ?_
      refine lv_iload_n hx hb dX2_isUnder_37 rfl (lv_at hl 4 rfl) ?_
      refine lv_imul hx hb dX2_isUnder_38 ?_
      refine lv_iconst (v := 3) hx hb dX2_isUnder_39 (by decide) ?_
      refine lv_iload_n hx hb dX2_isUnder_40 rfl (lv_at hl 5 rfl) ?_
      refine lv_imul hx hb dX2_isUnder_41 ?_
      refine lv_iconst (v := 2) hx hb dX2_isUnder_42 (by decide) ?_
      refine lv_isub hx hb dX2_isUnder_43 ?_
      refine lv_iload hx hb dX2_isUnder_44 (lv_at hl 1 rfl) ?_
      refine lv_imul hx hb dX2_isUnder_46 ?_
      refine lv_icmp_ge (tgt := 61) hx hb dX2_isUnder_47 (by decide) (fun c_47_7 => ?_) (fun c_47_7 => ?_)
      · refine lv_iconst (v := 0) hx hb dX2_isUnder_61 (by decide) ?_
        exact W.zret (ty := .boolean) (v := 0) hx hb hr rfl (fun t ht hW => ⟨0, rfl, (by unfold fX2_isUnder; rw [if_neg c_3_1, if_neg c_32_2, if_pos c_47_7]), ht⟩) (fun q h => absurd h List.not_mem_nil) dX2_isUnder_62
      · refine lv_iload hx hb dX2_isUnder_50 (lv_at hl 1 rfl) ?_
        refine lv_iload hx hb dX2_isUnder_52 (lv_at hl 0 rfl) ?_
        refine lv_icmp_le (tgt := 61) hx hb dX2_isUnder_54 (by decide) (fun c_54_8 => ?_) (fun c_54_8 => ?_)
        · refine lv_iconst (v := 0) hx hb dX2_isUnder_61 (by decide) ?_
          exact W.zret (ty := .boolean) (v := 0) hx hb hr rfl (fun t ht hW => ⟨0, rfl, (by unfold fX2_isUnder; rw [if_neg c_3_1, if_neg c_32_2, if_neg c_47_7, if_pos c_54_8]), ht⟩) (fun q h => absurd h List.not_mem_nil) dX2_isUnder_62
        · refine lv_iconst (v := 1) hx hb dX2_isUnder_57 (by decide) ?_
          refine lv_goto (tgt := 62) hx hb dX2_isUnder_58 (by decide) ?_
          exact W.zret (ty := .boolean) (v := 1) hx hb hr rfl (fun t ht hW => ⟨1, rfl, (by unfold fX2_isUnder; rw [if_neg c_3_1, if_neg c_32_2, if_neg c_47_7, if_neg c_54_8]), ht⟩) (fun q h => absurd h List.not_mem_nil) dX2_isUnder_62
  · refine lv_iconst (v := 0) hx hb dX2_isUnder_6 (by decide) ?_
    exact W.zret (ty := .boolean) (v := 0) hx hb hr rfl (fun t ht hW => ⟨0, rfl, (by unfold fX2_isUnder; rw [if_pos c_3_1]), ht⟩) (fun q h => absurd h List.not_mem_nil) dX2_isUnder_7

def fX2_isGood (p0 : Int32) (p1 : Int32) (p2 : Int32) : Int32 := (if (fX2_isOver p0 p1 p2) = 0 then (if (fX2_isUnder p0 p1 p2) = 0 then 1 else 0) else 0)
theorem fX2_isGood_01 (p0 : Int32) (p1 : Int32) (p2 : Int32) : (fX2_isGood p0 p1 p2) = 0 ∨ (fX2_isGood p0 p1 p2) = 1 := by unfold fX2_isGood; (repeat' split) <;> simp
set_option maxHeartbeats 4000000 in
set_option maxRecDepth 100000 in
theorem kX2_isGood (l : Launch) (dC : Nat → ClassId) (dI : Nat → Nat → Nat) (p0 : Int32) (p1 : Int32) (p2 : Int32)  : Met l yX2_isGood wsX2_isGood ({ frames := 1, cells := 0, slots := 0, locals := 25 } : Room) (va_Pc [.int p0, .int p1, .int p2] (fun U => True)) (vp_Si (fun r : Int32 => r = (fX2_isGood p0 p1 p2))) 0 0 (fun _ => False) := by
  refine Met.ofW (cc := cX2_isGood) (maxL := 3) (ret := (some .boolean)) (by decide) rfl ?_
  intro p e s m args below meth c s₁ B hml hv
  obtain ⟨rfl, _⟩ := hv
  have hx := B.exec
  have hb := B.bytes
  have hr := B.returns
  have hts := atoms_spec (ws := wsX2_isGood) B.pre
  have hown : s.vm.findClass RX2 = some m.cls := findClass_of_methodNamed B.named
  have hlocks := B.notSynchronized
  have hS : va_S (fun _ => False) s.heap s.heap [] := va_S.rf
  have hl := lv_entry ([.int p0, .int p1, .int p2]) (n := 3) (Nat.le_of_ble_eq_true rfl)
  rw [lg_entry_eq]
  generalize (lg_sl ([.int p0, .int p1, .int p2]) ++ List.replicate (3 - (lg_sl ([.int p0, .int p1, .int p2])).length) Slot.unset).toArray = ls at hl ⊢
  have hl : lv_has ls 3 [(0, .int p0), (1, .int p1), (2, .int p2)] := hl
  refine lv_iload_n hx hb dX2_isGood_0 rfl (lv_at hl 0 rfl) ?_
  refine lv_iload_n hx hb dX2_isGood_1 rfl (lv_at hl 1 rfl) ?_
  refine lv_iload_n hx hb dX2_isGood_2 rfl (lv_at hl 2 rfl) ?_
  refine vp_callSi (W.runS (As := [.int p0, .int p1, .int p2]) (rest := []) ⟨hx, hb, hml, hown, hts⟩ (kX2_isOver l dC dI p0 p1 p2) (va_cwS 3 hts gX2_isGood_X2_isOver rfl rfl rfl (by decide +kernel) ⟨Nat.le_of_ble_eq_true rfl, Nat.le_of_ble_eq_true rfl⟩) ⟨fun a U g mk q => by obtain ⟨q0, qt⟩ := q; exact ⟨q0, qt⟩, fun U hU hW => ⟨rfl, trivial⟩⟩ rfl rfl hl.1 rfl (lv_room (Nat.le_of_ble_eq_true rfl)) dX2_isGood_3 ⟨Nat.zero_le _, Nat.zero_le _⟩) (fun r_1 hr_1 => ?_)
  subst hr_1
  refine lv_if_ne (tgt := 22) hx hb dX2_isGood_6 (by decide) (fun c_6_2 => ?_) (fun c_6_2 => ?_)
  · refine lv_iconst (v := 0) hx hb dX2_isGood_22 (by decide) ?_
    exact W.zret (ty := .boolean) (v := 0) hx hb hr rfl (fun t ht hW => ⟨0, rfl, (by unfold fX2_isGood; rw [if_neg c_6_2]), ht⟩) (fun q h => absurd h List.not_mem_nil) dX2_isGood_23
  · refine lv_iload_n hx hb dX2_isGood_9 rfl (lv_at hl 0 rfl) ?_
    refine lv_iload_n hx hb dX2_isGood_10 rfl (lv_at hl 1 rfl) ?_
    refine lv_iload_n hx hb dX2_isGood_11 rfl (lv_at hl 2 rfl) ?_
    refine vp_callSi (W.runS (As := [.int p0, .int p1, .int p2]) (rest := []) ⟨hx, hb, hml, hown, hts⟩ (kX2_isUnder l dC dI p0 p1 p2) (va_cwS 3 hts gX2_isGood_X2_isUnder rfl rfl rfl (by decide +kernel) ⟨Nat.le_of_ble_eq_true rfl, Nat.le_of_ble_eq_true rfl⟩) ⟨fun a U g mk q => by obtain ⟨q0, qt⟩ := q; exact ⟨q0, qt⟩, fun U hU hW => ⟨rfl, trivial⟩⟩ rfl rfl hl.1 rfl (lv_room (Nat.le_of_ble_eq_true rfl)) dX2_isGood_12 ⟨Nat.zero_le _, Nat.zero_le _⟩) (fun r_3 hr_3 => ?_)
    subst hr_3
    refine lv_if_ne (tgt := 22) hx hb dX2_isGood_15 (by decide) (fun c_15_4 => ?_) (fun c_15_4 => ?_)
    · refine lv_iconst (v := 0) hx hb dX2_isGood_22 (by decide) ?_
      exact W.zret (ty := .boolean) (v := 0) hx hb hr rfl (fun t ht hW => ⟨0, rfl, (by unfold fX2_isGood; rw [if_pos c_6_2, if_neg c_15_4]), ht⟩) (fun q h => absurd h List.not_mem_nil) dX2_isGood_23
    · refine lv_iconst (v := 1) hx hb dX2_isGood_18 (by decide) ?_
      refine lv_goto (tgt := 23) hx hb dX2_isGood_19 (by decide) ?_
      exact W.zret (ty := .boolean) (v := 1) hx hb hr rfl (fun t ht hW => ⟨1, rfl, (by unfold fX2_isGood; rw [if_pos c_6_2, if_pos c_15_4]), ht⟩) (fun q h => absurd h List.not_mem_nil) dX2_isGood_23

def fX2_isTable (p0 : Int32) : Int32 := (fX2_in p0 (0) (3))
theorem fX2_isTable_01 (p0 : Int32) : (fX2_isTable p0) = 0 ∨ (fX2_isTable p0) = 1 := by unfold fX2_isTable; exact fX2_in_01 _ _ _
set_option maxHeartbeats 4000000 in
set_option maxRecDepth 100000 in
theorem kX2_isTable (l : Launch) (dC : Nat → ClassId) (dI : Nat → Nat → Nat) (p0 : Int32)  : Met l yX2_isTable wsX2_isTable ({ frames := 1, cells := 0, slots := 0, locals := 22 } : Room) (va_Pc [.int p0] (fun U => True)) (vp_Si (fun r : Int32 => r = (fX2_isTable p0))) 0 0 (fun _ => False) := by
  refine Met.ofW (cc := cX2_isTable) (maxL := 1) (ret := (some .boolean)) (by decide) rfl ?_
  intro p e s m args below meth c s₁ B hml hv
  obtain ⟨rfl, _⟩ := hv
  have hx := B.exec
  have hb := B.bytes
  have hr := B.returns
  have hts := atoms_spec (ws := wsX2_isTable) B.pre
  have hown : s.vm.findClass RX2 = some m.cls := findClass_of_methodNamed B.named
  have hlocks := B.notSynchronized
  have hS : va_S (fun _ => False) s.heap s.heap [] := va_S.rf
  have hl := lv_entry ([.int p0]) (n := 1) (Nat.le_of_ble_eq_true rfl)
  rw [lg_entry_eq]
  generalize (lg_sl ([.int p0]) ++ List.replicate (1 - (lg_sl ([.int p0])).length) Slot.unset).toArray = ls at hl ⊢
  have hl : lv_has ls 1 [(0, .int p0)] := hl
  refine lv_iload_n hx hb dX2_isTable_0 rfl (lv_at hl 0 rfl) ?_
  refine lv_iconst (v := 0) hx hb dX2_isTable_1 (by decide) ?_
  refine lv_iconst (v := 3) hx hb dX2_isTable_2 (by decide) ?_
  refine vp_callSi (W.runS (As := [.int p0, .int 0, .int 3]) (rest := []) ⟨hx, hb, hml, hown, hts⟩ (kX2_in l dC dI p0 (0) (3)) (va_cwS 3 hts gX2_isTable_X2_in rfl rfl rfl (by decide +kernel) ⟨Nat.le_of_ble_eq_true rfl, Nat.le_of_ble_eq_true rfl⟩) ⟨fun a U g mk q => by obtain ⟨q0, qt⟩ := q; exact ⟨q0, qt⟩, fun U hU hW => ⟨rfl, trivial⟩⟩ rfl rfl hl.1 rfl (lv_room (Nat.le_of_ble_eq_true rfl)) dX2_isTable_3 ⟨Nat.zero_le _, Nat.zero_le _⟩) (fun r_1 hr_1 => ?_)
  subst hr_1
  exact W.zret (ty := .boolean) (v := (fX2_in p0 (0) (3))) hx hb hr (ax_nb (fX2_in_01 p0 (0) (3))) (fun t ht hW => ⟨(fX2_in p0 (0) (3)), rfl, rfl, ht⟩) (fun q h => absurd h List.not_mem_nil) dX2_isTable_6

def fX2_isCell (p0 : Int32) (p1 : Int32) : Int32 := (if (fX2_in p0 (0) (15)) = 0 then 0 else (if (fX2_in p1 ((-64)) (63)) = 0 then 0 else 1))
theorem fX2_isCell_01 (p0 : Int32) (p1 : Int32) : (fX2_isCell p0 p1) = 0 ∨ (fX2_isCell p0 p1) = 1 := by unfold fX2_isCell; (repeat' split) <;> simp
set_option maxHeartbeats 4000000 in
set_option maxRecDepth 100000 in
theorem kX2_isCell (l : Launch) (dC : Nat → ClassId) (dI : Nat → Nat → Nat) (p0 : Int32) (p1 : Int32)  : Met l yX2_isCell wsX2_isCell ({ frames := 1, cells := 0, slots := 0, locals := 22 } : Room) (va_Pc [.int p0, .int p1] (fun U => True)) (vp_Si (fun r : Int32 => r = (fX2_isCell p0 p1))) 0 0 (fun _ => False) := by
  refine Met.ofW (cc := cX2_isCell) (maxL := 2) (ret := (some .boolean)) (by decide) rfl ?_
  intro p e s m args below meth c s₁ B hml hv
  obtain ⟨rfl, _⟩ := hv
  have hx := B.exec
  have hb := B.bytes
  have hr := B.returns
  have hts := atoms_spec (ws := wsX2_isCell) B.pre
  have hown : s.vm.findClass RX2 = some m.cls := findClass_of_methodNamed B.named
  have hlocks := B.notSynchronized
  have hS : va_S (fun _ => False) s.heap s.heap [] := va_S.rf
  have hl := lv_entry ([.int p0, .int p1]) (n := 2) (Nat.le_of_ble_eq_true rfl)
  rw [lg_entry_eq]
  generalize (lg_sl ([.int p0, .int p1]) ++ List.replicate (2 - (lg_sl ([.int p0, .int p1])).length) Slot.unset).toArray = ls at hl ⊢
  have hl : lv_has ls 2 [(0, .int p0), (1, .int p1)] := hl
  refine lv_iload_n hx hb dX2_isCell_0 rfl (lv_at hl 0 rfl) ?_
  refine lv_iconst (v := 0) hx hb dX2_isCell_1 (by decide) ?_
  refine lv_bipush (v := 15) hx hb dX2_isCell_2 (by decide) ?_
  refine vp_callSi (W.runS (As := [.int p0, .int 0, .int 15]) (rest := []) ⟨hx, hb, hml, hown, hts⟩ (kX2_in l dC dI p0 (0) (15)) (va_cwS 3 hts gX2_isCell_X2_in rfl rfl rfl (by decide +kernel) ⟨Nat.le_of_ble_eq_true rfl, Nat.le_of_ble_eq_true rfl⟩) ⟨fun a U g mk q => by obtain ⟨q0, qt⟩ := q; exact ⟨q0, qt⟩, fun U hU hW => ⟨rfl, trivial⟩⟩ rfl rfl hl.1 rfl (lv_room (Nat.le_of_ble_eq_true rfl)) dX2_isCell_4 ⟨Nat.zero_le _, Nat.zero_le _⟩) (fun r_1 hr_1 => ?_)
  subst hr_1
  refine lv_if_eq (tgt := 25) hx hb dX2_isCell_7 (by decide) (fun c_7_2 => ?_) (fun c_7_2 => ?_)
  · refine lv_iconst (v := 0) hx hb dX2_isCell_25 (by decide) ?_
    exact W.zret (ty := .boolean) (v := 0) hx hb hr rfl (fun t ht hW => ⟨0, rfl, (by unfold fX2_isCell; rw [if_pos c_7_2]), ht⟩) (fun q h => absurd h List.not_mem_nil) dX2_isCell_26
  · refine lv_iload_n hx hb dX2_isCell_10 rfl (lv_at hl 1 rfl) ?_
    refine lv_bipush (v := (-64)) hx hb dX2_isCell_11 (by decide) ?_
    refine lv_bipush (v := 63) hx hb dX2_isCell_13 (by decide) ?_
    refine vp_callSi (W.runS (As := [.int p1, .int (-64), .int 63]) (rest := []) ⟨hx, hb, hml, hown, hts⟩ (kX2_in l dC dI p1 ((-64)) (63)) (va_cwS 3 hts gX2_isCell_X2_in rfl rfl rfl (by decide +kernel) ⟨Nat.le_of_ble_eq_true rfl, Nat.le_of_ble_eq_true rfl⟩) ⟨fun a U g mk q => by obtain ⟨q0, qt⟩ := q; exact ⟨q0, qt⟩, fun U hU hW => ⟨rfl, trivial⟩⟩ rfl rfl hl.1 rfl (lv_room (Nat.le_of_ble_eq_true rfl)) dX2_isCell_15 ⟨Nat.zero_le _, Nat.zero_le _⟩) (fun r_3 hr_3 => ?_)
    subst hr_3
    refine lv_if_eq (tgt := 25) hx hb dX2_isCell_18 (by decide) (fun c_18_4 => ?_) (fun c_18_4 => ?_)
    · refine lv_iconst (v := 0) hx hb dX2_isCell_25 (by decide) ?_
      exact W.zret (ty := .boolean) (v := 0) hx hb hr rfl (fun t ht hW => ⟨0, rfl, (by unfold fX2_isCell; rw [if_neg c_7_2, if_pos c_18_4]), ht⟩) (fun q h => absurd h List.not_mem_nil) dX2_isCell_26
    · refine lv_iconst (v := 1) hx hb dX2_isCell_21 (by decide) ?_
      refine lv_goto (tgt := 26) hx hb dX2_isCell_22 (by decide) ?_
      exact W.zret (ty := .boolean) (v := 1) hx hb hr rfl (fun t ht hW => ⟨1, rfl, (by unfold fX2_isCell; rw [if_neg c_7_2, if_neg c_18_4]), ht⟩) (fun q h => absurd h List.not_mem_nil) dX2_isCell_26

def fX2_cellAt (p0 : Int32) (p1 : Int32) (p2 : Int32) : Int32 := (((2048 * p0) + (128 * p1)) + p2) + 64
set_option maxHeartbeats 4000000 in
set_option maxRecDepth 100000 in
theorem kX2_cellAt (l : Launch) (dC : Nat → ClassId) (dI : Nat → Nat → Nat) (p0 : Int32) (p1 : Int32) (p2 : Int32)  : Met l yX2_cellAt wsX2_cellAt ({ frames := 0, cells := 0, slots := 0, locals := 0 } : Room) (va_Pc [.int p0, .int p1, .int p2] (fun U => True)) (vp_Si (fun r : Int32 => r = (fX2_cellAt p0 p1 p2))) 0 0 (fun _ => False) := by
  refine Met.ofW (cc := cX2_cellAt) (maxL := 3) (ret := (some .int)) (by decide) rfl ?_
  intro p e s m args below meth c s₁ B hml hv
  obtain ⟨rfl, _⟩ := hv
  have hx := B.exec
  have hb := B.bytes
  have hr := B.returns
  have hts := atoms_spec (ws := wsX2_cellAt) B.pre
  have hown : s.vm.findClass RX2 = some m.cls := findClass_of_methodNamed B.named
  have hlocks := B.notSynchronized
  have hS : va_S (fun _ => False) s.heap s.heap [] := va_S.rf
  have hl := lv_entry ([.int p0, .int p1, .int p2]) (n := 3) (Nat.le_of_ble_eq_true rfl)
  rw [lg_entry_eq]
  generalize (lg_sl ([.int p0, .int p1, .int p2]) ++ List.replicate (3 - (lg_sl ([.int p0, .int p1, .int p2])).length) Slot.unset).toArray = ls at hl ⊢
  have hl : lv_has ls 3 [(0, .int p0), (1, .int p1), (2, .int p2)] := hl
  refine lv_sipush (v := 2048) hx hb dX2_cellAt_0 (by decide) ?_
  refine lv_iload_n hx hb dX2_cellAt_3 rfl (lv_at hl 0 rfl) ?_
  refine lv_imul hx hb dX2_cellAt_4 ?_
  refine lv_sipush (v := 128) hx hb dX2_cellAt_5 (by decide) ?_
  refine lv_iload_n hx hb dX2_cellAt_8 rfl (lv_at hl 1 rfl) ?_
  refine lv_imul hx hb dX2_cellAt_9 ?_
  refine lv_iadd hx hb dX2_cellAt_10 ?_
  refine lv_iload_n hx hb dX2_cellAt_11 rfl (lv_at hl 2 rfl) ?_
  refine lv_iadd hx hb dX2_cellAt_12 ?_
  refine lv_bipush (v := 64) hx hb dX2_cellAt_13 (by decide) ?_
  refine lv_iadd hx hb dX2_cellAt_15 ?_
  exact W.iret (v := (((2048 * p0) + (128 * p1)) + p2) + 64) hx hb hr (fun t ht hW => ⟨(((2048 * p0) + (128 * p1)) + p2) + 64, rfl, rfl, ht⟩) (fun q h => absurd h List.not_mem_nil) dX2_cellAt_16

def fX2_sizeOf_j12 (p0 : Int32) : Int64 := (if 0 ≤ p0 then p0.toInt64 else -p0.toInt64)
def fX2_sizeOf (p0 : Int32) : Int64 := (fX2_sizeOf_j12 p0)
set_option maxHeartbeats 4000000 in
set_option maxRecDepth 100000 in
theorem kX2_sizeOf (l : Launch) (dC : Nat → ClassId) (dI : Nat → Nat → Nat) (p0 : Int32)  : Met l yX2_sizeOf wsX2_sizeOf ({ frames := 0, cells := 0, slots := 0, locals := 0 } : Room) (va_Pc [.int p0] (fun U => True)) (vp_Sl (fun r : Int64 => r = (fX2_sizeOf p0))) 0 0 (fun _ => False) := by
  refine Met.ofW (cc := cX2_sizeOf) (maxL := 1) (ret := (some .long)) (by decide) rfl ?_
  intro p e s m args below meth c s₁ B hml hv
  obtain ⟨rfl, _⟩ := hv
  have hx := B.exec
  have hb := B.bytes
  have hr := B.returns
  have hts := atoms_spec (ws := wsX2_sizeOf) B.pre
  have hown : s.vm.findClass RX2 = some m.cls := findClass_of_methodNamed B.named
  have hlocks := B.notSynchronized
  have hS : va_S (fun _ => False) s.heap s.heap [] := va_S.rf
  have hl := lv_entry ([.int p0]) (n := 1) (Nat.le_of_ble_eq_true rfl)
  rw [lg_entry_eq]
  generalize (lg_sl ([.int p0]) ++ List.replicate (1 - (lg_sl ([.int p0])).length) Slot.unset).toArray = ls at hl ⊢
  have hl : lv_has ls 1 [(0, .int p0)] := hl
  refine lv_iload_n hx hb dX2_sizeOf_0 rfl (lv_at hl 0 rfl) ?_
  refine ax_joinL (J := 12) (v := (fX2_sizeOf_j12 p0)) (ls := ls) (rest := []) ?_ (fun kj_2 => ?_)
  · exact W.lret (v := (fX2_sizeOf_j12 p0)) hx hb hr (fun t ht hW => ⟨(fX2_sizeOf_j12 p0), rfl, rfl, ht⟩) (fun q h => absurd h List.not_mem_nil) dX2_sizeOf_12
  · refine lv_if_ge (tgt := 10) hx hb dX2_sizeOf_1 (by decide) (fun c_1_1 => ?_) (fun c_1_1 => ?_)
    · refine lv_iload_n hx hb dX2_sizeOf_10 rfl (lv_at hl 0 rfl) ?_
      refine lv_i2l (v := p0.toInt64) hx hb dX2_sizeOf_11 rfl ?_
      exact kj_2 _ (by unfold fX2_sizeOf_j12; rw [if_pos c_1_1])
    · refine lv_iload_n hx hb dX2_sizeOf_4 rfl (lv_at hl 0 rfl) ?_
      refine lv_i2l (v := p0.toInt64) hx hb dX2_sizeOf_5 rfl ?_
      refine lv_lneg hx hb dX2_sizeOf_6 ?_
      refine lv_goto (tgt := 12) hx hb dX2_sizeOf_7 (by decide) ?_
      exact kj_2 _ (by unfold fX2_sizeOf_j12; rw [if_neg c_1_1])

def fX2_madeOf (p0 : Int32) (p1 : Int32) : Int32 := (if (fX2_isGood p0 p1 (0)) = 0 then (if (fX2_isGood p0 p1 (-0)) = 0 then (if (fX2_isGood p0 p1 (1)) = 0 then (if (fX2_isGood p0 p1 (-1)) = 0 then (if (fX2_isGood p0 p1 (2)) = 0 then (if (fX2_isGood p0 p1 (-2)) = 0 then 0 else -2) else 2) else -1) else 1) else -0) else 0)
set_option maxHeartbeats 4000000 in
set_option maxRecDepth 100000 in
theorem kX2_madeOf (l : Launch) (dC : Nat → ClassId) (dI : Nat → Nat → Nat) (p0 : Int32) (p1 : Int32)  : Met l yX2_madeOf wsX2_madeOf ({ frames := 2, cells := 0, slots := 0, locals := 47 } : Room) (va_Pc [.int p0, .int p1] (fun U => True)) (vp_Si (fun r : Int32 => r = (fX2_madeOf p0 p1))) 0 0 (fun _ => False) := by
  refine Met.ofW (cc := cX2_madeOf) (maxL := 3) (ret := (some .int)) (by decide) rfl ?_
  intro p e s m args below meth c s₁ B hml hv
  obtain ⟨rfl, _⟩ := hv
  have hx := B.exec
  have hb := B.bytes
  have hr := B.returns
  have hts := atoms_spec (ws := wsX2_madeOf) B.pre
  have hown : s.vm.findClass RX2 = some m.cls := findClass_of_methodNamed B.named
  have hlocks := B.notSynchronized
  have hS : va_S (fun _ => False) s.heap s.heap [] := va_S.rf
  have hl := lv_entry ([.int p0, .int p1]) (n := 3) (Nat.le_of_ble_eq_true rfl)
  rw [lg_entry_eq]
  generalize (lg_sl ([.int p0, .int p1]) ++ List.replicate (3 - (lg_sl ([.int p0, .int p1])).length) Slot.unset).toArray = ls at hl ⊢
  have hl : lv_has ls 3 [(0, .int p0), (1, .int p1)] := hl
  refine lv_iconst (v := 0) hx hb dX2_madeOf_0 (by decide) ?_
  refine lv_istore_n (lv' := [(2, .int 0), (0, .int p0), (1, .int p1)]) hx hb dX2_madeOf_1 rfl hl (by decide) rfl (fun ls hl => ?_)
  refine lv_iload_n hx hb dX2_madeOf_2 rfl (lv_at hl 0 rfl) ?_
  refine lv_iconst (v := 2) hx hb dX2_madeOf_3 (by decide) ?_
  refine lv_icmp_gt (tgt := 37) hx hb dX2_madeOf_4 (by decide) (fun c_4 => ?_) (fun c_4 => ?_)
  · exact absurd c_4 (by decide)
  · refine lv_iload_n hx hb dX2_madeOf_7 rfl (lv_at hl 1 rfl) ?_
    refine lv_iload_n hx hb dX2_madeOf_8 rfl (lv_at hl 2 rfl) ?_
    refine lv_iload_n hx hb dX2_madeOf_9 rfl (lv_at hl 0 rfl) ?_
    refine vp_callSi (W.runS (As := [.int p0, .int p1, .int 0]) (rest := []) ⟨hx, hb, hml, hown, hts⟩ (kX2_isGood l dC dI p0 p1 (0)) (va_cwS 3 hts gX2_madeOf_X2_isGood rfl rfl rfl (by decide +kernel) ⟨Nat.le_of_ble_eq_true rfl, Nat.le_of_ble_eq_true rfl⟩) ⟨fun a U g mk q => by obtain ⟨q0, qt⟩ := q; exact ⟨q0, qt⟩, fun U hU hW => ⟨rfl, trivial⟩⟩ rfl rfl hl.1 rfl (lv_room (Nat.le_of_ble_eq_true rfl)) dX2_madeOf_10 ⟨Nat.zero_le _, Nat.zero_le _⟩) (fun r_1 hr_1 => ?_)
    subst hr_1
    refine lv_if_eq (tgt := 18) hx hb dX2_madeOf_13 (by decide) (fun c_13_2 => ?_) (fun c_13_2 => ?_)
    · refine lv_iload_n hx hb dX2_madeOf_18 rfl (lv_at hl 1 rfl) ?_
      refine lv_iload_n hx hb dX2_madeOf_19 rfl (lv_at hl 2 rfl) ?_
      refine lv_iload_n hx hb dX2_madeOf_20 rfl (lv_at hl 0 rfl) ?_
      refine lv_ineg hx hb dX2_madeOf_21 ?_
      refine vp_callSi (W.runS (As := [.int p0, .int p1, .int (-0)]) (rest := []) ⟨hx, hb, hml, hown, hts⟩ (kX2_isGood l dC dI p0 p1 (-0)) (va_cwS 3 hts gX2_madeOf_X2_isGood rfl rfl rfl (by decide +kernel) ⟨Nat.le_of_ble_eq_true rfl, Nat.le_of_ble_eq_true rfl⟩) ⟨fun a U g mk q => by obtain ⟨q0, qt⟩ := q; exact ⟨q0, qt⟩, fun U hU hW => ⟨rfl, trivial⟩⟩ rfl rfl hl.1 rfl (lv_room (Nat.le_of_ble_eq_true rfl)) dX2_madeOf_22 ⟨Nat.zero_le _, Nat.zero_le _⟩) (fun r_3 hr_3 => ?_)
      subst hr_3
      refine lv_if_eq (tgt := 31) hx hb dX2_madeOf_25 (by decide) (fun c_25_4 => ?_) (fun c_25_4 => ?_)
      · refine lv_iinc (v := 1) (lv' := [(2, .int 1), (0, .int p0), (1, .int p1)]) hx hb dX2_madeOf_31 hl (k := 0) rfl (by decide) (by decide) rfl (fun ls hl => ?_)
        refine lv_goto (tgt := 2) hx hb dX2_madeOf_34 (by decide) ?_
        refine lv_iload_n hx hb dX2_madeOf_2 rfl (lv_at hl 0 rfl) ?_
        refine lv_iconst (v := 2) hx hb dX2_madeOf_3 (by decide) ?_
        refine lv_icmp_gt (tgt := 37) hx hb dX2_madeOf_4 (by decide) (fun c_4 => ?_) (fun c_4 => ?_)
        · exact absurd c_4 (by decide)
        · refine lv_iload_n hx hb dX2_madeOf_7 rfl (lv_at hl 1 rfl) ?_
          refine lv_iload_n hx hb dX2_madeOf_8 rfl (lv_at hl 2 rfl) ?_
          refine lv_iload_n hx hb dX2_madeOf_9 rfl (lv_at hl 0 rfl) ?_
          refine vp_callSi (W.runS (As := [.int p0, .int p1, .int 1]) (rest := []) ⟨hx, hb, hml, hown, hts⟩ (kX2_isGood l dC dI p0 p1 (1)) (va_cwS 3 hts gX2_madeOf_X2_isGood rfl rfl rfl (by decide +kernel) ⟨Nat.le_of_ble_eq_true rfl, Nat.le_of_ble_eq_true rfl⟩) ⟨fun a U g mk q => by obtain ⟨q0, qt⟩ := q; exact ⟨q0, qt⟩, fun U hU hW => ⟨rfl, trivial⟩⟩ rfl rfl hl.1 rfl (lv_room (Nat.le_of_ble_eq_true rfl)) dX2_madeOf_10 ⟨Nat.zero_le _, Nat.zero_le _⟩) (fun r_5 hr_5 => ?_)
          subst hr_5
          refine lv_if_eq (tgt := 18) hx hb dX2_madeOf_13 (by decide) (fun c_13_6 => ?_) (fun c_13_6 => ?_)
          · refine lv_iload_n hx hb dX2_madeOf_18 rfl (lv_at hl 1 rfl) ?_
            refine lv_iload_n hx hb dX2_madeOf_19 rfl (lv_at hl 2 rfl) ?_
            refine lv_iload_n hx hb dX2_madeOf_20 rfl (lv_at hl 0 rfl) ?_
            refine lv_ineg hx hb dX2_madeOf_21 ?_
            refine vp_callSi (W.runS (As := [.int p0, .int p1, .int (-1)]) (rest := []) ⟨hx, hb, hml, hown, hts⟩ (kX2_isGood l dC dI p0 p1 (-1)) (va_cwS 3 hts gX2_madeOf_X2_isGood rfl rfl rfl (by decide +kernel) ⟨Nat.le_of_ble_eq_true rfl, Nat.le_of_ble_eq_true rfl⟩) ⟨fun a U g mk q => by obtain ⟨q0, qt⟩ := q; exact ⟨q0, qt⟩, fun U hU hW => ⟨rfl, trivial⟩⟩ rfl rfl hl.1 rfl (lv_room (Nat.le_of_ble_eq_true rfl)) dX2_madeOf_22 ⟨Nat.zero_le _, Nat.zero_le _⟩) (fun r_7 hr_7 => ?_)
            subst hr_7
            refine lv_if_eq (tgt := 31) hx hb dX2_madeOf_25 (by decide) (fun c_25_8 => ?_) (fun c_25_8 => ?_)
            · refine lv_iinc (v := 2) (lv' := [(2, .int 2), (0, .int p0), (1, .int p1)]) hx hb dX2_madeOf_31 hl (k := 0) rfl (by decide) (by decide) rfl (fun ls hl => ?_)
              refine lv_goto (tgt := 2) hx hb dX2_madeOf_34 (by decide) ?_
              refine lv_iload_n hx hb dX2_madeOf_2 rfl (lv_at hl 0 rfl) ?_
              refine lv_iconst (v := 2) hx hb dX2_madeOf_3 (by decide) ?_
              refine lv_icmp_gt (tgt := 37) hx hb dX2_madeOf_4 (by decide) (fun c_4 => ?_) (fun c_4 => ?_)
              · exact absurd c_4 (by decide)
              · refine lv_iload_n hx hb dX2_madeOf_7 rfl (lv_at hl 1 rfl) ?_
                refine lv_iload_n hx hb dX2_madeOf_8 rfl (lv_at hl 2 rfl) ?_
                refine lv_iload_n hx hb dX2_madeOf_9 rfl (lv_at hl 0 rfl) ?_
                refine vp_callSi (W.runS (As := [.int p0, .int p1, .int 2]) (rest := []) ⟨hx, hb, hml, hown, hts⟩ (kX2_isGood l dC dI p0 p1 (2)) (va_cwS 3 hts gX2_madeOf_X2_isGood rfl rfl rfl (by decide +kernel) ⟨Nat.le_of_ble_eq_true rfl, Nat.le_of_ble_eq_true rfl⟩) ⟨fun a U g mk q => by obtain ⟨q0, qt⟩ := q; exact ⟨q0, qt⟩, fun U hU hW => ⟨rfl, trivial⟩⟩ rfl rfl hl.1 rfl (lv_room (Nat.le_of_ble_eq_true rfl)) dX2_madeOf_10 ⟨Nat.zero_le _, Nat.zero_le _⟩) (fun r_9 hr_9 => ?_)
                subst hr_9
                refine lv_if_eq (tgt := 18) hx hb dX2_madeOf_13 (by decide) (fun c_13_10 => ?_) (fun c_13_10 => ?_)
                · refine lv_iload_n hx hb dX2_madeOf_18 rfl (lv_at hl 1 rfl) ?_
                  refine lv_iload_n hx hb dX2_madeOf_19 rfl (lv_at hl 2 rfl) ?_
                  refine lv_iload_n hx hb dX2_madeOf_20 rfl (lv_at hl 0 rfl) ?_
                  refine lv_ineg hx hb dX2_madeOf_21 ?_
                  refine vp_callSi (W.runS (As := [.int p0, .int p1, .int (-2)]) (rest := []) ⟨hx, hb, hml, hown, hts⟩ (kX2_isGood l dC dI p0 p1 (-2)) (va_cwS 3 hts gX2_madeOf_X2_isGood rfl rfl rfl (by decide +kernel) ⟨Nat.le_of_ble_eq_true rfl, Nat.le_of_ble_eq_true rfl⟩) ⟨fun a U g mk q => by obtain ⟨q0, qt⟩ := q; exact ⟨q0, qt⟩, fun U hU hW => ⟨rfl, trivial⟩⟩ rfl rfl hl.1 rfl (lv_room (Nat.le_of_ble_eq_true rfl)) dX2_madeOf_22 ⟨Nat.zero_le _, Nat.zero_le _⟩) (fun r_11 hr_11 => ?_)
                  subst hr_11
                  refine lv_if_eq (tgt := 31) hx hb dX2_madeOf_25 (by decide) (fun c_25_12 => ?_) (fun c_25_12 => ?_)
                  · refine lv_iinc (v := 3) (lv' := [(2, .int 3), (0, .int p0), (1, .int p1)]) hx hb dX2_madeOf_31 hl (k := 0) rfl (by decide) (by decide) rfl (fun ls hl => ?_)
                    refine lv_goto (tgt := 2) hx hb dX2_madeOf_34 (by decide) ?_
                    refine lv_iload_n hx hb dX2_madeOf_2 rfl (lv_at hl 0 rfl) ?_
                    refine lv_iconst (v := 2) hx hb dX2_madeOf_3 (by decide) ?_
                    refine lv_icmp_gt (tgt := 37) hx hb dX2_madeOf_4 (by decide) (fun c_4 => ?_) (fun c_4 => ?_)
                    · refine lv_iconst (v := 0) hx hb dX2_madeOf_37 (by decide) ?_
                      exact W.iret (v := 0) hx hb hr (fun t ht hW => ⟨0, rfl, (by unfold fX2_madeOf; rw [if_pos c_13_2, if_pos c_25_4, if_pos c_13_6, if_pos c_25_8, if_pos c_13_10, if_pos c_25_12]), ht⟩) (fun q h => absurd h List.not_mem_nil) dX2_madeOf_38
                    · exact absurd c_4 (by decide)
                  · refine lv_iload_n hx hb dX2_madeOf_28 rfl (lv_at hl 0 rfl) ?_
                    refine lv_ineg hx hb dX2_madeOf_29 ?_
                    exact W.iret (v := -2) hx hb hr (fun t ht hW => ⟨-2, rfl, (by unfold fX2_madeOf; rw [if_pos c_13_2, if_pos c_25_4, if_pos c_13_6, if_pos c_25_8, if_pos c_13_10, if_neg c_25_12]), ht⟩) (fun q h => absurd h List.not_mem_nil) dX2_madeOf_30
                · refine lv_iload_n hx hb dX2_madeOf_16 rfl (lv_at hl 0 rfl) ?_
                  exact W.iret (v := 2) hx hb hr (fun t ht hW => ⟨2, rfl, (by unfold fX2_madeOf; rw [if_pos c_13_2, if_pos c_25_4, if_pos c_13_6, if_pos c_25_8, if_neg c_13_10]), ht⟩) (fun q h => absurd h List.not_mem_nil) dX2_madeOf_17
            · refine lv_iload_n hx hb dX2_madeOf_28 rfl (lv_at hl 0 rfl) ?_
              refine lv_ineg hx hb dX2_madeOf_29 ?_
              exact W.iret (v := -1) hx hb hr (fun t ht hW => ⟨-1, rfl, (by unfold fX2_madeOf; rw [if_pos c_13_2, if_pos c_25_4, if_pos c_13_6, if_neg c_25_8]), ht⟩) (fun q h => absurd h List.not_mem_nil) dX2_madeOf_30
          · refine lv_iload_n hx hb dX2_madeOf_16 rfl (lv_at hl 0 rfl) ?_
            exact W.iret (v := 1) hx hb hr (fun t ht hW => ⟨1, rfl, (by unfold fX2_madeOf; rw [if_pos c_13_2, if_pos c_25_4, if_neg c_13_6]), ht⟩) (fun q h => absurd h List.not_mem_nil) dX2_madeOf_17
      · refine lv_iload_n hx hb dX2_madeOf_28 rfl (lv_at hl 0 rfl) ?_
        refine lv_ineg hx hb dX2_madeOf_29 ?_
        exact W.iret (v := -0) hx hb hr (fun t ht hW => ⟨-0, rfl, (by unfold fX2_madeOf; rw [if_pos c_13_2, if_neg c_25_4]), ht⟩) (fun q h => absurd h List.not_mem_nil) dX2_madeOf_30
    · refine lv_iload_n hx hb dX2_madeOf_16 rfl (lv_at hl 0 rfl) ?_
      exact W.iret (v := 0) hx hb hr (fun t ht hW => ⟨0, rfl, (by unfold fX2_madeOf; rw [if_neg c_13_2]), ht⟩) (fun q h => absurd h List.not_mem_nil) dX2_madeOf_17

