/-! THE CLAIM OUT OF ONE WALK OF THE LAW'S BODY. Your part is whole_start (and what it stands on); all else here is the same for every law, but numbers. -/
def R_law : String := "DigitDividerLaw"
def lw_P (b : Addr) (xs : List Int32) (args : Array Value) (s : State) : Prop := args = #[.ref b] ∧ s.IntsAt b xs ∧ xs.length ≤ 2560 ∧ (Jvm.Cond.and given_1 narrow_1).before args s = true
def lw_Q (_ : Array Value) (s : State) (o : Outcome) (t : State) : Prop := o = .returned (some (.int 1)) ∧ Framed s o t [] 600000 7302250
def lw_Z (below : List Frame) (a : Array Value) (s : State) : State → Prop := fun t => ∃ o, t.status = .running ∧ Ended t below o ∧ lw_Q a s o t
/-- the law's own end, with 1 on the stack, nothing written that was there before, its room as the claim has it -/
theorem lw_ret {p : Program} {l : Launch} {e : Env} {s : State} {m : MethodId} {below : List Frame} {meth : Method} {c : Code} {b : Nat} (hx : p.tables.exec = Jvm.exec) (hb : c.code = code) (hr : meth.sig.returnType = ret) (hlocks : meth.locks = false) {pc : Nat} {H : Heap} {ls : Array Slot} (hdg : decode code pc = .ok (.ireturn, 1)) : W p l e room_1 s m #[Value.ref b] below meth c H [] 600000 7302250 (lw_Z below #[Value.ref b] s) (F0 m pc ls [.int 1]) := by
  intro T hT X
  obtain ⟨fs, hret, hrun, hended, hW, hframe⟩ := X.leave (v := some (.int 1)) (hlocks := hlocks) (fun h => by rw [hr] at h; cases h)
  have hmeth' : T.vm.method? m = some meth := X.method'
  refine ⟨T.setFrames fs, ?_, .returned (some (.int 1)), hrun, hended, rfl, ⟨_, rfl⟩, hW, hframe⟩
  jvm_step X.here [X.here.top, hx, hb, hdg, hmeth', hr, ret, narrow_b1]
  (try refine ⟨rfl, ?_⟩); (try refine ⟨rfl, ?_⟩)
  first | (intro acts; rw [hret _ acts rfl rfl rfl]) | rw [hret _ _ rfl rfl rfl]
  exact Steps.refl _
/-- what holds at the law's entry: the machine, the code, the tables' words (any of lw_tbl by 'hts w (by decide +kernel)'), the script of L ints xs at the cell b, what the Statement gives of the start (any of its parts by flat_of_before) -/
def lw_At (p : Program) (s : State) (m : MethodId) (meth : Method) (c : Code) (b L : Nat) (xs : Nat → Int32) : Prop :=
  p.tables.exec = Jvm.exec ∧ c.code = code ∧ meth.sig.returnType = ret ∧ c.maxLocals = 4 ∧ s.vm.findClass R_law = some m.cls ∧ (∀ w ∈ lw_tbl, w.before #[Value.ref b] s = true) ∧ va_X b L xs s s.heap ∧ b < s.heap.size ∧ meth.locks = false ∧ (Jvm.Cond.and given_1 narrow_1).before #[Value.ref b] s = true
set_option maxRecDepth 20000 in
theorem nw_law {A : Array Value} {s : State} (hts : ∀ w ∈ lw_tbl, w.before A s = true) : nwX s := ⟨va_Nw.of rfl (hts _ (List.mem_of_getElem? (i := 37) (by decide +kernel))), va_Nw.of rfl (hts _ (List.mem_of_getElem? (i := 39) (by decide +kernel))), va_Nw.of rfl (hts _ (List.mem_of_getElem? (i := 41) (by decide +kernel))), va_Nw.of rfl (hts _ (List.mem_of_getElem? (i := 43) (by decide +kernel))), va_Nw.of rfl (hts _ (List.mem_of_getElem? (i := 45) (by decide +kernel))), va_Nw.of rfl (hts _ (List.mem_of_getElem? (i := 47) (by decide +kernel))), va_Nw.of rfl (hts _ (List.mem_of_getElem? (i := 49) (by decide +kernel))), va_Nw.of rfl (hts _ (List.mem_of_getElem? (i := 51) (by decide +kernel))), va_Nw.of rfl (hts _ (List.mem_of_getElem? (i := 53) (by decide +kernel))), va_Nw.of rfl (hts _ (List.mem_of_getElem? (i := 55) (by decide +kernel))), va_Nw.of rfl (hts _ (List.mem_of_getElem? (i := 57) (by decide +kernel))), va_Nw.of rfl (hts _ (List.mem_of_getElem? (i := 59) (by decide +kernel))), va_Nw.of rfl (hts _ (List.mem_of_getElem? (i := 61) (by decide +kernel))), va_Nw.of rfl (hts _ (List.mem_of_getElem? (i := 63) (by decide +kernel))), va_Nw.of rfl (hts _ (List.mem_of_getElem? (i := 32) (by decide +kernel))), va_Nw.of rfl (hts _ (List.mem_of_getElem? (i := 195) (by decide +kernel))), va_Nw.of rfl (hts _ (List.mem_of_getElem? (i := 224) (by decide +kernel)))⟩
theorem ao_law {A : Array Value} {s : State} (hts : ∀ w ∈ lw_tbl, w.before A s = true) : va_AOA .int s := hts (.arrayOver (.array .int)) (List.mem_of_getElem? (i := 29) (by decide +kernel))
theorem st_len {A : Array Value} {s : State} {t : Term} {z : Int32} (h : (Cond.eq t (.int z)).before A s = true) : t.eval A s none [] s = some (.int z) := by
  cases hv : t.eval A s none [] s with
  | none => simp [Cond.before, Cond.holds, Cond.value, hv] at h
  | some w =>
    have hz : (Term.int z).eval A s none [] s = some (.int z) := rfl
    simp only [Cond.before, Cond.holds, Cond.value, hv, hz] at h
    cases w <;> simp_all
theorem dn_law {b : Nat} {s : State} (hts : ∀ w ∈ lw_tbl, w.before #[Value.ref b] s = true) (hgv : (Jvm.Cond.and given_1 narrow_1).before #[Value.ref b] s = true) : ∃ tq : Nat, va_Z "DigitDivider" "DIGITS_NEAREST_FIRST" "[I" (.ref tq) (fun q : Nat => s.heap.size ≤ q) s s.heap ∧ va_T .int tq 5 (fun j => .int (dnf j)) (fun q : Nat => s.heap.size ≤ q) s s.heap := by
  have hs := flat_of_before _ hgv
  have hA : ∀ a : Nat, a < s.heap.size → ¬ (fun q : Nat => s.heap.size ≤ q) a := fun a h q => absurd h (Nat.not_lt.mpr q)
  have harr : (Cond.arrayOf (Term.static "DigitDivider" "DIGITS_NEAREST_FIRST" "[I") .int).before #[Value.ref b] s = true := hs _ (by decide +kernel)
  have hlen : (Cond.eq (Term.length (Term.static "DigitDivider" "DIGITS_NEAREST_FIRST" "[I")) (.int 5)).before #[Value.ref b] s = true := hs _ (by decide +kernel)
  have h0 : (Cond.eq (Term.elem (Term.static "DigitDivider" "DIGITS_NEAREST_FIRST" "[I") (.int 0)) (.int 0)).before #[Value.ref b] s = true := hs _ (by decide +kernel)
  have h1 : (Cond.eq (Term.elem (Term.static "DigitDivider" "DIGITS_NEAREST_FIRST" "[I") (.int 1)) (.int 1)).before #[Value.ref b] s = true := hs _ (by decide +kernel)
  have h2 : (Cond.eq (Term.elem (Term.static "DigitDivider" "DIGITS_NEAREST_FIRST" "[I") (.int 2)) (.int (-1))).before #[Value.ref b] s = true := hs _ (by decide +kernel)
  have h3 : (Cond.eq (Term.elem (Term.static "DigitDivider" "DIGITS_NEAREST_FIRST" "[I") (.int 3)) (.int 2)).before #[Value.ref b] s = true := hs _ (by decide +kernel)
  have h4 : (Cond.eq (Term.elem (Term.static "DigitDivider" "DIGITS_NEAREST_FIRST" "[I") (.int 4)) (.int (-2))).before #[Value.ref b] s = true := hs _ (by decide +kernel)
  obtain ⟨tq, ht, hT⟩ := va_Tof (tm := (Term.static "DigitDivider" "DIGITS_NEAREST_FIRST" "[I")) (ty := .int) (N := 5) (f := fun j => .int (dnf j)) (A := fun q : Nat => s.heap.size ≤ q) (by decide) harr (st_len hlen) (fun j hj => by
    match j, hj with
    | 0, _ => exact st_len h0
    | 1, _ => exact st_len h1
    | 2, _ => exact st_len h2
    | 3, _ => exact st_len h3
    | 4, _ => exact st_len h4) hA
  exact ⟨tq, va_Zof (hts (.laysStatic "DigitDivider" "DIGITS_NEAREST_FIRST" "[I") (List.mem_of_getElem? (i := 118) (by decide +kernel))) (hts (.initialized "DigitDivider") (List.mem_of_getElem? (i := 16) (by decide +kernel))) ht hA, hT⟩
theorem sc_in {n L k : Nat} {K : Int32} (hL : L ≤ 2560) (hn : n < L / 5) (hK : K = nI k) (hk : k < 5) : vp_in (nI (5 * n) + K) L := by
  rw [hK, nI_add]
  exact vp_in_nI (by omega) (by omega)
theorem sc_in0 {n L : Nat} (hL : L ≤ 2560) (hn : n < L / 5) : vp_in (nI (5 * n)) L := vp_in_nI (by omega) (by omega)
theorem sc_len {L : Nat} (hL : L ≤ 2560) : (nI L - 5).toInt = (L : Int) - 5 := by
  have e : (5 : Int32) = nI 5 := rfl
  rw [e, pk_sub_toInt (by omega) (by omega)]
  rfl
theorem sc_more {n L : Nat} (hL : L ≤ 2560) (hn : n ≤ L / 5) (c : ¬ nI L - 5 < nI (5 * n)) : n < L / 5 := by
  have h := i_nlt c
  rw [sc_len hL, nI_toInt (by omega)] at h
  omega
theorem sc_next (n : Nat) : nI (5 * n) + Int32.ofInt 5 = nI (5 * (n + 1)) := by
  have e : Int32.ofInt 5 = nI 5 := rfl
  rw [e, nI_add]
  rfl
