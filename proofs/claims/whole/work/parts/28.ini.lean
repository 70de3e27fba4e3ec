/-! what the constructors need -/
theorem va_AOA.moved {ty : FieldType} {s U : State} (hal : s.vm.Alike U.vm) (h : va_AOA ty s) : va_AOA ty U := by
  have h1 : (Cond.arrayOver (.array ty)).before #[] (s.setVm U.vm) = true := by rw [Cond.arrayOver_setVmC hal]; exact h
  first | exact h1 | exact va_tabs rfl rfl h1
theorem ax_sameI {D : va_G} {cl : List vw_C} {tys : List (ClassId × FieldType)} {s : State} {a b : ClassId} (hK : va_K D cl tys s) (i j : Nat) (h1 : tys[i]? = some (a, .int)) (h2 : tys[j]? = some (b, .int)) : a = b := Option.some.inj ((show s.vm.findClass ("[" ++ FieldType.int.toString) = some a from (hK.2 i _ h1).2).symm.trans (show s.vm.findClass ("[" ++ FieldType.int.toString) = some b from (hK.2 j _ h2).2))
theorem ax_sameL {D : va_G} {cl : List vw_C} {tys : List (ClassId × FieldType)} {s : State} {a b : ClassId} (hK : va_K D cl tys s) (i j : Nat) (h1 : tys[i]? = some (a, .long)) (h2 : tys[j]? = some (b, .long)) : a = b := Option.some.inj ((show s.vm.findClass ("[" ++ FieldType.long.toString) = some a from (hK.2 i _ h1).2).symm.trans (show s.vm.findClass ("[" ++ FieldType.long.toString) = some b from (hK.2 j _ h2).2))
theorem ax_sameC {D : va_G} {cl : List vw_C} {tys : List (ClassId × FieldType)} {s : State} {a b : ClassId} (hK : va_K D cl tys s) (i : Nat) (h1 : tys[i]? = some (a, .int)) (h2 : s.vm.findClass (FieldType.array .int).toString = some b) : b = a := Option.some.inj (h2.symm.trans (show s.vm.findClass ("[" ++ FieldType.int.toString) = some a from (hK.2 i _ h1).2))
theorem vr_up_const {e : va_E} {l : List Nat} : vr_up (fun _ => e) l e = fun _ => e := by
  funext a
  unfold vr_up
  split <;> rfl
/-- nothing divided yet -/
def dvI : DV := (fun _ => 0, fun _ => 0, fun _ => 0, fun _ => 0, fun _ => 0, fun _ => 0, 0, 0, 0, 0, 0, 0, 0, 0)
def mvI : MV := (fun _ => 0, 0, 0, 0, 0, 0, 0, 0, 0, 0, fun _ => 0, fun _ => 0, fun _ => 0, fun _ => 0, fun _ => 0, fun _ => 0, fun _ => 0, fun _ => 0)
theorem t4_in {j : Nat} (h : j < 4) : vp_in (nI j) 4 := vp_in_nI h (by decide)
theorem inner_I (c : ClassId) (N : Nat) : Jvm.Free.Multi.innerC c N (defaultValue .int) = vp_cell c (N, .inl (fun _ => 0)) := by
  show ({ cls := c, slots := Array.replicate N (.int 0), vm := .none } : Cell) = _
  rw [arrV_new]
  rfl
