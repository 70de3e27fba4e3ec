section
-- ===== PART A: goes FIRST, ahead of the names: the tables' words, and 'selects' of the private methods out of them =====
/-- a private method of a class that the tables say can be made, by its rows of tables_1 -/
def lw_okq (q : MethodName × Nat) : Prop := (q.1.cls ≠ "java/lang/invoke/MethodHandle" ∧ q.1.cls ≠ "java/lang/invoke/VarHandle") ∧ Cond.instantiable q.1.cls q.2 ∈ tables_1 ∧ Cond.privateMethod q.1 ∈ tables_1 ∧ Cond.instanceMethod q.1 ∈ tables_1
theorem lw_p0 : lw_okq (⟨"DigitDivider", "madeDigit", "(I)I"⟩, 5) := ⟨⟨by decide +kernel, by decide +kernel⟩, List.mem_of_getElem? (i := 6) (by decide +kernel), List.mem_of_getElem? (i := 99) (by decide +kernel), List.mem_of_getElem? (i := 100) (by decide +kernel)⟩
theorem lw_p1 : lw_okq (⟨"DigitDivider", "isGood", "(II)Z"⟩, 5) := ⟨⟨by decide +kernel, by decide +kernel⟩, List.mem_of_getElem? (i := 6) (by decide +kernel), List.mem_of_getElem? (i := 105) (by decide +kernel), List.mem_of_getElem? (i := 106) (by decide +kernel)⟩
theorem lw_p2 : lw_okq (⟨"DigitDivider", "replace", "(III)I"⟩, 5) := ⟨⟨by decide +kernel, by decide +kernel⟩, List.mem_of_getElem? (i := 6) (by decide +kernel), List.mem_of_getElem? (i := 149) (by decide +kernel), List.mem_of_getElem? (i := 150) (by decide +kernel)⟩
theorem lw_p3 : lw_okq (⟨"DigitDivider$Division", "run", "(II[I)V"⟩, 14) := ⟨⟨by decide +kernel, by decide +kernel⟩, List.mem_of_getElem? (i := 16) (by decide +kernel), List.mem_of_getElem? (i := 181) (by decide +kernel), List.mem_of_getElem? (i := 182) (by decide +kernel)⟩
theorem lw_p4 : lw_okq (⟨"DigitDivider$Division", "clear", "()V"⟩, 14) := ⟨⟨by decide +kernel, by decide +kernel⟩, List.mem_of_getElem? (i := 16) (by decide +kernel), List.mem_of_getElem? (i := 188) (by decide +kernel), List.mem_of_getElem? (i := 189) (by decide +kernel)⟩
theorem lw_p5 : lw_okq (⟨"DigitDivider$Division", "begin", "(JJ)J"⟩, 14) := ⟨⟨by decide +kernel, by decide +kernel⟩, List.mem_of_getElem? (i := 16) (by decide +kernel), List.mem_of_getElem? (i := 193) (by decide +kernel), List.mem_of_getElem? (i := 194) (by decide +kernel)⟩
theorem lw_p6 : lw_okq (⟨"DigitDivider$Division", "takeDigit", "(IJ[I)V"⟩, 14) := ⟨⟨by decide +kernel, by decide +kernel⟩, List.mem_of_getElem? (i := 16) (by decide +kernel), List.mem_of_getElem? (i := 205) (by decide +kernel), List.mem_of_getElem? (i := 206) (by decide +kernel)⟩
theorem lw_p7 : lw_okq (⟨"DigitDivider$Division", "writeQuotient", "(II)V"⟩, 14) := ⟨⟨by decide +kernel, by decide +kernel⟩, List.mem_of_getElem? (i := 16) (by decide +kernel), List.mem_of_getElem? (i := 211) (by decide +kernel), List.mem_of_getElem? (i := 212) (by decide +kernel)⟩
theorem lw_p8 : lw_okq (⟨"DigitDivider$Division", "finish", "(JZZ)V"⟩, 14) := ⟨⟨by decide +kernel, by decide +kernel⟩, List.mem_of_getElem? (i := 16) (by decide +kernel), List.mem_of_getElem? (i := 218) (by decide +kernel), List.mem_of_getElem? (i := 219) (by decide +kernel)⟩
theorem lw_p9 : lw_okq (⟨"DigitDividerModel", "fill", "(I)I"⟩, 18) := ⟨⟨by decide +kernel, by decide +kernel⟩, List.mem_of_getElem? (i := 250) (by decide +kernel), List.mem_of_getElem? (i := 256) (by decide +kernel), List.mem_of_getElem? (i := 257) (by decide +kernel)⟩
theorem lw_p10 : lw_okq (⟨"DigitDividerModel", "isWrong", "(II)Z"⟩, 18) := ⟨⟨by decide +kernel, by decide +kernel⟩, List.mem_of_getElem? (i := 250) (by decide +kernel), List.mem_of_getElem? (i := 370) (by decide +kernel), List.mem_of_getElem? (i := 371) (by decide +kernel)⟩
theorem lw_p11 : lw_okq (⟨"DigitDividerModel", "work", "(II)V"⟩, 18) := ⟨⟨by decide +kernel, by decide +kernel⟩, List.mem_of_getElem? (i := 250) (by decide +kernel), List.mem_of_getElem? (i := 386) (by decide +kernel), List.mem_of_getElem? (i := 387) (by decide +kernel)⟩
theorem lw_p12 : lw_okq (⟨"DigitDividerModel", "nextDigit", "(IJ)V"⟩, 18) := ⟨⟨by decide +kernel, by decide +kernel⟩, List.mem_of_getElem? (i := 250) (by decide +kernel), List.mem_of_getElem? (i := 400) (by decide +kernel), List.mem_of_getElem? (i := 401) (by decide +kernel)⟩
theorem lw_p13 : lw_okq (⟨"DigitDividerModel", "keep", "()V"⟩, 18) := ⟨⟨by decide +kernel, by decide +kernel⟩, List.mem_of_getElem? (i := 250) (by decide +kernel), List.mem_of_getElem? (i := 436) (by decide +kernel), List.mem_of_getElem? (i := 437) (by decide +kernel)⟩
theorem lw_p14 : lw_okq (⟨"DigitDividerModel", "back", "()V"⟩, 18) := ⟨⟨by decide +kernel, by decide +kernel⟩, List.mem_of_getElem? (i := 250) (by decide +kernel), List.mem_of_getElem? (i := 440) (by decide +kernel), List.mem_of_getElem? (i := 441) (by decide +kernel)⟩
def lw_privs_1 : List (MethodName × Nat) := [(⟨"DigitDivider", "madeDigit", "(I)I"⟩, 5), (⟨"DigitDivider", "isGood", "(II)Z"⟩, 5), (⟨"DigitDivider", "replace", "(III)I"⟩, 5), (⟨"DigitDivider$Division", "run", "(II[I)V"⟩, 14), (⟨"DigitDivider$Division", "clear", "()V"⟩, 14), (⟨"DigitDivider$Division", "begin", "(JJ)J"⟩, 14), (⟨"DigitDivider$Division", "takeDigit", "(IJ[I)V"⟩, 14), (⟨"DigitDivider$Division", "writeQuotient", "(II)V"⟩, 14), (⟨"DigitDivider$Division", "finish", "(JZZ)V"⟩, 14), (⟨"DigitDividerModel", "fill", "(I)I"⟩, 18), (⟨"DigitDividerModel", "isWrong", "(II)Z"⟩, 18), (⟨"DigitDividerModel", "work", "(II)V"⟩, 18), (⟨"DigitDividerModel", "nextDigit", "(IJ)V"⟩, 18), (⟨"DigitDividerModel", "keep", "()V"⟩, 18), (⟨"DigitDividerModel", "back", "()V"⟩, 18)]
theorem lw_r1 : ∀ q ∈ lw_privs_1, lw_okq q := List.forall_mem_cons.mpr ⟨lw_p0, List.forall_mem_cons.mpr ⟨lw_p1, List.forall_mem_cons.mpr ⟨lw_p2, List.forall_mem_cons.mpr ⟨lw_p3, List.forall_mem_cons.mpr ⟨lw_p4, List.forall_mem_cons.mpr ⟨lw_p5, List.forall_mem_cons.mpr ⟨lw_p6, List.forall_mem_cons.mpr ⟨lw_p7, List.forall_mem_cons.mpr ⟨lw_p8, List.forall_mem_cons.mpr ⟨lw_p9, List.forall_mem_cons.mpr ⟨lw_p10, List.forall_mem_cons.mpr ⟨lw_p11, List.forall_mem_cons.mpr ⟨lw_p12, List.forall_mem_cons.mpr ⟨lw_p13, List.forall_mem_cons.mpr ⟨lw_p14, fun _ h => absurd h List.not_mem_nil⟩⟩⟩⟩⟩⟩⟩⟩⟩⟩⟩⟩⟩⟩⟩
def lw_privs : List (MethodName × Nat) := lw_privs_1
def lw_tbl : List Cond := k2_sels lw_privs ++ tables_1
theorem lw_privs_ok : ∀ q ∈ lw_privs, lw_okq q := lw_r1
end
section
/-! ===== BEGIN words of one list among another's, by their places ===== -/
theorem goodIn_r {big : List Cond} (ws : List Cond) (ps : List Nat) (hp : ws = ps.filterMap (fun i => big[i]?)) (h : ws.all goodWord = true) : GoodIn big ws := by
  intro w hw
  have h1 := List.all_eq_true.mp h w hw
  rw [hp] at hw
  obtain ⟨i, -, hi⟩ := List.mem_filterMap.mp hw
  have hm : w ∈ big := by first | exact List.mem_of_getElem? hi | exact List.getElem?_mem hi
  exact ⟨hm, good_of_word h1⟩
theorem goodIn_app {big a b : List Cond} (ha : GoodIn big a) (hb : GoodIn big b) : GoodIn big (a ++ b) := fun w h => (List.mem_append.mp h).elim (ha w) (hb w)
theorem goodIn_ca {big a b : List Cond} {c : Cond} (ha : GoodIn big (c :: a)) (hb : GoodIn big b) : GoodIn big (c :: (a ++ b)) := fun w h => (List.mem_cons.mp h).elim (fun e => ha w (List.mem_cons.mpr (Or.inl e))) (fun h => (List.mem_append.mp h).elim (fun h => ha w (List.mem_cons.mpr (Or.inr h))) (hb w))
theorem goodIn_sub {big ws : List Cond} (hm : ∀ w ∈ ws, w ∈ big) (h : ws.all goodWord = true) : GoodIn big ws := fun w hw => ⟨hm w hw, good_of_word (List.all_eq_true.mp h w hw)⟩
/-! ===== END ===== -/

/-! ===== BEGIN new T[n][m]: the outer array a place, the inner ones among the pooled ===== -/
/-- f, but v at every address of l -/
def vr_up {α : Type} (f : Nat → α) (l : List Nat) (v : α) : Nat → α := fun a => if a ∈ l then v else f a
theorem vr_up_in {α : Type} {f : Nat → α} {l : List Nat} {v : α} {a : Nat} (h : a ∈ l) : vr_up f l v a = v := if_pos h
theorem vr_up_ne {α : Type} {f : Nat → α} {l : List Nat} {v : α} {a : Nat} (h : a ∉ l) : vr_up f l v a = f a := if_neg h
theorem vr_rows {L l : List Nat} {f : Nat → va_E} {e : va_E} (h : ∀ a, a ∈ l → a ∉ L) : va_pl L f ++ l.map (fun a => (a, e)) = va_pl (L ++ l) (vr_up f l e) := by
  unfold va_pl
  rw [List.map_append]
  congr 1
  · apply List.map_congr_left
    intro a ha
    rw [vr_up_ne (fun q => h a q ha)]
  · apply List.map_congr_left
    intro a ha
    rw [vr_up_in ha]
theorem vr_lay {X rows : va_W} {x : Nat × va_E} {pl : va_W} {D : va_G} {cl : List vw_C} {H : Heap} (hP : va_P D cl (((X ++ pl) ++ [x]) ++ rows) H) : va_P D cl ((X ++ [x]) ++ (pl ++ rows)) H := by
  rw [List.append_assoc (X ++ pl)] at hP
  have h := va_P.swap hP
  rw [← List.append_assoc X] at h
  have h2 := va_P.swap h
  rw [List.append_assoc (X ++ [x])] at h2
  exact h2
theorem vr_layD {X rows : va_W} {x : Nat × va_E} {pl : va_W} {A : Nat → Prop} (hD : va_D A (((X ++ pl) ++ [x]) ++ rows)) : va_D A ((X ++ [x]) ++ (pl ++ rows)) := by
  rw [List.append_assoc (X ++ pl)] at hD
  have h := va_D.swap hD
  rw [← List.append_assoc X] at h
  have h2 := va_D.swap h
  rw [List.append_assoc (X ++ [x])] at h2
  exact h2
theorem vr_outer (c : ClassId) (N h0 : Nat) : ∀ i : Nat, Jvm.Free.Multi.outerC c N h0 i = arrV c N (fun j => va_rf (if j < i then some (h0 + 1 + j) else none))
  | 0 => by
    show ({ cls := c, slots := Array.replicate N .null, vm := .none } : Cell) = _
    rw [arrV_new]
    refine congrArg (arrV c N) (funext fun j => ?_)
    simp [va_rf]
  | i + 1 => by
    show (Jvm.Free.Multi.outerC c N h0 i).setSlot i (.ref (h0 + 1 + i)) = _
    rw [vr_outer c N h0 i, arrV_store]
    refine congrArg (arrV c N) (funext fun j => ?_)
    by_cases e : j = i
    · subst e
      simp [updV, va_rf]
    · by_cases h : j < i
      · simp [updV, e, h, Nat.lt_succ_of_lt h]
      · simp [updV, e, h, show ¬ j < i + 1 by omega]
/-- the class of rows of that type is known -/
def va_AOA (ty : FieldType) (U : State) : Prop := (Cond.arrayOver (.array ty)).before #[] U = true
theorem va_AOA.use {ty : FieldType} {A : Array Value} {U : State} (h : va_AOA ty U) : (Cond.arrayOver (.array ty)).before A U = true := h
section VGM
variable {p : Program} {l : Launch} {e : Env} {R : Room} {s : State} {m : MethodId} {args : Array Value} {below : List Frame} {meth : Method} {c : Code} {H : Heap} {locs : List Loc} {cells slots : Nat} {Q : State → Prop}
variable {cc : ByteArray} {pc : Nat} {ls : Array Slot} {rest : List Value} {D : va_G} {cl : List vw_C} {A : Nat → Prop} {a : Nat} {tys : List (ClassId × FieldType)} {ws : va_W} {H0 : Heap}
theorem va_mna {X : va_W} {L : List Nat} {f : Nat → va_E} {cc : ByteArray} (hexec : p.tables.exec = Jvm.exec) (hb : c.code = cc) {own : String} {index : Nat} {ty : FieldType} {cy : ClassId} (hown : s.vm.findClass own = some m.cls) (hclink : (Cond.classLink own index ("[" ++ (FieldType.array ty).toString)).before args s = true) (hover : va_AOA ty s) (harr : (Cond.arrayClass ty).before args s = true) (hcy : s.vm.findClass (FieldType.array ty).toString = some cy)
    (hK : va_K D cl tys s) (hP : va_P D cl (X ++ va_pl L f) H) (hD : va_D A (X ++ va_pl L f)) (hS : va_S A H0 H locs) (hA : ∀ q, H0.size ≤ q → A q) {n k : Int32} {N' K' : Nat} {z : vp_A} (hn : ¬ n < 0) (hk : ¬ k < 0) (hN : n.toNatClampNeg = N') (hM : k.toNatClampNeg = K')
    (hb1 : N' * 4 ≤ 536870912) (hb2 : K' * componentBytes ty ≤ 536870912) (hb3 : K' ≤ 536870912) (hdf : fits ty (defaultValue ty) = true) (hdd : (defaultValue ty).isDefault = true) (hcells : cells + (1 + N') ≤ R.cells) (hslots : slots + (N' + N' * K') ≤ R.slots) (hz : ∀ c : ClassId, Jvm.Free.Multi.innerC c K' (defaultValue ty) = vp_cell c z) (hdg : decode cc pc = .ok (.multianewarray index 2, 4))
    (kk : ∀ (q : Nat) (r : Nat → Nat) (cA : ClassId) (H1 : Heap), (∀ i j : Nat, i < N' → j < N' → r i = r j → i = j) → (∀ i : Nat, i < N' → r i ∉ L) → va_K D cl (tys ++ [(cA, .array ty)]) s →
      va_P D cl ((X ++ [(q, .inl (cA, N', .inr (.inr (.inr (.inr (fun i => if i < N' then some (r i) else none))))))]) ++ va_pl (L ++ (List.range N').map r) (vr_up f ((List.range N').map r) (.inl (cy, z)))) H1 → va_D A ((X ++ [(q, .inl (cA, N', .inr (.inr (.inr (.inr (fun i => if i < N' then some (r i) else none))))))]) ++ va_pl (L ++ (List.range N').map r) (vr_up f ((List.range N').map r) (.inl (cy, z)))) → va_S A H0 H1 locs →
      W p l e R s m args below meth c H1 locs (cells + 1 + N') (slots + N' + N' * K') Q (F0 m (pc + 4) ls (.ref q :: rest))) : W p l e R s m args below meth c H locs cells slots Q (F0 m pc ls (.int k :: .int n :: rest)) := by
  subst hN
  subst hM
  intro T hT Xs
  obtain ⟨vm₁, cA, comp, -, fA, fC, hO, -, X', step⟩ := Xs.multianewarray2F hexec hown hclink (va_AOA.use hover) harr (g := F0 m pc ls (.int k :: .int n :: rest)) rfl (by rw [hb]; exact hdg) rfl hn hk hb1 hb2 hb3 hdf hdd hcells hslots
  have ec : some cy = some comp := hcy.symm.trans fC
  cases ec
  generalize hF : Jvm.Free.Multi.fill (T.setVm vm₁) cA cy n.toNatClampNeg k.toNatClampNeg (defaultValue ty) n.toNatClampNeg = F at X' step
  have hTh : (T.setVm vm₁).heap = H := hT
  obtain ⟨f1, f2, -, -⟩ := Jvm.Free.Multi.fill_facts (T.setVm vm₁) cA cy n.toNatClampNeg k.toNatClampNeg (defaultValue ty) n.toNatClampNeg
  rw [hF, hTh] at f1 f2
  have hold : ∀ x : Nat, x < H.size → F.heap[x]? = H[x]? := fun x hx => by
    have := Jvm.Free.Multi.fill_old (T.setVm vm₁) cA cy n.toNatClampNeg k.toNatClampNeg (defaultValue ty) (a := x) (by rw [hTh]; exact hx) n.toNatClampNeg
    rw [hF, hTh] at this
    exact this
  have hrow : ∀ j : Nat, j < n.toNatClampNeg → F.heap[H.size + 1 + j]? = some (vp_cell cy z) := fun j hj => by
    have := Jvm.Free.Multi.fill_inner (T.setVm vm₁) cA cy n.toNatClampNeg k.toNatClampNeg (defaultValue ty) n.toNatClampNeg j hj
    rw [hF, hTh, hz] at this
    exact this
  have hout : Jvm.Free.Multi.outerC cA n.toNatClampNeg H.size n.toNatClampNeg = vp_cell cA (n.toNatClampNeg, .inr (.inr (.inr (.inr (fun i => if i < n.toNatClampNeg then some (H.size + 1 + i) else none))))) := by
    rw [vp_cell_q]
    exact vr_outer cA n.toNatClampNeg H.size n.toNatClampNeg
  rw [hout] at f2
  have hlt : ∀ a, a ∈ L → a < H.size := fun a ha => by
    obtain ⟨k9, hk9⟩ := va_pl_get (X := X) (f := f) ha
    exact (hP k9 _ hk9).lt
  have hnl : ∀ i : Nat, i < n.toNatClampNeg → H.size + 1 + i ∉ L := fun i _ h => by
    have := hlt _ h
    omega
  have hnm : ∀ a, a ∈ (List.range n.toNatClampNeg).map (fun i => H.size + 1 + i) → a ∉ L := fun a ha h => by
    obtain ⟨i, -, rfl⟩ := List.mem_map.mp ha
    have := hlt _ h
    omega
  have hP0 : va_P D cl (X ++ va_pl L f) F.heap := hP.kept (fun k9 x hx => hold x.1 ((hP k9 x hx).lt))
  have hP1 : va_P D cl ((X ++ va_pl L f) ++ [(H.size, .inl (cA, n.toNatClampNeg, .inr (.inr (.inr (.inr (fun i => if i < n.toNatClampNeg then some (H.size + 1 + i) else none))))))]) F.heap := hP0.app (fun k9 x hx => by
    have h0 : k9 < 1 := (List.getElem?_eq_some_iff.mp hx).1
    rw [show k9 = 0 by omega] at hx
    cases hx
    exact f2)
  have hP2 : va_P D cl (((X ++ va_pl L f) ++ [(H.size, .inl (cA, n.toNatClampNeg, .inr (.inr (.inr (.inr (fun i => if i < n.toNatClampNeg then some (H.size + 1 + i) else none))))))]) ++ ((List.range n.toNatClampNeg).map (fun i => H.size + 1 + i)).map (fun a => (a, .inl (cy, z)))) F.heap := hP1.app (fun k9 x hx => by
    obtain ⟨a, ha, rfl⟩ := List.mem_map.mp (List.mem_of_getElem? hx)
    obtain ⟨i, hi, rfl⟩ := List.mem_map.mp ha
    exact hrow i (List.mem_range.mp hi))
  have hD2 : va_D A (((X ++ va_pl L f) ++ [(H.size, .inl (cA, n.toNatClampNeg, .inr (.inr (.inr (.inr (fun i => if i < n.toNatClampNeg then some (H.size + 1 + i) else none))))))]) ++ ((List.range n.toNatClampNeg).map (fun i => H.size + 1 + i)).map (fun a => (a, .inl (cy, z)))) := by
    have hD1 := hD.push (e := .inl (cA, n.toNatClampNeg, .inr (.inr (.inr (.inr (fun i => if i < n.toNatClampNeg then some (H.size + 1 + i) else none)))))) hP rfl (hA _ hS.1)
    generalize hW1 : (X ++ va_pl L f) ++ [(H.size, .inl (cA, n.toNatClampNeg, .inr (.inr (.inr (.inr (fun i => if i < n.toNatClampNeg then some (H.size + 1 + i) else none))))))] = W1 at hD1 hP1 ⊢
    have hle : ∀ (k9 : Nat) (x : Nat × va_E), W1[k9]? = some x → x.1 ≤ H.size := fun k9 x hx => by
      rw [← hW1] at hx
      by_cases hl : k9 < (X ++ va_pl L f).length
      · rw [List.getElem?_append_left hl] at hx
        exact Nat.le_of_lt ((hP k9 x hx).lt)
      · rw [List.getElem?_append_right (by omega)] at hx
        have h0 : k9 - (X ++ va_pl L f).length < 1 := (List.getElem?_eq_some_iff.mp hx).1
        rw [show k9 - (X ++ va_pl L f).length = 0 by omega] at hx
        cases hx
        exact Nat.le_refl _
    have hr : ∀ (k9 : Nat) (x : Nat × va_E), (((List.range n.toNatClampNeg).map (fun i => H.size + 1 + i)).map (fun a => ((a, .inl (cy, z)) : Nat × va_E)))[k9]? = some x → x.1 = H.size + 1 + k9 := fun k9 x hx => by
      rw [List.getElem?_map, List.getElem?_map] at hx
      by_cases h9 : k9 < n.toNatClampNeg
      · rw [List.getElem?_range h9] at hx
        cases hx
        rfl
      · have hn0 : (List.range n.toNatClampNeg)[k9]? = none := List.getElem?_eq_none (by rw [List.length_range]; omega)
        rw [hn0] at hx
        cases hx
    refine ⟨fun i j x y hi hj hxy => ?_, fun k9 x hx => ?_⟩
    · by_cases h1 : i < W1.length <;> by_cases h2 : j < W1.length
      · rw [List.getElem?_append_left h1] at hi
        rw [List.getElem?_append_left h2] at hj
        exact hD1.1 i j x y hi hj hxy
      · rw [List.getElem?_append_left h1] at hi
        rw [List.getElem?_append_right (by omega)] at hj
        have := hle _ _ hi
        have := hr _ _ hj
        omega
      · rw [List.getElem?_append_right (by omega)] at hi
        rw [List.getElem?_append_left h2] at hj
        have := hle _ _ hj
        have := hr _ _ hi
        omega
      · rw [List.getElem?_append_right (by omega)] at hi hj
        have := hr _ _ hi
        have := hr _ _ hj
        omega
    · by_cases h1 : k9 < W1.length
      · rw [List.getElem?_append_left h1] at hx
        exact hD1.2 k9 x hx
      · rw [List.getElem?_append_right (by omega)] at hx
        have := hr _ _ hx
        exact hA _ (by have := hS.1; omega)
  have hAr : ArrOfT s cA (.array ty) := fun N9 z9 => by
    obtain ⟨-, k9, hk9, cm9, hkk9⟩ := (hO 0 0 0).1
    exact ⟨(fun q hq => by cases hq), k9, hk9, cm9, hkk9⟩
  have hK2 : va_K D cl (tys ++ [(cA, .array ty)]) s := ⟨hK.1, fun k9 x hx => by
    by_cases hl : k9 < tys.length
    · rw [List.getElem?_append_left hl] at hx
      exact hK.2 k9 x hx
    · rw [List.getElem?_append_right (by omega)] at hx
      have h0 : k9 - tys.length < 1 := (List.getElem?_eq_some_iff.mp hx).1
      rw [show k9 - tys.length = 0 by omega] at hx
      cases hx
      exact ⟨hAr, fA⟩⟩
  obtain ⟨t, a1, b1⟩ := kk H.size (fun i => H.size + 1 + i) cA F.heap (fun i j _ _ h => by have h9 : H.size + 1 + i = H.size + 1 + j := h; omega) hnl hK2 (by rw [← vr_rows hnm]; exact vr_lay hP2) (by rw [← vr_rows hnm]; exact vr_layD hD2) ⟨by rw [f1]; have := hS.1; omega, fun x h1 h2 => (hold x (Nat.lt_of_lt_of_le h1 hS.1)).trans (hS.2.1 x h1 h2), hS.2.2⟩ F rfl X'
  refine ⟨t, step t ?_, b1⟩
  have e : T.heap.size = H.size := by rw [hT]
  rw [e]
  exact a1
end VGM
/-! ===== END ===== -/
end
section
def RX0 : String := "DigitDivider$Division"
def TX0 : u_T := fun k => match k with
  | 0 => ("DigitDivider$Division", "digits", "[I", true)
  | 1 => ("DigitDivider$Division", "estimates", "[I", true)
  | 2 => ("DigitDivider$Division", "sums", "[J", true)
  | 3 => ("DigitDivider$Division", "carries", "[J", true)
  | 4 => ("DigitDivider$Division", "qs", "[J", true)
  | 5 => ("DigitDivider$Division", "rs", "[J", true)
  | 6 => ("DigitDivider$Division", "row", "I", false)
  | 7 => ("DigitDivider$Division", "s", "I", false)
  | 8 => ("DigitDivider$Division", "t", "I", false)
  | 9 => ("DigitDivider$Division", "n", "I", false)
  | 10 => ("DigitDivider$Division", "digitsNotZero", "I", false)
  | 11 => ("DigitDivider$Division", "firstLeft", "I", false)
  | 12 => ("DigitDivider$Division", "quotient", "I", false)
  | _ => ("DigitDivider$Division", "rest", "I", false)
def tyX0 : Nat → FieldType := fun k => match k with
  | 0 => .array .int
  | 1 => .array .int
  | 2 => .array .long
  | 3 => .array .long
  | 4 => .array .long
  | 5 => .array .long
  | 6 => .int
  | 7 => .int
  | 8 => .int
  | 9 => .int
  | 10 => .int
  | 11 => .int
  | 12 => .int
  | _ => .int
abbrev wsX00 : List Cond := u_ws RX0 TX0 14
theorem nmX0 : ∀ a, a < 14 → ∀ b, b < 14 → a ≠ b → (TX0 a).2.1 ≠ (TX0 b).2.1 := by decide +kernel
theorem tyX0_ok : ∀ k, k < 14 → parseFieldDescriptor (TX0 k).2.2.1 = some (tyX0 k) := by decide +kernel
abbrev cX0_init : ByteArray := prog_2_method_1_code
def yX0_init : MethodName := ⟨RX0, "<init>", "()V"⟩
abbrev cX0_run : ByteArray := prog_2_method_2_code
def yX0_run : MethodName := ⟨RX0, "run", "(II[I)V"⟩
abbrev cX0_clear : ByteArray := prog_2_method_3_code
def yX0_clear : MethodName := ⟨RX0, "clear", "()V"⟩
abbrev cX0_begin : ByteArray := prog_2_method_4_code
def yX0_begin : MethodName := ⟨RX0, "begin", "(JJ)J"⟩
abbrev cX0_doublings : ByteArray := prog_2_method_5_code
def yX0_doublings : MethodName := ⟨RX0, "doublings", "(J)I"⟩
abbrev cX0_takeDigit : ByteArray := prog_2_method_6_code
def yX0_takeDigit : MethodName := ⟨RX0, "takeDigit", "(IJ[I)V"⟩
abbrev cX0_writeQuotient : ByteArray := prog_2_method_7_code
def yX0_writeQuotient : MethodName := ⟨RX0, "writeQuotient", "(II)V"⟩
abbrev cX0_finish : ByteArray := prog_2_method_8_code
def yX0_finish : MethodName := ⟨RX0, "finish", "(JZZ)V"⟩
def RX1 : String := "DigitDivider"
def TX1 : u_T := fun k => match k with
  | 0 => ("DigitDivider", "tables", "[[I", true)
  | 1 => ("DigitDivider", "goodDigits", "[I", true)
  | 2 => ("DigitDivider", "latest", "LDigitDivider$Division;", true)
  | 3 => ("DigitDivider", "swept", "LDigitDivider$Division;", true)
  | _ => ("DigitDivider", "inUse", "I", false)
def tyX1 : Nat → FieldType := fun k => match k with
  | 0 => .array (.array .int)
  | 1 => .array .int
  | 2 => .object "DigitDivider$Division"
  | 3 => .object "DigitDivider$Division"
  | _ => .int
abbrev wsX10 : List Cond := u_ws RX1 TX1 5
theorem nmX1 : ∀ a, a < 5 → ∀ b, b < 5 → a ≠ b → (TX1 a).2.1 ≠ (TX1 b).2.1 := by decide +kernel
theorem tyX1_ok : ∀ k, k < 5 → parseFieldDescriptor (TX1 k).2.2.1 = some (tyX1 k) := by decide +kernel
abbrev cX1_init : ByteArray := prog_1_method_1_code
def yX1_init : MethodName := ⟨RX1, "<init>", "()V"⟩
abbrev cX1_digit : ByteArray := prog_1_method_2_code
def yX1_digit : MethodName := ⟨RX1, "digit", "(III)I"⟩
abbrev cX1_set : ByteArray := prog_1_method_3_code
def yX1_set : MethodName := ⟨RX1, "set", "(IIII)I"⟩
abbrev cX1_make : ByteArray := prog_1_method_4_code
def yX1_make : MethodName := ⟨RX1, "make", "(I)I"⟩
abbrev cX1_copy : ByteArray := prog_1_method_5_code
def yX1_copy : MethodName := ⟨RX1, "copy", "(II)I"⟩
abbrev cX1_good : ByteArray := prog_1_method_6_code
def yX1_good : MethodName := ⟨RX1, "good", "(III)I"⟩
abbrev cX1_holds : ByteArray := prog_1_method_7_code
def yX1_holds : MethodName := ⟨RX1, "holds", "(II)I"⟩
abbrev cX1_check : ByteArray := prog_1_method_8_code
def yX1_check : MethodName := ⟨RX1, "check", "(I)I"⟩
abbrev cX1_wrong : ByteArray := prog_1_method_9_code
def yX1_wrong : MethodName := ⟨RX1, "wrong", "(II)I"⟩
abbrev cX1_use : ByteArray := prog_1_method_10_code
def yX1_use : MethodName := ⟨RX1, "use", "(I)I"⟩
abbrev cX1_divide : ByteArray := prog_1_method_11_code
def yX1_divide : MethodName := ⟨RX1, "divide", "(II)I"⟩
abbrev cX1_quotient : ByteArray := prog_1_method_12_code
def yX1_quotient : MethodName := ⟨RX1, "quotient", "()I"⟩
abbrev cX1_rest : ByteArray := prog_1_method_13_code
def yX1_rest : MethodName := ⟨RX1, "rest", "()I"⟩
abbrev cX1_left : ByteArray := prog_1_method_14_code
def yX1_left : MethodName := ⟨RX1, "left", "()I"⟩
abbrev cX1_step : ByteArray := prog_1_method_15_code
def yX1_step : MethodName := ⟨RX1, "step", "(II)I"⟩
abbrev cX1_state : ByteArray := prog_1_method_16_code
def yX1_state : MethodName := ⟨RX1, "state", "(II)J"⟩
abbrev cX1_told : ByteArray := prog_1_method_17_code
def yX1_told : MethodName := ⟨RX1, "told", "(I)I"⟩
abbrev cX1_sweep : ByteArray := prog_1_method_18_code
def yX1_sweep : MethodName := ⟨RX1, "sweep", "(III)I"⟩
abbrev cX1_isTable : ByteArray := prog_1_method_19_code
def yX1_isTable : MethodName := ⟨RX1, "isTable", "(I)Z"⟩
abbrev cX1_isCell : ByteArray := prog_1_method_20_code
def yX1_isCell : MethodName := ⟨RX1, "isCell", "(II)Z"⟩
abbrev cX1_isDigit : ByteArray := prog_1_method_21_code
def yX1_isDigit : MethodName := ⟨RX1, "isDigit", "(I)Z"⟩
abbrev cX1_cellAt : ByteArray := prog_1_method_22_code
def yX1_cellAt : MethodName := ⟨RX1, "cellAt", "(II)I"⟩
abbrev cX1_replace : ByteArray := prog_1_method_23_code
def yX1_replace : MethodName := ⟨RX1, "replace", "(III)I"⟩
abbrev cX1_isGood : ByteArray := prog_1_method_24_code
def yX1_isGood : MethodName := ⟨RX1, "isGood", "(II)Z"⟩
abbrev cX1_madeDigit : ByteArray := prog_1_method_25_code
def yX1_madeDigit : MethodName := ⟨RX1, "madeDigit", "(I)I"⟩
abbrev cX1_findGoodDigits : ByteArray := prog_1_method_26_code
def yX1_findGoodDigits : MethodName := ⟨RX1, "findGoodDigits", "(II)I"⟩
abbrev cX1_leastDivisor : ByteArray := prog_1_method_27_code
def yX1_leastDivisor : MethodName := ⟨RX1, "leastDivisor", "(II)I"⟩
abbrev cX1_endOfDivisors : ByteArray := prog_1_method_28_code
def yX1_endOfDivisors : MethodName := ⟨RX1, "endOfDivisors", "(I)I"⟩
abbrev cX1_holdsAny : ByteArray := prog_1_method_29_code
def yX1_holdsAny : MethodName := ⟨RX1, "holdsAny", "(II)Z"⟩
abbrev cX1_staysWithin : ByteArray := prog_1_method_30_code
def yX1_staysWithin : MethodName := ⟨RX1, "staysWithin", "(III)Z"⟩
def RX2 : String := "DigitDividerModel"
def TX2 : u_T := fun k => match k with
  | 0 => ("DigitDividerModel", "tables", "[I", true)
  | 1 => ("DigitDividerModel", "used", "I", false)
  | 2 => ("DigitDividerModel", "n", "I", false)
  | 3 => ("DigitDividerModel", "row", "I", false)
  | 4 => ("DigitDividerModel", "ups", "I", false)
  | 5 => ("DigitDividerModel", "upt", "I", false)
  | 6 => ("DigitDividerModel", "left", "I", false)
  | 7 => ("DigitDividerModel", "quotient", "I", false)
  | 8 => ("DigitDividerModel", "rest", "I", false)
  | 9 => ("DigitDividerModel", "any", "Z", false)
  | 10 => ("DigitDividerModel", "digits", "[I", true)
  | 11 => ("DigitDividerModel", "columns", "[I", true)
  | 12 => ("DigitDividerModel", "sums", "[J", true)
  | 13 => ("DigitDividerModel", "carries", "[J", true)
  | 14 => ("DigitDividerModel", "highs", "[J", true)
  | 15 => ("DigitDividerModel", "lows", "[J", true)
  | 16 => ("DigitDividerModel", "keptInts", "[I", true)
  | _ => ("DigitDividerModel", "keptLongs", "[J", true)
def tyX2 : Nat → FieldType := fun k => match k with
  | 0 => .array .int
  | 1 => .int
  | 2 => .int
  | 3 => .int
  | 4 => .int
  | 5 => .int
  | 6 => .int
  | 7 => .int
  | 8 => .int
  | 9 => .boolean
  | 10 => .array .int
  | 11 => .array .int
  | 12 => .array .long
  | 13 => .array .long
  | 14 => .array .long
  | 15 => .array .long
  | 16 => .array .int
  | _ => .array .long
abbrev wsX20 : List Cond := u_ws RX2 TX2 18
theorem nmX2 : ∀ a, a < 18 → ∀ b, b < 18 → a ≠ b → (TX2 a).2.1 ≠ (TX2 b).2.1 := by decide +kernel
theorem tyX2_ok : ∀ k, k < 18 → parseFieldDescriptor (TX2 k).2.2.1 = some (tyX2 k) := by decide +kernel
abbrev cX2_init : ByteArray := prog_4_method_1_code
def yX2_init : MethodName := ⟨RX2, "<init>", "()V"⟩
abbrev cX2_in : ByteArray := prog_4_method_2_code
def yX2_in : MethodName := ⟨RX2, "in", "(III)Z"⟩
abbrev cX2_isHeld : ByteArray := prog_4_method_3_code
def yX2_isHeld : MethodName := ⟨RX2, "isHeld", "(II)Z"⟩
abbrev cX2_isOver : ByteArray := prog_4_method_4_code
def yX2_isOver : MethodName := ⟨RX2, "isOver", "(III)Z"⟩
abbrev cX2_isUnder : ByteArray := prog_4_method_5_code
def yX2_isUnder : MethodName := ⟨RX2, "isUnder", "(III)Z"⟩
abbrev cX2_isGood : ByteArray := prog_4_method_6_code
def yX2_isGood : MethodName := ⟨RX2, "isGood", "(III)Z"⟩
abbrev cX2_madeOf : ByteArray := prog_4_method_7_code
def yX2_madeOf : MethodName := ⟨RX2, "madeOf", "(II)I"⟩
abbrev cX2_fill : ByteArray := prog_4_method_8_code
def yX2_fill : MethodName := ⟨RX2, "fill", "(I)I"⟩
abbrev cX2_isTable : ByteArray := prog_4_method_9_code
def yX2_isTable : MethodName := ⟨RX2, "isTable", "(I)Z"⟩
abbrev cX2_isCell : ByteArray := prog_4_method_10_code
def yX2_isCell : MethodName := ⟨RX2, "isCell", "(II)Z"⟩
abbrev cX2_cellAt : ByteArray := prog_4_method_11_code
def yX2_cellAt : MethodName := ⟨RX2, "cellAt", "(III)I"⟩
abbrev cX2_digit : ByteArray := prog_4_method_12_code
def yX2_digit : MethodName := ⟨RX2, "digit", "(III)I"⟩
abbrev cX2_set : ByteArray := prog_4_method_13_code
def yX2_set : MethodName := ⟨RX2, "set", "(IIII)I"⟩
abbrev cX2_make : ByteArray := prog_4_method_14_code
def yX2_make : MethodName := ⟨RX2, "make", "(I)I"⟩
abbrev cX2_copy : ByteArray := prog_4_method_15_code
def yX2_copy : MethodName := ⟨RX2, "copy", "(II)I"⟩
abbrev cX2_good : ByteArray := prog_4_method_16_code
def yX2_good : MethodName := ⟨RX2, "good", "(III)I"⟩
abbrev cX2_holds : ByteArray := prog_4_method_17_code
def yX2_holds : MethodName := ⟨RX2, "holds", "(II)I"⟩
abbrev cX2_isWrong : ByteArray := prog_4_method_18_code
def yX2_isWrong : MethodName := ⟨RX2, "isWrong", "(II)Z"⟩
abbrev cX2_check : ByteArray := prog_4_method_19_code
def yX2_check : MethodName := ⟨RX2, "check", "(I)I"⟩
abbrev cX2_wrong : ByteArray := prog_4_method_20_code
def yX2_wrong : MethodName := ⟨RX2, "wrong", "(II)I"⟩
abbrev cX2_sizeOf : ByteArray := prog_4_method_21_code
def yX2_sizeOf : MethodName := ⟨RX2, "sizeOf", "(I)J"⟩
abbrev cX2_doublings : ByteArray := prog_4_method_22_code
def yX2_doublings : MethodName := ⟨RX2, "doublings", "(J)I"⟩
abbrev cX2_nextDigit : ByteArray := prog_4_method_23_code
def yX2_nextDigit : MethodName := ⟨RX2, "nextDigit", "(IJ)V"⟩
abbrev cX2_work : ByteArray := prog_4_method_24_code
def yX2_work : MethodName := ⟨RX2, "work", "(II)V"⟩
abbrev cX2_use : ByteArray := prog_4_method_25_code
def yX2_use : MethodName := ⟨RX2, "use", "(I)I"⟩
abbrev cX2_divide : ByteArray := prog_4_method_26_code
def yX2_divide : MethodName := ⟨RX2, "divide", "(II)I"⟩
abbrev cX2_quotient : ByteArray := prog_4_method_27_code
def yX2_quotient : MethodName := ⟨RX2, "quotient", "()I"⟩
abbrev cX2_rest : ByteArray := prog_4_method_28_code
def yX2_rest : MethodName := ⟨RX2, "rest", "()I"⟩
abbrev cX2_left : ByteArray := prog_4_method_29_code
def yX2_left : MethodName := ⟨RX2, "left", "()I"⟩
abbrev cX2_step : ByteArray := prog_4_method_30_code
def yX2_step : MethodName := ⟨RX2, "step", "(II)I"⟩
abbrev cX2_state : ByteArray := prog_4_method_31_code
def yX2_state : MethodName := ⟨RX2, "state", "(II)J"⟩
abbrev cX2_told : ByteArray := prog_4_method_32_code
def yX2_told : MethodName := ⟨RX2, "told", "(I)I"⟩
abbrev cX2_keep : ByteArray := prog_4_method_33_code
def yX2_keep : MethodName := ⟨RX2, "keep", "()V"⟩
abbrev cX2_back : ByteArray := prog_4_method_34_code
def yX2_back : MethodName := ⟨RX2, "back", "()V"⟩
abbrev cX2_sweep : ByteArray := prog_4_method_35_code
def yX2_sweep : MethodName := ⟨RX2, "sweep", "(III)I"⟩
def RJ9 : String := "java/lang/Math"
def TJ9 : u_T := fun k => match k with
  | _ => ("", "", "", false)
def tyJ9 : Nat → FieldType := fun k => match k with
  | _ => .int
abbrev wsJ90 : List Cond := u_ws RJ9 TJ9 0
theorem nmJ9 : ∀ a, a < 0 → ∀ b, b < 0 → a ≠ b → (TJ9 a).2.1 ≠ (TJ9 b).2.1 := by decide +kernel
theorem tyJ9_ok : ∀ k, k < 0 → parseFieldDescriptor (TJ9 k).2.2.1 = some (tyJ9 k) := by decide +kernel
abbrev cJ9_abs_067f4 : ByteArray := prog_5_method_61_code
def yJ9_abs_067f4 : MethodName := ⟨RJ9, "abs", "(J)J"⟩
abbrev cJ9_max_7cf53 : ByteArray := prog_5_method_65_code
def yJ9_max_7cf53 : MethodName := ⟨RJ9, "max", "(II)I"⟩
abbrev cJ9_min_7cf53 : ByteArray := prog_5_method_69_code
def yJ9_min_7cf53 : MethodName := ⟨RJ9, "min", "(II)I"⟩
def RL : String := "DigitDividerLaw"
abbrev cL_law : ByteArray := code
def yL_law : MethodName := ⟨RL, "law", "([I)Z"⟩
def wsX0_init : List Cond := .code yX0_init cX0_init 1 none :: ([.methodLink RX0 3 objectInit, .instanceMethod objectInit, .code objectInit ⟨#[0xb1]⟩ 1 none, .arrayClass .int, .fieldLink RX0 11 "DigitDivider$Division" "digits" "[I", .fieldLink RX0 15 "DigitDivider$Division" "estimates" "[I", .arrayClass .long, .fieldLink RX0 18 "DigitDivider$Division" "sums" "[J", .fieldLink RX0 22 "DigitDivider$Division" "carries" "[J", .fieldLink RX0 25 "DigitDivider$Division" "qs" "[J", .fieldLink RX0 28 "DigitDivider$Division" "rs" "[J", .fieldLink RX0 31 "DigitDivider$Division" "row" "I", .fieldLink RX0 35 "DigitDivider$Division" "s" "I", .fieldLink RX0 38 "DigitDivider$Division" "t" "I", .fieldLink RX0 41 "DigitDivider$Division" "n" "I", .fieldLink RX0 44 "DigitDivider$Division" "digitsNotZero" "I", .fieldLink RX0 47 "DigitDivider$Division" "firstLeft" "I", .fieldLink RX0 50 "DigitDivider$Division" "quotient" "I", .fieldLink RX0 53 "DigitDivider$Division" "rest" "I"] ++ wsX00)
def wsX0_clear : List Cond := .code yX0_clear cX0_clear 1 none :: ([.fieldLink RX0 18 "DigitDivider$Division" "sums" "[J", .fieldLink RX0 22 "DigitDivider$Division" "carries" "[J", .fieldLink RX0 25 "DigitDivider$Division" "qs" "[J", .fieldLink RX0 28 "DigitDivider$Division" "rs" "[J", .constantLong RX0 77 (-1), .fieldLink RX0 31 "DigitDivider$Division" "row" "I", .fieldLink RX0 35 "DigitDivider$Division" "s" "I", .fieldLink RX0 38 "DigitDivider$Division" "t" "I", .fieldLink RX0 41 "DigitDivider$Division" "n" "I", .fieldLink RX0 44 "DigitDivider$Division" "digitsNotZero" "I", .fieldLink RX0 47 "DigitDivider$Division" "firstLeft" "I"] ++ wsX00)
def wsX0_doublings : List Cond := .code yX0_doublings cX0_doublings 3 (some .int) :: ([.constantLong RX0 89 (4294967296)])
def wsX0_begin : List Cond := .code yX0_begin cX0_begin 9 (some .long) :: ([.fieldLink RX0 35 "DigitDivider$Division" "s" "I", .fieldLink RX0 38 "DigitDivider$Division" "t" "I", .methodLink RX0 83 Lib.Math.min.name, .static Lib.Math.min.name, .initialized "java/lang/Math", .code Lib.Math.min.name Lib.Math.min.code 2 (some .int), .fieldLink RX0 41 "DigitDivider$Division" "n" "I", .fieldLink RX0 31 "DigitDivider$Division" "row" "I", .fieldLink RX0 18 "DigitDivider$Division" "sums" "[J", .constantLong RX0 87 (8), .methodLink RX0 79 yX0_doublings, .static yX0_doublings, .initialized RX0, .code yX0_doublings cX0_doublings 3 (some .int), .constantLong RX0 89 (4294967296)] ++ wsX00)
def wsX1_cellAt : List Cond := .code yX1_cellAt cX1_cellAt 2 (some .int) :: ([])
def wsX0_writeQuotient : List Cond := .code yX0_writeQuotient cX0_writeQuotient 7 none :: ([.fieldLink RX0 25 "DigitDivider$Division" "qs" "[J", .fieldLink RX0 28 "DigitDivider$Division" "rs" "[J", .constantLong RX0 105 (4), .constantLong RX0 101 (3)] ++ wsX00)
def wsX0_takeDigit_r1 : List Cond := [Cond.fieldLink RX0 18 "DigitDivider$Division" "sums" "[J", Cond.fieldLink RX0 22 "DigitDivider$Division" "carries" "[J", Cond.methodLink RX0 83 Lib.Math.min.name, Cond.static Lib.Math.min.name, Cond.initialized "java/lang/Math", Cond.code Lib.Math.min.name Lib.Math.min.code 2 (some .int), Cond.methodLink RX0 91 Lib.Math.max.name, Cond.static Lib.Math.max.name, Cond.code Lib.Math.max.name Lib.Math.max.code 2 (some .int), Cond.fieldLink RX0 31 "DigitDivider$Division" "row" "I", Cond.fieldLink RX0 15 "DigitDivider$Division" "estimates" "[I", Cond.fieldLink RX0 11 "DigitDivider$Division" "digits" "[I", Cond.fieldLink RX0 44 "DigitDivider$Division" "digitsNotZero" "I", Cond.fieldLink RX0 47 "DigitDivider$Division" "firstLeft" "I", Cond.constantLong RX0 101 (3), Cond.methodLink RX0 56 Lib.MathLoose.abs_long.x, Cond.static Lib.MathLoose.abs_long.x, Cond.code Lib.MathLoose.abs_long.x Lib.MathLoose.abs_long.code 2 (some .long), Cond.constantLong RX0 103 (16), Cond.static yX1_cellAt, Cond.initialized RX1, Cond.code yX1_cellAt cX1_cellAt 2 (some .int), Cond.methodLink RX0 97 yX0_writeQuotient, Cond.instanceMethod yX0_writeQuotient]
def wsX0_takeDigit_r2 : List Cond := [Cond.selects RX0 yX0_writeQuotient yX0_writeQuotient, Cond.initialized RX0, Cond.code yX0_writeQuotient cX0_writeQuotient 7 none, Cond.fieldLink RX0 25 "DigitDivider$Division" "qs" "[J", Cond.fieldLink RX0 28 "DigitDivider$Division" "rs" "[J", Cond.constantLong RX0 105 (4)]
def wsX0_takeDigit : List Cond := .code yX0_takeDigit cX0_takeDigit 14 none :: ((wsX0_takeDigit_r1 ++ wsX0_takeDigit_r2) ++ wsX00)
def wsX0_finish : List Cond := .code yX0_finish cX0_finish 11 none :: ([.fieldLink RX0 18 "DigitDivider$Division" "sums" "[J", .fieldLink RX0 41 "DigitDivider$Division" "n" "I", .fieldLink RX0 22 "DigitDivider$Division" "carries" "[J", .fieldLink RX0 28 "DigitDivider$Division" "rs" "[J", .fieldLink RX0 25 "DigitDivider$Division" "qs" "[J", .constantLong RX0 87 (8), .fieldLink RX0 38 "DigitDivider$Division" "t" "I", .fieldLink RX0 50 "DigitDivider$Division" "quotient" "I", .fieldLink RX0 53 "DigitDivider$Division" "rest" "I"] ++ wsX00)
def wsX0_run_r1 : List Cond := [Cond.methodLink RX0 56 Lib.MathLoose.abs_long.x, Cond.static Lib.MathLoose.abs_long.x, Cond.initialized "java/lang/Math", Cond.code Lib.MathLoose.abs_long.x Lib.MathLoose.abs_long.code 2 (some .long), Cond.fieldLink RX0 50 "DigitDivider$Division" "quotient" "I", Cond.fieldLink RX0 53 "DigitDivider$Division" "rest" "I", Cond.fieldLink RX0 41 "DigitDivider$Division" "n" "I", Cond.methodLink RX0 62 yX0_clear, Cond.instanceMethod yX0_clear, Cond.selects RX0 yX0_clear yX0_clear, Cond.initialized RX0, Cond.code yX0_clear cX0_clear 1 none, Cond.fieldLink RX0 18 "DigitDivider$Division" "sums" "[J", Cond.fieldLink RX0 22 "DigitDivider$Division" "carries" "[J", Cond.fieldLink RX0 25 "DigitDivider$Division" "qs" "[J", Cond.fieldLink RX0 28 "DigitDivider$Division" "rs" "[J", Cond.constantLong RX0 77 (-1), Cond.fieldLink RX0 31 "DigitDivider$Division" "row" "I", Cond.fieldLink RX0 35 "DigitDivider$Division" "s" "I", Cond.fieldLink RX0 38 "DigitDivider$Division" "t" "I", Cond.fieldLink RX0 44 "DigitDivider$Division" "digitsNotZero" "I", Cond.fieldLink RX0 47 "DigitDivider$Division" "firstLeft" "I", Cond.methodLink RX0 65 yX0_begin, Cond.instanceMethod yX0_begin]
def wsX0_run_r2 : List Cond := [Cond.selects RX0 yX0_begin yX0_begin, Cond.code yX0_begin cX0_begin 9 (some .long), Cond.methodLink RX0 83 Lib.Math.min.name, Cond.static Lib.Math.min.name, Cond.code Lib.Math.min.name Lib.Math.min.code 2 (some .int), Cond.constantLong RX0 87 (8), Cond.methodLink RX0 79 yX0_doublings, Cond.static yX0_doublings, Cond.code yX0_doublings cX0_doublings 3 (some .int), Cond.constantLong RX0 89 (4294967296), Cond.methodLink RX0 69 yX0_takeDigit, Cond.instanceMethod yX0_takeDigit, Cond.selects RX0 yX0_takeDigit yX0_takeDigit, Cond.code yX0_takeDigit cX0_takeDigit 14 none, Cond.methodLink RX0 91 Lib.Math.max.name, Cond.static Lib.Math.max.name, Cond.code Lib.Math.max.name Lib.Math.max.code 2 (some .int), Cond.fieldLink RX0 15 "DigitDivider$Division" "estimates" "[I", Cond.fieldLink RX0 11 "DigitDivider$Division" "digits" "[I", Cond.constantLong RX0 101 (3), Cond.constantLong RX0 103 (16), Cond.static yX1_cellAt, Cond.initialized RX1, Cond.code yX1_cellAt cX1_cellAt 2 (some .int)]
def wsX0_run_r3 : List Cond := [Cond.methodLink RX0 97 yX0_writeQuotient, Cond.instanceMethod yX0_writeQuotient, Cond.selects RX0 yX0_writeQuotient yX0_writeQuotient, Cond.code yX0_writeQuotient cX0_writeQuotient 7 none, Cond.constantLong RX0 105 (4), Cond.methodLink RX0 73 yX0_finish, Cond.instanceMethod yX0_finish, Cond.selects RX0 yX0_finish yX0_finish, Cond.code yX0_finish cX0_finish 11 none]
def wsX0_run : List Cond := .code yX0_run cX0_run 11 none :: ((wsX0_run_r1 ++ (wsX0_run_r2 ++ wsX0_run_r3)) ++ wsX00)
def wsX1_leastDivisor : List Cond := .code yX1_leastDivisor cX1_leastDivisor 3 (some .int) :: ([.methodLink RX1 118 Lib.Math.max.name, .static Lib.Math.max.name, .initialized "java/lang/Math", .code Lib.Math.max.name Lib.Math.max.code 2 (some .int)])
def wsX1_endOfDivisors : List Cond := .code yX1_endOfDivisors cX1_endOfDivisors 1 (some .int) :: ([])
def wsX1_holdsAny : List Cond := .code yX1_holdsAny cX1_holdsAny 2 (some .boolean) :: ([.methodLink RX1 123 yX1_leastDivisor, .static yX1_leastDivisor, .initialized RX1, .code yX1_leastDivisor cX1_leastDivisor 3 (some .int), .methodLink RX1 118 Lib.Math.max.name, .static Lib.Math.max.name, .initialized "java/lang/Math", .code Lib.Math.max.name Lib.Math.max.code 2 (some .int), .methodLink RX1 126 yX1_endOfDivisors, .static yX1_endOfDivisors, .code yX1_endOfDivisors cX1_endOfDivisors 1 (some .int)])
def wsX1_staysWithin : List Cond := .code yX1_staysWithin cX1_staysWithin 11 (some .boolean) :: ([.methodLink RX1 123 yX1_leastDivisor, .static yX1_leastDivisor, .initialized RX1, .code yX1_leastDivisor cX1_leastDivisor 3 (some .int), .methodLink RX1 118 Lib.Math.max.name, .static Lib.Math.max.name, .initialized "java/lang/Math", .code Lib.Math.max.name Lib.Math.max.code 2 (some .int), .methodLink RX1 126 yX1_endOfDivisors, .static yX1_endOfDivisors, .code yX1_endOfDivisors cX1_endOfDivisors 1 (some .int)])
def wsX1_findGoodDigits : List Cond := .code yX1_findGoodDigits cX1_findGoodDigits 4 (some .int) :: ([.methodLink RX1 61 yX1_holdsAny, .static yX1_holdsAny, .initialized RX1, .code yX1_holdsAny cX1_holdsAny 2 (some .boolean), .methodLink RX1 123 yX1_leastDivisor, .static yX1_leastDivisor, .code yX1_leastDivisor cX1_leastDivisor 3 (some .int), .methodLink RX1 118 Lib.Math.max.name, .static Lib.Math.max.name, .initialized "java/lang/Math", .code Lib.Math.max.name Lib.Math.max.code 2 (some .int), .methodLink RX1 126 yX1_endOfDivisors, .static yX1_endOfDivisors, .code yX1_endOfDivisors cX1_endOfDivisors 1 (some .int), .methodLink RX1 114 yX1_staysWithin, .static yX1_staysWithin, .code yX1_staysWithin cX1_staysWithin 11 (some .boolean)])
def wsX1_isGood : List Cond := .code yX1_isGood cX1_isGood 3 (some .boolean) :: ([.fieldLink RX1 14 "DigitDivider" "goodDigits" "[I"] ++ wsX10)
def wsX1_madeDigit : List Cond := .code yX1_madeDigit cX1_madeDigit 6 (some .int) :: ([.fieldLink RX1 111 "DigitDivider" "DIGITS_NEAREST_FIRST" "[I", .methodLink RX1 58 yX1_isGood, .instanceMethod yX1_isGood, .selects RX1 yX1_isGood yX1_isGood, .initialized RX1, .code yX1_isGood cX1_isGood 3 (some .boolean), .fieldLink RX1 14 "DigitDivider" "goodDigits" "[I"] ++ wsX10)
def wsX1_init_r1 : List Cond := [Cond.methodLink RX1 3 objectInit, Cond.instanceMethod objectInit, Cond.code objectInit ⟨#[0xb1]⟩ 1 none, Cond.classLink RX1 9 "[[I", Cond.arrayClass .int, Cond.fieldLink RX1 11 "DigitDivider" "tables" "[[I", Cond.fieldLink RX1 14 "DigitDivider" "goodDigits" "[I", Cond.classLink RX1 18 RX0, Cond.instantiable RX0 14, Cond.initialized RX0, Cond.fieldLink RX1 21 "DigitDivider" "latest" "LDigitDivider$Division;", Cond.fieldLink RX1 25 "DigitDivider" "swept" "LDigitDivider$Division;", Cond.fieldLink RX1 28 "DigitDivider" "inUse" "I", Cond.instanceMethod yX0_init, Cond.code yX0_init cX0_init 1 none, Cond.methodLink RX0 3 objectInit, Cond.fieldLink RX0 11 "DigitDivider$Division" "digits" "[I", Cond.fieldLink RX0 15 "DigitDivider$Division" "estimates" "[I", Cond.arrayClass .long, Cond.fieldLink RX0 18 "DigitDivider$Division" "sums" "[J", Cond.fieldLink RX0 22 "DigitDivider$Division" "carries" "[J", Cond.fieldLink RX0 25 "DigitDivider$Division" "qs" "[J", Cond.fieldLink RX0 28 "DigitDivider$Division" "rs" "[J", Cond.fieldLink RX0 31 "DigitDivider$Division" "row" "I"]
def wsX1_init_r2 : List Cond := [Cond.fieldLink RX0 35 "DigitDivider$Division" "s" "I", Cond.fieldLink RX0 38 "DigitDivider$Division" "t" "I", Cond.fieldLink RX0 41 "DigitDivider$Division" "n" "I", Cond.fieldLink RX0 44 "DigitDivider$Division" "digitsNotZero" "I", Cond.fieldLink RX0 47 "DigitDivider$Division" "firstLeft" "I", Cond.fieldLink RX0 50 "DigitDivider$Division" "quotient" "I", Cond.fieldLink RX0 53 "DigitDivider$Division" "rest" "I", Cond.methodLink RX1 32 yX1_findGoodDigits, Cond.static yX1_findGoodDigits, Cond.initialized RX1, Cond.code yX1_findGoodDigits cX1_findGoodDigits 4 (some .int), Cond.methodLink RX1 61 yX1_holdsAny, Cond.static yX1_holdsAny, Cond.code yX1_holdsAny cX1_holdsAny 2 (some .boolean), Cond.methodLink RX1 123 yX1_leastDivisor, Cond.static yX1_leastDivisor, Cond.code yX1_leastDivisor cX1_leastDivisor 3 (some .int), Cond.methodLink RX1 118 Lib.Math.max.name, Cond.static Lib.Math.max.name, Cond.initialized "java/lang/Math", Cond.code Lib.Math.max.name Lib.Math.max.code 2 (some .int), Cond.methodLink RX1 126 yX1_endOfDivisors, Cond.static yX1_endOfDivisors, Cond.code yX1_endOfDivisors cX1_endOfDivisors 1 (some .int)]
def wsX1_init_r3 : List Cond := [Cond.methodLink RX1 114 yX1_staysWithin, Cond.static yX1_staysWithin, Cond.code yX1_staysWithin cX1_staysWithin 11 (some .boolean), Cond.methodLink RX1 36 yX1_madeDigit, Cond.instanceMethod yX1_madeDigit, Cond.selects RX1 yX1_madeDigit yX1_madeDigit, Cond.code yX1_madeDigit cX1_madeDigit 6 (some .int), Cond.fieldLink RX1 111 "DigitDivider" "DIGITS_NEAREST_FIRST" "[I", Cond.methodLink RX1 58 yX1_isGood, Cond.instanceMethod yX1_isGood, Cond.selects RX1 yX1_isGood yX1_isGood, Cond.code yX1_isGood cX1_isGood 3 (some .boolean)]
def wsX1_init : List Cond := .code yX1_init cX1_init 4 none :: ((wsX1_init_r1 ++ (wsX1_init_r2 ++ wsX1_init_r3)) ++ wsX10 ++ wsX00)
def wsX1_isTable : List Cond := .code yX1_isTable cX1_isTable 1 (some .boolean) :: ([])
def wsX1_isCell : List Cond := .code yX1_isCell cX1_isCell 2 (some .boolean) :: ([])
def wsX1_digit : List Cond := .code yX1_digit cX1_digit 4 (some .int) :: ([.fieldLink RX1 11 "DigitDivider" "tables" "[[I", .methodLink RX1 40 yX1_isTable, .static yX1_isTable, .initialized RX1, .code yX1_isTable cX1_isTable 1 (some .boolean), .methodLink RX1 44 yX1_isCell, .static yX1_isCell, .code yX1_isCell cX1_isCell 2 (some .boolean), .methodLink RX1 48 yX1_cellAt, .static yX1_cellAt, .code yX1_cellAt cX1_cellAt 2 (some .int)] ++ wsX10)
def wsX1_isDigit : List Cond := .code yX1_isDigit cX1_isDigit 1 (some .boolean) :: ([])
def wsX1_set : List Cond := .code yX1_set cX1_set 7 (some .int) :: ([.fieldLink RX1 11 "DigitDivider" "tables" "[[I", .methodLink RX1 40 yX1_isTable, .static yX1_isTable, .initialized RX1, .code yX1_isTable cX1_isTable 1 (some .boolean), .methodLink RX1 44 yX1_isCell, .static yX1_isCell, .code yX1_isCell cX1_isCell 2 (some .boolean), .methodLink RX1 51 yX1_isDigit, .static yX1_isDigit, .code yX1_isDigit cX1_isDigit 1 (some .boolean), .methodLink RX1 48 yX1_cellAt, .static yX1_cellAt, .code yX1_cellAt cX1_cellAt 2 (some .int)] ++ wsX10)
def wsX1_replace : List Cond := .code yX1_replace cX1_replace 4 (some .int) :: ([.fieldLink RX1 11 "DigitDivider" "tables" "[[I"] ++ wsX10)
def wsX1_make : List Cond := .code yX1_make cX1_make 4 (some .int) :: ([.methodLink RX1 40 yX1_isTable, .static yX1_isTable, .initialized RX1, .code yX1_isTable cX1_isTable 1 (some .boolean), .methodLink RX1 36 yX1_madeDigit, .instanceMethod yX1_madeDigit, .selects RX1 yX1_madeDigit yX1_madeDigit, .code yX1_madeDigit cX1_madeDigit 6 (some .int), .fieldLink RX1 111 "DigitDivider" "DIGITS_NEAREST_FIRST" "[I", .methodLink RX1 58 yX1_isGood, .instanceMethod yX1_isGood, .selects RX1 yX1_isGood yX1_isGood, .code yX1_isGood cX1_isGood 3 (some .boolean), .fieldLink RX1 14 "DigitDivider" "goodDigits" "[I", .methodLink RX1 54 yX1_replace, .instanceMethod yX1_replace, .selects RX1 yX1_replace yX1_replace, .code yX1_replace cX1_replace 4 (some .int), .fieldLink RX1 11 "DigitDivider" "tables" "[[I"] ++ wsX10)
def wsX1_copy : List Cond := .code yX1_copy cX1_copy 5 (some .int) :: ([.fieldLink RX1 11 "DigitDivider" "tables" "[[I", .methodLink RX1 40 yX1_isTable, .static yX1_isTable, .initialized RX1, .code yX1_isTable cX1_isTable 1 (some .boolean), .methodLink RX1 54 yX1_replace, .instanceMethod yX1_replace, .selects RX1 yX1_replace yX1_replace, .code yX1_replace cX1_replace 4 (some .int)] ++ wsX10)
def wsX1_good : List Cond := .code yX1_good cX1_good 4 (some .int) :: ([.methodLink RX1 44 yX1_isCell, .static yX1_isCell, .initialized RX1, .code yX1_isCell cX1_isCell 2 (some .boolean), .methodLink RX1 51 yX1_isDigit, .static yX1_isDigit, .code yX1_isDigit cX1_isDigit 1 (some .boolean), .methodLink RX1 48 yX1_cellAt, .static yX1_cellAt, .code yX1_cellAt cX1_cellAt 2 (some .int), .methodLink RX1 58 yX1_isGood, .instanceMethod yX1_isGood, .selects RX1 yX1_isGood yX1_isGood, .code yX1_isGood cX1_isGood 3 (some .boolean), .fieldLink RX1 14 "DigitDivider" "goodDigits" "[I"] ++ wsX10)
def wsX1_holds : List Cond := .code yX1_holds cX1_holds 3 (some .int) :: ([.methodLink RX1 44 yX1_isCell, .static yX1_isCell, .initialized RX1, .code yX1_isCell cX1_isCell 2 (some .boolean), .methodLink RX1 61 yX1_holdsAny, .static yX1_holdsAny, .code yX1_holdsAny cX1_holdsAny 2 (some .boolean), .methodLink RX1 123 yX1_leastDivisor, .static yX1_leastDivisor, .code yX1_leastDivisor cX1_leastDivisor 3 (some .int), .methodLink RX1 118 Lib.Math.max.name, .static Lib.Math.max.name, .initialized "java/lang/Math", .code Lib.Math.max.name Lib.Math.max.code 2 (some .int), .methodLink RX1 126 yX1_endOfDivisors, .static yX1_endOfDivisors, .code yX1_endOfDivisors cX1_endOfDivisors 1 (some .int)])
def wsX1_check : List Cond := .code yX1_check cX1_check 4 (some .int) :: ([.fieldLink RX1 11 "DigitDivider" "tables" "[[I", .methodLink RX1 40 yX1_isTable, .static yX1_isTable, .initialized RX1, .code yX1_isTable cX1_isTable 1 (some .boolean), .methodLink RX1 58 yX1_isGood, .instanceMethod yX1_isGood, .selects RX1 yX1_isGood yX1_isGood, .code yX1_isGood cX1_isGood 3 (some .boolean), .fieldLink RX1 14 "DigitDivider" "goodDigits" "[I"] ++ wsX10)
def wsX1_wrong : List Cond := .code yX1_wrong cX1_wrong 5 (some .int) :: ([.fieldLink RX1 11 "DigitDivider" "tables" "[[I", .methodLink RX1 40 yX1_isTable, .static yX1_isTable, .initialized RX1, .code yX1_isTable cX1_isTable 1 (some .boolean), .methodLink RX1 58 yX1_isGood, .instanceMethod yX1_isGood, .selects RX1 yX1_isGood yX1_isGood, .code yX1_isGood cX1_isGood 3 (some .boolean), .fieldLink RX1 14 "DigitDivider" "goodDigits" "[I"] ++ wsX10)
def wsX1_use : List Cond := .code yX1_use cX1_use 3 (some .int) :: ([.fieldLink RX1 28 "DigitDivider" "inUse" "I", .methodLink RX1 40 yX1_isTable, .static yX1_isTable, .initialized RX1, .code yX1_isTable cX1_isTable 1 (some .boolean)] ++ wsX10)
def wsX1_divide_r1 : List Cond := [Cond.fieldLink RX1 21 "DigitDivider" "latest" "LDigitDivider$Division;", Cond.fieldLink RX1 11 "DigitDivider" "tables" "[[I", Cond.fieldLink RX1 28 "DigitDivider" "inUse" "I", Cond.instanceMethod yX0_run, Cond.initialized RX0, Cond.selects RX0 yX0_run yX0_run, Cond.code yX0_run cX0_run 11 none, Cond.methodLink RX0 56 Lib.MathLoose.abs_long.x, Cond.static Lib.MathLoose.abs_long.x, Cond.initialized "java/lang/Math", Cond.code Lib.MathLoose.abs_long.x Lib.MathLoose.abs_long.code 2 (some .long), Cond.fieldLink RX0 50 "DigitDivider$Division" "quotient" "I", Cond.fieldLink RX0 53 "DigitDivider$Division" "rest" "I", Cond.fieldLink RX0 41 "DigitDivider$Division" "n" "I", Cond.methodLink RX0 62 yX0_clear, Cond.instanceMethod yX0_clear, Cond.selects RX0 yX0_clear yX0_clear, Cond.code yX0_clear cX0_clear 1 none, Cond.fieldLink RX0 18 "DigitDivider$Division" "sums" "[J", Cond.fieldLink RX0 22 "DigitDivider$Division" "carries" "[J", Cond.fieldLink RX0 25 "DigitDivider$Division" "qs" "[J", Cond.fieldLink RX0 28 "DigitDivider$Division" "rs" "[J", Cond.constantLong RX0 77 (-1), Cond.fieldLink RX0 31 "DigitDivider$Division" "row" "I"]
def wsX1_divide_r2 : List Cond := [Cond.fieldLink RX0 35 "DigitDivider$Division" "s" "I", Cond.fieldLink RX0 38 "DigitDivider$Division" "t" "I", Cond.fieldLink RX0 44 "DigitDivider$Division" "digitsNotZero" "I", Cond.fieldLink RX0 47 "DigitDivider$Division" "firstLeft" "I", Cond.methodLink RX0 65 yX0_begin, Cond.instanceMethod yX0_begin, Cond.selects RX0 yX0_begin yX0_begin, Cond.code yX0_begin cX0_begin 9 (some .long), Cond.methodLink RX0 83 Lib.Math.min.name, Cond.static Lib.Math.min.name, Cond.code Lib.Math.min.name Lib.Math.min.code 2 (some .int), Cond.constantLong RX0 87 (8), Cond.methodLink RX0 79 yX0_doublings, Cond.static yX0_doublings, Cond.code yX0_doublings cX0_doublings 3 (some .int), Cond.constantLong RX0 89 (4294967296), Cond.methodLink RX0 69 yX0_takeDigit, Cond.instanceMethod yX0_takeDigit, Cond.selects RX0 yX0_takeDigit yX0_takeDigit, Cond.code yX0_takeDigit cX0_takeDigit 14 none, Cond.methodLink RX0 91 Lib.Math.max.name, Cond.static Lib.Math.max.name, Cond.code Lib.Math.max.name Lib.Math.max.code 2 (some .int), Cond.fieldLink RX0 15 "DigitDivider$Division" "estimates" "[I"]
def wsX1_divide_r3 : List Cond := [Cond.fieldLink RX0 11 "DigitDivider$Division" "digits" "[I", Cond.constantLong RX0 101 (3), Cond.constantLong RX0 103 (16), Cond.static yX1_cellAt, Cond.initialized RX1, Cond.code yX1_cellAt cX1_cellAt 2 (some .int), Cond.methodLink RX0 97 yX0_writeQuotient, Cond.instanceMethod yX0_writeQuotient, Cond.selects RX0 yX0_writeQuotient yX0_writeQuotient, Cond.code yX0_writeQuotient cX0_writeQuotient 7 none, Cond.constantLong RX0 105 (4), Cond.methodLink RX0 73 yX0_finish, Cond.instanceMethod yX0_finish, Cond.selects RX0 yX0_finish yX0_finish, Cond.code yX0_finish cX0_finish 11 none]
def wsX1_divide : List Cond := .code yX1_divide cX1_divide 3 (some .int) :: ((wsX1_divide_r1 ++ (wsX1_divide_r2 ++ wsX1_divide_r3)) ++ wsX10 ++ wsX00)
def wsX1_quotient : List Cond := .code yX1_quotient cX1_quotient 1 (some .int) :: ([.fieldLink RX1 21 "DigitDivider" "latest" "LDigitDivider$Division;"] ++ wsX10 ++ wsX00)
def wsX1_rest : List Cond := .code yX1_rest cX1_rest 1 (some .int) :: ([.fieldLink RX1 21 "DigitDivider" "latest" "LDigitDivider$Division;"] ++ wsX10 ++ wsX00)
def wsX1_left : List Cond := .code yX1_left cX1_left 1 (some .int) :: ([.fieldLink RX1 21 "DigitDivider" "latest" "LDigitDivider$Division;"] ++ wsX10 ++ wsX00)
def wsX1_step : List Cond := .code yX1_step cX1_step 3 (some .int) :: ([.fieldLink RX1 21 "DigitDivider" "latest" "LDigitDivider$Division;"] ++ wsX10 ++ wsX00)
def wsX1_state : List Cond := .code yX1_state cX1_state 3 (some .long) :: ([.fieldLink RX1 21 "DigitDivider" "latest" "LDigitDivider$Division;"] ++ wsX10 ++ wsX00)
def wsX1_told : List Cond := .code yX1_told cX1_told 2 (some .int) :: ([.fieldLink RX1 21 "DigitDivider" "latest" "LDigitDivider$Division;"] ++ wsX10 ++ wsX00)
def wsX1_sweep_r1 : List Cond := [Cond.fieldLink RX1 25 "DigitDivider" "swept" "LDigitDivider$Division;", Cond.fieldLink RX1 11 "DigitDivider" "tables" "[[I", Cond.fieldLink RX1 28 "DigitDivider" "inUse" "I", Cond.instanceMethod yX0_run, Cond.initialized RX0, Cond.selects RX0 yX0_run yX0_run, Cond.code yX0_run cX0_run 11 none, Cond.methodLink RX0 56 Lib.MathLoose.abs_long.x, Cond.static Lib.MathLoose.abs_long.x, Cond.initialized "java/lang/Math", Cond.code Lib.MathLoose.abs_long.x Lib.MathLoose.abs_long.code 2 (some .long), Cond.fieldLink RX0 50 "DigitDivider$Division" "quotient" "I", Cond.fieldLink RX0 53 "DigitDivider$Division" "rest" "I", Cond.fieldLink RX0 41 "DigitDivider$Division" "n" "I", Cond.methodLink RX0 62 yX0_clear, Cond.instanceMethod yX0_clear, Cond.selects RX0 yX0_clear yX0_clear, Cond.code yX0_clear cX0_clear 1 none, Cond.fieldLink RX0 18 "DigitDivider$Division" "sums" "[J", Cond.fieldLink RX0 22 "DigitDivider$Division" "carries" "[J", Cond.fieldLink RX0 25 "DigitDivider$Division" "qs" "[J", Cond.fieldLink RX0 28 "DigitDivider$Division" "rs" "[J", Cond.constantLong RX0 77 (-1), Cond.fieldLink RX0 31 "DigitDivider$Division" "row" "I"]
def wsX1_sweep_r2 : List Cond := [Cond.fieldLink RX0 35 "DigitDivider$Division" "s" "I", Cond.fieldLink RX0 38 "DigitDivider$Division" "t" "I", Cond.fieldLink RX0 44 "DigitDivider$Division" "digitsNotZero" "I", Cond.fieldLink RX0 47 "DigitDivider$Division" "firstLeft" "I", Cond.methodLink RX0 65 yX0_begin, Cond.instanceMethod yX0_begin, Cond.selects RX0 yX0_begin yX0_begin, Cond.code yX0_begin cX0_begin 9 (some .long), Cond.methodLink RX0 83 Lib.Math.min.name, Cond.static Lib.Math.min.name, Cond.code Lib.Math.min.name Lib.Math.min.code 2 (some .int), Cond.constantLong RX0 87 (8), Cond.methodLink RX0 79 yX0_doublings, Cond.static yX0_doublings, Cond.code yX0_doublings cX0_doublings 3 (some .int), Cond.constantLong RX0 89 (4294967296), Cond.methodLink RX0 69 yX0_takeDigit, Cond.instanceMethod yX0_takeDigit, Cond.selects RX0 yX0_takeDigit yX0_takeDigit, Cond.code yX0_takeDigit cX0_takeDigit 14 none, Cond.methodLink RX0 91 Lib.Math.max.name, Cond.static Lib.Math.max.name, Cond.code Lib.Math.max.name Lib.Math.max.code 2 (some .int), Cond.fieldLink RX0 15 "DigitDivider$Division" "estimates" "[I"]
def wsX1_sweep_r3 : List Cond := [Cond.fieldLink RX0 11 "DigitDivider$Division" "digits" "[I", Cond.constantLong RX0 101 (3), Cond.constantLong RX0 103 (16), Cond.static yX1_cellAt, Cond.initialized RX1, Cond.code yX1_cellAt cX1_cellAt 2 (some .int), Cond.methodLink RX0 97 yX0_writeQuotient, Cond.instanceMethod yX0_writeQuotient, Cond.selects RX0 yX0_writeQuotient yX0_writeQuotient, Cond.code yX0_writeQuotient cX0_writeQuotient 7 none, Cond.constantLong RX0 105 (4), Cond.methodLink RX0 73 yX0_finish, Cond.instanceMethod yX0_finish, Cond.selects RX0 yX0_finish yX0_finish, Cond.code yX0_finish cX0_finish 11 none]
def wsX1_sweep : List Cond := .code yX1_sweep cX1_sweep 7 (some .int) :: ((wsX1_sweep_r1 ++ (wsX1_sweep_r2 ++ wsX1_sweep_r3)) ++ wsX10 ++ wsX00)
def wsX2_isOver : List Cond := .code yX2_isOver cX2_isOver 6 (some .boolean) :: ([])
def wsX2_isUnder : List Cond := .code yX2_isUnder cX2_isUnder 6 (some .boolean) :: ([])
def wsX2_isGood : List Cond := .code yX2_isGood cX2_isGood 3 (some .boolean) :: ([.methodLink RX2 42 yX2_isOver, .static yX2_isOver, .initialized RX2, .code yX2_isOver cX2_isOver 6 (some .boolean), .methodLink RX2 46 yX2_isUnder, .static yX2_isUnder, .code yX2_isUnder cX2_isUnder 6 (some .boolean)])
def wsX2_madeOf : List Cond := .code yX2_madeOf cX2_madeOf 3 (some .int) :: ([.methodLink RX2 49 yX2_isGood, .static yX2_isGood, .initialized RX2, .code yX2_isGood cX2_isGood 3 (some .boolean), .methodLink RX2 42 yX2_isOver, .static yX2_isOver, .code yX2_isOver cX2_isOver 6 (some .boolean), .methodLink RX2 46 yX2_isUnder, .static yX2_isUnder, .code yX2_isUnder cX2_isUnder 6 (some .boolean)])
def wsX2_fill : List Cond := .code yX2_fill cX2_fill 7 (some .int) :: ([.fieldLink RX2 7 "DigitDividerModel" "tables" "[I", .methodLink RX2 52 yX2_madeOf, .static yX2_madeOf, .initialized RX2, .code yX2_madeOf cX2_madeOf 3 (some .int), .methodLink RX2 49 yX2_isGood, .static yX2_isGood, .code yX2_isGood cX2_isGood 3 (some .boolean), .methodLink RX2 42 yX2_isOver, .static yX2_isOver, .code yX2_isOver cX2_isOver 6 (some .boolean), .methodLink RX2 46 yX2_isUnder, .static yX2_isUnder, .code yX2_isUnder cX2_isUnder 6 (some .boolean)] ++ wsX20)
def wsX2_init_r1 : List Cond := [Cond.methodLink RX2 1 objectInit, Cond.instanceMethod objectInit, Cond.code objectInit ⟨#[0xb1]⟩ 1 none, Cond.arrayClass .int, Cond.fieldLink RX2 7 "DigitDividerModel" "tables" "[I", Cond.fieldLink RX2 13 "DigitDividerModel" "digits" "[I", Cond.fieldLink RX2 16 "DigitDividerModel" "columns" "[I", Cond.arrayClass .long, Cond.fieldLink RX2 19 "DigitDividerModel" "sums" "[J", Cond.fieldLink RX2 23 "DigitDividerModel" "carries" "[J", Cond.fieldLink RX2 26 "DigitDividerModel" "highs" "[J", Cond.fieldLink RX2 29 "DigitDividerModel" "lows" "[J", Cond.fieldLink RX2 32 "DigitDividerModel" "keptInts" "[I", Cond.fieldLink RX2 35 "DigitDividerModel" "keptLongs" "[J", Cond.methodLink RX2 38 yX2_fill, Cond.instanceMethod yX2_fill, Cond.selects RX2 yX2_fill yX2_fill, Cond.initialized RX2, Cond.code yX2_fill cX2_fill 7 (some .int), Cond.methodLink RX2 52 yX2_madeOf, Cond.static yX2_madeOf, Cond.code yX2_madeOf cX2_madeOf 3 (some .int), Cond.methodLink RX2 49 yX2_isGood, Cond.static yX2_isGood]
def wsX2_init_r2 : List Cond := [Cond.code yX2_isGood cX2_isGood 3 (some .boolean), Cond.methodLink RX2 42 yX2_isOver, Cond.static yX2_isOver, Cond.code yX2_isOver cX2_isOver 6 (some .boolean), Cond.methodLink RX2 46 yX2_isUnder, Cond.static yX2_isUnder, Cond.code yX2_isUnder cX2_isUnder 6 (some .boolean)]
def wsX2_init : List Cond := .code yX2_init cX2_init 3 none :: ((wsX2_init_r1 ++ wsX2_init_r2) ++ wsX20)
def wsX2_in : List Cond := .code yX2_in cX2_in 3 (some .boolean) :: ([])
def wsX2_isHeld : List Cond := .code yX2_isHeld cX2_isHeld 3 (some .boolean) :: ([])
def wsX2_isTable : List Cond := .code yX2_isTable cX2_isTable 1 (some .boolean) :: ([.methodLink RX2 56 yX2_in, .static yX2_in, .initialized RX2, .code yX2_in cX2_in 3 (some .boolean)])
def wsX2_isCell : List Cond := .code yX2_isCell cX2_isCell 2 (some .boolean) :: ([.methodLink RX2 56 yX2_in, .static yX2_in, .initialized RX2, .code yX2_in cX2_in 3 (some .boolean)])
def wsX2_cellAt : List Cond := .code yX2_cellAt cX2_cellAt 3 (some .int) :: ([])
def wsX2_digit : List Cond := .code yX2_digit cX2_digit 4 (some .int) :: ([.fieldLink RX2 7 "DigitDividerModel" "tables" "[I", .methodLink RX2 59 yX2_isTable, .static yX2_isTable, .initialized RX2, .code yX2_isTable cX2_isTable 1 (some .boolean), .methodLink RX2 56 yX2_in, .static yX2_in, .code yX2_in cX2_in 3 (some .boolean), .methodLink RX2 63 yX2_isCell, .static yX2_isCell, .code yX2_isCell cX2_isCell 2 (some .boolean), .methodLink RX2 67 yX2_cellAt, .static yX2_cellAt, .code yX2_cellAt cX2_cellAt 3 (some .int)] ++ wsX20)
def wsX2_set : List Cond := .code yX2_set cX2_set 7 (some .int) :: ([.fieldLink RX2 7 "DigitDividerModel" "tables" "[I", .methodLink RX2 59 yX2_isTable, .static yX2_isTable, .initialized RX2, .code yX2_isTable cX2_isTable 1 (some .boolean), .methodLink RX2 56 yX2_in, .static yX2_in, .code yX2_in cX2_in 3 (some .boolean), .methodLink RX2 63 yX2_isCell, .static yX2_isCell, .code yX2_isCell cX2_isCell 2 (some .boolean), .methodLink RX2 67 yX2_cellAt, .static yX2_cellAt, .code yX2_cellAt cX2_cellAt 3 (some .int)] ++ wsX20)
def wsX2_make : List Cond := .code yX2_make cX2_make 2 (some .int) :: ([.methodLink RX2 59 yX2_isTable, .static yX2_isTable, .initialized RX2, .code yX2_isTable cX2_isTable 1 (some .boolean), .methodLink RX2 56 yX2_in, .static yX2_in, .code yX2_in cX2_in 3 (some .boolean), .methodLink RX2 38 yX2_fill, .instanceMethod yX2_fill, .selects RX2 yX2_fill yX2_fill, .code yX2_fill cX2_fill 7 (some .int), .fieldLink RX2 7 "DigitDividerModel" "tables" "[I", .methodLink RX2 52 yX2_madeOf, .static yX2_madeOf, .code yX2_madeOf cX2_madeOf 3 (some .int), .methodLink RX2 49 yX2_isGood, .static yX2_isGood, .code yX2_isGood cX2_isGood 3 (some .boolean), .methodLink RX2 42 yX2_isOver, .static yX2_isOver, .code yX2_isOver cX2_isOver 6 (some .boolean), .methodLink RX2 46 yX2_isUnder, .static yX2_isUnder, .code yX2_isUnder cX2_isUnder 6 (some .boolean)] ++ wsX20)
def wsX2_copy : List Cond := .code yX2_copy cX2_copy 5 (some .int) :: ([.fieldLink RX2 7 "DigitDividerModel" "tables" "[I", .methodLink RX2 59 yX2_isTable, .static yX2_isTable, .initialized RX2, .code yX2_isTable cX2_isTable 1 (some .boolean), .methodLink RX2 56 yX2_in, .static yX2_in, .code yX2_in cX2_in 3 (some .boolean)] ++ wsX20)
def wsX2_good : List Cond := .code yX2_good cX2_good 4 (some .int) :: ([.methodLink RX2 63 yX2_isCell, .static yX2_isCell, .initialized RX2, .code yX2_isCell cX2_isCell 2 (some .boolean), .methodLink RX2 56 yX2_in, .static yX2_in, .code yX2_in cX2_in 3 (some .boolean), .methodLink RX2 49 yX2_isGood, .static yX2_isGood, .code yX2_isGood cX2_isGood 3 (some .boolean), .methodLink RX2 42 yX2_isOver, .static yX2_isOver, .code yX2_isOver cX2_isOver 6 (some .boolean), .methodLink RX2 46 yX2_isUnder, .static yX2_isUnder, .code yX2_isUnder cX2_isUnder 6 (some .boolean)])
def wsX2_holds : List Cond := .code yX2_holds cX2_holds 3 (some .int) :: ([.methodLink RX2 63 yX2_isCell, .static yX2_isCell, .initialized RX2, .code yX2_isCell cX2_isCell 2 (some .boolean), .methodLink RX2 56 yX2_in, .static yX2_in, .code yX2_in cX2_in 3 (some .boolean), .methodLink RX2 71 yX2_isHeld, .static yX2_isHeld, .code yX2_isHeld cX2_isHeld 3 (some .boolean)])
def wsX2_isWrong : List Cond := .code yX2_isWrong cX2_isWrong 3 (some .boolean) :: ([.fieldLink RX2 7 "DigitDividerModel" "tables" "[I", .methodLink RX2 49 yX2_isGood, .static yX2_isGood, .initialized RX2, .code yX2_isGood cX2_isGood 3 (some .boolean), .methodLink RX2 42 yX2_isOver, .static yX2_isOver, .code yX2_isOver cX2_isOver 6 (some .boolean), .methodLink RX2 46 yX2_isUnder, .static yX2_isUnder, .code yX2_isUnder cX2_isUnder 6 (some .boolean)] ++ wsX20)
def wsX2_check : List Cond := .code yX2_check cX2_check 4 (some .int) :: ([.methodLink RX2 59 yX2_isTable, .static yX2_isTable, .initialized RX2, .code yX2_isTable cX2_isTable 1 (some .boolean), .methodLink RX2 56 yX2_in, .static yX2_in, .code yX2_in cX2_in 3 (some .boolean), .methodLink RX2 74 yX2_isWrong, .instanceMethod yX2_isWrong, .selects RX2 yX2_isWrong yX2_isWrong, .code yX2_isWrong cX2_isWrong 3 (some .boolean), .fieldLink RX2 7 "DigitDividerModel" "tables" "[I", .methodLink RX2 49 yX2_isGood, .static yX2_isGood, .code yX2_isGood cX2_isGood 3 (some .boolean), .methodLink RX2 42 yX2_isOver, .static yX2_isOver, .code yX2_isOver cX2_isOver 6 (some .boolean), .methodLink RX2 46 yX2_isUnder, .static yX2_isUnder, .code yX2_isUnder cX2_isUnder 6 (some .boolean)] ++ wsX20)
def wsX2_wrong : List Cond := .code yX2_wrong cX2_wrong 5 (some .int) :: ([.methodLink RX2 59 yX2_isTable, .static yX2_isTable, .initialized RX2, .code yX2_isTable cX2_isTable 1 (some .boolean), .methodLink RX2 56 yX2_in, .static yX2_in, .code yX2_in cX2_in 3 (some .boolean), .methodLink RX2 74 yX2_isWrong, .instanceMethod yX2_isWrong, .selects RX2 yX2_isWrong yX2_isWrong, .code yX2_isWrong cX2_isWrong 3 (some .boolean), .fieldLink RX2 7 "DigitDividerModel" "tables" "[I", .methodLink RX2 49 yX2_isGood, .static yX2_isGood, .code yX2_isGood cX2_isGood 3 (some .boolean), .methodLink RX2 42 yX2_isOver, .static yX2_isOver, .code yX2_isOver cX2_isOver 6 (some .boolean), .methodLink RX2 46 yX2_isUnder, .static yX2_isUnder, .code yX2_isUnder cX2_isUnder 6 (some .boolean)] ++ wsX20)
def wsX2_sizeOf : List Cond := .code yX2_sizeOf cX2_sizeOf 1 (some .long) :: ([])
def wsX2_doublings : List Cond := .code yX2_doublings cX2_doublings 5 (some .int) :: ([.constantLong RX2 77 (2147483648), .constantLong RX2 79 (2)])
def wsX2_nextDigit : List Cond := .code yX2_nextDigit cX2_nextDigit 21 none :: ([.constantLong RX2 81 (4), .fieldLink RX2 19 "DigitDividerModel" "sums" "[J", .fieldLink RX2 23 "DigitDividerModel" "carries" "[J", .fieldLink RX2 7 "DigitDividerModel" "tables" "[I", .fieldLink RX2 83 "DigitDividerModel" "used" "I", .fieldLink RX2 87 "DigitDividerModel" "row" "I", .constantLong RX2 90 (-8), .constantLong RX2 79 (2), .fieldLink RX2 26 "DigitDividerModel" "highs" "[J", .fieldLink RX2 29 "DigitDividerModel" "lows" "[J", .constantLong RX2 92 (3), .fieldLink RX2 13 "DigitDividerModel" "digits" "[I", .fieldLink RX2 16 "DigitDividerModel" "columns" "[I", .constantLong RX2 94 (16), .fieldLink RX2 96 "DigitDividerModel" "left" "I", .methodLink RX2 67 yX2_cellAt, .static yX2_cellAt, .initialized RX2, .code yX2_cellAt cX2_cellAt 3 (some .int)] ++ wsX20)
def wsX2_work_r1 : List Cond := [Cond.fieldLink RX2 103 "DigitDividerModel" "any" "Z", Cond.fieldLink RX2 107 "DigitDividerModel" "n" "I", Cond.fieldLink RX2 87 "DigitDividerModel" "row" "I", Cond.fieldLink RX2 110 "DigitDividerModel" "ups" "I", Cond.fieldLink RX2 113 "DigitDividerModel" "upt" "I", Cond.fieldLink RX2 96 "DigitDividerModel" "left" "I", Cond.fieldLink RX2 19 "DigitDividerModel" "sums" "[J", Cond.fieldLink RX2 23 "DigitDividerModel" "carries" "[J", Cond.fieldLink RX2 26 "DigitDividerModel" "highs" "[J", Cond.fieldLink RX2 29 "DigitDividerModel" "lows" "[J", Cond.constantLong RX2 116 (-1), Cond.constantLong RX2 122 (8), Cond.fieldLink RX2 128 "DigitDividerModel" "quotient" "I", Cond.fieldLink RX2 131 "DigitDividerModel" "rest" "I", Cond.methodLink RX2 99 yX2_sizeOf, Cond.static yX2_sizeOf, Cond.initialized RX2, Cond.code yX2_sizeOf cX2_sizeOf 1 (some .long), Cond.methodLink RX2 118 yX2_doublings, Cond.static yX2_doublings, Cond.code yX2_doublings cX2_doublings 5 (some .int), Cond.constantLong RX2 77 (2147483648), Cond.constantLong RX2 79 (2), Cond.methodLink RX2 124 yX2_nextDigit]
def wsX2_work_r2 : List Cond := [Cond.instanceMethod yX2_nextDigit, Cond.selects RX2 yX2_nextDigit yX2_nextDigit, Cond.code yX2_nextDigit cX2_nextDigit 21 none, Cond.constantLong RX2 81 (4), Cond.fieldLink RX2 7 "DigitDividerModel" "tables" "[I", Cond.fieldLink RX2 83 "DigitDividerModel" "used" "I", Cond.constantLong RX2 90 (-8), Cond.constantLong RX2 92 (3), Cond.fieldLink RX2 13 "DigitDividerModel" "digits" "[I", Cond.fieldLink RX2 16 "DigitDividerModel" "columns" "[I", Cond.constantLong RX2 94 (16), Cond.methodLink RX2 67 yX2_cellAt, Cond.static yX2_cellAt, Cond.code yX2_cellAt cX2_cellAt 3 (some .int)]
def wsX2_work : List Cond := .code yX2_work cX2_work 17 none :: ((wsX2_work_r1 ++ wsX2_work_r2) ++ wsX20)
def wsX2_use : List Cond := .code yX2_use cX2_use 3 (some .int) :: ([.fieldLink RX2 83 "DigitDividerModel" "used" "I", .methodLink RX2 59 yX2_isTable, .static yX2_isTable, .initialized RX2, .code yX2_isTable cX2_isTable 1 (some .boolean), .methodLink RX2 56 yX2_in, .static yX2_in, .code yX2_in cX2_in 3 (some .boolean)] ++ wsX20)
def wsX2_divide_r1 : List Cond := [Cond.fieldLink RX2 107 "DigitDividerModel" "n" "I", Cond.methodLink RX2 134 yX2_work, Cond.instanceMethod yX2_work, Cond.selects RX2 yX2_work yX2_work, Cond.initialized RX2, Cond.code yX2_work cX2_work 17 none, Cond.fieldLink RX2 103 "DigitDividerModel" "any" "Z", Cond.fieldLink RX2 87 "DigitDividerModel" "row" "I", Cond.fieldLink RX2 110 "DigitDividerModel" "ups" "I", Cond.fieldLink RX2 113 "DigitDividerModel" "upt" "I", Cond.fieldLink RX2 96 "DigitDividerModel" "left" "I", Cond.fieldLink RX2 19 "DigitDividerModel" "sums" "[J", Cond.fieldLink RX2 23 "DigitDividerModel" "carries" "[J", Cond.fieldLink RX2 26 "DigitDividerModel" "highs" "[J", Cond.fieldLink RX2 29 "DigitDividerModel" "lows" "[J", Cond.constantLong RX2 116 (-1), Cond.constantLong RX2 122 (8), Cond.fieldLink RX2 128 "DigitDividerModel" "quotient" "I", Cond.fieldLink RX2 131 "DigitDividerModel" "rest" "I", Cond.methodLink RX2 99 yX2_sizeOf, Cond.static yX2_sizeOf, Cond.code yX2_sizeOf cX2_sizeOf 1 (some .long), Cond.methodLink RX2 118 yX2_doublings, Cond.static yX2_doublings]
def wsX2_divide_r2 : List Cond := [Cond.code yX2_doublings cX2_doublings 5 (some .int), Cond.constantLong RX2 77 (2147483648), Cond.constantLong RX2 79 (2), Cond.methodLink RX2 124 yX2_nextDigit, Cond.instanceMethod yX2_nextDigit, Cond.selects RX2 yX2_nextDigit yX2_nextDigit, Cond.code yX2_nextDigit cX2_nextDigit 21 none, Cond.constantLong RX2 81 (4), Cond.fieldLink RX2 7 "DigitDividerModel" "tables" "[I", Cond.fieldLink RX2 83 "DigitDividerModel" "used" "I", Cond.constantLong RX2 90 (-8), Cond.constantLong RX2 92 (3), Cond.fieldLink RX2 13 "DigitDividerModel" "digits" "[I", Cond.fieldLink RX2 16 "DigitDividerModel" "columns" "[I", Cond.constantLong RX2 94 (16), Cond.methodLink RX2 67 yX2_cellAt, Cond.static yX2_cellAt, Cond.code yX2_cellAt cX2_cellAt 3 (some .int)]
def wsX2_divide : List Cond := .code yX2_divide cX2_divide 3 (some .int) :: ((wsX2_divide_r1 ++ wsX2_divide_r2) ++ wsX20)
def wsX2_quotient : List Cond := .code yX2_quotient cX2_quotient 1 (some .int) :: ([.fieldLink RX2 128 "DigitDividerModel" "quotient" "I"] ++ wsX20)
def wsX2_rest : List Cond := .code yX2_rest cX2_rest 1 (some .int) :: ([.fieldLink RX2 131 "DigitDividerModel" "rest" "I"] ++ wsX20)
def wsX2_left : List Cond := .code yX2_left cX2_left 1 (some .int) :: ([.fieldLink RX2 96 "DigitDividerModel" "left" "I"] ++ wsX20)
def wsX2_step : List Cond := .code yX2_step cX2_step 3 (some .int) :: ([.fieldLink RX2 107 "DigitDividerModel" "n" "I", .fieldLink RX2 13 "DigitDividerModel" "digits" "[I", .fieldLink RX2 16 "DigitDividerModel" "columns" "[I", .methodLink RX2 56 yX2_in, .static yX2_in, .initialized RX2, .code yX2_in cX2_in 3 (some .boolean)] ++ wsX20)
def wsX2_state : List Cond := .code yX2_state cX2_state 3 (some .long) :: ([.fieldLink RX2 103 "DigitDividerModel" "any" "Z", .fieldLink RX2 107 "DigitDividerModel" "n" "I", .fieldLink RX2 19 "DigitDividerModel" "sums" "[J", .fieldLink RX2 23 "DigitDividerModel" "carries" "[J", .fieldLink RX2 26 "DigitDividerModel" "highs" "[J", .fieldLink RX2 29 "DigitDividerModel" "lows" "[J", .methodLink RX2 56 yX2_in, .static yX2_in, .initialized RX2, .code yX2_in cX2_in 3 (some .boolean)] ++ wsX20)
def wsX2_told : List Cond := .code yX2_told cX2_told 4 (some .int) :: ([.fieldLink RX2 107 "DigitDividerModel" "n" "I", .fieldLink RX2 13 "DigitDividerModel" "digits" "[I", .fieldLink RX2 87 "DigitDividerModel" "row" "I", .fieldLink RX2 110 "DigitDividerModel" "ups" "I", .fieldLink RX2 113 "DigitDividerModel" "upt" "I"] ++ wsX20)
def wsX2_keep : List Cond := .code yX2_keep cX2_keep 2 none :: ([.fieldLink RX2 32 "DigitDividerModel" "keptInts" "[I", .fieldLink RX2 13 "DigitDividerModel" "digits" "[I", .fieldLink RX2 16 "DigitDividerModel" "columns" "[I", .fieldLink RX2 35 "DigitDividerModel" "keptLongs" "[J", .fieldLink RX2 19 "DigitDividerModel" "sums" "[J", .fieldLink RX2 23 "DigitDividerModel" "carries" "[J", .fieldLink RX2 26 "DigitDividerModel" "highs" "[J", .fieldLink RX2 29 "DigitDividerModel" "lows" "[J", .fieldLink RX2 107 "DigitDividerModel" "n" "I", .fieldLink RX2 87 "DigitDividerModel" "row" "I", .fieldLink RX2 110 "DigitDividerModel" "ups" "I", .fieldLink RX2 113 "DigitDividerModel" "upt" "I", .fieldLink RX2 96 "DigitDividerModel" "left" "I", .fieldLink RX2 128 "DigitDividerModel" "quotient" "I", .fieldLink RX2 131 "DigitDividerModel" "rest" "I", .fieldLink RX2 103 "DigitDividerModel" "any" "Z"] ++ wsX20)
def wsX2_back : List Cond := .code yX2_back cX2_back 2 none :: ([.fieldLink RX2 13 "DigitDividerModel" "digits" "[I", .fieldLink RX2 32 "DigitDividerModel" "keptInts" "[I", .fieldLink RX2 16 "DigitDividerModel" "columns" "[I", .fieldLink RX2 19 "DigitDividerModel" "sums" "[J", .fieldLink RX2 35 "DigitDividerModel" "keptLongs" "[J", .fieldLink RX2 23 "DigitDividerModel" "carries" "[J", .fieldLink RX2 26 "DigitDividerModel" "highs" "[J", .fieldLink RX2 29 "DigitDividerModel" "lows" "[J", .fieldLink RX2 107 "DigitDividerModel" "n" "I", .fieldLink RX2 87 "DigitDividerModel" "row" "I", .fieldLink RX2 110 "DigitDividerModel" "ups" "I", .fieldLink RX2 113 "DigitDividerModel" "upt" "I", .fieldLink RX2 96 "DigitDividerModel" "left" "I", .fieldLink RX2 128 "DigitDividerModel" "quotient" "I", .fieldLink RX2 131 "DigitDividerModel" "rest" "I", .fieldLink RX2 103 "DigitDividerModel" "any" "Z"] ++ wsX20)
def wsX2_sweep_r1 : List Cond := [Cond.fieldLink RX2 128 "DigitDividerModel" "quotient" "I", Cond.fieldLink RX2 131 "DigitDividerModel" "rest" "I", Cond.methodLink RX2 56 yX2_in, Cond.static yX2_in, Cond.initialized RX2, Cond.code yX2_in cX2_in 3 (some .boolean), Cond.methodLink RX2 138 yX2_keep, Cond.instanceMethod yX2_keep, Cond.selects RX2 yX2_keep yX2_keep, Cond.code yX2_keep cX2_keep 2 none, Cond.fieldLink RX2 32 "DigitDividerModel" "keptInts" "[I", Cond.fieldLink RX2 13 "DigitDividerModel" "digits" "[I", Cond.fieldLink RX2 16 "DigitDividerModel" "columns" "[I", Cond.fieldLink RX2 35 "DigitDividerModel" "keptLongs" "[J", Cond.fieldLink RX2 19 "DigitDividerModel" "sums" "[J", Cond.fieldLink RX2 23 "DigitDividerModel" "carries" "[J", Cond.fieldLink RX2 26 "DigitDividerModel" "highs" "[J", Cond.fieldLink RX2 29 "DigitDividerModel" "lows" "[J", Cond.fieldLink RX2 107 "DigitDividerModel" "n" "I", Cond.fieldLink RX2 87 "DigitDividerModel" "row" "I", Cond.fieldLink RX2 110 "DigitDividerModel" "ups" "I", Cond.fieldLink RX2 113 "DigitDividerModel" "upt" "I", Cond.fieldLink RX2 96 "DigitDividerModel" "left" "I", Cond.fieldLink RX2 103 "DigitDividerModel" "any" "Z"]
def wsX2_sweep_r2 : List Cond := [Cond.methodLink RX2 134 yX2_work, Cond.instanceMethod yX2_work, Cond.selects RX2 yX2_work yX2_work, Cond.code yX2_work cX2_work 17 none, Cond.constantLong RX2 116 (-1), Cond.constantLong RX2 122 (8), Cond.methodLink RX2 99 yX2_sizeOf, Cond.static yX2_sizeOf, Cond.code yX2_sizeOf cX2_sizeOf 1 (some .long), Cond.methodLink RX2 118 yX2_doublings, Cond.static yX2_doublings, Cond.code yX2_doublings cX2_doublings 5 (some .int), Cond.constantLong RX2 77 (2147483648), Cond.constantLong RX2 79 (2), Cond.methodLink RX2 124 yX2_nextDigit, Cond.instanceMethod yX2_nextDigit, Cond.selects RX2 yX2_nextDigit yX2_nextDigit, Cond.code yX2_nextDigit cX2_nextDigit 21 none, Cond.constantLong RX2 81 (4), Cond.fieldLink RX2 7 "DigitDividerModel" "tables" "[I", Cond.fieldLink RX2 83 "DigitDividerModel" "used" "I", Cond.constantLong RX2 90 (-8), Cond.constantLong RX2 92 (3), Cond.constantLong RX2 94 (16)]
def wsX2_sweep_r3 : List Cond := [Cond.methodLink RX2 67 yX2_cellAt, Cond.static yX2_cellAt, Cond.code yX2_cellAt cX2_cellAt 3 (some .int), Cond.methodLink RX2 141 yX2_back, Cond.instanceMethod yX2_back, Cond.selects RX2 yX2_back yX2_back, Cond.code yX2_back cX2_back 2 none]
def wsX2_sweep : List Cond := .code yX2_sweep cX2_sweep 7 (some .int) :: ((wsX2_sweep_r1 ++ (wsX2_sweep_r2 ++ wsX2_sweep_r3)) ++ wsX20)
def wsJ9_abs_067f4 : List Cond := .code yJ9_abs_067f4 cJ9_abs_067f4 2 (some .long) :: ([])
def wsJ9_max_7cf53 : List Cond := .code yJ9_max_7cf53 cJ9_max_7cf53 2 (some .int) :: ([])
def wsJ9_min_7cf53 : List Cond := .code yJ9_min_7cf53 cJ9_min_7cf53 2 (some .int) :: ([])
def wsL_law_r1 : List Cond := [Cond.classLink RL 7 RX1, Cond.instantiable RX1 5, Cond.initialized RX1, Cond.classLink RL 10 RX2, Cond.instantiable RX2 18, Cond.initialized RX2, Cond.methodLink RL 9 yX1_init, Cond.instanceMethod yX1_init, Cond.code yX1_init cX1_init 4 none, Cond.methodLink RX1 3 objectInit, Cond.instanceMethod objectInit, Cond.code objectInit ⟨#[0xb1]⟩ 1 none, Cond.classLink RX1 9 "[[I", Cond.arrayClass .int, Cond.fieldLink RX1 11 "DigitDivider" "tables" "[[I", Cond.fieldLink RX1 14 "DigitDivider" "goodDigits" "[I", Cond.classLink RX1 18 RX0, Cond.instantiable RX0 14, Cond.initialized RX0, Cond.fieldLink RX1 21 "DigitDivider" "latest" "LDigitDivider$Division;", Cond.fieldLink RX1 25 "DigitDivider" "swept" "LDigitDivider$Division;", Cond.fieldLink RX1 28 "DigitDivider" "inUse" "I", Cond.instanceMethod yX0_init, Cond.code yX0_init cX0_init 1 none]
def wsL_law_r2 : List Cond := [Cond.methodLink RX0 3 objectInit, Cond.fieldLink RX0 11 "DigitDivider$Division" "digits" "[I", Cond.fieldLink RX0 15 "DigitDivider$Division" "estimates" "[I", Cond.arrayClass .long, Cond.fieldLink RX0 18 "DigitDivider$Division" "sums" "[J", Cond.fieldLink RX0 22 "DigitDivider$Division" "carries" "[J", Cond.fieldLink RX0 25 "DigitDivider$Division" "qs" "[J", Cond.fieldLink RX0 28 "DigitDivider$Division" "rs" "[J", Cond.fieldLink RX0 31 "DigitDivider$Division" "row" "I", Cond.fieldLink RX0 35 "DigitDivider$Division" "s" "I", Cond.fieldLink RX0 38 "DigitDivider$Division" "t" "I", Cond.fieldLink RX0 41 "DigitDivider$Division" "n" "I", Cond.fieldLink RX0 44 "DigitDivider$Division" "digitsNotZero" "I", Cond.fieldLink RX0 47 "DigitDivider$Division" "firstLeft" "I", Cond.fieldLink RX0 50 "DigitDivider$Division" "quotient" "I", Cond.fieldLink RX0 53 "DigitDivider$Division" "rest" "I", Cond.methodLink RX1 32 yX1_findGoodDigits, Cond.static yX1_findGoodDigits, Cond.code yX1_findGoodDigits cX1_findGoodDigits 4 (some .int), Cond.methodLink RX1 61 yX1_holdsAny, Cond.static yX1_holdsAny, Cond.code yX1_holdsAny cX1_holdsAny 2 (some .boolean), Cond.methodLink RX1 123 yX1_leastDivisor, Cond.static yX1_leastDivisor]
def wsL_law_r3 : List Cond := [Cond.code yX1_leastDivisor cX1_leastDivisor 3 (some .int), Cond.methodLink RX1 118 Lib.Math.max.name, Cond.static Lib.Math.max.name, Cond.initialized "java/lang/Math", Cond.code Lib.Math.max.name Lib.Math.max.code 2 (some .int), Cond.methodLink RX1 126 yX1_endOfDivisors, Cond.static yX1_endOfDivisors, Cond.code yX1_endOfDivisors cX1_endOfDivisors 1 (some .int), Cond.methodLink RX1 114 yX1_staysWithin, Cond.static yX1_staysWithin, Cond.code yX1_staysWithin cX1_staysWithin 11 (some .boolean), Cond.methodLink RX1 36 yX1_madeDigit, Cond.instanceMethod yX1_madeDigit, Cond.selects RX1 yX1_madeDigit yX1_madeDigit, Cond.code yX1_madeDigit cX1_madeDigit 6 (some .int), Cond.fieldLink RX1 111 "DigitDivider" "DIGITS_NEAREST_FIRST" "[I", Cond.methodLink RX1 58 yX1_isGood, Cond.instanceMethod yX1_isGood, Cond.selects RX1 yX1_isGood yX1_isGood, Cond.code yX1_isGood cX1_isGood 3 (some .boolean), Cond.methodLink RL 12 yX2_init, Cond.instanceMethod yX2_init, Cond.code yX2_init cX2_init 3 none, Cond.methodLink RX2 1 objectInit]
def wsL_law_r4 : List Cond := [Cond.fieldLink RX2 7 "DigitDividerModel" "tables" "[I", Cond.fieldLink RX2 13 "DigitDividerModel" "digits" "[I", Cond.fieldLink RX2 16 "DigitDividerModel" "columns" "[I", Cond.fieldLink RX2 19 "DigitDividerModel" "sums" "[J", Cond.fieldLink RX2 23 "DigitDividerModel" "carries" "[J", Cond.fieldLink RX2 26 "DigitDividerModel" "highs" "[J", Cond.fieldLink RX2 29 "DigitDividerModel" "lows" "[J", Cond.fieldLink RX2 32 "DigitDividerModel" "keptInts" "[I", Cond.fieldLink RX2 35 "DigitDividerModel" "keptLongs" "[J", Cond.methodLink RX2 38 yX2_fill, Cond.instanceMethod yX2_fill, Cond.selects RX2 yX2_fill yX2_fill, Cond.code yX2_fill cX2_fill 7 (some .int), Cond.methodLink RX2 52 yX2_madeOf, Cond.static yX2_madeOf, Cond.code yX2_madeOf cX2_madeOf 3 (some .int), Cond.methodLink RX2 49 yX2_isGood, Cond.static yX2_isGood, Cond.code yX2_isGood cX2_isGood 3 (some .boolean), Cond.methodLink RX2 42 yX2_isOver, Cond.static yX2_isOver, Cond.code yX2_isOver cX2_isOver 6 (some .boolean), Cond.methodLink RX2 46 yX2_isUnder, Cond.static yX2_isUnder]
def wsL_law_r5 : List Cond := [Cond.code yX2_isUnder cX2_isUnder 6 (some .boolean), Cond.methodLink RL 13 yX1_digit, Cond.instanceMethod yX1_digit, Cond.selects RX1 yX1_digit yX1_digit, Cond.code yX1_digit cX1_digit 4 (some .int), Cond.methodLink RX1 40 yX1_isTable, Cond.static yX1_isTable, Cond.code yX1_isTable cX1_isTable 1 (some .boolean), Cond.methodLink RX1 44 yX1_isCell, Cond.static yX1_isCell, Cond.code yX1_isCell cX1_isCell 2 (some .boolean), Cond.methodLink RX1 48 yX1_cellAt, Cond.static yX1_cellAt, Cond.code yX1_cellAt cX1_cellAt 2 (some .int), Cond.methodLink RL 17 yX2_digit, Cond.instanceMethod yX2_digit, Cond.selects RX2 yX2_digit yX2_digit, Cond.code yX2_digit cX2_digit 4 (some .int), Cond.methodLink RX2 59 yX2_isTable, Cond.static yX2_isTable, Cond.code yX2_isTable cX2_isTable 1 (some .boolean), Cond.methodLink RX2 56 yX2_in, Cond.static yX2_in, Cond.code yX2_in cX2_in 3 (some .boolean)]
def wsL_law_r6 : List Cond := [Cond.methodLink RX2 63 yX2_isCell, Cond.static yX2_isCell, Cond.code yX2_isCell cX2_isCell 2 (some .boolean), Cond.methodLink RX2 67 yX2_cellAt, Cond.static yX2_cellAt, Cond.code yX2_cellAt cX2_cellAt 3 (some .int), Cond.methodLink RL 18 yX1_set, Cond.instanceMethod yX1_set, Cond.selects RX1 yX1_set yX1_set, Cond.code yX1_set cX1_set 7 (some .int), Cond.methodLink RX1 51 yX1_isDigit, Cond.static yX1_isDigit, Cond.code yX1_isDigit cX1_isDigit 1 (some .boolean), Cond.methodLink RL 22 yX2_set, Cond.instanceMethod yX2_set, Cond.selects RX2 yX2_set yX2_set, Cond.code yX2_set cX2_set 7 (some .int), Cond.methodLink RL 23 yX1_make, Cond.instanceMethod yX1_make, Cond.selects RX1 yX1_make yX1_make, Cond.code yX1_make cX1_make 4 (some .int), Cond.methodLink RX1 54 yX1_replace, Cond.instanceMethod yX1_replace, Cond.selects RX1 yX1_replace yX1_replace]
def wsL_law_r7 : List Cond := [Cond.code yX1_replace cX1_replace 4 (some .int), Cond.methodLink RL 27 yX2_make, Cond.instanceMethod yX2_make, Cond.selects RX2 yX2_make yX2_make, Cond.code yX2_make cX2_make 2 (some .int), Cond.methodLink RL 28 yX1_copy, Cond.instanceMethod yX1_copy, Cond.selects RX1 yX1_copy yX1_copy, Cond.code yX1_copy cX1_copy 5 (some .int), Cond.methodLink RL 32 yX2_copy, Cond.instanceMethod yX2_copy, Cond.selects RX2 yX2_copy yX2_copy, Cond.code yX2_copy cX2_copy 5 (some .int), Cond.methodLink RL 33 yX1_good, Cond.instanceMethod yX1_good, Cond.selects RX1 yX1_good yX1_good, Cond.code yX1_good cX1_good 4 (some .int), Cond.methodLink RL 36 yX2_good, Cond.instanceMethod yX2_good, Cond.selects RX2 yX2_good yX2_good, Cond.code yX2_good cX2_good 4 (some .int), Cond.methodLink RL 37 yX1_holds, Cond.instanceMethod yX1_holds, Cond.selects RX1 yX1_holds yX1_holds]
def wsL_law_r8 : List Cond := [Cond.code yX1_holds cX1_holds 3 (some .int), Cond.methodLink RL 40 yX2_holds, Cond.instanceMethod yX2_holds, Cond.selects RX2 yX2_holds yX2_holds, Cond.code yX2_holds cX2_holds 3 (some .int), Cond.methodLink RX2 71 yX2_isHeld, Cond.static yX2_isHeld, Cond.code yX2_isHeld cX2_isHeld 3 (some .boolean), Cond.methodLink RL 41 yX1_check, Cond.instanceMethod yX1_check, Cond.selects RX1 yX1_check yX1_check, Cond.code yX1_check cX1_check 4 (some .int), Cond.methodLink RL 44 yX2_check, Cond.instanceMethod yX2_check, Cond.selects RX2 yX2_check yX2_check, Cond.code yX2_check cX2_check 4 (some .int), Cond.methodLink RX2 74 yX2_isWrong, Cond.instanceMethod yX2_isWrong, Cond.selects RX2 yX2_isWrong yX2_isWrong, Cond.code yX2_isWrong cX2_isWrong 3 (some .boolean), Cond.methodLink RL 45 yX1_wrong, Cond.instanceMethod yX1_wrong, Cond.selects RX1 yX1_wrong yX1_wrong, Cond.code yX1_wrong cX1_wrong 5 (some .int)]
def wsL_law_r9 : List Cond := [Cond.methodLink RL 48 yX2_wrong, Cond.instanceMethod yX2_wrong, Cond.selects RX2 yX2_wrong yX2_wrong, Cond.code yX2_wrong cX2_wrong 5 (some .int), Cond.methodLink RL 49 yX1_use, Cond.instanceMethod yX1_use, Cond.selects RX1 yX1_use yX1_use, Cond.code yX1_use cX1_use 3 (some .int), Cond.methodLink RL 52 yX2_use, Cond.instanceMethod yX2_use, Cond.selects RX2 yX2_use yX2_use, Cond.code yX2_use cX2_use 3 (some .int), Cond.fieldLink RX2 83 "DigitDividerModel" "used" "I", Cond.methodLink RL 53 yX1_divide, Cond.instanceMethod yX1_divide, Cond.selects RX1 yX1_divide yX1_divide, Cond.code yX1_divide cX1_divide 3 (some .int), Cond.instanceMethod yX0_run, Cond.selects RX0 yX0_run yX0_run, Cond.code yX0_run cX0_run 11 none, Cond.methodLink RX0 56 Lib.MathLoose.abs_long.x, Cond.static Lib.MathLoose.abs_long.x, Cond.code Lib.MathLoose.abs_long.x Lib.MathLoose.abs_long.code 2 (some .long), Cond.methodLink RX0 62 yX0_clear]
def wsL_law_r10 : List Cond := [Cond.instanceMethod yX0_clear, Cond.selects RX0 yX0_clear yX0_clear, Cond.code yX0_clear cX0_clear 1 none, Cond.constantLong RX0 77 (-1), Cond.methodLink RX0 65 yX0_begin, Cond.instanceMethod yX0_begin, Cond.selects RX0 yX0_begin yX0_begin, Cond.code yX0_begin cX0_begin 9 (some .long), Cond.methodLink RX0 83 Lib.Math.min.name, Cond.static Lib.Math.min.name, Cond.code Lib.Math.min.name Lib.Math.min.code 2 (some .int), Cond.constantLong RX0 87 (8), Cond.methodLink RX0 79 yX0_doublings, Cond.static yX0_doublings, Cond.code yX0_doublings cX0_doublings 3 (some .int), Cond.constantLong RX0 89 (4294967296), Cond.methodLink RX0 69 yX0_takeDigit, Cond.instanceMethod yX0_takeDigit, Cond.selects RX0 yX0_takeDigit yX0_takeDigit, Cond.code yX0_takeDigit cX0_takeDigit 14 none, Cond.methodLink RX0 91 Lib.Math.max.name, Cond.constantLong RX0 101 (3), Cond.constantLong RX0 103 (16), Cond.methodLink RX0 97 yX0_writeQuotient]
def wsL_law_r11 : List Cond := [Cond.instanceMethod yX0_writeQuotient, Cond.selects RX0 yX0_writeQuotient yX0_writeQuotient, Cond.code yX0_writeQuotient cX0_writeQuotient 7 none, Cond.constantLong RX0 105 (4), Cond.methodLink RX0 73 yX0_finish, Cond.instanceMethod yX0_finish, Cond.selects RX0 yX0_finish yX0_finish, Cond.code yX0_finish cX0_finish 11 none, Cond.methodLink RL 56 yX2_divide, Cond.instanceMethod yX2_divide, Cond.selects RX2 yX2_divide yX2_divide, Cond.code yX2_divide cX2_divide 3 (some .int), Cond.fieldLink RX2 107 "DigitDividerModel" "n" "I", Cond.methodLink RX2 134 yX2_work, Cond.instanceMethod yX2_work, Cond.selects RX2 yX2_work yX2_work, Cond.code yX2_work cX2_work 17 none, Cond.fieldLink RX2 103 "DigitDividerModel" "any" "Z", Cond.fieldLink RX2 87 "DigitDividerModel" "row" "I", Cond.fieldLink RX2 110 "DigitDividerModel" "ups" "I", Cond.fieldLink RX2 113 "DigitDividerModel" "upt" "I", Cond.fieldLink RX2 96 "DigitDividerModel" "left" "I", Cond.constantLong RX2 116 (-1), Cond.constantLong RX2 122 (8)]
def wsL_law_r12 : List Cond := [Cond.fieldLink RX2 128 "DigitDividerModel" "quotient" "I", Cond.fieldLink RX2 131 "DigitDividerModel" "rest" "I", Cond.methodLink RX2 99 yX2_sizeOf, Cond.static yX2_sizeOf, Cond.code yX2_sizeOf cX2_sizeOf 1 (some .long), Cond.methodLink RX2 118 yX2_doublings, Cond.static yX2_doublings, Cond.code yX2_doublings cX2_doublings 5 (some .int), Cond.constantLong RX2 77 (2147483648), Cond.constantLong RX2 79 (2), Cond.methodLink RX2 124 yX2_nextDigit, Cond.instanceMethod yX2_nextDigit, Cond.selects RX2 yX2_nextDigit yX2_nextDigit, Cond.code yX2_nextDigit cX2_nextDigit 21 none, Cond.constantLong RX2 81 (4), Cond.constantLong RX2 90 (-8), Cond.constantLong RX2 92 (3), Cond.constantLong RX2 94 (16), Cond.methodLink RL 57 yX1_quotient, Cond.instanceMethod yX1_quotient, Cond.selects RX1 yX1_quotient yX1_quotient, Cond.code yX1_quotient cX1_quotient 1 (some .int), Cond.methodLink RL 61 yX2_quotient, Cond.instanceMethod yX2_quotient]
def wsL_law_r13 : List Cond := [Cond.selects RX2 yX2_quotient yX2_quotient, Cond.code yX2_quotient cX2_quotient 1 (some .int), Cond.methodLink RL 62 yX1_rest, Cond.instanceMethod yX1_rest, Cond.selects RX1 yX1_rest yX1_rest, Cond.code yX1_rest cX1_rest 1 (some .int), Cond.methodLink RL 65 yX2_rest, Cond.instanceMethod yX2_rest, Cond.selects RX2 yX2_rest yX2_rest, Cond.code yX2_rest cX2_rest 1 (some .int), Cond.methodLink RL 66 yX1_left, Cond.instanceMethod yX1_left, Cond.selects RX1 yX1_left yX1_left, Cond.code yX1_left cX1_left 1 (some .int), Cond.methodLink RL 69 yX2_left, Cond.instanceMethod yX2_left, Cond.selects RX2 yX2_left yX2_left, Cond.code yX2_left cX2_left 1 (some .int), Cond.methodLink RL 70 yX1_step, Cond.instanceMethod yX1_step, Cond.selects RX1 yX1_step yX1_step, Cond.code yX1_step cX1_step 3 (some .int), Cond.methodLink RL 73 yX2_step, Cond.instanceMethod yX2_step]
def wsL_law_r14 : List Cond := [Cond.selects RX2 yX2_step yX2_step, Cond.code yX2_step cX2_step 3 (some .int), Cond.methodLink RL 74 yX1_state, Cond.instanceMethod yX1_state, Cond.selects RX1 yX1_state yX1_state, Cond.code yX1_state cX1_state 3 (some .long), Cond.methodLink RL 78 yX2_state, Cond.instanceMethod yX2_state, Cond.selects RX2 yX2_state yX2_state, Cond.code yX2_state cX2_state 3 (some .long), Cond.methodLink RL 79 yX1_told, Cond.instanceMethod yX1_told, Cond.selects RX1 yX1_told yX1_told, Cond.code yX1_told cX1_told 2 (some .int), Cond.methodLink RL 82 yX2_told, Cond.instanceMethod yX2_told, Cond.selects RX2 yX2_told yX2_told, Cond.code yX2_told cX2_told 4 (some .int), Cond.methodLink RL 83 yX1_sweep, Cond.instanceMethod yX1_sweep, Cond.selects RX1 yX1_sweep yX1_sweep, Cond.code yX1_sweep cX1_sweep 7 (some .int), Cond.methodLink RL 86 yX2_sweep, Cond.instanceMethod yX2_sweep]
def wsL_law_r15 : List Cond := [Cond.selects RX2 yX2_sweep yX2_sweep, Cond.code yX2_sweep cX2_sweep 7 (some .int), Cond.methodLink RX2 138 yX2_keep, Cond.instanceMethod yX2_keep, Cond.selects RX2 yX2_keep yX2_keep, Cond.code yX2_keep cX2_keep 2 none, Cond.methodLink RX2 141 yX2_back, Cond.instanceMethod yX2_back, Cond.selects RX2 yX2_back yX2_back, Cond.code yX2_back cX2_back 2 none]
def wsL_law : List Cond := (wsL_law_r1 ++ (wsL_law_r2 ++ (wsL_law_r3 ++ (wsL_law_r4 ++ (wsL_law_r5 ++ (wsL_law_r6 ++ (wsL_law_r7 ++ (wsL_law_r8 ++ (wsL_law_r9 ++ (wsL_law_r10 ++ (wsL_law_r11 ++ (wsL_law_r12 ++ (wsL_law_r13 ++ (wsL_law_r14 ++ wsL_law_r15)))))))))))))) ++ wsX10 ++ wsX20 ++ wsX00 ++ ([] : List Cond)
theorem in_fm {big : List Cond} (ws : List Cond) (ps : List Nat) (hp : ws = ps.filterMap (fun i => big[i]?)) : ∀ w ∈ ws, w ∈ big := by
  intro w hw
  rw [hp] at hw
  obtain ⟨i, -, hi⟩ := List.mem_filterMap.mp hw
  first | exact List.mem_of_getElem? hi | exact List.getElem?_mem hi
theorem in_ap {big a b : List Cond} (h1 : ∀ w ∈ a, w ∈ big) (h2 : ∀ w ∈ b, w ∈ big) : ∀ w ∈ a ++ b, w ∈ big := fun w h => (List.mem_append.mp h).elim (h1 w) (h2 w)
set_option maxRecDepth 20000 in
theorem wsL_in_1 : ∀ w ∈ wsL_law_r1, w ∈ lw_tbl := in_fm _ [20, 21, 16, 264, 265, 19, 22, 23, 24, 25, 26, 27, 28, 93, 123, 124, 30, 31, 17, 125, 126, 127, 33, 34] (by decide +kernel)
set_option maxRecDepth 20000 in
theorem wsL_in_2 : ∀ w ∈ wsL_law_r2, w ∈ lw_tbl := in_fm _ [35, 36, 38, 94, 40, 42, 44, 46, 48, 50, 52, 54, 56, 58, 60, 62, 95, 96, 97, 98, 99, 100, 101, 102] (by decide +kernel)
set_option maxRecDepth 20000 in
theorem wsL_in_3 : ∀ w ∈ wsL_law_r3, w ∈ lw_tbl := in_fm _ [103, 104, 105, 18, 106, 107, 108, 109, 110, 111, 112, 113, 115, 0, 116, 117, 119, 121, 1, 122, 266, 267, 268, 269] (by decide +kernel)
set_option maxRecDepth 20000 in
theorem wsL_in_4 : ∀ w ∈ wsL_law_r4, w ∈ lw_tbl := in_fm _ [286, 296, 297, 298, 299, 300, 301, 302, 303, 270, 272, 9, 273, 274, 275, 276, 277, 278, 279, 280, 281, 282, 283, 284] (by decide +kernel)
set_option maxRecDepth 20000 in
theorem wsL_in_5 : ∀ w ∈ wsL_law_r5, w ∈ lw_tbl := in_fm _ [285, 139, 140, 141, 142, 143, 144, 145, 146, 147, 148, 149, 150, 151, 341, 342, 343, 344, 345, 346, 347, 348, 349, 350] (by decide +kernel)
set_option maxRecDepth 20000 in
theorem wsL_in_6 : ∀ w ∈ wsL_law_r6, w ∈ lw_tbl := in_fm _ [351, 352, 353, 354, 355, 356, 152, 153, 154, 155, 156, 157, 158, 357, 358, 359, 360, 159, 160, 161, 162, 163, 165, 2] (by decide +kernel)
set_option maxRecDepth 20000 in
theorem wsL_in_7 : ∀ w ∈ wsL_law_r7, w ∈ lw_tbl := in_fm _ [166, 361, 362, 363, 364, 167, 168, 169, 170, 365, 366, 367, 368, 171, 172, 173, 174, 369, 370, 371, 372, 175, 176, 177] (by decide +kernel)
set_option maxRecDepth 20000 in
theorem wsL_in_8 : ∀ w ∈ wsL_law_r8, w ∈ lw_tbl := in_fm _ [178, 373, 374, 375, 376, 377, 378, 379, 179, 180, 181, 182, 380, 381, 382, 383, 384, 386, 10, 387, 183, 184, 185, 186] (by decide +kernel)
set_option maxRecDepth 20000 in
theorem wsL_in_9 : ∀ w ∈ wsL_law_r9, w ∈ lw_tbl := in_fm _ [388, 389, 390, 391, 187, 188, 189, 190, 392, 393, 394, 395, 287, 191, 192, 193, 194, 197, 3, 198, 199, 200, 201, 202] (by decide +kernel)
set_option maxRecDepth 20000 in
theorem wsL_in_10 : ∀ w ∈ wsL_law_r10, w ∈ lw_tbl := in_fm _ [204, 4, 205, 206, 207, 209, 5, 210, 215, 216, 217, 218, 211, 212, 213, 214, 219, 221, 6, 222, 223, 230, 231, 225] (by decide +kernel)
set_option maxRecDepth 20000 in
theorem wsL_in_11 : ∀ w ∈ wsL_law_r11, w ∈ lw_tbl := in_fm _ [227, 7, 228, 229, 232, 234, 8, 235, 396, 397, 398, 399, 288, 400, 402, 11, 403, 295, 289, 290, 291, 292, 407, 413] (by decide +kernel)
set_option maxRecDepth 20000 in
theorem wsL_in_12 : ∀ w ∈ wsL_law_r12, w ∈ lw_tbl := in_fm _ [293, 294, 404, 405, 406, 408, 409, 410, 411, 412, 414, 416, 12, 417, 418, 419, 420, 421, 236, 237, 238, 239, 422, 423] (by decide +kernel)
set_option maxRecDepth 20000 in
theorem wsL_in_13 : ∀ w ∈ wsL_law_r13, w ∈ lw_tbl := in_fm _ [424, 425, 240, 241, 242, 243, 426, 427, 428, 429, 244, 245, 246, 247, 430, 431, 432, 433, 248, 249, 250, 251, 434, 435] (by decide +kernel)
set_option maxRecDepth 20000 in
theorem wsL_in_14 : ∀ w ∈ wsL_law_r14, w ∈ lw_tbl := in_fm _ [436, 437, 252, 253, 254, 255, 438, 439, 440, 441, 256, 257, 258, 259, 442, 443, 444, 445, 260, 261, 262, 263, 446, 447] (by decide +kernel)
set_option maxRecDepth 20000 in
theorem wsL_in_15 : ∀ w ∈ wsL_law_r15, w ∈ lw_tbl := in_fm _ [448, 449, 450, 452, 13, 453, 454, 456, 14, 457] (by decide +kernel)
set_option maxRecDepth 20000 in
theorem wsL_in_X0 : ∀ w ∈ wsX00, w ∈ lw_tbl := in_fm _ [64, 66, 68, 70, 72, 74, 76, 78, 80, 82, 84, 86, 88, 90] (by decide +kernel)
set_option maxRecDepth 20000 in
theorem wsL_in_X1 : ∀ w ∈ wsX10, w ∈ lw_tbl := in_fm _ [128, 130, 132, 134, 136] (by decide +kernel)
set_option maxRecDepth 20000 in
theorem wsL_in_X2 : ∀ w ∈ wsX20, w ∈ lw_tbl := in_fm _ [304, 306, 308, 310, 312, 314, 316, 318, 320, 322, 324, 326, 328, 330, 332, 334, 336, 338] (by decide +kernel)
theorem wsL_law_in : ∀ w ∈ wsL_law, w ∈ lw_tbl := in_ap (in_ap (in_ap (in_ap (in_ap wsL_in_1 (in_ap wsL_in_2 (in_ap wsL_in_3 (in_ap wsL_in_4 (in_ap wsL_in_5 (in_ap wsL_in_6 (in_ap wsL_in_7 (in_ap wsL_in_8 (in_ap wsL_in_9 (in_ap wsL_in_10 (in_ap wsL_in_11 (in_ap wsL_in_12 (in_ap wsL_in_13 (in_ap wsL_in_14 wsL_in_15)))))))))))))) wsL_in_X1) wsL_in_X2) wsL_in_X0) (fun _ h => absurd h List.not_mem_nil)
theorem inlX0 : ∀ w ∈ wsX00, w ∈ wsL_law := fun _ h => List.mem_append_left _ (List.mem_append_right _ h)
theorem inX0 : ∀ w ∈ wsX00, w ∈ lw_tbl := fun w h => wsL_law_in w (inlX0 w h)
theorem inlX1 : ∀ w ∈ wsX10, w ∈ wsL_law := fun _ h => List.mem_append_left _ (List.mem_append_left _ (List.mem_append_left _ (List.mem_append_right _ h)))
theorem inX1 : ∀ w ∈ wsX10, w ∈ lw_tbl := fun w h => wsL_law_in w (inlX1 w h)
theorem inlX2 : ∀ w ∈ wsX20, w ∈ wsL_law := fun _ h => List.mem_append_left _ (List.mem_append_left _ (List.mem_append_right _ h))
theorem inX2 : ∀ w ∈ wsX20, w ∈ lw_tbl := fun w h => wsL_law_in w (inlX2 w h)
theorem inJ9 : ∀ w ∈ wsJ90, w ∈ lw_tbl := by decide +kernel
abbrev vwCl : List vw_C := [(RX0, TX0, 14), (RX1, TX1, 5), (RX2, TX2, 18)]
end
section
theorem dX0_init_0 : decode cX0_init 0 = .ok (.aload_n 0, 1) := by decide +kernel
theorem dX0_init_1 : decode cX0_init 1 = .ok (.invokespecial 3, 3) := by decide +kernel
theorem dX0_init_4 : decode cX0_init 4 = .ok (.aload_n 0, 1) := by decide +kernel
theorem dX0_init_5 : decode cX0_init 5 = .ok (.bipush 18, 2) := by decide +kernel
theorem dX0_init_7 : decode cX0_init 7 = .ok (.newarray .int, 2) := by decide +kernel
theorem dX0_init_9 : decode cX0_init 9 = .ok (.putfield 11, 3) := by decide +kernel
theorem dX0_init_12 : decode cX0_init 12 = .ok (.aload_n 0, 1) := by decide +kernel
theorem dX0_init_13 : decode cX0_init 13 = .ok (.bipush 18, 2) := by decide +kernel
theorem dX0_init_15 : decode cX0_init 15 = .ok (.newarray .int, 2) := by decide +kernel
theorem dX0_init_17 : decode cX0_init 17 = .ok (.putfield 15, 3) := by decide +kernel
theorem dX0_init_20 : decode cX0_init 20 = .ok (.aload_n 0, 1) := by decide +kernel
theorem dX0_init_21 : decode cX0_init 21 = .ok (.bipush 18, 2) := by decide +kernel
theorem dX0_init_23 : decode cX0_init 23 = .ok (.newarray .long, 2) := by decide +kernel
theorem dX0_init_25 : decode cX0_init 25 = .ok (.putfield 18, 3) := by decide +kernel
theorem dX0_init_28 : decode cX0_init 28 = .ok (.aload_n 0, 1) := by decide +kernel
theorem dX0_init_29 : decode cX0_init 29 = .ok (.bipush 18, 2) := by decide +kernel
theorem dX0_init_31 : decode cX0_init 31 = .ok (.newarray .long, 2) := by decide +kernel
theorem dX0_init_33 : decode cX0_init 33 = .ok (.putfield 22, 3) := by decide +kernel
theorem dX0_init_36 : decode cX0_init 36 = .ok (.aload_n 0, 1) := by decide +kernel
theorem dX0_init_37 : decode cX0_init 37 = .ok (.bipush 18, 2) := by decide +kernel
theorem dX0_init_39 : decode cX0_init 39 = .ok (.newarray .long, 2) := by decide +kernel
theorem dX0_init_41 : decode cX0_init 41 = .ok (.putfield 25, 3) := by decide +kernel
theorem dX0_init_44 : decode cX0_init 44 = .ok (.aload_n 0, 1) := by decide +kernel
theorem dX0_init_45 : decode cX0_init 45 = .ok (.bipush 18, 2) := by decide +kernel
theorem dX0_init_47 : decode cX0_init 47 = .ok (.newarray .long, 2) := by decide +kernel
theorem dX0_init_49 : decode cX0_init 49 = .ok (.putfield 28, 3) := by decide +kernel
theorem dX0_init_52 : decode cX0_init 52 = .ok (.aload_n 0, 1) := by decide +kernel
theorem dX0_init_53 : decode cX0_init 53 = .ok (.iconst 0, 1) := by decide +kernel
theorem dX0_init_54 : decode cX0_init 54 = .ok (.putfield 31, 3) := by decide +kernel
theorem dX0_init_57 : decode cX0_init 57 = .ok (.aload_n 0, 1) := by decide +kernel
theorem dX0_init_58 : decode cX0_init 58 = .ok (.iconst 0, 1) := by decide +kernel
theorem dX0_init_59 : decode cX0_init 59 = .ok (.putfield 35, 3) := by decide +kernel
theorem dX0_init_62 : decode cX0_init 62 = .ok (.aload_n 0, 1) := by decide +kernel
theorem dX0_init_63 : decode cX0_init 63 = .ok (.iconst 0, 1) := by decide +kernel
theorem dX0_init_64 : decode cX0_init 64 = .ok (.putfield 38, 3) := by decide +kernel
theorem dX0_init_67 : decode cX0_init 67 = .ok (.aload_n 0, 1) := by decide +kernel
theorem dX0_init_68 : decode cX0_init 68 = .ok (.iconst 0, 1) := by decide +kernel
theorem dX0_init_69 : decode cX0_init 69 = .ok (.putfield 41, 3) := by decide +kernel
theorem dX0_init_72 : decode cX0_init 72 = .ok (.aload_n 0, 1) := by decide +kernel
theorem dX0_init_73 : decode cX0_init 73 = .ok (.iconst 0, 1) := by decide +kernel
theorem dX0_init_74 : decode cX0_init 74 = .ok (.putfield 44, 3) := by decide +kernel
theorem dX0_init_77 : decode cX0_init 77 = .ok (.aload_n 0, 1) := by decide +kernel
theorem dX0_init_78 : decode cX0_init 78 = .ok (.iconst 0, 1) := by decide +kernel
theorem dX0_init_79 : decode cX0_init 79 = .ok (.putfield 47, 3) := by decide +kernel
theorem dX0_init_82 : decode cX0_init 82 = .ok (.aload_n 0, 1) := by decide +kernel
theorem dX0_init_83 : decode cX0_init 83 = .ok (.iconst 0, 1) := by decide +kernel
theorem dX0_init_84 : decode cX0_init 84 = .ok (.putfield 50, 3) := by decide +kernel
theorem dX0_init_87 : decode cX0_init 87 = .ok (.aload_n 0, 1) := by decide +kernel
theorem dX0_init_88 : decode cX0_init 88 = .ok (.iconst 0, 1) := by decide +kernel
theorem dX0_init_89 : decode cX0_init 89 = .ok (.putfield 53, 3) := by decide +kernel
theorem dX0_init_92 : decode cX0_init 92 = .ok (.return_, 1) := by decide +kernel
set_option maxRecDepth 20000 in
theorem ggX0_run_X0_clear : GoodIn wsX0_run wsX0_clear := goodIn_r _ [12, 13, 14, 15, 16, 17, 18, 19, 20, 7, 21, 22, 58, 59, 60, 61, 62, 63, 64, 65, 66, 67, 68, 69, 70, 71] (by decide +kernel) (by decide +kernel)
set_option maxRecDepth 20000 in
theorem gX0_run_X0_clear : GoodIn wsX0_run (wsV RX0 62 RX0 yX0_clear wsX0_clear) := goodIn_app (goodIn_of _ (by decide +kernel)) ggX0_run_X0_clear
set_option maxRecDepth 20000 in
theorem ggX0_run_X0_begin : GoodIn wsX0_run wsX0_begin := goodIn_r _ [26, 19, 20, 27, 28, 3, 29, 7, 18, 13, 30, 31, 32, 11, 33, 34, 58, 59, 60, 61, 62, 63, 64, 65, 66, 67, 68, 69, 70, 71] (by decide +kernel) (by decide +kernel)
set_option maxRecDepth 20000 in
theorem gX0_run_X0_begin : GoodIn wsX0_run (wsV RX0 65 RX0 yX0_begin wsX0_begin) := goodIn_app (goodIn_of _ (by decide +kernel)) ggX0_run_X0_begin
set_option maxRecDepth 20000 in
theorem ggX0_run_X0_takeDigit : GoodIn wsX0_run wsX0_takeDigit := goodIn_r _ [38, 13, 14, 27, 28, 3, 29, 39, 40, 41, 18, 42, 43, 21, 22, 44, 1, 2, 4, 45, 46, 47, 48, 49, 50, 51, 11, 52, 15, 16, 53, 58, 59, 60, 61, 62, 63, 64, 65, 66, 67, 68, 69, 70, 71] (by decide +kernel) (by decide +kernel)
set_option maxRecDepth 20000 in
theorem gX0_run_X0_takeDigit : GoodIn wsX0_run (wsV RX0 69 RX0 yX0_takeDigit wsX0_takeDigit) := goodIn_app (goodIn_of _ (by decide +kernel)) ggX0_run_X0_takeDigit
set_option maxRecDepth 20000 in
theorem ggX0_run_X0_finish : GoodIn wsX0_run wsX0_finish := goodIn_r _ [57, 13, 7, 14, 16, 15, 30, 20, 5, 6, 58, 59, 60, 61, 62, 63, 64, 65, 66, 67, 68, 69, 70, 71] (by decide +kernel) (by decide +kernel)
set_option maxRecDepth 20000 in
theorem gX0_run_X0_finish : GoodIn wsX0_run (wsV RX0 73 RX0 yX0_finish wsX0_finish) := goodIn_app (goodIn_of _ (by decide +kernel)) ggX0_run_X0_finish
theorem dX0_run_0 : decode cX0_run 0 = .ok (.iload_n 1, 1) := by decide +kernel
theorem dX0_run_1 : decode cX0_run 1 = .ok (.i2l, 1) := by decide +kernel
theorem dX0_run_2 : decode cX0_run 2 = .ok (.invokestatic 56, 3) := by decide +kernel
theorem dX0_run_5 : decode cX0_run 5 = .ok (.lstore 4, 2) := by decide +kernel
theorem dX0_run_7 : decode cX0_run 7 = .ok (.iload_n 2, 1) := by decide +kernel
theorem dX0_run_8 : decode cX0_run 8 = .ok (.i2l, 1) := by decide +kernel
theorem dX0_run_9 : decode cX0_run 9 = .ok (.invokestatic 56, 3) := by decide +kernel
theorem dX0_run_12 : decode cX0_run 12 = .ok (.lstore 6, 2) := by decide +kernel
theorem dX0_run_14 : decode cX0_run 14 = .ok (.aload_n 0, 1) := by decide +kernel
theorem dX0_run_15 : decode cX0_run 15 = .ok (.invokevirtual 62, 3) := by decide +kernel
theorem dX0_run_18 : decode cX0_run 18 = .ok (.lload 4, 2) := by decide +kernel
theorem dX0_run_20 : decode cX0_run 20 = .ok (.lload 6, 2) := by decide +kernel
theorem dX0_run_22 : decode cX0_run 22 = .ok (.lcmp, 1) := by decide +kernel
theorem dX0_run_23 : decode cX0_run 23 = .ok (.ifCond .ge 14, 3) := by decide +kernel
theorem dX0_run_26 : decode cX0_run 26 = .ok (.aload_n 0, 1) := by decide +kernel
theorem dX0_run_27 : decode cX0_run 27 = .ok (.iconst 0, 1) := by decide +kernel
theorem dX0_run_28 : decode cX0_run 28 = .ok (.putfield 50, 3) := by decide +kernel
theorem dX0_run_31 : decode cX0_run 31 = .ok (.aload_n 0, 1) := by decide +kernel
theorem dX0_run_32 : decode cX0_run 32 = .ok (.iload_n 1, 1) := by decide +kernel
theorem dX0_run_33 : decode cX0_run 33 = .ok (.putfield 53, 3) := by decide +kernel
theorem dX0_run_36 : decode cX0_run 36 = .ok (.return_, 1) := by decide +kernel
theorem dX0_run_37 : decode cX0_run 37 = .ok (.aload_n 0, 1) := by decide +kernel
theorem dX0_run_38 : decode cX0_run 38 = .ok (.lload 4, 2) := by decide +kernel
theorem dX0_run_40 : decode cX0_run 40 = .ok (.lload 6, 2) := by decide +kernel
theorem dX0_run_42 : decode cX0_run 42 = .ok (.invokevirtual 65, 3) := by decide +kernel
theorem dX0_run_45 : decode cX0_run 45 = .ok (.lstore 8, 2) := by decide +kernel
theorem dX0_run_47 : decode cX0_run 47 = .ok (.iconst 1, 1) := by decide +kernel
theorem dX0_run_48 : decode cX0_run 48 = .ok (.istore 10, 2) := by decide +kernel
theorem dX0_run_50 : decode cX0_run 50 = .ok (.iload 10, 2) := by decide +kernel
theorem dX0_run_52 : decode cX0_run 52 = .ok (.aload_n 0, 1) := by decide +kernel
theorem dX0_run_53 : decode cX0_run 53 = .ok (.getfield 41, 3) := by decide +kernel
theorem dX0_run_56 : decode cX0_run 56 = .ok (.if_icmp .gt 18, 3) := by decide +kernel
theorem dX0_run_59 : decode cX0_run 59 = .ok (.aload_n 0, 1) := by decide +kernel
theorem dX0_run_60 : decode cX0_run 60 = .ok (.iload 10, 2) := by decide +kernel
theorem dX0_run_62 : decode cX0_run 62 = .ok (.lload 8, 2) := by decide +kernel
theorem dX0_run_64 : decode cX0_run 64 = .ok (.aload_n 3, 1) := by decide +kernel
theorem dX0_run_65 : decode cX0_run 65 = .ok (.invokevirtual 69, 3) := by decide +kernel
theorem dX0_run_68 : decode cX0_run 68 = .ok (.iinc 10 1, 3) := by decide +kernel
theorem dX0_run_71 : decode cX0_run 71 = .ok (.goto (-21), 3) := by decide +kernel
theorem dX0_run_74 : decode cX0_run 74 = .ok (.aload_n 0, 1) := by decide +kernel
theorem dX0_run_75 : decode cX0_run 75 = .ok (.lload 8, 2) := by decide +kernel
theorem dX0_run_77 : decode cX0_run 77 = .ok (.iload_n 1, 1) := by decide +kernel
theorem dX0_run_78 : decode cX0_run 78 = .ok (.ifCond .ge 7, 3) := by decide +kernel
theorem dX0_run_81 : decode cX0_run 81 = .ok (.iconst 1, 1) := by decide +kernel
theorem dX0_run_82 : decode cX0_run 82 = .ok (.goto 4, 3) := by decide +kernel
theorem dX0_run_85 : decode cX0_run 85 = .ok (.iconst 0, 1) := by decide +kernel
theorem dX0_run_86 : decode cX0_run 86 = .ok (.iload_n 2, 1) := by decide +kernel
theorem dX0_run_87 : decode cX0_run 87 = .ok (.ifCond .ge 7, 3) := by decide +kernel
theorem dX0_run_90 : decode cX0_run 90 = .ok (.iconst 1, 1) := by decide +kernel
theorem dX0_run_91 : decode cX0_run 91 = .ok (.goto 4, 3) := by decide +kernel
theorem dX0_run_94 : decode cX0_run 94 = .ok (.iconst 0, 1) := by decide +kernel
theorem dX0_run_95 : decode cX0_run 95 = .ok (.if_icmp .eq 7, 3) := by decide +kernel
theorem dX0_run_98 : decode cX0_run 98 = .ok (.iconst 1, 1) := by decide +kernel
theorem dX0_run_99 : decode cX0_run 99 = .ok (.goto 4, 3) := by decide +kernel
theorem dX0_run_102 : decode cX0_run 102 = .ok (.iconst 0, 1) := by decide +kernel
theorem dX0_run_103 : decode cX0_run 103 = .ok (.iload_n 1, 1) := by decide +kernel
theorem dX0_run_104 : decode cX0_run 104 = .ok (.ifCond .ge 7, 3) := by decide +kernel
theorem dX0_run_107 : decode cX0_run 107 = .ok (.iconst 1, 1) := by decide +kernel
theorem dX0_run_108 : decode cX0_run 108 = .ok (.goto 4, 3) := by decide +kernel
theorem dX0_run_111 : decode cX0_run 111 = .ok (.iconst 0, 1) := by decide +kernel
theorem dX0_run_112 : decode cX0_run 112 = .ok (.invokevirtual 73, 3) := by decide +kernel
theorem dX0_run_115 : decode cX0_run 115 = .ok (.return_, 1) := by decide +kernel
theorem dX0_clear_0 : decode cX0_clear 0 = .ok (.aload_n 0, 1) := by decide +kernel
theorem dX0_clear_1 : decode cX0_clear 1 = .ok (.getfield 18, 3) := by decide +kernel
theorem dX0_clear_4 : decode cX0_clear 4 = .ok (.iconst 0, 1) := by decide +kernel
theorem dX0_clear_5 : decode cX0_clear 5 = .ok (.lconst 0, 1) := by decide +kernel
theorem dX0_clear_6 : decode cX0_clear 6 = .ok (.lastore, 1) := by decide +kernel
theorem dX0_clear_7 : decode cX0_clear 7 = .ok (.aload_n 0, 1) := by decide +kernel
theorem dX0_clear_8 : decode cX0_clear 8 = .ok (.getfield 22, 3) := by decide +kernel
theorem dX0_clear_11 : decode cX0_clear 11 = .ok (.iconst 0, 1) := by decide +kernel
theorem dX0_clear_12 : decode cX0_clear 12 = .ok (.lconst 0, 1) := by decide +kernel
theorem dX0_clear_13 : decode cX0_clear 13 = .ok (.lastore, 1) := by decide +kernel
theorem dX0_clear_14 : decode cX0_clear 14 = .ok (.aload_n 0, 1) := by decide +kernel
theorem dX0_clear_15 : decode cX0_clear 15 = .ok (.getfield 25, 3) := by decide +kernel
theorem dX0_clear_18 : decode cX0_clear 18 = .ok (.iconst 0, 1) := by decide +kernel
theorem dX0_clear_19 : decode cX0_clear 19 = .ok (.lconst 0, 1) := by decide +kernel
theorem dX0_clear_20 : decode cX0_clear 20 = .ok (.lastore, 1) := by decide +kernel
theorem dX0_clear_21 : decode cX0_clear 21 = .ok (.aload_n 0, 1) := by decide +kernel
theorem dX0_clear_22 : decode cX0_clear 22 = .ok (.getfield 28, 3) := by decide +kernel
theorem dX0_clear_25 : decode cX0_clear 25 = .ok (.iconst 0, 1) := by decide +kernel
theorem dX0_clear_26 : decode cX0_clear 26 = .ok (.ldc2_w 77, 3) := by decide +kernel
theorem dX0_clear_29 : decode cX0_clear 29 = .ok (.lastore, 1) := by decide +kernel
theorem dX0_clear_30 : decode cX0_clear 30 = .ok (.aload_n 0, 1) := by decide +kernel
theorem dX0_clear_31 : decode cX0_clear 31 = .ok (.iconst 0, 1) := by decide +kernel
theorem dX0_clear_32 : decode cX0_clear 32 = .ok (.putfield 31, 3) := by decide +kernel
theorem dX0_clear_35 : decode cX0_clear 35 = .ok (.aload_n 0, 1) := by decide +kernel
theorem dX0_clear_36 : decode cX0_clear 36 = .ok (.iconst 0, 1) := by decide +kernel
theorem dX0_clear_37 : decode cX0_clear 37 = .ok (.putfield 35, 3) := by decide +kernel
theorem dX0_clear_40 : decode cX0_clear 40 = .ok (.aload_n 0, 1) := by decide +kernel
theorem dX0_clear_41 : decode cX0_clear 41 = .ok (.iconst 0, 1) := by decide +kernel
theorem dX0_clear_42 : decode cX0_clear 42 = .ok (.putfield 38, 3) := by decide +kernel
theorem dX0_clear_45 : decode cX0_clear 45 = .ok (.aload_n 0, 1) := by decide +kernel
theorem dX0_clear_46 : decode cX0_clear 46 = .ok (.iconst 0, 1) := by decide +kernel
theorem dX0_clear_47 : decode cX0_clear 47 = .ok (.putfield 41, 3) := by decide +kernel
theorem dX0_clear_50 : decode cX0_clear 50 = .ok (.aload_n 0, 1) := by decide +kernel
theorem dX0_clear_51 : decode cX0_clear 51 = .ok (.iconst 0, 1) := by decide +kernel
theorem dX0_clear_52 : decode cX0_clear 52 = .ok (.putfield 44, 3) := by decide +kernel
theorem dX0_clear_55 : decode cX0_clear 55 = .ok (.aload_n 0, 1) := by decide +kernel
theorem dX0_clear_56 : decode cX0_clear 56 = .ok (.iconst 0, 1) := by decide +kernel
theorem dX0_clear_57 : decode cX0_clear 57 = .ok (.putfield 47, 3) := by decide +kernel
theorem dX0_clear_60 : decode cX0_clear 60 = .ok (.return_, 1) := by decide +kernel
set_option maxRecDepth 20000 in
theorem ggX0_begin_X0_doublings : GoodIn wsX0_begin wsX0_doublings := goodIn_r _ [14, 15] (by decide +kernel) (by decide +kernel)
set_option maxRecDepth 20000 in
theorem gX0_begin_X0_doublings : GoodIn wsX0_begin (va_wsS RX0 79 yX0_doublings wsX0_doublings) := goodIn_app (goodIn_of _ (by decide +kernel)) ggX0_begin_X0_doublings
theorem dX0_begin_0 : decode cX0_begin 0 = .ok (.aload_n 0, 1) := by decide +kernel
theorem dX0_begin_1 : decode cX0_begin 1 = .ok (.lload_n 1, 1) := by decide +kernel
theorem dX0_begin_2 : decode cX0_begin 2 = .ok (.invokestatic 79, 3) := by decide +kernel
theorem dX0_begin_5 : decode cX0_begin 5 = .ok (.putfield 35, 3) := by decide +kernel
theorem dX0_begin_8 : decode cX0_begin 8 = .ok (.aload_n 0, 1) := by decide +kernel
theorem dX0_begin_9 : decode cX0_begin 9 = .ok (.lload_n 3, 1) := by decide +kernel
theorem dX0_begin_10 : decode cX0_begin 10 = .ok (.invokestatic 79, 3) := by decide +kernel
theorem dX0_begin_13 : decode cX0_begin 13 = .ok (.putfield 38, 3) := by decide +kernel
theorem dX0_begin_16 : decode cX0_begin 16 = .ok (.aload_n 0, 1) := by decide +kernel
theorem dX0_begin_17 : decode cX0_begin 17 = .ok (.getfield 38, 3) := by decide +kernel
theorem dX0_begin_20 : decode cX0_begin 20 = .ok (.aload_n 0, 1) := by decide +kernel
theorem dX0_begin_21 : decode cX0_begin 21 = .ok (.getfield 35, 3) := by decide +kernel
theorem dX0_begin_24 : decode cX0_begin 24 = .ok (.isub, 1) := by decide +kernel
theorem dX0_begin_25 : decode cX0_begin 25 = .ok (.istore 5, 2) := by decide +kernel
theorem dX0_begin_27 : decode cX0_begin 27 = .ok (.iload 5, 2) := by decide +kernel
theorem dX0_begin_29 : decode cX0_begin 29 = .ok (.iconst 2, 1) := by decide +kernel
theorem dX0_begin_30 : decode cX0_begin 30 = .ok (.irem, 1) := by decide +kernel
theorem dX0_begin_31 : decode cX0_begin 31 = .ok (.ifCond .ne 7, 3) := by decide +kernel
theorem dX0_begin_34 : decode cX0_begin 34 = .ok (.iconst 2, 1) := by decide +kernel
theorem dX0_begin_35 : decode cX0_begin 35 = .ok (.goto 4, 3) := by decide +kernel
theorem dX0_begin_38 : decode cX0_begin 38 = .ok (.iconst 3, 1) := by decide +kernel
theorem dX0_begin_39 : decode cX0_begin 39 = .ok (.istore 6, 2) := by decide +kernel
theorem dX0_begin_41 : decode cX0_begin 41 = .ok (.aload_n 0, 1) := by decide +kernel
theorem dX0_begin_42 : decode cX0_begin 42 = .ok (.iload 5, 2) := by decide +kernel
theorem dX0_begin_44 : decode cX0_begin 44 = .ok (.iload 6, 2) := by decide +kernel
theorem dX0_begin_46 : decode cX0_begin 46 = .ok (.iadd, 1) := by decide +kernel
theorem dX0_begin_47 : decode cX0_begin 47 = .ok (.iconst 2, 1) := by decide +kernel
theorem dX0_begin_48 : decode cX0_begin 48 = .ok (.idiv, 1) := by decide +kernel
theorem dX0_begin_49 : decode cX0_begin 49 = .ok (.bipush 17, 2) := by decide +kernel
theorem dX0_begin_51 : decode cX0_begin 51 = .ok (.invokestatic 83, 3) := by decide +kernel
theorem dX0_begin_54 : decode cX0_begin 54 = .ok (.putfield 41, 3) := by decide +kernel
theorem dX0_begin_57 : decode cX0_begin 57 = .ok (.lload_n 3, 1) := by decide +kernel
theorem dX0_begin_58 : decode cX0_begin 58 = .ok (.aload_n 0, 1) := by decide +kernel
theorem dX0_begin_59 : decode cX0_begin 59 = .ok (.getfield 38, 3) := by decide +kernel
theorem dX0_begin_62 : decode cX0_begin 62 = .ok (.lshl, 1) := by decide +kernel
theorem dX0_begin_63 : decode cX0_begin 63 = .ok (.lstore 7, 2) := by decide +kernel
theorem dX0_begin_65 : decode cX0_begin 65 = .ok (.aload_n 0, 1) := by decide +kernel
theorem dX0_begin_66 : decode cX0_begin 66 = .ok (.lload 7, 2) := by decide +kernel
theorem dX0_begin_68 : decode cX0_begin 68 = .ok (.bipush 27, 2) := by decide +kernel
theorem dX0_begin_70 : decode cX0_begin 70 = .ok (.lshr, 1) := by decide +kernel
theorem dX0_begin_71 : decode cX0_begin 71 = .ok (.l2i, 1) := by decide +kernel
theorem dX0_begin_72 : decode cX0_begin 72 = .ok (.bipush 15, 2) := by decide +kernel
theorem dX0_begin_74 : decode cX0_begin 74 = .ok (.iand, 1) := by decide +kernel
theorem dX0_begin_75 : decode cX0_begin 75 = .ok (.putfield 31, 3) := by decide +kernel
theorem dX0_begin_78 : decode cX0_begin 78 = .ok (.aload_n 0, 1) := by decide +kernel
theorem dX0_begin_79 : decode cX0_begin 79 = .ok (.getfield 18, 3) := by decide +kernel
theorem dX0_begin_82 : decode cX0_begin 82 = .ok (.iconst 0, 1) := by decide +kernel
theorem dX0_begin_83 : decode cX0_begin 83 = .ok (.lload_n 1, 1) := by decide +kernel
theorem dX0_begin_84 : decode cX0_begin 84 = .ok (.aload_n 0, 1) := by decide +kernel
theorem dX0_begin_85 : decode cX0_begin 85 = .ok (.getfield 35, 3) := by decide +kernel
theorem dX0_begin_88 : decode cX0_begin 88 = .ok (.lshl, 1) := by decide +kernel
theorem dX0_begin_89 : decode cX0_begin 89 = .ok (.ldc2_w 87, 3) := by decide +kernel
theorem dX0_begin_92 : decode cX0_begin 92 = .ok (.lmul, 1) := by decide +kernel
theorem dX0_begin_93 : decode cX0_begin 93 = .ok (.iload 6, 2) := by decide +kernel
theorem dX0_begin_95 : decode cX0_begin 95 = .ok (.lshr, 1) := by decide +kernel
theorem dX0_begin_96 : decode cX0_begin 96 = .ok (.lastore, 1) := by decide +kernel
theorem dX0_begin_97 : decode cX0_begin 97 = .ok (.lload 7, 2) := by decide +kernel
theorem dX0_begin_99 : decode cX0_begin 99 = .ok (.lreturn, 1) := by decide +kernel
theorem dX0_doublings_0 : decode cX0_doublings 0 = .ok (.iconst 0, 1) := by decide +kernel
theorem dX0_doublings_1 : decode cX0_doublings 1 = .ok (.istore_n 2, 1) := by decide +kernel
theorem dX0_doublings_2 : decode cX0_doublings 2 = .ok (.iload_n 2, 1) := by decide +kernel
theorem dX0_doublings_3 : decode cX0_doublings 3 = .ok (.bipush 31, 2) := by decide +kernel
theorem dX0_doublings_5 : decode cX0_doublings 5 = .ok (.if_icmp .ge 21, 3) := by decide +kernel
theorem dX0_doublings_8 : decode cX0_doublings 8 = .ok (.lload_n 0, 1) := by decide +kernel
theorem dX0_doublings_9 : decode cX0_doublings 9 = .ok (.iload_n 2, 1) := by decide +kernel
theorem dX0_doublings_10 : decode cX0_doublings 10 = .ok (.iconst 1, 1) := by decide +kernel
theorem dX0_doublings_11 : decode cX0_doublings 11 = .ok (.iadd, 1) := by decide +kernel
theorem dX0_doublings_12 : decode cX0_doublings 12 = .ok (.lshl, 1) := by decide +kernel
theorem dX0_doublings_13 : decode cX0_doublings 13 = .ok (.ldc2_w 89, 3) := by decide +kernel
theorem dX0_doublings_16 : decode cX0_doublings 16 = .ok (.lcmp, 1) := by decide +kernel
theorem dX0_doublings_17 : decode cX0_doublings 17 = .ok (.ifCond .ge 9, 3) := by decide +kernel
theorem dX0_doublings_20 : decode cX0_doublings 20 = .ok (.iinc 2 1, 3) := by decide +kernel
theorem dX0_doublings_23 : decode cX0_doublings 23 = .ok (.goto (-21), 3) := by decide +kernel
theorem dX0_doublings_26 : decode cX0_doublings 26 = .ok (.iload_n 2, 1) := by decide +kernel
theorem dX0_doublings_27 : decode cX0_doublings 27 = .ok (.ireturn, 1) := by decide +kernel
set_option maxRecDepth 20000 in
theorem ggX0_takeDigit_X1_cellAt : GoodIn wsX0_takeDigit wsX1_cellAt := goodIn_r _ [22] (by decide +kernel) (by decide +kernel)
set_option maxRecDepth 20000 in
theorem gX0_takeDigit_X1_cellAt_n94 : GoodIn wsX0_takeDigit (wsX1_cellAt) := ggX0_takeDigit_X1_cellAt
set_option maxRecDepth 20000 in
theorem ggX0_takeDigit_X0_writeQuotient : GoodIn wsX0_takeDigit wsX0_writeQuotient := goodIn_r _ [27, 28, 29, 30, 15, 31, 32, 33, 34, 35, 36, 37, 38, 39, 40, 41, 42, 43, 44] (by decide +kernel) (by decide +kernel)
set_option maxRecDepth 20000 in
theorem gX0_takeDigit_X0_writeQuotient : GoodIn wsX0_takeDigit (wsV RX0 97 RX0 yX0_writeQuotient wsX0_writeQuotient) := goodIn_app (goodIn_of _ (by decide +kernel)) ggX0_takeDigit_X0_writeQuotient
theorem dX0_takeDigit_0 : decode cX0_takeDigit 0 = .ok (.aload_n 0, 1) := by decide +kernel
theorem dX0_takeDigit_1 : decode cX0_takeDigit 1 = .ok (.getfield 18, 3) := by decide +kernel
theorem dX0_takeDigit_4 : decode cX0_takeDigit 4 = .ok (.iload_n 1, 1) := by decide +kernel
theorem dX0_takeDigit_5 : decode cX0_takeDigit 5 = .ok (.iconst 1, 1) := by decide +kernel
theorem dX0_takeDigit_6 : decode cX0_takeDigit 6 = .ok (.isub, 1) := by decide +kernel
theorem dX0_takeDigit_7 : decode cX0_takeDigit 7 = .ok (.laload, 1) := by decide +kernel
theorem dX0_takeDigit_8 : decode cX0_takeDigit 8 = .ok (.iconst 2, 1) := by decide +kernel
theorem dX0_takeDigit_9 : decode cX0_takeDigit 9 = .ok (.lshl, 1) := by decide +kernel
theorem dX0_takeDigit_10 : decode cX0_takeDigit 10 = .ok (.lstore 5, 2) := by decide +kernel
theorem dX0_takeDigit_12 : decode cX0_takeDigit 12 = .ok (.aload_n 0, 1) := by decide +kernel
theorem dX0_takeDigit_13 : decode cX0_takeDigit 13 = .ok (.getfield 22, 3) := by decide +kernel
theorem dX0_takeDigit_16 : decode cX0_takeDigit 16 = .ok (.iload_n 1, 1) := by decide +kernel
theorem dX0_takeDigit_17 : decode cX0_takeDigit 17 = .ok (.iconst 1, 1) := by decide +kernel
theorem dX0_takeDigit_18 : decode cX0_takeDigit 18 = .ok (.isub, 1) := by decide +kernel
theorem dX0_takeDigit_19 : decode cX0_takeDigit 19 = .ok (.laload, 1) := by decide +kernel
theorem dX0_takeDigit_20 : decode cX0_takeDigit 20 = .ok (.iconst 2, 1) := by decide +kernel
theorem dX0_takeDigit_21 : decode cX0_takeDigit 21 = .ok (.lshl, 1) := by decide +kernel
theorem dX0_takeDigit_22 : decode cX0_takeDigit 22 = .ok (.lstore 7, 2) := by decide +kernel
theorem dX0_takeDigit_24 : decode cX0_takeDigit 24 = .ok (.lload 5, 2) := by decide +kernel
theorem dX0_takeDigit_26 : decode cX0_takeDigit 26 = .ok (.bipush 31, 2) := by decide +kernel
theorem dX0_takeDigit_28 : decode cX0_takeDigit 28 = .ok (.lshr, 1) := by decide +kernel
theorem dX0_takeDigit_29 : decode cX0_takeDigit 29 = .ok (.lload 7, 2) := by decide +kernel
theorem dX0_takeDigit_31 : decode cX0_takeDigit 31 = .ok (.bipush 31, 2) := by decide +kernel
theorem dX0_takeDigit_33 : decode cX0_takeDigit 33 = .ok (.lshr, 1) := by decide +kernel
theorem dX0_takeDigit_34 : decode cX0_takeDigit 34 = .ok (.ladd, 1) := by decide +kernel
theorem dX0_takeDigit_35 : decode cX0_takeDigit 35 = .ok (.l2i, 1) := by decide +kernel
theorem dX0_takeDigit_36 : decode cX0_takeDigit 36 = .ok (.istore 9, 2) := by decide +kernel
theorem dX0_takeDigit_38 : decode cX0_takeDigit 38 = .ok (.bipush (-64), 2) := by decide +kernel
theorem dX0_takeDigit_40 : decode cX0_takeDigit 40 = .ok (.bipush 63, 2) := by decide +kernel
theorem dX0_takeDigit_42 : decode cX0_takeDigit 42 = .ok (.iload 9, 2) := by decide +kernel
theorem dX0_takeDigit_44 : decode cX0_takeDigit 44 = .ok (.invokestatic 83, 3) := by decide +kernel
theorem dX0_takeDigit_47 : decode cX0_takeDigit 47 = .ok (.invokestatic 91, 3) := by decide +kernel
theorem dX0_takeDigit_50 : decode cX0_takeDigit 50 = .ok (.istore 10, 2) := by decide +kernel
theorem dX0_takeDigit_52 : decode cX0_takeDigit 52 = .ok (.aload 4, 2) := by decide +kernel
theorem dX0_takeDigit_54 : decode cX0_takeDigit 54 = .ok (.aload_n 0, 1) := by decide +kernel
theorem dX0_takeDigit_55 : decode cX0_takeDigit 55 = .ok (.getfield 31, 3) := by decide +kernel
theorem dX0_takeDigit_58 : decode cX0_takeDigit 58 = .ok (.iload 10, 2) := by decide +kernel
theorem dX0_takeDigit_60 : decode cX0_takeDigit 60 = .ok (.invokestatic 94, 3) := by decide +kernel
theorem dX0_takeDigit_63 : decode cX0_takeDigit 63 = .ok (.iaload, 1) := by decide +kernel
theorem dX0_takeDigit_64 : decode cX0_takeDigit 64 = .ok (.istore 11, 2) := by decide +kernel
theorem dX0_takeDigit_66 : decode cX0_takeDigit 66 = .ok (.bipush (-8), 2) := by decide +kernel
theorem dX0_takeDigit_68 : decode cX0_takeDigit 68 = .ok (.iload 11, 2) := by decide +kernel
theorem dX0_takeDigit_70 : decode cX0_takeDigit 70 = .ok (.imul, 1) := by decide +kernel
theorem dX0_takeDigit_71 : decode cX0_takeDigit 71 = .ok (.i2l, 1) := by decide +kernel
theorem dX0_takeDigit_72 : decode cX0_takeDigit 72 = .ok (.lload_n 2, 1) := by decide +kernel
theorem dX0_takeDigit_73 : decode cX0_takeDigit 73 = .ok (.lmul, 1) := by decide +kernel
theorem dX0_takeDigit_74 : decode cX0_takeDigit 74 = .ok (.lstore 12, 2) := by decide +kernel
theorem dX0_takeDigit_76 : decode cX0_takeDigit 76 = .ok (.aload_n 0, 1) := by decide +kernel
theorem dX0_takeDigit_77 : decode cX0_takeDigit 77 = .ok (.getfield 15, 3) := by decide +kernel
theorem dX0_takeDigit_80 : decode cX0_takeDigit 80 = .ok (.iload_n 1, 1) := by decide +kernel
theorem dX0_takeDigit_81 : decode cX0_takeDigit 81 = .ok (.iload 9, 2) := by decide +kernel
theorem dX0_takeDigit_83 : decode cX0_takeDigit 83 = .ok (.iastore, 1) := by decide +kernel
theorem dX0_takeDigit_84 : decode cX0_takeDigit 84 = .ok (.aload_n 0, 1) := by decide +kernel
theorem dX0_takeDigit_85 : decode cX0_takeDigit 85 = .ok (.getfield 11, 3) := by decide +kernel
theorem dX0_takeDigit_88 : decode cX0_takeDigit 88 = .ok (.iload_n 1, 1) := by decide +kernel
theorem dX0_takeDigit_89 : decode cX0_takeDigit 89 = .ok (.iload 11, 2) := by decide +kernel
theorem dX0_takeDigit_91 : decode cX0_takeDigit 91 = .ok (.iastore, 1) := by decide +kernel
theorem dX0_takeDigit_92 : decode cX0_takeDigit 92 = .ok (.aload_n 0, 1) := by decide +kernel
theorem dX0_takeDigit_93 : decode cX0_takeDigit 93 = .ok (.getfield 18, 3) := by decide +kernel
theorem dX0_takeDigit_96 : decode cX0_takeDigit 96 = .ok (.iload_n 1, 1) := by decide +kernel
theorem dX0_takeDigit_97 : decode cX0_takeDigit 97 = .ok (.lload 5, 2) := by decide +kernel
theorem dX0_takeDigit_99 : decode cX0_takeDigit 99 = .ok (.lload 7, 2) := by decide +kernel
theorem dX0_takeDigit_101 : decode cX0_takeDigit 101 = .ok (.lxor, 1) := by decide +kernel
theorem dX0_takeDigit_102 : decode cX0_takeDigit 102 = .ok (.lload 12, 2) := by decide +kernel
theorem dX0_takeDigit_104 : decode cX0_takeDigit 104 = .ok (.lxor, 1) := by decide +kernel
theorem dX0_takeDigit_105 : decode cX0_takeDigit 105 = .ok (.lastore, 1) := by decide +kernel
theorem dX0_takeDigit_106 : decode cX0_takeDigit 106 = .ok (.aload_n 0, 1) := by decide +kernel
theorem dX0_takeDigit_107 : decode cX0_takeDigit 107 = .ok (.getfield 22, 3) := by decide +kernel
theorem dX0_takeDigit_110 : decode cX0_takeDigit 110 = .ok (.iload_n 1, 1) := by decide +kernel
theorem dX0_takeDigit_111 : decode cX0_takeDigit 111 = .ok (.lload 5, 2) := by decide +kernel
theorem dX0_takeDigit_113 : decode cX0_takeDigit 113 = .ok (.lload 7, 2) := by decide +kernel
theorem dX0_takeDigit_115 : decode cX0_takeDigit 115 = .ok (.land, 1) := by decide +kernel
theorem dX0_takeDigit_116 : decode cX0_takeDigit 116 = .ok (.lload 5, 2) := by decide +kernel
theorem dX0_takeDigit_118 : decode cX0_takeDigit 118 = .ok (.lload 12, 2) := by decide +kernel
theorem dX0_takeDigit_120 : decode cX0_takeDigit 120 = .ok (.land, 1) := by decide +kernel
theorem dX0_takeDigit_121 : decode cX0_takeDigit 121 = .ok (.lor, 1) := by decide +kernel
theorem dX0_takeDigit_122 : decode cX0_takeDigit 122 = .ok (.lload 7, 2) := by decide +kernel
theorem dX0_takeDigit_124 : decode cX0_takeDigit 124 = .ok (.lload 12, 2) := by decide +kernel
theorem dX0_takeDigit_126 : decode cX0_takeDigit 126 = .ok (.land, 1) := by decide +kernel
theorem dX0_takeDigit_127 : decode cX0_takeDigit 127 = .ok (.lor, 1) := by decide +kernel
theorem dX0_takeDigit_128 : decode cX0_takeDigit 128 = .ok (.iconst 1, 1) := by decide +kernel
theorem dX0_takeDigit_129 : decode cX0_takeDigit 129 = .ok (.lshl, 1) := by decide +kernel
theorem dX0_takeDigit_130 : decode cX0_takeDigit 130 = .ok (.lastore, 1) := by decide +kernel
theorem dX0_takeDigit_131 : decode cX0_takeDigit 131 = .ok (.aload_n 0, 1) := by decide +kernel
theorem dX0_takeDigit_132 : decode cX0_takeDigit 132 = .ok (.iload_n 1, 1) := by decide +kernel
theorem dX0_takeDigit_133 : decode cX0_takeDigit 133 = .ok (.iload 11, 2) := by decide +kernel
theorem dX0_takeDigit_135 : decode cX0_takeDigit 135 = .ok (.invokevirtual 97, 3) := by decide +kernel
theorem dX0_takeDigit_138 : decode cX0_takeDigit 138 = .ok (.iload 11, 2) := by decide +kernel
theorem dX0_takeDigit_140 : decode cX0_takeDigit 140 = .ok (.ifCond .eq 13, 3) := by decide +kernel
theorem dX0_takeDigit_143 : decode cX0_takeDigit 143 = .ok (.aload_n 0, 1) := by decide +kernel
theorem dX0_takeDigit_144 : decode cX0_takeDigit 144 = .ok (.dup, 1) := by decide +kernel
theorem dX0_takeDigit_145 : decode cX0_takeDigit 145 = .ok (.getfield 44, 3) := by decide +kernel
theorem dX0_takeDigit_148 : decode cX0_takeDigit 148 = .ok (.iconst 1, 1) := by decide +kernel
theorem dX0_takeDigit_149 : decode cX0_takeDigit 149 = .ok (.iadd, 1) := by decide +kernel
theorem dX0_takeDigit_150 : decode cX0_takeDigit 150 = .ok (.putfield 44, 3) := by decide +kernel
theorem dX0_takeDigit_153 : decode cX0_takeDigit 153 = .ok (.aload_n 0, 1) := by decide +kernel
theorem dX0_takeDigit_154 : decode cX0_takeDigit 154 = .ok (.getfield 47, 3) := by decide +kernel
theorem dX0_takeDigit_157 : decode cX0_takeDigit 157 = .ok (.ifCond .ne 37, 3) := by decide +kernel
theorem dX0_takeDigit_160 : decode cX0_takeDigit 160 = .ok (.ldc2_w 101, 3) := by decide +kernel
theorem dX0_takeDigit_163 : decode cX0_takeDigit 163 = .ok (.aload_n 0, 1) := by decide +kernel
theorem dX0_takeDigit_164 : decode cX0_takeDigit 164 = .ok (.getfield 18, 3) := by decide +kernel
theorem dX0_takeDigit_167 : decode cX0_takeDigit 167 = .ok (.iload_n 1, 1) := by decide +kernel
theorem dX0_takeDigit_168 : decode cX0_takeDigit 168 = .ok (.laload, 1) := by decide +kernel
theorem dX0_takeDigit_169 : decode cX0_takeDigit 169 = .ok (.aload_n 0, 1) := by decide +kernel
theorem dX0_takeDigit_170 : decode cX0_takeDigit 170 = .ok (.getfield 22, 3) := by decide +kernel
theorem dX0_takeDigit_173 : decode cX0_takeDigit 173 = .ok (.iload_n 1, 1) := by decide +kernel
theorem dX0_takeDigit_174 : decode cX0_takeDigit 174 = .ok (.laload, 1) := by decide +kernel
theorem dX0_takeDigit_175 : decode cX0_takeDigit 175 = .ok (.ladd, 1) := by decide +kernel
theorem dX0_takeDigit_176 : decode cX0_takeDigit 176 = .ok (.invokestatic 56, 3) := by decide +kernel
theorem dX0_takeDigit_179 : decode cX0_takeDigit 179 = .ok (.lmul, 1) := by decide +kernel
theorem dX0_takeDigit_180 : decode cX0_takeDigit 180 = .ok (.ldc2_w 103, 3) := by decide +kernel
theorem dX0_takeDigit_183 : decode cX0_takeDigit 183 = .ok (.lload_n 2, 1) := by decide +kernel
theorem dX0_takeDigit_184 : decode cX0_takeDigit 184 = .ok (.lmul, 1) := by decide +kernel
theorem dX0_takeDigit_185 : decode cX0_takeDigit 185 = .ok (.lcmp, 1) := by decide +kernel
theorem dX0_takeDigit_186 : decode cX0_takeDigit 186 = .ok (.ifCond .le 8, 3) := by decide +kernel
theorem dX0_takeDigit_189 : decode cX0_takeDigit 189 = .ok (.aload_n 0, 1) := by decide +kernel
theorem dX0_takeDigit_190 : decode cX0_takeDigit 190 = .ok (.iload_n 1, 1) := by decide +kernel
theorem dX0_takeDigit_191 : decode cX0_takeDigit 191 = .ok (.putfield 47, 3) := by decide +kernel
theorem dX0_takeDigit_194 : decode cX0_takeDigit 194 = .ok (.return_, 1) := by decide +kernel
theorem dX0_writeQuotient_0 : decode cX0_writeQuotient 0 = .ok (.aload_n 0, 1) := by decide +kernel
theorem dX0_writeQuotient_1 : decode cX0_writeQuotient 1 = .ok (.getfield 25, 3) := by decide +kernel
theorem dX0_writeQuotient_4 : decode cX0_writeQuotient 4 = .ok (.iload_n 1, 1) := by decide +kernel
theorem dX0_writeQuotient_5 : decode cX0_writeQuotient 5 = .ok (.iconst 1, 1) := by decide +kernel
theorem dX0_writeQuotient_6 : decode cX0_writeQuotient 6 = .ok (.isub, 1) := by decide +kernel
theorem dX0_writeQuotient_7 : decode cX0_writeQuotient 7 = .ok (.laload, 1) := by decide +kernel
theorem dX0_writeQuotient_8 : decode cX0_writeQuotient 8 = .ok (.lstore_n 3, 1) := by decide +kernel
theorem dX0_writeQuotient_9 : decode cX0_writeQuotient 9 = .ok (.aload_n 0, 1) := by decide +kernel
theorem dX0_writeQuotient_10 : decode cX0_writeQuotient 10 = .ok (.getfield 28, 3) := by decide +kernel
theorem dX0_writeQuotient_13 : decode cX0_writeQuotient 13 = .ok (.iload_n 1, 1) := by decide +kernel
theorem dX0_writeQuotient_14 : decode cX0_writeQuotient 14 = .ok (.iconst 1, 1) := by decide +kernel
theorem dX0_writeQuotient_15 : decode cX0_writeQuotient 15 = .ok (.isub, 1) := by decide +kernel
theorem dX0_writeQuotient_16 : decode cX0_writeQuotient 16 = .ok (.laload, 1) := by decide +kernel
theorem dX0_writeQuotient_17 : decode cX0_writeQuotient 17 = .ok (.lstore 5, 2) := by decide +kernel
theorem dX0_writeQuotient_19 : decode cX0_writeQuotient 19 = .ok (.aload_n 0, 1) := by decide +kernel
theorem dX0_writeQuotient_20 : decode cX0_writeQuotient 20 = .ok (.getfield 25, 3) := by decide +kernel
theorem dX0_writeQuotient_23 : decode cX0_writeQuotient 23 = .ok (.iload_n 1, 1) := by decide +kernel
theorem dX0_writeQuotient_24 : decode cX0_writeQuotient 24 = .ok (.iload_n 2, 1) := by decide +kernel
theorem dX0_writeQuotient_25 : decode cX0_writeQuotient 25 = .ok (.ifCond .lt 14, 3) := by decide +kernel
theorem dX0_writeQuotient_28 : decode cX0_writeQuotient 28 = .ok (.ldc2_w 105, 3) := by decide +kernel
theorem dX0_writeQuotient_31 : decode cX0_writeQuotient 31 = .ok (.lload_n 3, 1) := by decide +kernel
theorem dX0_writeQuotient_32 : decode cX0_writeQuotient 32 = .ok (.lmul, 1) := by decide +kernel
theorem dX0_writeQuotient_33 : decode cX0_writeQuotient 33 = .ok (.iload_n 2, 1) := by decide +kernel
theorem dX0_writeQuotient_34 : decode cX0_writeQuotient 34 = .ok (.i2l, 1) := by decide +kernel
theorem dX0_writeQuotient_35 : decode cX0_writeQuotient 35 = .ok (.ladd, 1) := by decide +kernel
theorem dX0_writeQuotient_36 : decode cX0_writeQuotient 36 = .ok (.goto 16, 3) := by decide +kernel
theorem dX0_writeQuotient_39 : decode cX0_writeQuotient 39 = .ok (.ldc2_w 105, 3) := by decide +kernel
theorem dX0_writeQuotient_42 : decode cX0_writeQuotient 42 = .ok (.lload 5, 2) := by decide +kernel
theorem dX0_writeQuotient_44 : decode cX0_writeQuotient 44 = .ok (.lmul, 1) := by decide +kernel
theorem dX0_writeQuotient_45 : decode cX0_writeQuotient 45 = .ok (.ldc2_w 105, 3) := by decide +kernel
theorem dX0_writeQuotient_48 : decode cX0_writeQuotient 48 = .ok (.ladd, 1) := by decide +kernel
theorem dX0_writeQuotient_49 : decode cX0_writeQuotient 49 = .ok (.iload_n 2, 1) := by decide +kernel
theorem dX0_writeQuotient_50 : decode cX0_writeQuotient 50 = .ok (.i2l, 1) := by decide +kernel
theorem dX0_writeQuotient_51 : decode cX0_writeQuotient 51 = .ok (.ladd, 1) := by decide +kernel
theorem dX0_writeQuotient_52 : decode cX0_writeQuotient 52 = .ok (.lastore, 1) := by decide +kernel
theorem dX0_writeQuotient_53 : decode cX0_writeQuotient 53 = .ok (.aload_n 0, 1) := by decide +kernel
theorem dX0_writeQuotient_54 : decode cX0_writeQuotient 54 = .ok (.getfield 28, 3) := by decide +kernel
theorem dX0_writeQuotient_57 : decode cX0_writeQuotient 57 = .ok (.iload_n 1, 1) := by decide +kernel
theorem dX0_writeQuotient_58 : decode cX0_writeQuotient 58 = .ok (.iload_n 2, 1) := by decide +kernel
theorem dX0_writeQuotient_59 : decode cX0_writeQuotient 59 = .ok (.ifCond .le 16, 3) := by decide +kernel
theorem dX0_writeQuotient_62 : decode cX0_writeQuotient 62 = .ok (.ldc2_w 105, 3) := by decide +kernel
theorem dX0_writeQuotient_65 : decode cX0_writeQuotient 65 = .ok (.lload_n 3, 1) := by decide +kernel
theorem dX0_writeQuotient_66 : decode cX0_writeQuotient 66 = .ok (.lmul, 1) := by decide +kernel
theorem dX0_writeQuotient_67 : decode cX0_writeQuotient 67 = .ok (.iload_n 2, 1) := by decide +kernel
theorem dX0_writeQuotient_68 : decode cX0_writeQuotient 68 = .ok (.i2l, 1) := by decide +kernel
theorem dX0_writeQuotient_69 : decode cX0_writeQuotient 69 = .ok (.ladd, 1) := by decide +kernel
theorem dX0_writeQuotient_70 : decode cX0_writeQuotient 70 = .ok (.lconst 1, 1) := by decide +kernel
theorem dX0_writeQuotient_71 : decode cX0_writeQuotient 71 = .ok (.lsub, 1) := by decide +kernel
theorem dX0_writeQuotient_72 : decode cX0_writeQuotient 72 = .ok (.goto 16, 3) := by decide +kernel
theorem dX0_writeQuotient_75 : decode cX0_writeQuotient 75 = .ok (.ldc2_w 105, 3) := by decide +kernel
theorem dX0_writeQuotient_78 : decode cX0_writeQuotient 78 = .ok (.lload 5, 2) := by decide +kernel
theorem dX0_writeQuotient_80 : decode cX0_writeQuotient 80 = .ok (.lmul, 1) := by decide +kernel
theorem dX0_writeQuotient_81 : decode cX0_writeQuotient 81 = .ok (.ldc2_w 101, 3) := by decide +kernel
theorem dX0_writeQuotient_84 : decode cX0_writeQuotient 84 = .ok (.ladd, 1) := by decide +kernel
theorem dX0_writeQuotient_85 : decode cX0_writeQuotient 85 = .ok (.iload_n 2, 1) := by decide +kernel
theorem dX0_writeQuotient_86 : decode cX0_writeQuotient 86 = .ok (.i2l, 1) := by decide +kernel
theorem dX0_writeQuotient_87 : decode cX0_writeQuotient 87 = .ok (.ladd, 1) := by decide +kernel
theorem dX0_writeQuotient_88 : decode cX0_writeQuotient 88 = .ok (.lastore, 1) := by decide +kernel
theorem dX0_writeQuotient_89 : decode cX0_writeQuotient 89 = .ok (.return_, 1) := by decide +kernel
theorem dX0_finish_0 : decode cX0_finish 0 = .ok (.aload_n 0, 1) := by decide +kernel
theorem dX0_finish_1 : decode cX0_finish 1 = .ok (.getfield 18, 3) := by decide +kernel
theorem dX0_finish_4 : decode cX0_finish 4 = .ok (.aload_n 0, 1) := by decide +kernel
theorem dX0_finish_5 : decode cX0_finish 5 = .ok (.getfield 41, 3) := by decide +kernel
theorem dX0_finish_8 : decode cX0_finish 8 = .ok (.laload, 1) := by decide +kernel
theorem dX0_finish_9 : decode cX0_finish 9 = .ok (.aload_n 0, 1) := by decide +kernel
theorem dX0_finish_10 : decode cX0_finish 10 = .ok (.getfield 22, 3) := by decide +kernel
theorem dX0_finish_13 : decode cX0_finish 13 = .ok (.aload_n 0, 1) := by decide +kernel
theorem dX0_finish_14 : decode cX0_finish 14 = .ok (.getfield 41, 3) := by decide +kernel
theorem dX0_finish_17 : decode cX0_finish 17 = .ok (.laload, 1) := by decide +kernel
theorem dX0_finish_18 : decode cX0_finish 18 = .ok (.ladd, 1) := by decide +kernel
theorem dX0_finish_19 : decode cX0_finish 19 = .ok (.lstore 5, 2) := by decide +kernel
theorem dX0_finish_21 : decode cX0_finish 21 = .ok (.lload 5, 2) := by decide +kernel
theorem dX0_finish_23 : decode cX0_finish 23 = .ok (.lconst 0, 1) := by decide +kernel
theorem dX0_finish_24 : decode cX0_finish 24 = .ok (.lcmp, 1) := by decide +kernel
theorem dX0_finish_25 : decode cX0_finish 25 = .ok (.ifCond .ge 15, 3) := by decide +kernel
theorem dX0_finish_28 : decode cX0_finish 28 = .ok (.aload_n 0, 1) := by decide +kernel
theorem dX0_finish_29 : decode cX0_finish 29 = .ok (.getfield 28, 3) := by decide +kernel
theorem dX0_finish_32 : decode cX0_finish 32 = .ok (.aload_n 0, 1) := by decide +kernel
theorem dX0_finish_33 : decode cX0_finish 33 = .ok (.getfield 41, 3) := by decide +kernel
theorem dX0_finish_36 : decode cX0_finish 36 = .ok (.laload, 1) := by decide +kernel
theorem dX0_finish_37 : decode cX0_finish 37 = .ok (.goto 12, 3) := by decide +kernel
theorem dX0_finish_40 : decode cX0_finish 40 = .ok (.aload_n 0, 1) := by decide +kernel
theorem dX0_finish_41 : decode cX0_finish 41 = .ok (.getfield 25, 3) := by decide +kernel
theorem dX0_finish_44 : decode cX0_finish 44 = .ok (.aload_n 0, 1) := by decide +kernel
theorem dX0_finish_45 : decode cX0_finish 45 = .ok (.getfield 41, 3) := by decide +kernel
theorem dX0_finish_48 : decode cX0_finish 48 = .ok (.laload, 1) := by decide +kernel
theorem dX0_finish_49 : decode cX0_finish 49 = .ok (.lstore 7, 2) := by decide +kernel
theorem dX0_finish_51 : decode cX0_finish 51 = .ok (.lload 5, 2) := by decide +kernel
theorem dX0_finish_53 : decode cX0_finish 53 = .ok (.lconst 0, 1) := by decide +kernel
theorem dX0_finish_54 : decode cX0_finish 54 = .ok (.lcmp, 1) := by decide +kernel
theorem dX0_finish_55 : decode cX0_finish 55 = .ok (.ifCond .ge 14, 3) := by decide +kernel
theorem dX0_finish_58 : decode cX0_finish 58 = .ok (.lload 5, 2) := by decide +kernel
theorem dX0_finish_60 : decode cX0_finish 60 = .ok (.ldc2_w 87, 3) := by decide +kernel
theorem dX0_finish_63 : decode cX0_finish 63 = .ok (.lload_n 1, 1) := by decide +kernel
theorem dX0_finish_64 : decode cX0_finish 64 = .ok (.lmul, 1) := by decide +kernel
theorem dX0_finish_65 : decode cX0_finish 65 = .ok (.ladd, 1) := by decide +kernel
theorem dX0_finish_66 : decode cX0_finish 66 = .ok (.goto 5, 3) := by decide +kernel
theorem dX0_finish_69 : decode cX0_finish 69 = .ok (.lload 5, 2) := by decide +kernel
theorem dX0_finish_71 : decode cX0_finish 71 = .ok (.ldc2_w 87, 3) := by decide +kernel
theorem dX0_finish_74 : decode cX0_finish 74 = .ok (.aload_n 0, 1) := by decide +kernel
theorem dX0_finish_75 : decode cX0_finish 75 = .ok (.getfield 38, 3) := by decide +kernel
theorem dX0_finish_78 : decode cX0_finish 78 = .ok (.lshl, 1) := by decide +kernel
theorem dX0_finish_79 : decode cX0_finish 79 = .ok (.ldiv, 1) := by decide +kernel
theorem dX0_finish_80 : decode cX0_finish 80 = .ok (.lstore 9, 2) := by decide +kernel
theorem dX0_finish_82 : decode cX0_finish 82 = .ok (.aload_n 0, 1) := by decide +kernel
theorem dX0_finish_83 : decode cX0_finish 83 = .ok (.iload_n 3, 1) := by decide +kernel
theorem dX0_finish_84 : decode cX0_finish 84 = .ok (.ifCond .eq 9, 3) := by decide +kernel
theorem dX0_finish_87 : decode cX0_finish 87 = .ok (.lload 7, 2) := by decide +kernel
theorem dX0_finish_89 : decode cX0_finish 89 = .ok (.lneg, 1) := by decide +kernel
theorem dX0_finish_90 : decode cX0_finish 90 = .ok (.goto 5, 3) := by decide +kernel
theorem dX0_finish_93 : decode cX0_finish 93 = .ok (.lload 7, 2) := by decide +kernel
theorem dX0_finish_95 : decode cX0_finish 95 = .ok (.l2i, 1) := by decide +kernel
theorem dX0_finish_96 : decode cX0_finish 96 = .ok (.putfield 50, 3) := by decide +kernel
theorem dX0_finish_99 : decode cX0_finish 99 = .ok (.aload_n 0, 1) := by decide +kernel
theorem dX0_finish_100 : decode cX0_finish 100 = .ok (.iload 4, 2) := by decide +kernel
theorem dX0_finish_102 : decode cX0_finish 102 = .ok (.ifCond .eq 9, 3) := by decide +kernel
theorem dX0_finish_105 : decode cX0_finish 105 = .ok (.lload 9, 2) := by decide +kernel
theorem dX0_finish_107 : decode cX0_finish 107 = .ok (.lneg, 1) := by decide +kernel
theorem dX0_finish_108 : decode cX0_finish 108 = .ok (.goto 5, 3) := by decide +kernel
theorem dX0_finish_111 : decode cX0_finish 111 = .ok (.lload 9, 2) := by decide +kernel
theorem dX0_finish_113 : decode cX0_finish 113 = .ok (.l2i, 1) := by decide +kernel
theorem dX0_finish_114 : decode cX0_finish 114 = .ok (.putfield 53, 3) := by decide +kernel
theorem dX0_finish_117 : decode cX0_finish 117 = .ok (.return_, 1) := by decide +kernel
end
section
set_option maxRecDepth 20000 in
theorem ggX1_init_X0_init : GoodIn wsX1_init wsX0_init := goodIn_r _ [15, 16, 2, 3, 5, 17, 18, 19, 20, 21, 22, 23, 24, 25, 26, 27, 28, 29, 30, 31, 66, 67, 68, 69, 70, 71, 72, 73, 74, 75, 76, 77, 78, 79] (by decide +kernel) (by decide +kernel)
set_option maxRecDepth 20000 in
theorem gX1_init_X0_init_n20 : GoodIn wsX1_init (wsX0_init) := ggX1_init_X0_init
set_option maxRecDepth 20000 in
theorem ggX1_init_X1_findGoodDigits : GoodIn wsX1_init wsX1_findGoodDigits := goodIn_r _ [35, 36, 37, 34, 38, 39, 40, 41, 42, 43, 44, 45, 46, 47, 48, 49, 50, 51] (by decide +kernel) (by decide +kernel)
set_option maxRecDepth 20000 in
theorem gX1_init_X1_findGoodDigits : GoodIn wsX1_init (va_wsS RX1 32 yX1_findGoodDigits wsX1_findGoodDigits) := goodIn_app (goodIn_of _ (by decide +kernel)) ggX1_init_X1_findGoodDigits
set_option maxRecDepth 20000 in
theorem ggX1_init_X1_madeDigit : GoodIn wsX1_init wsX1_madeDigit := goodIn_r _ [55, 56, 57, 58, 59, 34, 60, 7, 61, 62, 63, 64, 65] (by decide +kernel) (by decide +kernel)
set_option maxRecDepth 20000 in
theorem gX1_init_X1_madeDigit : GoodIn wsX1_init (wsV RX1 36 RX1 yX1_madeDigit wsX1_madeDigit) := goodIn_app (goodIn_of _ (by decide +kernel)) ggX1_init_X1_madeDigit
theorem dX1_init_0 : decode cX1_init 0 = .ok (.aload_n 0, 1) := by decide +kernel
theorem dX1_init_1 : decode cX1_init 1 = .ok (.invokespecial 3, 3) := by decide +kernel
theorem dX1_init_4 : decode cX1_init 4 = .ok (.aload_n 0, 1) := by decide +kernel
theorem dX1_init_5 : decode cX1_init 5 = .ok (.iconst 4, 1) := by decide +kernel
theorem dX1_init_6 : decode cX1_init 6 = .ok (.sipush 2048, 3) := by decide +kernel
theorem dX1_init_9 : decode cX1_init 9 = .ok (.multianewarray 9 2, 4) := by decide +kernel
theorem dX1_init_13 : decode cX1_init 13 = .ok (.putfield 11, 3) := by decide +kernel
theorem dX1_init_16 : decode cX1_init 16 = .ok (.aload_n 0, 1) := by decide +kernel
theorem dX1_init_17 : decode cX1_init 17 = .ok (.sipush 2048, 3) := by decide +kernel
theorem dX1_init_20 : decode cX1_init 20 = .ok (.newarray .int, 2) := by decide +kernel
theorem dX1_init_22 : decode cX1_init 22 = .ok (.putfield 14, 3) := by decide +kernel
theorem dX1_init_25 : decode cX1_init 25 = .ok (.aload_n 0, 1) := by decide +kernel
theorem dX1_init_26 : decode cX1_init 26 = .ok (.new 18, 3) := by decide +kernel
theorem dX1_init_29 : decode cX1_init 29 = .ok (.dup, 1) := by decide +kernel
theorem dX1_init_30 : decode cX1_init 30 = .ok (.invokespecial 20, 3) := by decide +kernel
theorem dX1_init_33 : decode cX1_init 33 = .ok (.putfield 21, 3) := by decide +kernel
theorem dX1_init_36 : decode cX1_init 36 = .ok (.aload_n 0, 1) := by decide +kernel
theorem dX1_init_37 : decode cX1_init 37 = .ok (.new 18, 3) := by decide +kernel
theorem dX1_init_40 : decode cX1_init 40 = .ok (.dup, 1) := by decide +kernel
theorem dX1_init_41 : decode cX1_init 41 = .ok (.invokespecial 20, 3) := by decide +kernel
theorem dX1_init_44 : decode cX1_init 44 = .ok (.putfield 25, 3) := by decide +kernel
theorem dX1_init_47 : decode cX1_init 47 = .ok (.aload_n 0, 1) := by decide +kernel
theorem dX1_init_48 : decode cX1_init 48 = .ok (.iconst 0, 1) := by decide +kernel
theorem dX1_init_49 : decode cX1_init 49 = .ok (.putfield 28, 3) := by decide +kernel
theorem dX1_init_52 : decode cX1_init 52 = .ok (.iconst 0, 1) := by decide +kernel
theorem dX1_init_53 : decode cX1_init 53 = .ok (.istore_n 1, 1) := by decide +kernel
theorem dX1_init_54 : decode cX1_init 54 = .ok (.iload_n 1, 1) := by decide +kernel
theorem dX1_init_55 : decode cX1_init 55 = .ok (.sipush 2048, 3) := by decide +kernel
theorem dX1_init_58 : decode cX1_init 58 = .ok (.if_icmp .ge 59, 3) := by decide +kernel
theorem dX1_init_61 : decode cX1_init 61 = .ok (.aload_n 0, 1) := by decide +kernel
theorem dX1_init_62 : decode cX1_init 62 = .ok (.getfield 14, 3) := by decide +kernel
theorem dX1_init_65 : decode cX1_init 65 = .ok (.iload_n 1, 1) := by decide +kernel
theorem dX1_init_66 : decode cX1_init 66 = .ok (.iload_n 1, 1) := by decide +kernel
theorem dX1_init_67 : decode cX1_init 67 = .ok (.sipush 128, 3) := by decide +kernel
theorem dX1_init_70 : decode cX1_init 70 = .ok (.idiv, 1) := by decide +kernel
theorem dX1_init_71 : decode cX1_init 71 = .ok (.iload_n 1, 1) := by decide +kernel
theorem dX1_init_72 : decode cX1_init 72 = .ok (.sipush 128, 3) := by decide +kernel
theorem dX1_init_75 : decode cX1_init 75 = .ok (.irem, 1) := by decide +kernel
theorem dX1_init_76 : decode cX1_init 76 = .ok (.bipush (-64), 2) := by decide +kernel
theorem dX1_init_78 : decode cX1_init 78 = .ok (.iadd, 1) := by decide +kernel
theorem dX1_init_79 : decode cX1_init 79 = .ok (.invokestatic 32, 3) := by decide +kernel
theorem dX1_init_82 : decode cX1_init 82 = .ok (.iastore, 1) := by decide +kernel
theorem dX1_init_83 : decode cX1_init 83 = .ok (.aload_n 0, 1) := by decide +kernel
theorem dX1_init_84 : decode cX1_init 84 = .ok (.iload_n 1, 1) := by decide +kernel
theorem dX1_init_85 : decode cX1_init 85 = .ok (.invokevirtual 36, 3) := by decide +kernel
theorem dX1_init_88 : decode cX1_init 88 = .ok (.istore_n 2, 1) := by decide +kernel
theorem dX1_init_89 : decode cX1_init 89 = .ok (.iconst 0, 1) := by decide +kernel
theorem dX1_init_90 : decode cX1_init 90 = .ok (.istore_n 3, 1) := by decide +kernel
theorem dX1_init_91 : decode cX1_init 91 = .ok (.iload_n 3, 1) := by decide +kernel
theorem dX1_init_92 : decode cX1_init 92 = .ok (.iconst 4, 1) := by decide +kernel
theorem dX1_init_93 : decode cX1_init 93 = .ok (.if_icmp .ge 18, 3) := by decide +kernel
theorem dX1_init_96 : decode cX1_init 96 = .ok (.aload_n 0, 1) := by decide +kernel
theorem dX1_init_97 : decode cX1_init 97 = .ok (.getfield 11, 3) := by decide +kernel
theorem dX1_init_100 : decode cX1_init 100 = .ok (.iload_n 3, 1) := by decide +kernel
theorem dX1_init_101 : decode cX1_init 101 = .ok (.aaload, 1) := by decide +kernel
theorem dX1_init_102 : decode cX1_init 102 = .ok (.iload_n 1, 1) := by decide +kernel
theorem dX1_init_103 : decode cX1_init 103 = .ok (.iload_n 2, 1) := by decide +kernel
theorem dX1_init_104 : decode cX1_init 104 = .ok (.iastore, 1) := by decide +kernel
theorem dX1_init_105 : decode cX1_init 105 = .ok (.iinc 3 1, 3) := by decide +kernel
theorem dX1_init_108 : decode cX1_init 108 = .ok (.goto (-17), 3) := by decide +kernel
theorem dX1_init_111 : decode cX1_init 111 = .ok (.iinc 1 1, 3) := by decide +kernel
theorem dX1_init_114 : decode cX1_init 114 = .ok (.goto (-60), 3) := by decide +kernel
theorem dX1_init_117 : decode cX1_init 117 = .ok (.return_, 1) := by decide +kernel
set_option maxRecDepth 20000 in
theorem ggX1_digit_X1_isTable : GoodIn wsX1_digit wsX1_isTable := goodIn_r _ [5] (by decide +kernel) (by decide +kernel)
set_option maxRecDepth 20000 in
theorem gX1_digit_X1_isTable : GoodIn wsX1_digit (va_wsS RX1 40 yX1_isTable wsX1_isTable) := goodIn_app (goodIn_of _ (by decide +kernel)) ggX1_digit_X1_isTable
set_option maxRecDepth 20000 in
theorem ggX1_digit_X1_isCell : GoodIn wsX1_digit wsX1_isCell := goodIn_r _ [8] (by decide +kernel) (by decide +kernel)
set_option maxRecDepth 20000 in
theorem gX1_digit_X1_isCell : GoodIn wsX1_digit (va_wsS RX1 44 yX1_isCell wsX1_isCell) := goodIn_app (goodIn_of _ (by decide +kernel)) ggX1_digit_X1_isCell
set_option maxRecDepth 20000 in
theorem ggX1_digit_X1_cellAt : GoodIn wsX1_digit wsX1_cellAt := goodIn_r _ [11] (by decide +kernel) (by decide +kernel)
set_option maxRecDepth 20000 in
theorem gX1_digit_X1_cellAt : GoodIn wsX1_digit (va_wsS RX1 48 yX1_cellAt wsX1_cellAt) := goodIn_app (goodIn_of _ (by decide +kernel)) ggX1_digit_X1_cellAt
theorem dX1_digit_0 : decode cX1_digit 0 = .ok (.iload_n 1, 1) := by decide +kernel
theorem dX1_digit_1 : decode cX1_digit 1 = .ok (.invokestatic 40, 3) := by decide +kernel
theorem dX1_digit_4 : decode cX1_digit 4 = .ok (.ifCond .eq 11, 3) := by decide +kernel
theorem dX1_digit_7 : decode cX1_digit 7 = .ok (.iload_n 2, 1) := by decide +kernel
theorem dX1_digit_8 : decode cX1_digit 8 = .ok (.iload_n 3, 1) := by decide +kernel
theorem dX1_digit_9 : decode cX1_digit 9 = .ok (.invokestatic 44, 3) := by decide +kernel
theorem dX1_digit_12 : decode cX1_digit 12 = .ok (.ifCond .ne 6, 3) := by decide +kernel
theorem dX1_digit_15 : decode cX1_digit 15 = .ok (.bipush (-101), 2) := by decide +kernel
theorem dX1_digit_17 : decode cX1_digit 17 = .ok (.ireturn, 1) := by decide +kernel
theorem dX1_digit_18 : decode cX1_digit 18 = .ok (.aload_n 0, 1) := by decide +kernel
theorem dX1_digit_19 : decode cX1_digit 19 = .ok (.getfield 11, 3) := by decide +kernel
theorem dX1_digit_22 : decode cX1_digit 22 = .ok (.iload_n 1, 1) := by decide +kernel
theorem dX1_digit_23 : decode cX1_digit 23 = .ok (.aaload, 1) := by decide +kernel
theorem dX1_digit_24 : decode cX1_digit 24 = .ok (.iload_n 2, 1) := by decide +kernel
theorem dX1_digit_25 : decode cX1_digit 25 = .ok (.iload_n 3, 1) := by decide +kernel
theorem dX1_digit_26 : decode cX1_digit 26 = .ok (.invokestatic 48, 3) := by decide +kernel
theorem dX1_digit_29 : decode cX1_digit 29 = .ok (.iaload, 1) := by decide +kernel
theorem dX1_digit_30 : decode cX1_digit 30 = .ok (.ireturn, 1) := by decide +kernel
set_option maxRecDepth 20000 in
theorem ggX1_set_X1_isTable : GoodIn wsX1_set wsX1_isTable := goodIn_r _ [5] (by decide +kernel) (by decide +kernel)
set_option maxRecDepth 20000 in
theorem gX1_set_X1_isTable : GoodIn wsX1_set (va_wsS RX1 40 yX1_isTable wsX1_isTable) := goodIn_app (goodIn_of _ (by decide +kernel)) ggX1_set_X1_isTable
set_option maxRecDepth 20000 in
theorem ggX1_set_X1_isCell : GoodIn wsX1_set wsX1_isCell := goodIn_r _ [8] (by decide +kernel) (by decide +kernel)
set_option maxRecDepth 20000 in
theorem gX1_set_X1_isCell : GoodIn wsX1_set (va_wsS RX1 44 yX1_isCell wsX1_isCell) := goodIn_app (goodIn_of _ (by decide +kernel)) ggX1_set_X1_isCell
set_option maxRecDepth 20000 in
theorem ggX1_set_X1_isDigit : GoodIn wsX1_set wsX1_isDigit := goodIn_r _ [11] (by decide +kernel) (by decide +kernel)
set_option maxRecDepth 20000 in
theorem gX1_set_X1_isDigit : GoodIn wsX1_set (va_wsS RX1 51 yX1_isDigit wsX1_isDigit) := goodIn_app (goodIn_of _ (by decide +kernel)) ggX1_set_X1_isDigit
set_option maxRecDepth 20000 in
theorem ggX1_set_X1_cellAt : GoodIn wsX1_set wsX1_cellAt := goodIn_r _ [14] (by decide +kernel) (by decide +kernel)
set_option maxRecDepth 20000 in
theorem gX1_set_X1_cellAt : GoodIn wsX1_set (va_wsS RX1 48 yX1_cellAt wsX1_cellAt) := goodIn_app (goodIn_of _ (by decide +kernel)) ggX1_set_X1_cellAt
theorem dX1_set_0 : decode cX1_set 0 = .ok (.iload_n 1, 1) := by decide +kernel
theorem dX1_set_1 : decode cX1_set 1 = .ok (.invokestatic 40, 3) := by decide +kernel
theorem dX1_set_4 : decode cX1_set 4 = .ok (.ifCond .eq 19, 3) := by decide +kernel
theorem dX1_set_7 : decode cX1_set 7 = .ok (.iload_n 2, 1) := by decide +kernel
theorem dX1_set_8 : decode cX1_set 8 = .ok (.iload_n 3, 1) := by decide +kernel
theorem dX1_set_9 : decode cX1_set 9 = .ok (.invokestatic 44, 3) := by decide +kernel
theorem dX1_set_12 : decode cX1_set 12 = .ok (.ifCond .eq 11, 3) := by decide +kernel
theorem dX1_set_15 : decode cX1_set 15 = .ok (.iload 4, 2) := by decide +kernel
theorem dX1_set_17 : decode cX1_set 17 = .ok (.invokestatic 51, 3) := by decide +kernel
theorem dX1_set_20 : decode cX1_set 20 = .ok (.ifCond .ne 6, 3) := by decide +kernel
theorem dX1_set_23 : decode cX1_set 23 = .ok (.bipush (-101), 2) := by decide +kernel
theorem dX1_set_25 : decode cX1_set 25 = .ok (.ireturn, 1) := by decide +kernel
theorem dX1_set_26 : decode cX1_set 26 = .ok (.iload_n 2, 1) := by decide +kernel
theorem dX1_set_27 : decode cX1_set 27 = .ok (.iload_n 3, 1) := by decide +kernel
theorem dX1_set_28 : decode cX1_set 28 = .ok (.invokestatic 48, 3) := by decide +kernel
theorem dX1_set_31 : decode cX1_set 31 = .ok (.istore 5, 2) := by decide +kernel
theorem dX1_set_33 : decode cX1_set 33 = .ok (.aload_n 0, 1) := by decide +kernel
theorem dX1_set_34 : decode cX1_set 34 = .ok (.getfield 11, 3) := by decide +kernel
theorem dX1_set_37 : decode cX1_set 37 = .ok (.iload_n 1, 1) := by decide +kernel
theorem dX1_set_38 : decode cX1_set 38 = .ok (.aaload, 1) := by decide +kernel
theorem dX1_set_39 : decode cX1_set 39 = .ok (.iload 5, 2) := by decide +kernel
theorem dX1_set_41 : decode cX1_set 41 = .ok (.iaload, 1) := by decide +kernel
theorem dX1_set_42 : decode cX1_set 42 = .ok (.istore 6, 2) := by decide +kernel
theorem dX1_set_44 : decode cX1_set 44 = .ok (.aload_n 0, 1) := by decide +kernel
theorem dX1_set_45 : decode cX1_set 45 = .ok (.getfield 11, 3) := by decide +kernel
theorem dX1_set_48 : decode cX1_set 48 = .ok (.iload_n 1, 1) := by decide +kernel
theorem dX1_set_49 : decode cX1_set 49 = .ok (.aaload, 1) := by decide +kernel
theorem dX1_set_50 : decode cX1_set 50 = .ok (.iload 5, 2) := by decide +kernel
theorem dX1_set_52 : decode cX1_set 52 = .ok (.iload 4, 2) := by decide +kernel
theorem dX1_set_54 : decode cX1_set 54 = .ok (.iastore, 1) := by decide +kernel
theorem dX1_set_55 : decode cX1_set 55 = .ok (.iload 6, 2) := by decide +kernel
theorem dX1_set_57 : decode cX1_set 57 = .ok (.ireturn, 1) := by decide +kernel
set_option maxRecDepth 20000 in
theorem ggX1_make_X1_isTable : GoodIn wsX1_make wsX1_isTable := goodIn_r _ [4] (by decide +kernel) (by decide +kernel)
set_option maxRecDepth 20000 in
theorem gX1_make_X1_isTable : GoodIn wsX1_make (va_wsS RX1 40 yX1_isTable wsX1_isTable) := goodIn_app (goodIn_of _ (by decide +kernel)) ggX1_make_X1_isTable
set_option maxRecDepth 20000 in
theorem ggX1_make_X1_madeDigit : GoodIn wsX1_make wsX1_madeDigit := goodIn_r _ [8, 9, 10, 11, 12, 3, 13, 14, 20, 21, 22, 23, 24] (by decide +kernel) (by decide +kernel)
set_option maxRecDepth 20000 in
theorem gX1_make_X1_madeDigit : GoodIn wsX1_make (wsV RX1 36 RX1 yX1_madeDigit wsX1_madeDigit) := goodIn_app (goodIn_of _ (by decide +kernel)) ggX1_make_X1_madeDigit
set_option maxRecDepth 20000 in
theorem ggX1_make_X1_replace : GoodIn wsX1_make wsX1_replace := goodIn_r _ [18, 19, 20, 21, 22, 23, 24] (by decide +kernel) (by decide +kernel)
set_option maxRecDepth 20000 in
theorem gX1_make_X1_replace : GoodIn wsX1_make (wsV RX1 54 RX1 yX1_replace wsX1_replace) := goodIn_app (goodIn_of _ (by decide +kernel)) ggX1_make_X1_replace
theorem dX1_make_0 : decode cX1_make 0 = .ok (.iload_n 1, 1) := by decide +kernel
theorem dX1_make_1 : decode cX1_make 1 = .ok (.invokestatic 40, 3) := by decide +kernel
theorem dX1_make_4 : decode cX1_make 4 = .ok (.ifCond .ne 5, 3) := by decide +kernel
theorem dX1_make_7 : decode cX1_make 7 = .ok (.iconst (-1), 1) := by decide +kernel
theorem dX1_make_8 : decode cX1_make 8 = .ok (.ireturn, 1) := by decide +kernel
theorem dX1_make_9 : decode cX1_make 9 = .ok (.iconst 0, 1) := by decide +kernel
theorem dX1_make_10 : decode cX1_make 10 = .ok (.istore_n 2, 1) := by decide +kernel
theorem dX1_make_11 : decode cX1_make 11 = .ok (.iconst 0, 1) := by decide +kernel
theorem dX1_make_12 : decode cX1_make 12 = .ok (.istore_n 3, 1) := by decide +kernel
theorem dX1_make_13 : decode cX1_make 13 = .ok (.iload_n 3, 1) := by decide +kernel
theorem dX1_make_14 : decode cX1_make 14 = .ok (.sipush 2048, 3) := by decide +kernel
theorem dX1_make_17 : decode cX1_make 17 = .ok (.if_icmp .ge 23, 3) := by decide +kernel
theorem dX1_make_20 : decode cX1_make 20 = .ok (.iload_n 2, 1) := by decide +kernel
theorem dX1_make_21 : decode cX1_make 21 = .ok (.aload_n 0, 1) := by decide +kernel
theorem dX1_make_22 : decode cX1_make 22 = .ok (.iload_n 1, 1) := by decide +kernel
theorem dX1_make_23 : decode cX1_make 23 = .ok (.iload_n 3, 1) := by decide +kernel
theorem dX1_make_24 : decode cX1_make 24 = .ok (.aload_n 0, 1) := by decide +kernel
theorem dX1_make_25 : decode cX1_make 25 = .ok (.iload_n 3, 1) := by decide +kernel
theorem dX1_make_26 : decode cX1_make 26 = .ok (.invokevirtual 36, 3) := by decide +kernel
theorem dX1_make_29 : decode cX1_make 29 = .ok (.invokevirtual 54, 3) := by decide +kernel
theorem dX1_make_32 : decode cX1_make 32 = .ok (.iadd, 1) := by decide +kernel
theorem dX1_make_33 : decode cX1_make 33 = .ok (.istore_n 2, 1) := by decide +kernel
theorem dX1_make_34 : decode cX1_make 34 = .ok (.iinc 3 1, 3) := by decide +kernel
theorem dX1_make_37 : decode cX1_make 37 = .ok (.goto (-24), 3) := by decide +kernel
theorem dX1_make_40 : decode cX1_make 40 = .ok (.iload_n 2, 1) := by decide +kernel
theorem dX1_make_41 : decode cX1_make 41 = .ok (.ireturn, 1) := by decide +kernel
set_option maxRecDepth 20000 in
theorem ggX1_copy_X1_isTable : GoodIn wsX1_copy wsX1_isTable := goodIn_r _ [5] (by decide +kernel) (by decide +kernel)
set_option maxRecDepth 20000 in
theorem gX1_copy_X1_isTable : GoodIn wsX1_copy (va_wsS RX1 40 yX1_isTable wsX1_isTable) := goodIn_app (goodIn_of _ (by decide +kernel)) ggX1_copy_X1_isTable
set_option maxRecDepth 20000 in
theorem ggX1_copy_X1_replace : GoodIn wsX1_copy wsX1_replace := goodIn_r _ [9, 1, 10, 11, 12, 13, 14] (by decide +kernel) (by decide +kernel)
set_option maxRecDepth 20000 in
theorem gX1_copy_X1_replace : GoodIn wsX1_copy (wsV RX1 54 RX1 yX1_replace wsX1_replace) := goodIn_app (goodIn_of _ (by decide +kernel)) ggX1_copy_X1_replace
theorem dX1_copy_0 : decode cX1_copy 0 = .ok (.iload_n 1, 1) := by decide +kernel
theorem dX1_copy_1 : decode cX1_copy 1 = .ok (.invokestatic 40, 3) := by decide +kernel
theorem dX1_copy_4 : decode cX1_copy 4 = .ok (.ifCond .eq 10, 3) := by decide +kernel
theorem dX1_copy_7 : decode cX1_copy 7 = .ok (.iload_n 2, 1) := by decide +kernel
theorem dX1_copy_8 : decode cX1_copy 8 = .ok (.invokestatic 40, 3) := by decide +kernel
theorem dX1_copy_11 : decode cX1_copy 11 = .ok (.ifCond .ne 5, 3) := by decide +kernel
theorem dX1_copy_14 : decode cX1_copy 14 = .ok (.iconst (-1), 1) := by decide +kernel
theorem dX1_copy_15 : decode cX1_copy 15 = .ok (.ireturn, 1) := by decide +kernel
theorem dX1_copy_16 : decode cX1_copy 16 = .ok (.iconst 0, 1) := by decide +kernel
theorem dX1_copy_17 : decode cX1_copy 17 = .ok (.istore_n 3, 1) := by decide +kernel
theorem dX1_copy_18 : decode cX1_copy 18 = .ok (.iconst 0, 1) := by decide +kernel
theorem dX1_copy_19 : decode cX1_copy 19 = .ok (.istore 4, 2) := by decide +kernel
theorem dX1_copy_21 : decode cX1_copy 21 = .ok (.iload 4, 2) := by decide +kernel
theorem dX1_copy_23 : decode cX1_copy 23 = .ok (.sipush 2048, 3) := by decide +kernel
theorem dX1_copy_26 : decode cX1_copy 26 = .ok (.if_icmp .ge 28, 3) := by decide +kernel
theorem dX1_copy_29 : decode cX1_copy 29 = .ok (.iload_n 3, 1) := by decide +kernel
theorem dX1_copy_30 : decode cX1_copy 30 = .ok (.aload_n 0, 1) := by decide +kernel
theorem dX1_copy_31 : decode cX1_copy 31 = .ok (.iload_n 2, 1) := by decide +kernel
theorem dX1_copy_32 : decode cX1_copy 32 = .ok (.iload 4, 2) := by decide +kernel
theorem dX1_copy_34 : decode cX1_copy 34 = .ok (.aload_n 0, 1) := by decide +kernel
theorem dX1_copy_35 : decode cX1_copy 35 = .ok (.getfield 11, 3) := by decide +kernel
theorem dX1_copy_38 : decode cX1_copy 38 = .ok (.iload_n 1, 1) := by decide +kernel
theorem dX1_copy_39 : decode cX1_copy 39 = .ok (.aaload, 1) := by decide +kernel
theorem dX1_copy_40 : decode cX1_copy 40 = .ok (.iload 4, 2) := by decide +kernel
theorem dX1_copy_42 : decode cX1_copy 42 = .ok (.iaload, 1) := by decide +kernel
theorem dX1_copy_43 : decode cX1_copy 43 = .ok (.invokevirtual 54, 3) := by decide +kernel
theorem dX1_copy_46 : decode cX1_copy 46 = .ok (.iadd, 1) := by decide +kernel
theorem dX1_copy_47 : decode cX1_copy 47 = .ok (.istore_n 3, 1) := by decide +kernel
theorem dX1_copy_48 : decode cX1_copy 48 = .ok (.iinc 4 1, 3) := by decide +kernel
theorem dX1_copy_51 : decode cX1_copy 51 = .ok (.goto (-30), 3) := by decide +kernel
theorem dX1_copy_54 : decode cX1_copy 54 = .ok (.iload_n 3, 1) := by decide +kernel
theorem dX1_copy_55 : decode cX1_copy 55 = .ok (.ireturn, 1) := by decide +kernel
set_option maxRecDepth 20000 in
theorem ggX1_good_X1_isCell : GoodIn wsX1_good wsX1_isCell := goodIn_r _ [4] (by decide +kernel) (by decide +kernel)
set_option maxRecDepth 20000 in
theorem gX1_good_X1_isCell : GoodIn wsX1_good (va_wsS RX1 44 yX1_isCell wsX1_isCell) := goodIn_app (goodIn_of _ (by decide +kernel)) ggX1_good_X1_isCell
set_option maxRecDepth 20000 in
theorem ggX1_good_X1_isDigit : GoodIn wsX1_good wsX1_isDigit := goodIn_r _ [7] (by decide +kernel) (by decide +kernel)
set_option maxRecDepth 20000 in
theorem gX1_good_X1_isDigit : GoodIn wsX1_good (va_wsS RX1 51 yX1_isDigit wsX1_isDigit) := goodIn_app (goodIn_of _ (by decide +kernel)) ggX1_good_X1_isDigit
set_option maxRecDepth 20000 in
theorem ggX1_good_X1_cellAt : GoodIn wsX1_good wsX1_cellAt := goodIn_r _ [10] (by decide +kernel) (by decide +kernel)
set_option maxRecDepth 20000 in
theorem gX1_good_X1_cellAt : GoodIn wsX1_good (va_wsS RX1 48 yX1_cellAt wsX1_cellAt) := goodIn_app (goodIn_of _ (by decide +kernel)) ggX1_good_X1_cellAt
set_option maxRecDepth 20000 in
theorem ggX1_good_X1_isGood : GoodIn wsX1_good wsX1_isGood := goodIn_r _ [14, 15, 16, 17, 18, 19, 20] (by decide +kernel) (by decide +kernel)
set_option maxRecDepth 20000 in
theorem gX1_good_X1_isGood : GoodIn wsX1_good (wsV RX1 58 RX1 yX1_isGood wsX1_isGood) := goodIn_app (goodIn_of _ (by decide +kernel)) ggX1_good_X1_isGood
theorem dX1_good_0 : decode cX1_good 0 = .ok (.iload_n 1, 1) := by decide +kernel
theorem dX1_good_1 : decode cX1_good 1 = .ok (.iload_n 2, 1) := by decide +kernel
theorem dX1_good_2 : decode cX1_good 2 = .ok (.invokestatic 44, 3) := by decide +kernel
theorem dX1_good_5 : decode cX1_good 5 = .ok (.ifCond .eq 10, 3) := by decide +kernel
theorem dX1_good_8 : decode cX1_good 8 = .ok (.iload_n 3, 1) := by decide +kernel
theorem dX1_good_9 : decode cX1_good 9 = .ok (.invokestatic 51, 3) := by decide +kernel
theorem dX1_good_12 : decode cX1_good 12 = .ok (.ifCond .ne 5, 3) := by decide +kernel
theorem dX1_good_15 : decode cX1_good 15 = .ok (.iconst (-1), 1) := by decide +kernel
theorem dX1_good_16 : decode cX1_good 16 = .ok (.ireturn, 1) := by decide +kernel
theorem dX1_good_17 : decode cX1_good 17 = .ok (.aload_n 0, 1) := by decide +kernel
theorem dX1_good_18 : decode cX1_good 18 = .ok (.iload_n 1, 1) := by decide +kernel
theorem dX1_good_19 : decode cX1_good 19 = .ok (.iload_n 2, 1) := by decide +kernel
theorem dX1_good_20 : decode cX1_good 20 = .ok (.invokestatic 48, 3) := by decide +kernel
theorem dX1_good_23 : decode cX1_good 23 = .ok (.iload_n 3, 1) := by decide +kernel
theorem dX1_good_24 : decode cX1_good 24 = .ok (.invokevirtual 58, 3) := by decide +kernel
theorem dX1_good_27 : decode cX1_good 27 = .ok (.ifCond .eq 7, 3) := by decide +kernel
theorem dX1_good_30 : decode cX1_good 30 = .ok (.iconst 1, 1) := by decide +kernel
theorem dX1_good_31 : decode cX1_good 31 = .ok (.goto 4, 3) := by decide +kernel
theorem dX1_good_34 : decode cX1_good 34 = .ok (.iconst 0, 1) := by decide +kernel
theorem dX1_good_35 : decode cX1_good 35 = .ok (.ireturn, 1) := by decide +kernel
set_option maxRecDepth 20000 in
theorem ggX1_holds_X1_isCell : GoodIn wsX1_holds wsX1_isCell := goodIn_r _ [4] (by decide +kernel) (by decide +kernel)
set_option maxRecDepth 20000 in
theorem gX1_holds_X1_isCell : GoodIn wsX1_holds (va_wsS RX1 44 yX1_isCell wsX1_isCell) := goodIn_app (goodIn_of _ (by decide +kernel)) ggX1_holds_X1_isCell
set_option maxRecDepth 20000 in
theorem ggX1_holds_X1_holdsAny : GoodIn wsX1_holds wsX1_holdsAny := goodIn_r _ [7, 8, 9, 3, 10, 11, 12, 13, 14, 15, 16, 17] (by decide +kernel) (by decide +kernel)
set_option maxRecDepth 20000 in
theorem gX1_holds_X1_holdsAny : GoodIn wsX1_holds (va_wsS RX1 61 yX1_holdsAny wsX1_holdsAny) := goodIn_app (goodIn_of _ (by decide +kernel)) ggX1_holds_X1_holdsAny
theorem dX1_holds_0 : decode cX1_holds 0 = .ok (.iload_n 1, 1) := by decide +kernel
theorem dX1_holds_1 : decode cX1_holds 1 = .ok (.iload_n 2, 1) := by decide +kernel
theorem dX1_holds_2 : decode cX1_holds 2 = .ok (.invokestatic 44, 3) := by decide +kernel
theorem dX1_holds_5 : decode cX1_holds 5 = .ok (.ifCond .ne 5, 3) := by decide +kernel
theorem dX1_holds_8 : decode cX1_holds 8 = .ok (.iconst (-1), 1) := by decide +kernel
theorem dX1_holds_9 : decode cX1_holds 9 = .ok (.ireturn, 1) := by decide +kernel
theorem dX1_holds_10 : decode cX1_holds 10 = .ok (.iload_n 1, 1) := by decide +kernel
theorem dX1_holds_11 : decode cX1_holds 11 = .ok (.iload_n 2, 1) := by decide +kernel
theorem dX1_holds_12 : decode cX1_holds 12 = .ok (.invokestatic 61, 3) := by decide +kernel
theorem dX1_holds_15 : decode cX1_holds 15 = .ok (.ifCond .eq 7, 3) := by decide +kernel
theorem dX1_holds_18 : decode cX1_holds 18 = .ok (.iconst 1, 1) := by decide +kernel
theorem dX1_holds_19 : decode cX1_holds 19 = .ok (.goto 4, 3) := by decide +kernel
theorem dX1_holds_22 : decode cX1_holds 22 = .ok (.iconst 0, 1) := by decide +kernel
theorem dX1_holds_23 : decode cX1_holds 23 = .ok (.ireturn, 1) := by decide +kernel
set_option maxRecDepth 20000 in
theorem ggX1_check_X1_isTable : GoodIn wsX1_check wsX1_isTable := goodIn_r _ [5] (by decide +kernel) (by decide +kernel)
set_option maxRecDepth 20000 in
theorem gX1_check_X1_isTable : GoodIn wsX1_check (va_wsS RX1 40 yX1_isTable wsX1_isTable) := goodIn_app (goodIn_of _ (by decide +kernel)) ggX1_check_X1_isTable
set_option maxRecDepth 20000 in
theorem ggX1_check_X1_isGood : GoodIn wsX1_check wsX1_isGood := goodIn_r _ [9, 10, 11, 12, 13, 14, 15] (by decide +kernel) (by decide +kernel)
set_option maxRecDepth 20000 in
theorem gX1_check_X1_isGood : GoodIn wsX1_check (wsV RX1 58 RX1 yX1_isGood wsX1_isGood) := goodIn_app (goodIn_of _ (by decide +kernel)) ggX1_check_X1_isGood
theorem dX1_check_0 : decode cX1_check 0 = .ok (.iload_n 1, 1) := by decide +kernel
theorem dX1_check_1 : decode cX1_check 1 = .ok (.invokestatic 40, 3) := by decide +kernel
theorem dX1_check_4 : decode cX1_check 4 = .ok (.ifCond .ne 5, 3) := by decide +kernel
theorem dX1_check_7 : decode cX1_check 7 = .ok (.iconst (-1), 1) := by decide +kernel
theorem dX1_check_8 : decode cX1_check 8 = .ok (.ireturn, 1) := by decide +kernel
theorem dX1_check_9 : decode cX1_check 9 = .ok (.iconst 0, 1) := by decide +kernel
theorem dX1_check_10 : decode cX1_check 10 = .ok (.istore_n 2, 1) := by decide +kernel
theorem dX1_check_11 : decode cX1_check 11 = .ok (.iconst 0, 1) := by decide +kernel
theorem dX1_check_12 : decode cX1_check 12 = .ok (.istore_n 3, 1) := by decide +kernel
theorem dX1_check_13 : decode cX1_check 13 = .ok (.iload_n 3, 1) := by decide +kernel
theorem dX1_check_14 : decode cX1_check 14 = .ok (.sipush 2048, 3) := by decide +kernel
theorem dX1_check_17 : decode cX1_check 17 = .ok (.if_icmp .ge 28, 3) := by decide +kernel
theorem dX1_check_20 : decode cX1_check 20 = .ok (.aload_n 0, 1) := by decide +kernel
theorem dX1_check_21 : decode cX1_check 21 = .ok (.iload_n 3, 1) := by decide +kernel
theorem dX1_check_22 : decode cX1_check 22 = .ok (.aload_n 0, 1) := by decide +kernel
theorem dX1_check_23 : decode cX1_check 23 = .ok (.getfield 11, 3) := by decide +kernel
theorem dX1_check_26 : decode cX1_check 26 = .ok (.iload_n 1, 1) := by decide +kernel
theorem dX1_check_27 : decode cX1_check 27 = .ok (.aaload, 1) := by decide +kernel
theorem dX1_check_28 : decode cX1_check 28 = .ok (.iload_n 3, 1) := by decide +kernel
theorem dX1_check_29 : decode cX1_check 29 = .ok (.iaload, 1) := by decide +kernel
theorem dX1_check_30 : decode cX1_check 30 = .ok (.invokevirtual 58, 3) := by decide +kernel
theorem dX1_check_33 : decode cX1_check 33 = .ok (.ifCond .ne 6, 3) := by decide +kernel
theorem dX1_check_36 : decode cX1_check 36 = .ok (.iinc 2 1, 3) := by decide +kernel
theorem dX1_check_39 : decode cX1_check 39 = .ok (.iinc 3 1, 3) := by decide +kernel
theorem dX1_check_42 : decode cX1_check 42 = .ok (.goto (-29), 3) := by decide +kernel
theorem dX1_check_45 : decode cX1_check 45 = .ok (.iload_n 2, 1) := by decide +kernel
theorem dX1_check_46 : decode cX1_check 46 = .ok (.ireturn, 1) := by decide +kernel
set_option maxRecDepth 20000 in
theorem ggX1_wrong_X1_isTable : GoodIn wsX1_wrong wsX1_isTable := goodIn_r _ [5] (by decide +kernel) (by decide +kernel)
set_option maxRecDepth 20000 in
theorem gX1_wrong_X1_isTable : GoodIn wsX1_wrong (va_wsS RX1 40 yX1_isTable wsX1_isTable) := goodIn_app (goodIn_of _ (by decide +kernel)) ggX1_wrong_X1_isTable
set_option maxRecDepth 20000 in
theorem ggX1_wrong_X1_isGood : GoodIn wsX1_wrong wsX1_isGood := goodIn_r _ [9, 10, 11, 12, 13, 14, 15] (by decide +kernel) (by decide +kernel)
set_option maxRecDepth 20000 in
theorem gX1_wrong_X1_isGood : GoodIn wsX1_wrong (wsV RX1 58 RX1 yX1_isGood wsX1_isGood) := goodIn_app (goodIn_of _ (by decide +kernel)) ggX1_wrong_X1_isGood
theorem dX1_wrong_0 : decode cX1_wrong 0 = .ok (.iload_n 1, 1) := by decide +kernel
theorem dX1_wrong_1 : decode cX1_wrong 1 = .ok (.invokestatic 40, 3) := by decide +kernel
theorem dX1_wrong_4 : decode cX1_wrong 4 = .ok (.ifCond .eq 7, 3) := by decide +kernel
theorem dX1_wrong_7 : decode cX1_wrong 7 = .ok (.iload_n 2, 1) := by decide +kernel
theorem dX1_wrong_8 : decode cX1_wrong 8 = .ok (.ifCond .ge 5, 3) := by decide +kernel
theorem dX1_wrong_11 : decode cX1_wrong 11 = .ok (.iconst (-1), 1) := by decide +kernel
theorem dX1_wrong_12 : decode cX1_wrong 12 = .ok (.ireturn, 1) := by decide +kernel
theorem dX1_wrong_13 : decode cX1_wrong 13 = .ok (.iconst 0, 1) := by decide +kernel
theorem dX1_wrong_14 : decode cX1_wrong 14 = .ok (.istore_n 3, 1) := by decide +kernel
theorem dX1_wrong_15 : decode cX1_wrong 15 = .ok (.iconst 0, 1) := by decide +kernel
theorem dX1_wrong_16 : decode cX1_wrong 16 = .ok (.istore 4, 2) := by decide +kernel
theorem dX1_wrong_18 : decode cX1_wrong 18 = .ok (.iload 4, 2) := by decide +kernel
theorem dX1_wrong_20 : decode cX1_wrong 20 = .ok (.sipush 2048, 3) := by decide +kernel
theorem dX1_wrong_23 : decode cX1_wrong 23 = .ok (.if_icmp .ge 38, 3) := by decide +kernel
theorem dX1_wrong_26 : decode cX1_wrong 26 = .ok (.aload_n 0, 1) := by decide +kernel
theorem dX1_wrong_27 : decode cX1_wrong 27 = .ok (.iload 4, 2) := by decide +kernel
theorem dX1_wrong_29 : decode cX1_wrong 29 = .ok (.aload_n 0, 1) := by decide +kernel
theorem dX1_wrong_30 : decode cX1_wrong 30 = .ok (.getfield 11, 3) := by decide +kernel
theorem dX1_wrong_33 : decode cX1_wrong 33 = .ok (.iload_n 1, 1) := by decide +kernel
theorem dX1_wrong_34 : decode cX1_wrong 34 = .ok (.aaload, 1) := by decide +kernel
theorem dX1_wrong_35 : decode cX1_wrong 35 = .ok (.iload 4, 2) := by decide +kernel
theorem dX1_wrong_37 : decode cX1_wrong 37 = .ok (.iaload, 1) := by decide +kernel
theorem dX1_wrong_38 : decode cX1_wrong 38 = .ok (.invokevirtual 58, 3) := by decide +kernel
theorem dX1_wrong_41 : decode cX1_wrong 41 = .ok (.ifCond .ne 14, 3) := by decide +kernel
theorem dX1_wrong_44 : decode cX1_wrong 44 = .ok (.iload_n 3, 1) := by decide +kernel
theorem dX1_wrong_45 : decode cX1_wrong 45 = .ok (.iload_n 2, 1) := by decide +kernel
theorem dX1_wrong_46 : decode cX1_wrong 46 = .ok (.if_icmp .ne 6, 3) := by decide +kernel
theorem dX1_wrong_49 : decode cX1_wrong 49 = .ok (.iload 4, 2) := by decide +kernel
theorem dX1_wrong_51 : decode cX1_wrong 51 = .ok (.ireturn, 1) := by decide +kernel
theorem dX1_wrong_52 : decode cX1_wrong 52 = .ok (.iinc 3 1, 3) := by decide +kernel
theorem dX1_wrong_55 : decode cX1_wrong 55 = .ok (.iinc 4 1, 3) := by decide +kernel
theorem dX1_wrong_58 : decode cX1_wrong 58 = .ok (.goto (-40), 3) := by decide +kernel
theorem dX1_wrong_61 : decode cX1_wrong 61 = .ok (.bipush (-2), 2) := by decide +kernel
theorem dX1_wrong_63 : decode cX1_wrong 63 = .ok (.ireturn, 1) := by decide +kernel
set_option maxRecDepth 20000 in
theorem ggX1_use_X1_isTable : GoodIn wsX1_use wsX1_isTable := goodIn_r _ [5] (by decide +kernel) (by decide +kernel)
set_option maxRecDepth 20000 in
theorem gX1_use_X1_isTable : GoodIn wsX1_use (va_wsS RX1 40 yX1_isTable wsX1_isTable) := goodIn_app (goodIn_of _ (by decide +kernel)) ggX1_use_X1_isTable
theorem dX1_use_0 : decode cX1_use 0 = .ok (.iload_n 1, 1) := by decide +kernel
theorem dX1_use_1 : decode cX1_use 1 = .ok (.invokestatic 40, 3) := by decide +kernel
theorem dX1_use_4 : decode cX1_use 4 = .ok (.ifCond .ne 5, 3) := by decide +kernel
theorem dX1_use_7 : decode cX1_use 7 = .ok (.iconst (-1), 1) := by decide +kernel
theorem dX1_use_8 : decode cX1_use 8 = .ok (.ireturn, 1) := by decide +kernel
theorem dX1_use_9 : decode cX1_use 9 = .ok (.aload_n 0, 1) := by decide +kernel
theorem dX1_use_10 : decode cX1_use 10 = .ok (.getfield 28, 3) := by decide +kernel
theorem dX1_use_13 : decode cX1_use 13 = .ok (.istore_n 2, 1) := by decide +kernel
theorem dX1_use_14 : decode cX1_use 14 = .ok (.aload_n 0, 1) := by decide +kernel
theorem dX1_use_15 : decode cX1_use 15 = .ok (.iload_n 1, 1) := by decide +kernel
theorem dX1_use_16 : decode cX1_use 16 = .ok (.putfield 28, 3) := by decide +kernel
theorem dX1_use_19 : decode cX1_use 19 = .ok (.iload_n 2, 1) := by decide +kernel
theorem dX1_use_20 : decode cX1_use 20 = .ok (.ireturn, 1) := by decide +kernel
set_option maxRecDepth 20000 in
theorem ggX1_divide_X0_run : GoodIn wsX1_divide wsX0_run := goodIn_r _ [7, 8, 9, 10, 11, 12, 13, 14, 15, 16, 17, 5, 18, 19, 20, 21, 22, 23, 24, 25, 26, 27, 28, 29, 30, 31, 32, 33, 34, 35, 36, 37, 38, 39, 40, 41, 42, 43, 44, 45, 46, 47, 48, 49, 50, 51, 52, 53, 54, 55, 56, 57, 58, 59, 60, 61, 62, 63, 69, 70, 71, 72, 73, 74, 75, 76, 77, 78, 79, 80, 81, 82] (by decide +kernel) (by decide +kernel)
set_option maxRecDepth 20000 in
theorem gX1_divide_X0_run_n64 : GoodIn wsX1_divide (wsX0_run) := ggX1_divide_X0_run
theorem dX1_divide_0 : decode cX1_divide 0 = .ok (.iload_n 2, 1) := by decide +kernel
theorem dX1_divide_1 : decode cX1_divide 1 = .ok (.ifCond .ne 5, 3) := by decide +kernel
theorem dX1_divide_4 : decode cX1_divide 4 = .ok (.iconst (-1), 1) := by decide +kernel
theorem dX1_divide_5 : decode cX1_divide 5 = .ok (.ireturn, 1) := by decide +kernel
theorem dX1_divide_6 : decode cX1_divide 6 = .ok (.aload_n 0, 1) := by decide +kernel
theorem dX1_divide_7 : decode cX1_divide 7 = .ok (.getfield 21, 3) := by decide +kernel
theorem dX1_divide_10 : decode cX1_divide 10 = .ok (.iload_n 1, 1) := by decide +kernel
theorem dX1_divide_11 : decode cX1_divide 11 = .ok (.iload_n 2, 1) := by decide +kernel
theorem dX1_divide_12 : decode cX1_divide 12 = .ok (.aload_n 0, 1) := by decide +kernel
theorem dX1_divide_13 : decode cX1_divide 13 = .ok (.getfield 11, 3) := by decide +kernel
theorem dX1_divide_16 : decode cX1_divide 16 = .ok (.aload_n 0, 1) := by decide +kernel
theorem dX1_divide_17 : decode cX1_divide 17 = .ok (.getfield 28, 3) := by decide +kernel
theorem dX1_divide_20 : decode cX1_divide 20 = .ok (.aaload, 1) := by decide +kernel
theorem dX1_divide_21 : decode cX1_divide 21 = .ok (.invokevirtual 64, 3) := by decide +kernel
theorem dX1_divide_24 : decode cX1_divide 24 = .ok (.aload_n 0, 1) := by decide +kernel
theorem dX1_divide_25 : decode cX1_divide 25 = .ok (.getfield 21, 3) := by decide +kernel
theorem dX1_divide_28 : decode cX1_divide 28 = .ok (.getfield 68, 3) := by decide +kernel
theorem dX1_divide_31 : decode cX1_divide 31 = .ok (.ireturn, 1) := by decide +kernel
theorem dX1_quotient_0 : decode cX1_quotient 0 = .ok (.aload_n 0, 1) := by decide +kernel
theorem dX1_quotient_1 : decode cX1_quotient 1 = .ok (.getfield 21, 3) := by decide +kernel
theorem dX1_quotient_4 : decode cX1_quotient 4 = .ok (.getfield 71, 3) := by decide +kernel
theorem dX1_quotient_7 : decode cX1_quotient 7 = .ok (.ireturn, 1) := by decide +kernel
theorem dX1_rest_0 : decode cX1_rest 0 = .ok (.aload_n 0, 1) := by decide +kernel
theorem dX1_rest_1 : decode cX1_rest 1 = .ok (.getfield 21, 3) := by decide +kernel
theorem dX1_rest_4 : decode cX1_rest 4 = .ok (.getfield 74, 3) := by decide +kernel
theorem dX1_rest_7 : decode cX1_rest 7 = .ok (.ireturn, 1) := by decide +kernel
theorem dX1_left_0 : decode cX1_left 0 = .ok (.aload_n 0, 1) := by decide +kernel
theorem dX1_left_1 : decode cX1_left 1 = .ok (.getfield 21, 3) := by decide +kernel
theorem dX1_left_4 : decode cX1_left 4 = .ok (.getfield 77, 3) := by decide +kernel
theorem dX1_left_7 : decode cX1_left 7 = .ok (.ireturn, 1) := by decide +kernel
theorem dX1_step_0 : decode cX1_step 0 = .ok (.iload_n 1, 1) := by decide +kernel
theorem dX1_step_1 : decode cX1_step 1 = .ok (.iconst 1, 1) := by decide +kernel
theorem dX1_step_2 : decode cX1_step 2 = .ok (.if_icmp .lt 14, 3) := by decide +kernel
theorem dX1_step_5 : decode cX1_step 5 = .ok (.iload_n 1, 1) := by decide +kernel
theorem dX1_step_6 : decode cX1_step 6 = .ok (.aload_n 0, 1) := by decide +kernel
theorem dX1_step_7 : decode cX1_step 7 = .ok (.getfield 21, 3) := by decide +kernel
theorem dX1_step_10 : decode cX1_step 10 = .ok (.getfield 68, 3) := by decide +kernel
theorem dX1_step_13 : decode cX1_step 13 = .ok (.if_icmp .le 6, 3) := by decide +kernel
theorem dX1_step_16 : decode cX1_step 16 = .ok (.bipush (-101), 2) := by decide +kernel
theorem dX1_step_18 : decode cX1_step 18 = .ok (.ireturn, 1) := by decide +kernel
theorem dX1_step_19 : decode cX1_step 19 = .ok (.iload_n 2, 1) := by decide +kernel
theorem dX1_step_20 : decode cX1_step 20 = .ok (.lookupswitch 48 #[(0, 28), (1, 38)], 28) := by decide +kernel
theorem dX1_step_48 : decode cX1_step 48 = .ok (.aload_n 0, 1) := by decide +kernel
theorem dX1_step_49 : decode cX1_step 49 = .ok (.getfield 21, 3) := by decide +kernel
theorem dX1_step_52 : decode cX1_step 52 = .ok (.getfield 80, 3) := by decide +kernel
theorem dX1_step_55 : decode cX1_step 55 = .ok (.iload_n 1, 1) := by decide +kernel
theorem dX1_step_56 : decode cX1_step 56 = .ok (.iaload, 1) := by decide +kernel
theorem dX1_step_57 : decode cX1_step 57 = .ok (.ireturn, 1) := by decide +kernel
theorem dX1_step_58 : decode cX1_step 58 = .ok (.aload_n 0, 1) := by decide +kernel
theorem dX1_step_59 : decode cX1_step 59 = .ok (.getfield 21, 3) := by decide +kernel
theorem dX1_step_62 : decode cX1_step 62 = .ok (.getfield 83, 3) := by decide +kernel
theorem dX1_step_65 : decode cX1_step 65 = .ok (.iload_n 1, 1) := by decide +kernel
theorem dX1_step_66 : decode cX1_step 66 = .ok (.iaload, 1) := by decide +kernel
theorem dX1_step_67 : decode cX1_step 67 = .ok (.ireturn, 1) := by decide +kernel
theorem dX1_step_68 : decode cX1_step 68 = .ok (.bipush (-101), 2) := by decide +kernel
theorem dX1_step_70 : decode cX1_step 70 = .ok (.ireturn, 1) := by decide +kernel
theorem dX1_state_0 : decode cX1_state 0 = .ok (.iload_n 1, 1) := by decide +kernel
theorem dX1_state_1 : decode cX1_state 1 = .ok (.ifCond .lt 14, 3) := by decide +kernel
theorem dX1_state_4 : decode cX1_state 4 = .ok (.iload_n 1, 1) := by decide +kernel
theorem dX1_state_5 : decode cX1_state 5 = .ok (.aload_n 0, 1) := by decide +kernel
theorem dX1_state_6 : decode cX1_state 6 = .ok (.getfield 21, 3) := by decide +kernel
theorem dX1_state_9 : decode cX1_state 9 = .ok (.getfield 68, 3) := by decide +kernel
theorem dX1_state_12 : decode cX1_state 12 = .ok (.if_icmp .le 5, 3) := by decide +kernel
theorem dX1_state_15 : decode cX1_state 15 = .ok (.lconst 0, 1) := by decide +kernel
theorem dX1_state_16 : decode cX1_state 16 = .ok (.lreturn, 1) := by decide +kernel
theorem dX1_state_17 : decode cX1_state 17 = .ok (.iload_n 2, 1) := by decide +kernel
theorem dX1_state_18 : decode cX1_state 18 = .ok (.tableswitch 70 0 3 #[30, 40, 50, 60], 30) := by decide +kernel
theorem dX1_state_48 : decode cX1_state 48 = .ok (.aload_n 0, 1) := by decide +kernel
theorem dX1_state_49 : decode cX1_state 49 = .ok (.getfield 21, 3) := by decide +kernel
theorem dX1_state_52 : decode cX1_state 52 = .ok (.getfield 86, 3) := by decide +kernel
theorem dX1_state_55 : decode cX1_state 55 = .ok (.iload_n 1, 1) := by decide +kernel
theorem dX1_state_56 : decode cX1_state 56 = .ok (.laload, 1) := by decide +kernel
theorem dX1_state_57 : decode cX1_state 57 = .ok (.lreturn, 1) := by decide +kernel
theorem dX1_state_58 : decode cX1_state 58 = .ok (.aload_n 0, 1) := by decide +kernel
theorem dX1_state_59 : decode cX1_state 59 = .ok (.getfield 21, 3) := by decide +kernel
theorem dX1_state_62 : decode cX1_state 62 = .ok (.getfield 90, 3) := by decide +kernel
theorem dX1_state_65 : decode cX1_state 65 = .ok (.iload_n 1, 1) := by decide +kernel
theorem dX1_state_66 : decode cX1_state 66 = .ok (.laload, 1) := by decide +kernel
theorem dX1_state_67 : decode cX1_state 67 = .ok (.lreturn, 1) := by decide +kernel
theorem dX1_state_68 : decode cX1_state 68 = .ok (.aload_n 0, 1) := by decide +kernel
theorem dX1_state_69 : decode cX1_state 69 = .ok (.getfield 21, 3) := by decide +kernel
theorem dX1_state_72 : decode cX1_state 72 = .ok (.getfield 93, 3) := by decide +kernel
theorem dX1_state_75 : decode cX1_state 75 = .ok (.iload_n 1, 1) := by decide +kernel
theorem dX1_state_76 : decode cX1_state 76 = .ok (.laload, 1) := by decide +kernel
theorem dX1_state_77 : decode cX1_state 77 = .ok (.lreturn, 1) := by decide +kernel
theorem dX1_state_78 : decode cX1_state 78 = .ok (.aload_n 0, 1) := by decide +kernel
theorem dX1_state_79 : decode cX1_state 79 = .ok (.getfield 21, 3) := by decide +kernel
theorem dX1_state_82 : decode cX1_state 82 = .ok (.getfield 96, 3) := by decide +kernel
theorem dX1_state_85 : decode cX1_state 85 = .ok (.iload_n 1, 1) := by decide +kernel
theorem dX1_state_86 : decode cX1_state 86 = .ok (.laload, 1) := by decide +kernel
theorem dX1_state_87 : decode cX1_state 87 = .ok (.lreturn, 1) := by decide +kernel
theorem dX1_state_88 : decode cX1_state 88 = .ok (.lconst 0, 1) := by decide +kernel
theorem dX1_state_89 : decode cX1_state 89 = .ok (.lreturn, 1) := by decide +kernel
theorem dX1_told_0 : decode cX1_told 0 = .ok (.iload_n 1, 1) := by decide +kernel
theorem dX1_told_1 : decode cX1_told 1 = .ok (.tableswitch 75 0 4 #[35, 43, 51, 59, 67], 35) := by decide +kernel
theorem dX1_told_36 : decode cX1_told 36 = .ok (.aload_n 0, 1) := by decide +kernel
theorem dX1_told_37 : decode cX1_told 37 = .ok (.getfield 21, 3) := by decide +kernel
theorem dX1_told_40 : decode cX1_told 40 = .ok (.getfield 99, 3) := by decide +kernel
theorem dX1_told_43 : decode cX1_told 43 = .ok (.ireturn, 1) := by decide +kernel
theorem dX1_told_44 : decode cX1_told 44 = .ok (.aload_n 0, 1) := by decide +kernel
theorem dX1_told_45 : decode cX1_told 45 = .ok (.getfield 21, 3) := by decide +kernel
theorem dX1_told_48 : decode cX1_told 48 = .ok (.getfield 102, 3) := by decide +kernel
theorem dX1_told_51 : decode cX1_told 51 = .ok (.ireturn, 1) := by decide +kernel
theorem dX1_told_52 : decode cX1_told 52 = .ok (.aload_n 0, 1) := by decide +kernel
theorem dX1_told_53 : decode cX1_told 53 = .ok (.getfield 21, 3) := by decide +kernel
theorem dX1_told_56 : decode cX1_told 56 = .ok (.getfield 105, 3) := by decide +kernel
theorem dX1_told_59 : decode cX1_told 59 = .ok (.ireturn, 1) := by decide +kernel
theorem dX1_told_60 : decode cX1_told 60 = .ok (.aload_n 0, 1) := by decide +kernel
theorem dX1_told_61 : decode cX1_told 61 = .ok (.getfield 21, 3) := by decide +kernel
theorem dX1_told_64 : decode cX1_told 64 = .ok (.getfield 68, 3) := by decide +kernel
theorem dX1_told_67 : decode cX1_told 67 = .ok (.ireturn, 1) := by decide +kernel
theorem dX1_told_68 : decode cX1_told 68 = .ok (.aload_n 0, 1) := by decide +kernel
theorem dX1_told_69 : decode cX1_told 69 = .ok (.getfield 21, 3) := by decide +kernel
theorem dX1_told_72 : decode cX1_told 72 = .ok (.getfield 108, 3) := by decide +kernel
theorem dX1_told_75 : decode cX1_told 75 = .ok (.ireturn, 1) := by decide +kernel
theorem dX1_told_76 : decode cX1_told 76 = .ok (.iconst (-1), 1) := by decide +kernel
theorem dX1_told_77 : decode cX1_told 77 = .ok (.ireturn, 1) := by decide +kernel
set_option maxRecDepth 20000 in
theorem ggX1_sweep_X0_run : GoodIn wsX1_sweep wsX0_run := goodIn_r _ [7, 8, 9, 10, 11, 12, 13, 14, 15, 16, 17, 5, 18, 19, 20, 21, 22, 23, 24, 25, 26, 27, 28, 29, 30, 31, 32, 33, 34, 35, 36, 37, 38, 39, 40, 41, 42, 43, 44, 45, 46, 47, 48, 49, 50, 51, 52, 53, 54, 55, 56, 57, 58, 59, 60, 61, 62, 63, 69, 70, 71, 72, 73, 74, 75, 76, 77, 78, 79, 80, 81, 82] (by decide +kernel) (by decide +kernel)
set_option maxRecDepth 20000 in
theorem gX1_sweep_X0_run_n64 : GoodIn wsX1_sweep (wsX0_run) := ggX1_sweep_X0_run
theorem dX1_sweep_0 : decode cX1_sweep 0 = .ok (.iload_n 2, 1) := by decide +kernel
theorem dX1_sweep_1 : decode cX1_sweep 1 = .ok (.iconst 1, 1) := by decide +kernel
theorem dX1_sweep_2 : decode cX1_sweep 2 = .ok (.if_icmp .lt 14, 3) := by decide +kernel
theorem dX1_sweep_5 : decode cX1_sweep 5 = .ok (.iload_n 2, 1) := by decide +kernel
theorem dX1_sweep_6 : decode cX1_sweep 6 = .ok (.sipush 300, 3) := by decide +kernel
theorem dX1_sweep_9 : decode cX1_sweep 9 = .ok (.if_icmp .gt 7, 3) := by decide +kernel
theorem dX1_sweep_12 : decode cX1_sweep 12 = .ok (.iload_n 3, 1) := by decide +kernel
theorem dX1_sweep_13 : decode cX1_sweep 13 = .ok (.ifCond .ne 5, 3) := by decide +kernel
theorem dX1_sweep_16 : decode cX1_sweep 16 = .ok (.iconst (-1), 1) := by decide +kernel
theorem dX1_sweep_17 : decode cX1_sweep 17 = .ok (.ireturn, 1) := by decide +kernel
theorem dX1_sweep_18 : decode cX1_sweep 18 = .ok (.iconst 0, 1) := by decide +kernel
theorem dX1_sweep_19 : decode cX1_sweep 19 = .ok (.istore 4, 2) := by decide +kernel
theorem dX1_sweep_21 : decode cX1_sweep 21 = .ok (.iconst 0, 1) := by decide +kernel
theorem dX1_sweep_22 : decode cX1_sweep 22 = .ok (.istore 5, 2) := by decide +kernel
theorem dX1_sweep_24 : decode cX1_sweep 24 = .ok (.iload 5, 2) := by decide +kernel
theorem dX1_sweep_26 : decode cX1_sweep 26 = .ok (.iload_n 2, 1) := by decide +kernel
theorem dX1_sweep_27 : decode cX1_sweep 27 = .ok (.if_icmp .ge 65, 3) := by decide +kernel
theorem dX1_sweep_30 : decode cX1_sweep 30 = .ok (.iload_n 1, 1) := by decide +kernel
theorem dX1_sweep_31 : decode cX1_sweep 31 = .ok (.iload 5, 2) := by decide +kernel
theorem dX1_sweep_33 : decode cX1_sweep 33 = .ok (.iadd, 1) := by decide +kernel
theorem dX1_sweep_34 : decode cX1_sweep 34 = .ok (.istore 6, 2) := by decide +kernel
theorem dX1_sweep_36 : decode cX1_sweep 36 = .ok (.aload_n 0, 1) := by decide +kernel
theorem dX1_sweep_37 : decode cX1_sweep 37 = .ok (.getfield 25, 3) := by decide +kernel
theorem dX1_sweep_40 : decode cX1_sweep 40 = .ok (.iload 6, 2) := by decide +kernel
theorem dX1_sweep_42 : decode cX1_sweep 42 = .ok (.iload_n 3, 1) := by decide +kernel
theorem dX1_sweep_43 : decode cX1_sweep 43 = .ok (.aload_n 0, 1) := by decide +kernel
theorem dX1_sweep_44 : decode cX1_sweep 44 = .ok (.getfield 11, 3) := by decide +kernel
theorem dX1_sweep_47 : decode cX1_sweep 47 = .ok (.aload_n 0, 1) := by decide +kernel
theorem dX1_sweep_48 : decode cX1_sweep 48 = .ok (.getfield 28, 3) := by decide +kernel
theorem dX1_sweep_51 : decode cX1_sweep 51 = .ok (.aaload, 1) := by decide +kernel
theorem dX1_sweep_52 : decode cX1_sweep 52 = .ok (.invokevirtual 64, 3) := by decide +kernel
theorem dX1_sweep_55 : decode cX1_sweep 55 = .ok (.aload_n 0, 1) := by decide +kernel
theorem dX1_sweep_56 : decode cX1_sweep 56 = .ok (.getfield 25, 3) := by decide +kernel
theorem dX1_sweep_59 : decode cX1_sweep 59 = .ok (.getfield 71, 3) := by decide +kernel
theorem dX1_sweep_62 : decode cX1_sweep 62 = .ok (.iload 6, 2) := by decide +kernel
theorem dX1_sweep_64 : decode cX1_sweep 64 = .ok (.iload_n 3, 1) := by decide +kernel
theorem dX1_sweep_65 : decode cX1_sweep 65 = .ok (.idiv, 1) := by decide +kernel
theorem dX1_sweep_66 : decode cX1_sweep 66 = .ok (.if_icmp .ne 17, 3) := by decide +kernel
theorem dX1_sweep_69 : decode cX1_sweep 69 = .ok (.aload_n 0, 1) := by decide +kernel
theorem dX1_sweep_70 : decode cX1_sweep 70 = .ok (.getfield 25, 3) := by decide +kernel
theorem dX1_sweep_73 : decode cX1_sweep 73 = .ok (.getfield 74, 3) := by decide +kernel
theorem dX1_sweep_76 : decode cX1_sweep 76 = .ok (.iload 6, 2) := by decide +kernel
theorem dX1_sweep_78 : decode cX1_sweep 78 = .ok (.iload_n 3, 1) := by decide +kernel
theorem dX1_sweep_79 : decode cX1_sweep 79 = .ok (.irem, 1) := by decide +kernel
theorem dX1_sweep_80 : decode cX1_sweep 80 = .ok (.if_icmp .eq 6, 3) := by decide +kernel
theorem dX1_sweep_83 : decode cX1_sweep 83 = .ok (.iinc 4 1, 3) := by decide +kernel
theorem dX1_sweep_86 : decode cX1_sweep 86 = .ok (.iinc 5 1, 3) := by decide +kernel
theorem dX1_sweep_89 : decode cX1_sweep 89 = .ok (.goto (-65), 3) := by decide +kernel
theorem dX1_sweep_92 : decode cX1_sweep 92 = .ok (.iload 4, 2) := by decide +kernel
theorem dX1_sweep_94 : decode cX1_sweep 94 = .ok (.ireturn, 1) := by decide +kernel
theorem dX1_isTable_0 : decode cX1_isTable 0 = .ok (.iload_n 0, 1) := by decide +kernel
theorem dX1_isTable_1 : decode cX1_isTable 1 = .ok (.ifCond .lt 12, 3) := by decide +kernel
theorem dX1_isTable_4 : decode cX1_isTable 4 = .ok (.iload_n 0, 1) := by decide +kernel
theorem dX1_isTable_5 : decode cX1_isTable 5 = .ok (.iconst 4, 1) := by decide +kernel
theorem dX1_isTable_6 : decode cX1_isTable 6 = .ok (.if_icmp .ge 7, 3) := by decide +kernel
theorem dX1_isTable_9 : decode cX1_isTable 9 = .ok (.iconst 1, 1) := by decide +kernel
theorem dX1_isTable_10 : decode cX1_isTable 10 = .ok (.goto 4, 3) := by decide +kernel
theorem dX1_isTable_13 : decode cX1_isTable 13 = .ok (.iconst 0, 1) := by decide +kernel
theorem dX1_isTable_14 : decode cX1_isTable 14 = .ok (.ireturn, 1) := by decide +kernel
theorem dX1_isCell_0 : decode cX1_isCell 0 = .ok (.iload_n 0, 1) := by decide +kernel
theorem dX1_isCell_1 : decode cX1_isCell 1 = .ok (.ifCond .lt 25, 3) := by decide +kernel
theorem dX1_isCell_4 : decode cX1_isCell 4 = .ok (.iload_n 0, 1) := by decide +kernel
theorem dX1_isCell_5 : decode cX1_isCell 5 = .ok (.bipush 16, 2) := by decide +kernel
theorem dX1_isCell_7 : decode cX1_isCell 7 = .ok (.if_icmp .ge 19, 3) := by decide +kernel
theorem dX1_isCell_10 : decode cX1_isCell 10 = .ok (.iload_n 1, 1) := by decide +kernel
theorem dX1_isCell_11 : decode cX1_isCell 11 = .ok (.bipush (-64), 2) := by decide +kernel
theorem dX1_isCell_13 : decode cX1_isCell 13 = .ok (.if_icmp .lt 13, 3) := by decide +kernel
theorem dX1_isCell_16 : decode cX1_isCell 16 = .ok (.iload_n 1, 1) := by decide +kernel
theorem dX1_isCell_17 : decode cX1_isCell 17 = .ok (.bipush 63, 2) := by decide +kernel
theorem dX1_isCell_19 : decode cX1_isCell 19 = .ok (.if_icmp .gt 7, 3) := by decide +kernel
theorem dX1_isCell_22 : decode cX1_isCell 22 = .ok (.iconst 1, 1) := by decide +kernel
theorem dX1_isCell_23 : decode cX1_isCell 23 = .ok (.goto 4, 3) := by decide +kernel
theorem dX1_isCell_26 : decode cX1_isCell 26 = .ok (.iconst 0, 1) := by decide +kernel
theorem dX1_isCell_27 : decode cX1_isCell 27 = .ok (.ireturn, 1) := by decide +kernel
theorem dX1_isDigit_0 : decode cX1_isDigit 0 = .ok (.iload_n 0, 1) := by decide +kernel
theorem dX1_isDigit_1 : decode cX1_isDigit 1 = .ok (.bipush (-2), 2) := by decide +kernel
theorem dX1_isDigit_3 : decode cX1_isDigit 3 = .ok (.if_icmp .lt 12, 3) := by decide +kernel
theorem dX1_isDigit_6 : decode cX1_isDigit 6 = .ok (.iload_n 0, 1) := by decide +kernel
theorem dX1_isDigit_7 : decode cX1_isDigit 7 = .ok (.iconst 2, 1) := by decide +kernel
theorem dX1_isDigit_8 : decode cX1_isDigit 8 = .ok (.if_icmp .gt 7, 3) := by decide +kernel
theorem dX1_isDigit_11 : decode cX1_isDigit 11 = .ok (.iconst 1, 1) := by decide +kernel
theorem dX1_isDigit_12 : decode cX1_isDigit 12 = .ok (.goto 4, 3) := by decide +kernel
theorem dX1_isDigit_15 : decode cX1_isDigit 15 = .ok (.iconst 0, 1) := by decide +kernel
theorem dX1_isDigit_16 : decode cX1_isDigit 16 = .ok (.ireturn, 1) := by decide +kernel
theorem dX1_cellAt_0 : decode cX1_cellAt 0 = .ok (.iload_n 0, 1) := by decide +kernel
theorem dX1_cellAt_1 : decode cX1_cellAt 1 = .ok (.sipush 128, 3) := by decide +kernel
theorem dX1_cellAt_4 : decode cX1_cellAt 4 = .ok (.imul, 1) := by decide +kernel
theorem dX1_cellAt_5 : decode cX1_cellAt 5 = .ok (.iload_n 1, 1) := by decide +kernel
theorem dX1_cellAt_6 : decode cX1_cellAt 6 = .ok (.iadd, 1) := by decide +kernel
theorem dX1_cellAt_7 : decode cX1_cellAt 7 = .ok (.bipush (-64), 2) := by decide +kernel
theorem dX1_cellAt_9 : decode cX1_cellAt 9 = .ok (.isub, 1) := by decide +kernel
theorem dX1_cellAt_10 : decode cX1_cellAt 10 = .ok (.ireturn, 1) := by decide +kernel
theorem dX1_replace_0 : decode cX1_replace 0 = .ok (.aload_n 0, 1) := by decide +kernel
theorem dX1_replace_1 : decode cX1_replace 1 = .ok (.getfield 11, 3) := by decide +kernel
theorem dX1_replace_4 : decode cX1_replace 4 = .ok (.iload_n 1, 1) := by decide +kernel
theorem dX1_replace_5 : decode cX1_replace 5 = .ok (.aaload, 1) := by decide +kernel
theorem dX1_replace_6 : decode cX1_replace 6 = .ok (.iload_n 2, 1) := by decide +kernel
theorem dX1_replace_7 : decode cX1_replace 7 = .ok (.iaload, 1) := by decide +kernel
theorem dX1_replace_8 : decode cX1_replace 8 = .ok (.iload_n 3, 1) := by decide +kernel
theorem dX1_replace_9 : decode cX1_replace 9 = .ok (.if_icmp .ne 5, 3) := by decide +kernel
theorem dX1_replace_12 : decode cX1_replace 12 = .ok (.iconst 0, 1) := by decide +kernel
theorem dX1_replace_13 : decode cX1_replace 13 = .ok (.ireturn, 1) := by decide +kernel
theorem dX1_replace_14 : decode cX1_replace 14 = .ok (.aload_n 0, 1) := by decide +kernel
theorem dX1_replace_15 : decode cX1_replace 15 = .ok (.getfield 11, 3) := by decide +kernel
theorem dX1_replace_18 : decode cX1_replace 18 = .ok (.iload_n 1, 1) := by decide +kernel
theorem dX1_replace_19 : decode cX1_replace 19 = .ok (.aaload, 1) := by decide +kernel
theorem dX1_replace_20 : decode cX1_replace 20 = .ok (.iload_n 2, 1) := by decide +kernel
theorem dX1_replace_21 : decode cX1_replace 21 = .ok (.iload_n 3, 1) := by decide +kernel
theorem dX1_replace_22 : decode cX1_replace 22 = .ok (.iastore, 1) := by decide +kernel
theorem dX1_replace_23 : decode cX1_replace 23 = .ok (.iconst 1, 1) := by decide +kernel
theorem dX1_replace_24 : decode cX1_replace 24 = .ok (.ireturn, 1) := by decide +kernel
theorem dX1_isGood_0 : decode cX1_isGood 0 = .ok (.aload_n 0, 1) := by decide +kernel
theorem dX1_isGood_1 : decode cX1_isGood 1 = .ok (.getfield 14, 3) := by decide +kernel
theorem dX1_isGood_4 : decode cX1_isGood 4 = .ok (.iload_n 1, 1) := by decide +kernel
theorem dX1_isGood_5 : decode cX1_isGood 5 = .ok (.iaload, 1) := by decide +kernel
theorem dX1_isGood_6 : decode cX1_isGood 6 = .ok (.iload_n 2, 1) := by decide +kernel
theorem dX1_isGood_7 : decode cX1_isGood 7 = .ok (.iconst 2, 1) := by decide +kernel
theorem dX1_isGood_8 : decode cX1_isGood 8 = .ok (.iadd, 1) := by decide +kernel
theorem dX1_isGood_9 : decode cX1_isGood 9 = .ok (.ishr, 1) := by decide +kernel
theorem dX1_isGood_10 : decode cX1_isGood 10 = .ok (.iconst 1, 1) := by decide +kernel
theorem dX1_isGood_11 : decode cX1_isGood 11 = .ok (.iand, 1) := by decide +kernel
theorem dX1_isGood_12 : decode cX1_isGood 12 = .ok (.iconst 1, 1) := by decide +kernel
theorem dX1_isGood_13 : decode cX1_isGood 13 = .ok (.if_icmp .ne 7, 3) := by decide +kernel
theorem dX1_isGood_16 : decode cX1_isGood 16 = .ok (.iconst 1, 1) := by decide +kernel
theorem dX1_isGood_17 : decode cX1_isGood 17 = .ok (.goto 4, 3) := by decide +kernel
theorem dX1_isGood_20 : decode cX1_isGood 20 = .ok (.iconst 0, 1) := by decide +kernel
theorem dX1_isGood_21 : decode cX1_isGood 21 = .ok (.ireturn, 1) := by decide +kernel
set_option maxRecDepth 20000 in
theorem ggX1_madeDigit_X1_isGood : GoodIn wsX1_madeDigit wsX1_isGood := goodIn_r _ [6, 7, 8, 9, 10, 11, 12] (by decide +kernel) (by decide +kernel)
set_option maxRecDepth 20000 in
theorem gX1_madeDigit_X1_isGood : GoodIn wsX1_madeDigit (wsV RX1 58 RX1 yX1_isGood wsX1_isGood) := goodIn_app (goodIn_of _ (by decide +kernel)) ggX1_madeDigit_X1_isGood
theorem dX1_madeDigit_0 : decode cX1_madeDigit 0 = .ok (.getstatic 111, 3) := by decide +kernel
theorem dX1_madeDigit_3 : decode cX1_madeDigit 3 = .ok (.astore_n 2, 1) := by decide +kernel
theorem dX1_madeDigit_4 : decode cX1_madeDigit 4 = .ok (.aload_n 2, 1) := by decide +kernel
theorem dX1_madeDigit_5 : decode cX1_madeDigit 5 = .ok (.arraylength, 1) := by decide +kernel
theorem dX1_madeDigit_6 : decode cX1_madeDigit 6 = .ok (.istore_n 3, 1) := by decide +kernel
theorem dX1_madeDigit_7 : decode cX1_madeDigit 7 = .ok (.iconst 0, 1) := by decide +kernel
theorem dX1_madeDigit_8 : decode cX1_madeDigit 8 = .ok (.istore 4, 2) := by decide +kernel
theorem dX1_madeDigit_10 : decode cX1_madeDigit 10 = .ok (.iload 4, 2) := by decide +kernel
theorem dX1_madeDigit_12 : decode cX1_madeDigit 12 = .ok (.iload_n 3, 1) := by decide +kernel
theorem dX1_madeDigit_13 : decode cX1_madeDigit 13 = .ok (.if_icmp .ge 28, 3) := by decide +kernel
theorem dX1_madeDigit_16 : decode cX1_madeDigit 16 = .ok (.aload_n 2, 1) := by decide +kernel
theorem dX1_madeDigit_17 : decode cX1_madeDigit 17 = .ok (.iload 4, 2) := by decide +kernel
theorem dX1_madeDigit_19 : decode cX1_madeDigit 19 = .ok (.iaload, 1) := by decide +kernel
theorem dX1_madeDigit_20 : decode cX1_madeDigit 20 = .ok (.istore 5, 2) := by decide +kernel
theorem dX1_madeDigit_22 : decode cX1_madeDigit 22 = .ok (.aload_n 0, 1) := by decide +kernel
theorem dX1_madeDigit_23 : decode cX1_madeDigit 23 = .ok (.iload_n 1, 1) := by decide +kernel
theorem dX1_madeDigit_24 : decode cX1_madeDigit 24 = .ok (.iload 5, 2) := by decide +kernel
theorem dX1_madeDigit_26 : decode cX1_madeDigit 26 = .ok (.invokevirtual 58, 3) := by decide +kernel
theorem dX1_madeDigit_29 : decode cX1_madeDigit 29 = .ok (.ifCond .eq 6, 3) := by decide +kernel
theorem dX1_madeDigit_32 : decode cX1_madeDigit 32 = .ok (.iload 5, 2) := by decide +kernel
theorem dX1_madeDigit_34 : decode cX1_madeDigit 34 = .ok (.ireturn, 1) := by decide +kernel
theorem dX1_madeDigit_35 : decode cX1_madeDigit 35 = .ok (.iinc 4 1, 3) := by decide +kernel
theorem dX1_madeDigit_38 : decode cX1_madeDigit 38 = .ok (.goto (-28), 3) := by decide +kernel
theorem dX1_madeDigit_41 : decode cX1_madeDigit 41 = .ok (.iconst 0, 1) := by decide +kernel
theorem dX1_madeDigit_42 : decode cX1_madeDigit 42 = .ok (.ireturn, 1) := by decide +kernel
set_option maxRecDepth 20000 in
theorem ggX1_findGoodDigits_X1_holdsAny : GoodIn wsX1_findGoodDigits wsX1_holdsAny := goodIn_r _ [4, 5, 6, 3, 7, 8, 9, 10, 11, 12, 13, 14] (by decide +kernel) (by decide +kernel)
set_option maxRecDepth 20000 in
theorem gX1_findGoodDigits_X1_holdsAny : GoodIn wsX1_findGoodDigits (va_wsS RX1 61 yX1_holdsAny wsX1_holdsAny) := goodIn_app (goodIn_of _ (by decide +kernel)) ggX1_findGoodDigits_X1_holdsAny
set_option maxRecDepth 20000 in
theorem ggX1_findGoodDigits_X1_staysWithin : GoodIn wsX1_findGoodDigits wsX1_staysWithin := goodIn_r _ [17, 5, 6, 3, 7, 8, 9, 10, 11, 12, 13, 14] (by decide +kernel) (by decide +kernel)
set_option maxRecDepth 20000 in
theorem gX1_findGoodDigits_X1_staysWithin : GoodIn wsX1_findGoodDigits (va_wsS RX1 114 yX1_staysWithin wsX1_staysWithin) := goodIn_app (goodIn_of _ (by decide +kernel)) ggX1_findGoodDigits_X1_staysWithin
theorem dX1_findGoodDigits_0 : decode cX1_findGoodDigits 0 = .ok (.iconst 0, 1) := by decide +kernel
theorem dX1_findGoodDigits_1 : decode cX1_findGoodDigits 1 = .ok (.istore_n 2, 1) := by decide +kernel
theorem dX1_findGoodDigits_2 : decode cX1_findGoodDigits 2 = .ok (.bipush (-2), 2) := by decide +kernel
theorem dX1_findGoodDigits_4 : decode cX1_findGoodDigits 4 = .ok (.istore_n 3, 1) := by decide +kernel
theorem dX1_findGoodDigits_5 : decode cX1_findGoodDigits 5 = .ok (.iload_n 3, 1) := by decide +kernel
theorem dX1_findGoodDigits_6 : decode cX1_findGoodDigits 6 = .ok (.iconst 2, 1) := by decide +kernel
theorem dX1_findGoodDigits_7 : decode cX1_findGoodDigits 7 = .ok (.if_icmp .gt 34, 3) := by decide +kernel
theorem dX1_findGoodDigits_10 : decode cX1_findGoodDigits 10 = .ok (.iload_n 0, 1) := by decide +kernel
theorem dX1_findGoodDigits_11 : decode cX1_findGoodDigits 11 = .ok (.iload_n 1, 1) := by decide +kernel
theorem dX1_findGoodDigits_12 : decode cX1_findGoodDigits 12 = .ok (.invokestatic 61, 3) := by decide +kernel
theorem dX1_findGoodDigits_15 : decode cX1_findGoodDigits 15 = .ok (.ifCond .eq 12, 3) := by decide +kernel
theorem dX1_findGoodDigits_18 : decode cX1_findGoodDigits 18 = .ok (.iload_n 0, 1) := by decide +kernel
theorem dX1_findGoodDigits_19 : decode cX1_findGoodDigits 19 = .ok (.iload_n 1, 1) := by decide +kernel
theorem dX1_findGoodDigits_20 : decode cX1_findGoodDigits 20 = .ok (.iload_n 3, 1) := by decide +kernel
theorem dX1_findGoodDigits_21 : decode cX1_findGoodDigits 21 = .ok (.invokestatic 114, 3) := by decide +kernel
theorem dX1_findGoodDigits_24 : decode cX1_findGoodDigits 24 = .ok (.ifCond .eq 11, 3) := by decide +kernel
theorem dX1_findGoodDigits_27 : decode cX1_findGoodDigits 27 = .ok (.iload_n 2, 1) := by decide +kernel
theorem dX1_findGoodDigits_28 : decode cX1_findGoodDigits 28 = .ok (.iconst 1, 1) := by decide +kernel
theorem dX1_findGoodDigits_29 : decode cX1_findGoodDigits 29 = .ok (.iload_n 3, 1) := by decide +kernel
theorem dX1_findGoodDigits_30 : decode cX1_findGoodDigits 30 = .ok (.iconst 2, 1) := by decide +kernel
theorem dX1_findGoodDigits_31 : decode cX1_findGoodDigits 31 = .ok (.iadd, 1) := by decide +kernel
theorem dX1_findGoodDigits_32 : decode cX1_findGoodDigits 32 = .ok (.ishl, 1) := by decide +kernel
theorem dX1_findGoodDigits_33 : decode cX1_findGoodDigits 33 = .ok (.ior, 1) := by decide +kernel
theorem dX1_findGoodDigits_34 : decode cX1_findGoodDigits 34 = .ok (.istore_n 2, 1) := by decide +kernel
theorem dX1_findGoodDigits_35 : decode cX1_findGoodDigits 35 = .ok (.iinc 3 1, 3) := by decide +kernel
theorem dX1_findGoodDigits_38 : decode cX1_findGoodDigits 38 = .ok (.goto (-33), 3) := by decide +kernel
theorem dX1_findGoodDigits_41 : decode cX1_findGoodDigits 41 = .ok (.iload_n 2, 1) := by decide +kernel
theorem dX1_findGoodDigits_42 : decode cX1_findGoodDigits 42 = .ok (.ireturn, 1) := by decide +kernel
theorem dX1_leastDivisor_0 : decode cX1_leastDivisor 0 = .ok (.iload_n 1, 1) := by decide +kernel
theorem dX1_leastDivisor_1 : decode cX1_leastDivisor 1 = .ok (.iload_n 1, 1) := by decide +kernel
theorem dX1_leastDivisor_2 : decode cX1_leastDivisor 2 = .ok (.iconst 2, 1) := by decide +kernel
theorem dX1_leastDivisor_3 : decode cX1_leastDivisor 3 = .ok (.iadd, 1) := by decide +kernel
theorem dX1_leastDivisor_4 : decode cX1_leastDivisor 4 = .ok (.ineg, 1) := by decide +kernel
theorem dX1_leastDivisor_5 : decode cX1_leastDivisor 5 = .ok (.invokestatic 118, 3) := by decide +kernel
theorem dX1_leastDivisor_8 : decode cX1_leastDivisor 8 = .ok (.istore_n 2, 1) := by decide +kernel
theorem dX1_leastDivisor_9 : decode cX1_leastDivisor 9 = .ok (.iconst 4, 1) := by decide +kernel
theorem dX1_leastDivisor_10 : decode cX1_leastDivisor 10 = .ok (.bipush 16, 2) := by decide +kernel
theorem dX1_leastDivisor_12 : decode cX1_leastDivisor 12 = .ok (.iload_n 0, 1) := by decide +kernel
theorem dX1_leastDivisor_13 : decode cX1_leastDivisor 13 = .ok (.iadd, 1) := by decide +kernel
theorem dX1_leastDivisor_14 : decode cX1_leastDivisor 14 = .ok (.imul, 1) := by decide +kernel
theorem dX1_leastDivisor_15 : decode cX1_leastDivisor 15 = .ok (.iconst 3, 1) := by decide +kernel
theorem dX1_leastDivisor_16 : decode cX1_leastDivisor 16 = .ok (.iload_n 2, 1) := by decide +kernel
theorem dX1_leastDivisor_17 : decode cX1_leastDivisor 17 = .ok (.imul, 1) := by decide +kernel
theorem dX1_leastDivisor_18 : decode cX1_leastDivisor 18 = .ok (.invokestatic 118, 3) := by decide +kernel
theorem dX1_leastDivisor_21 : decode cX1_leastDivisor 21 = .ok (.ireturn, 1) := by decide +kernel
theorem dX1_endOfDivisors_0 : decode cX1_endOfDivisors 0 = .ok (.iconst 4, 1) := by decide +kernel
theorem dX1_endOfDivisors_1 : decode cX1_endOfDivisors 1 = .ok (.bipush 17, 2) := by decide +kernel
theorem dX1_endOfDivisors_3 : decode cX1_endOfDivisors 3 = .ok (.iload_n 0, 1) := by decide +kernel
theorem dX1_endOfDivisors_4 : decode cX1_endOfDivisors 4 = .ok (.iadd, 1) := by decide +kernel
theorem dX1_endOfDivisors_5 : decode cX1_endOfDivisors 5 = .ok (.imul, 1) := by decide +kernel
theorem dX1_endOfDivisors_6 : decode cX1_endOfDivisors 6 = .ok (.ireturn, 1) := by decide +kernel
set_option maxRecDepth 20000 in
theorem ggX1_holdsAny_X1_leastDivisor : GoodIn wsX1_holdsAny wsX1_leastDivisor := goodIn_r _ [4, 5, 6, 7, 8] (by decide +kernel) (by decide +kernel)
set_option maxRecDepth 20000 in
theorem gX1_holdsAny_X1_leastDivisor : GoodIn wsX1_holdsAny (va_wsS RX1 123 yX1_leastDivisor wsX1_leastDivisor) := goodIn_app (goodIn_of _ (by decide +kernel)) ggX1_holdsAny_X1_leastDivisor
set_option maxRecDepth 20000 in
theorem ggX1_holdsAny_X1_endOfDivisors : GoodIn wsX1_holdsAny wsX1_endOfDivisors := goodIn_r _ [11] (by decide +kernel) (by decide +kernel)
set_option maxRecDepth 20000 in
theorem gX1_holdsAny_X1_endOfDivisors : GoodIn wsX1_holdsAny (va_wsS RX1 126 yX1_endOfDivisors wsX1_endOfDivisors) := goodIn_app (goodIn_of _ (by decide +kernel)) ggX1_holdsAny_X1_endOfDivisors
theorem dX1_holdsAny_0 : decode cX1_holdsAny 0 = .ok (.iload_n 0, 1) := by decide +kernel
theorem dX1_holdsAny_1 : decode cX1_holdsAny 1 = .ok (.iload_n 1, 1) := by decide +kernel
theorem dX1_holdsAny_2 : decode cX1_holdsAny 2 = .ok (.invokestatic 123, 3) := by decide +kernel
theorem dX1_holdsAny_5 : decode cX1_holdsAny 5 = .ok (.iload_n 0, 1) := by decide +kernel
theorem dX1_holdsAny_6 : decode cX1_holdsAny 6 = .ok (.invokestatic 126, 3) := by decide +kernel
theorem dX1_holdsAny_9 : decode cX1_holdsAny 9 = .ok (.if_icmp .ge 7, 3) := by decide +kernel
theorem dX1_holdsAny_12 : decode cX1_holdsAny 12 = .ok (.iconst 1, 1) := by decide +kernel
theorem dX1_holdsAny_13 : decode cX1_holdsAny 13 = .ok (.goto 4, 3) := by decide +kernel
theorem dX1_holdsAny_16 : decode cX1_holdsAny 16 = .ok (.iconst 0, 1) := by decide +kernel
theorem dX1_holdsAny_17 : decode cX1_holdsAny 17 = .ok (.ireturn, 1) := by decide +kernel
set_option maxRecDepth 20000 in
theorem ggX1_staysWithin_X1_leastDivisor : GoodIn wsX1_staysWithin wsX1_leastDivisor := goodIn_r _ [4, 5, 6, 7, 8] (by decide +kernel) (by decide +kernel)
set_option maxRecDepth 20000 in
theorem gX1_staysWithin_X1_leastDivisor : GoodIn wsX1_staysWithin (va_wsS RX1 123 yX1_leastDivisor wsX1_leastDivisor) := goodIn_app (goodIn_of _ (by decide +kernel)) ggX1_staysWithin_X1_leastDivisor
set_option maxRecDepth 20000 in
theorem ggX1_staysWithin_X1_endOfDivisors : GoodIn wsX1_staysWithin wsX1_endOfDivisors := goodIn_r _ [11] (by decide +kernel) (by decide +kernel)
set_option maxRecDepth 20000 in
theorem gX1_staysWithin_X1_endOfDivisors : GoodIn wsX1_staysWithin (va_wsS RX1 126 yX1_endOfDivisors wsX1_endOfDivisors) := goodIn_app (goodIn_of _ (by decide +kernel)) ggX1_staysWithin_X1_endOfDivisors
theorem dX1_staysWithin_0 : decode cX1_staysWithin 0 = .ok (.iload_n 0, 1) := by decide +kernel
theorem dX1_staysWithin_1 : decode cX1_staysWithin 1 = .ok (.iload_n 1, 1) := by decide +kernel
theorem dX1_staysWithin_2 : decode cX1_staysWithin 2 = .ok (.invokestatic 123, 3) := by decide +kernel
theorem dX1_staysWithin_5 : decode cX1_staysWithin 5 = .ok (.istore_n 3, 1) := by decide +kernel
theorem dX1_staysWithin_6 : decode cX1_staysWithin 6 = .ok (.iload_n 0, 1) := by decide +kernel
theorem dX1_staysWithin_7 : decode cX1_staysWithin 7 = .ok (.invokestatic 126, 3) := by decide +kernel
theorem dX1_staysWithin_10 : decode cX1_staysWithin 10 = .ok (.istore 4, 2) := by decide +kernel
theorem dX1_staysWithin_12 : decode cX1_staysWithin 12 = .ok (.bipush 24, 2) := by decide +kernel
theorem dX1_staysWithin_14 : decode cX1_staysWithin 14 = .ok (.iload_n 1, 1) := by decide +kernel
theorem dX1_staysWithin_15 : decode cX1_staysWithin 15 = .ok (.iconst 2, 1) := by decide +kernel
theorem dX1_staysWithin_16 : decode cX1_staysWithin 16 = .ok (.iadd, 1) := by decide +kernel
theorem dX1_staysWithin_17 : decode cX1_staysWithin 17 = .ok (.imul, 1) := by decide +kernel
theorem dX1_staysWithin_18 : decode cX1_staysWithin 18 = .ok (.istore 5, 2) := by decide +kernel
theorem dX1_staysWithin_20 : decode cX1_staysWithin 20 = .ok (.bipush 24, 2) := by decide +kernel
theorem dX1_staysWithin_22 : decode cX1_staysWithin 22 = .ok (.iload_n 1, 1) := by decide +kernel
theorem dX1_staysWithin_23 : decode cX1_staysWithin 23 = .ok (.imul, 1) := by decide +kernel
theorem dX1_staysWithin_24 : decode cX1_staysWithin 24 = .ok (.istore 6, 2) := by decide +kernel
theorem dX1_staysWithin_26 : decode cX1_staysWithin 26 = .ok (.iconst 3, 1) := by decide +kernel
theorem dX1_staysWithin_27 : decode cX1_staysWithin 27 = .ok (.iload_n 2, 1) := by decide +kernel
theorem dX1_staysWithin_28 : decode cX1_staysWithin 28 = .ok (.imul, 1) := by decide +kernel
theorem dX1_staysWithin_29 : decode cX1_staysWithin 29 = .ok (.iconst 2, 1) := by decide +kernel
theorem dX1_staysWithin_30 : decode cX1_staysWithin 30 = .ok (.iadd, 1) := by decide +kernel
theorem dX1_staysWithin_31 : decode cX1_staysWithin 31 = .ok (.istore 7, 2) := by decide +kernel
theorem dX1_staysWithin_33 : decode cX1_staysWithin 33 = .ok (.iconst 3, 1) := by decide +kernel
theorem dX1_staysWithin_34 : decode cX1_staysWithin 34 = .ok (.iload_n 2, 1) := by decide +kernel
theorem dX1_staysWithin_35 : decode cX1_staysWithin 35 = .ok (.imul, 1) := by decide +kernel
theorem dX1_staysWithin_36 : decode cX1_staysWithin 36 = .ok (.iconst 2, 1) := by decide +kernel
theorem dX1_staysWithin_37 : decode cX1_staysWithin 37 = .ok (.isub, 1) := by decide +kernel
theorem dX1_staysWithin_38 : decode cX1_staysWithin 38 = .ok (.istore 8, 2) := by decide +kernel
theorem dX1_staysWithin_40 : decode cX1_staysWithin 40 = .ok (.iload_n 2, 1) := by decide +kernel
theorem dX1_staysWithin_41 : decode cX1_staysWithin 41 = .ok (.iconst 2, 1) := by decide +kernel
theorem dX1_staysWithin_42 : decode cX1_staysWithin 42 = .ok (.if_icmp .eq 22, 3) := by decide +kernel
theorem dX1_staysWithin_45 : decode cX1_staysWithin 45 = .ok (.iload 5, 2) := by decide +kernel
theorem dX1_staysWithin_47 : decode cX1_staysWithin 47 = .ok (.iload 7, 2) := by decide +kernel
theorem dX1_staysWithin_49 : decode cX1_staysWithin 49 = .ok (.iload_n 3, 1) := by decide +kernel
theorem dX1_staysWithin_50 : decode cX1_staysWithin 50 = .ok (.imul, 1) := by decide +kernel
theorem dX1_staysWithin_51 : decode cX1_staysWithin 51 = .ok (.if_icmp .gt 17, 3) := by decide +kernel
theorem dX1_staysWithin_54 : decode cX1_staysWithin 54 = .ok (.iload 5, 2) := by decide +kernel
theorem dX1_staysWithin_56 : decode cX1_staysWithin 56 = .ok (.iload 7, 2) := by decide +kernel
theorem dX1_staysWithin_58 : decode cX1_staysWithin 58 = .ok (.iload 4, 2) := by decide +kernel
theorem dX1_staysWithin_60 : decode cX1_staysWithin 60 = .ok (.imul, 1) := by decide +kernel
theorem dX1_staysWithin_61 : decode cX1_staysWithin 61 = .ok (.if_icmp .gt 7, 3) := by decide +kernel
theorem dX1_staysWithin_64 : decode cX1_staysWithin 64 = .ok (.iconst 1, 1) := by decide +kernel
theorem dX1_staysWithin_65 : decode cX1_staysWithin 65 = .ok (.goto 4, 3) := by decide +kernel
theorem dX1_staysWithin_68 : decode cX1_staysWithin 68 = .ok (.iconst 0, 1) := by decide +kernel
theorem dX1_staysWithin_69 : decode cX1_staysWithin 69 = .ok (.istore 9, 2) := by decide +kernel
theorem dX1_staysWithin_71 : decode cX1_staysWithin 71 = .ok (.iload_n 2, 1) := by decide +kernel
theorem dX1_staysWithin_72 : decode cX1_staysWithin 72 = .ok (.bipush (-2), 2) := by decide +kernel
theorem dX1_staysWithin_74 : decode cX1_staysWithin 74 = .ok (.if_icmp .eq 22, 3) := by decide +kernel
theorem dX1_staysWithin_77 : decode cX1_staysWithin 77 = .ok (.iload 6, 2) := by decide +kernel
theorem dX1_staysWithin_79 : decode cX1_staysWithin 79 = .ok (.iload 8, 2) := by decide +kernel
theorem dX1_staysWithin_81 : decode cX1_staysWithin 81 = .ok (.iload_n 3, 1) := by decide +kernel
theorem dX1_staysWithin_82 : decode cX1_staysWithin 82 = .ok (.imul, 1) := by decide +kernel
theorem dX1_staysWithin_83 : decode cX1_staysWithin 83 = .ok (.if_icmp .lt 17, 3) := by decide +kernel
theorem dX1_staysWithin_86 : decode cX1_staysWithin 86 = .ok (.iload 6, 2) := by decide +kernel
theorem dX1_staysWithin_88 : decode cX1_staysWithin 88 = .ok (.iload 8, 2) := by decide +kernel
theorem dX1_staysWithin_90 : decode cX1_staysWithin 90 = .ok (.iload 4, 2) := by decide +kernel
theorem dX1_staysWithin_92 : decode cX1_staysWithin 92 = .ok (.imul, 1) := by decide +kernel
theorem dX1_staysWithin_93 : decode cX1_staysWithin 93 = .ok (.if_icmp .lt 7, 3) := by decide +kernel
theorem dX1_staysWithin_96 : decode cX1_staysWithin 96 = .ok (.iconst 1, 1) := by decide +kernel
theorem dX1_staysWithin_97 : decode cX1_staysWithin 97 = .ok (.goto 4, 3) := by decide +kernel
theorem dX1_staysWithin_100 : decode cX1_staysWithin 100 = .ok (.iconst 0, 1) := by decide +kernel
theorem dX1_staysWithin_101 : decode cX1_staysWithin 101 = .ok (.istore 10, 2) := by decide +kernel
theorem dX1_staysWithin_103 : decode cX1_staysWithin 103 = .ok (.iload 9, 2) := by decide +kernel
theorem dX1_staysWithin_105 : decode cX1_staysWithin 105 = .ok (.ifCond .eq 12, 3) := by decide +kernel
theorem dX1_staysWithin_108 : decode cX1_staysWithin 108 = .ok (.iload 10, 2) := by decide +kernel
theorem dX1_staysWithin_110 : decode cX1_staysWithin 110 = .ok (.ifCond .eq 7, 3) := by decide +kernel
theorem dX1_staysWithin_113 : decode cX1_staysWithin 113 = .ok (.iconst 1, 1) := by decide +kernel
theorem dX1_staysWithin_114 : decode cX1_staysWithin 114 = .ok (.goto 4, 3) := by decide +kernel
theorem dX1_staysWithin_117 : decode cX1_staysWithin 117 = .ok (.iconst 0, 1) := by decide +kernel
theorem dX1_staysWithin_118 : decode cX1_staysWithin 118 = .ok (.ireturn, 1) := by decide +kernel
end
section
set_option maxRecDepth 20000 in
theorem ggX2_init_X2_fill : GoodIn wsX2_init wsX2_fill := goodIn_r _ [19, 5, 20, 21, 18, 22, 23, 24, 25, 26, 27, 28, 29, 30, 31, 32, 33, 34, 35, 36, 37, 38, 39, 40, 41, 42, 43, 44, 45, 46, 47, 48, 49] (by decide +kernel) (by decide +kernel)
set_option maxRecDepth 20000 in
theorem gX2_init_X2_fill : GoodIn wsX2_init (wsV RX2 38 RX2 yX2_fill wsX2_fill) := goodIn_app (goodIn_of _ (by decide +kernel)) ggX2_init_X2_fill
theorem dX2_init_0 : decode cX2_init 0 = .ok (.aload_n 0, 1) := by decide +kernel
theorem dX2_init_1 : decode cX2_init 1 = .ok (.invokespecial 1, 3) := by decide +kernel
theorem dX2_init_4 : decode cX2_init 4 = .ok (.aload_n 0, 1) := by decide +kernel
theorem dX2_init_5 : decode cX2_init 5 = .ok (.sipush 8192, 3) := by decide +kernel
theorem dX2_init_8 : decode cX2_init 8 = .ok (.newarray .int, 2) := by decide +kernel
theorem dX2_init_10 : decode cX2_init 10 = .ok (.putfield 7, 3) := by decide +kernel
theorem dX2_init_13 : decode cX2_init 13 = .ok (.aload_n 0, 1) := by decide +kernel
theorem dX2_init_14 : decode cX2_init 14 = .ok (.bipush 20, 2) := by decide +kernel
theorem dX2_init_16 : decode cX2_init 16 = .ok (.newarray .int, 2) := by decide +kernel
theorem dX2_init_18 : decode cX2_init 18 = .ok (.putfield 13, 3) := by decide +kernel
theorem dX2_init_21 : decode cX2_init 21 = .ok (.aload_n 0, 1) := by decide +kernel
theorem dX2_init_22 : decode cX2_init 22 = .ok (.bipush 20, 2) := by decide +kernel
theorem dX2_init_24 : decode cX2_init 24 = .ok (.newarray .int, 2) := by decide +kernel
theorem dX2_init_26 : decode cX2_init 26 = .ok (.putfield 16, 3) := by decide +kernel
theorem dX2_init_29 : decode cX2_init 29 = .ok (.aload_n 0, 1) := by decide +kernel
theorem dX2_init_30 : decode cX2_init 30 = .ok (.bipush 20, 2) := by decide +kernel
theorem dX2_init_32 : decode cX2_init 32 = .ok (.newarray .long, 2) := by decide +kernel
theorem dX2_init_34 : decode cX2_init 34 = .ok (.putfield 19, 3) := by decide +kernel
theorem dX2_init_37 : decode cX2_init 37 = .ok (.aload_n 0, 1) := by decide +kernel
theorem dX2_init_38 : decode cX2_init 38 = .ok (.bipush 20, 2) := by decide +kernel
theorem dX2_init_40 : decode cX2_init 40 = .ok (.newarray .long, 2) := by decide +kernel
theorem dX2_init_42 : decode cX2_init 42 = .ok (.putfield 23, 3) := by decide +kernel
theorem dX2_init_45 : decode cX2_init 45 = .ok (.aload_n 0, 1) := by decide +kernel
theorem dX2_init_46 : decode cX2_init 46 = .ok (.bipush 20, 2) := by decide +kernel
theorem dX2_init_48 : decode cX2_init 48 = .ok (.newarray .long, 2) := by decide +kernel
theorem dX2_init_50 : decode cX2_init 50 = .ok (.putfield 26, 3) := by decide +kernel
theorem dX2_init_53 : decode cX2_init 53 = .ok (.aload_n 0, 1) := by decide +kernel
theorem dX2_init_54 : decode cX2_init 54 = .ok (.bipush 20, 2) := by decide +kernel
theorem dX2_init_56 : decode cX2_init 56 = .ok (.newarray .long, 2) := by decide +kernel
theorem dX2_init_58 : decode cX2_init 58 = .ok (.putfield 29, 3) := by decide +kernel
theorem dX2_init_61 : decode cX2_init 61 = .ok (.aload_n 0, 1) := by decide +kernel
theorem dX2_init_62 : decode cX2_init 62 = .ok (.bipush 48, 2) := by decide +kernel
theorem dX2_init_64 : decode cX2_init 64 = .ok (.newarray .int, 2) := by decide +kernel
theorem dX2_init_66 : decode cX2_init 66 = .ok (.putfield 32, 3) := by decide +kernel
theorem dX2_init_69 : decode cX2_init 69 = .ok (.aload_n 0, 1) := by decide +kernel
theorem dX2_init_70 : decode cX2_init 70 = .ok (.bipush 80, 2) := by decide +kernel
theorem dX2_init_72 : decode cX2_init 72 = .ok (.newarray .long, 2) := by decide +kernel
theorem dX2_init_74 : decode cX2_init 74 = .ok (.putfield 35, 3) := by decide +kernel
theorem dX2_init_77 : decode cX2_init 77 = .ok (.iconst 0, 1) := by decide +kernel
theorem dX2_init_78 : decode cX2_init 78 = .ok (.istore_n 1, 1) := by decide +kernel
theorem dX2_init_79 : decode cX2_init 79 = .ok (.iload_n 1, 1) := by decide +kernel
theorem dX2_init_80 : decode cX2_init 80 = .ok (.iconst 4, 1) := by decide +kernel
theorem dX2_init_81 : decode cX2_init 81 = .ok (.if_icmp .ge 15, 3) := by decide +kernel
theorem dX2_init_84 : decode cX2_init 84 = .ok (.aload_n 0, 1) := by decide +kernel
theorem dX2_init_85 : decode cX2_init 85 = .ok (.iload_n 1, 1) := by decide +kernel
theorem dX2_init_86 : decode cX2_init 86 = .ok (.invokevirtual 38, 3) := by decide +kernel
theorem dX2_init_89 : decode cX2_init 89 = .ok (.istore_n 2, 1) := by decide +kernel
theorem dX2_init_90 : decode cX2_init 90 = .ok (.iinc 1 1, 3) := by decide +kernel
theorem dX2_init_93 : decode cX2_init 93 = .ok (.goto (-14), 3) := by decide +kernel
theorem dX2_init_96 : decode cX2_init 96 = .ok (.return_, 1) := by decide +kernel
theorem dX2_in_0 : decode cX2_in 0 = .ok (.iload_n 0, 1) := by decide +kernel
theorem dX2_in_1 : decode cX2_in 1 = .ok (.iload_n 1, 1) := by decide +kernel
theorem dX2_in_2 : decode cX2_in 2 = .ok (.if_icmp .lt 12, 3) := by decide +kernel
theorem dX2_in_5 : decode cX2_in 5 = .ok (.iload_n 0, 1) := by decide +kernel
theorem dX2_in_6 : decode cX2_in 6 = .ok (.iload_n 2, 1) := by decide +kernel
theorem dX2_in_7 : decode cX2_in 7 = .ok (.if_icmp .gt 7, 3) := by decide +kernel
theorem dX2_in_10 : decode cX2_in 10 = .ok (.iconst 1, 1) := by decide +kernel
theorem dX2_in_11 : decode cX2_in 11 = .ok (.goto 4, 3) := by decide +kernel
theorem dX2_in_14 : decode cX2_in 14 = .ok (.iconst 0, 1) := by decide +kernel
theorem dX2_in_15 : decode cX2_in 15 = .ok (.ireturn, 1) := by decide +kernel
theorem dX2_isHeld_0 : decode cX2_isHeld 0 = .ok (.iconst 4, 1) := by decide +kernel
theorem dX2_isHeld_1 : decode cX2_isHeld 1 = .ok (.bipush 17, 2) := by decide +kernel
theorem dX2_isHeld_3 : decode cX2_isHeld 3 = .ok (.iload_n 0, 1) := by decide +kernel
theorem dX2_isHeld_4 : decode cX2_isHeld 4 = .ok (.iadd, 1) := by decide +kernel
theorem dX2_isHeld_5 : decode cX2_isHeld 5 = .ok (.imul, 1) := by decide +kernel
theorem dX2_isHeld_6 : decode cX2_isHeld 6 = .ok (.istore_n 2, 1) := by decide +kernel
theorem dX2_isHeld_7 : decode cX2_isHeld 7 = .ok (.iload_n 1, 1) := by decide +kernel
theorem dX2_isHeld_8 : decode cX2_isHeld 8 = .ok (.iconst (-1), 1) := by decide +kernel
theorem dX2_isHeld_9 : decode cX2_isHeld 9 = .ok (.if_icmp .eq 27, 3) := by decide +kernel
theorem dX2_isHeld_12 : decode cX2_isHeld 12 = .ok (.iload_n 1, 1) := by decide +kernel
theorem dX2_isHeld_13 : decode cX2_isHeld 13 = .ok (.ifCond .lt 13, 3) := by decide +kernel
theorem dX2_isHeld_16 : decode cX2_isHeld 16 = .ok (.iconst 3, 1) := by decide +kernel
theorem dX2_isHeld_17 : decode cX2_isHeld 17 = .ok (.iload_n 1, 1) := by decide +kernel
theorem dX2_isHeld_18 : decode cX2_isHeld 18 = .ok (.imul, 1) := by decide +kernel
theorem dX2_isHeld_19 : decode cX2_isHeld 19 = .ok (.iload_n 2, 1) := by decide +kernel
theorem dX2_isHeld_20 : decode cX2_isHeld 20 = .ok (.if_icmp .ge 20, 3) := by decide +kernel
theorem dX2_isHeld_23 : decode cX2_isHeld 23 = .ok (.goto 13, 3) := by decide +kernel
theorem dX2_isHeld_26 : decode cX2_isHeld 26 = .ok (.bipush (-3), 2) := by decide +kernel
theorem dX2_isHeld_28 : decode cX2_isHeld 28 = .ok (.iload_n 1, 1) := by decide +kernel
theorem dX2_isHeld_29 : decode cX2_isHeld 29 = .ok (.iconst 2, 1) := by decide +kernel
theorem dX2_isHeld_30 : decode cX2_isHeld 30 = .ok (.iadd, 1) := by decide +kernel
theorem dX2_isHeld_31 : decode cX2_isHeld 31 = .ok (.imul, 1) := by decide +kernel
theorem dX2_isHeld_32 : decode cX2_isHeld 32 = .ok (.iload_n 2, 1) := by decide +kernel
theorem dX2_isHeld_33 : decode cX2_isHeld 33 = .ok (.if_icmp .ge 7, 3) := by decide +kernel
theorem dX2_isHeld_36 : decode cX2_isHeld 36 = .ok (.iconst 1, 1) := by decide +kernel
theorem dX2_isHeld_37 : decode cX2_isHeld 37 = .ok (.goto 4, 3) := by decide +kernel
theorem dX2_isHeld_40 : decode cX2_isHeld 40 = .ok (.iconst 0, 1) := by decide +kernel
theorem dX2_isHeld_41 : decode cX2_isHeld 41 = .ok (.ireturn, 1) := by decide +kernel
theorem dX2_isOver_0 : decode cX2_isOver 0 = .ok (.iload_n 2, 1) := by decide +kernel
theorem dX2_isOver_1 : decode cX2_isOver 1 = .ok (.iconst 2, 1) := by decide +kernel
theorem dX2_isOver_2 : decode cX2_isOver 2 = .ok (.if_icmp .ne 5, 3) := by decide +kernel
theorem dX2_isOver_5 : decode cX2_isOver 5 = .ok (.iconst 0, 1) := by decide +kernel
theorem dX2_isOver_6 : decode cX2_isOver 6 = .ok (.ireturn, 1) := by decide +kernel
theorem dX2_isOver_7 : decode cX2_isOver 7 = .ok (.iconst 4, 1) := by decide +kernel
theorem dX2_isOver_8 : decode cX2_isOver 8 = .ok (.bipush 16, 2) := by decide +kernel
theorem dX2_isOver_10 : decode cX2_isOver 10 = .ok (.iload_n 0, 1) := by decide +kernel
theorem dX2_isOver_11 : decode cX2_isOver 11 = .ok (.iadd, 1) := by decide +kernel
theorem dX2_isOver_12 : decode cX2_isOver 12 = .ok (.imul, 1) := by decide +kernel
theorem dX2_isOver_13 : decode cX2_isOver 13 = .ok (.istore_n 3, 1) := by decide +kernel
theorem dX2_isOver_14 : decode cX2_isOver 14 = .ok (.iconst 4, 1) := by decide +kernel
theorem dX2_isOver_15 : decode cX2_isOver 15 = .ok (.bipush 17, 2) := by decide +kernel
theorem dX2_isOver_17 : decode cX2_isOver 17 = .ok (.iload_n 0, 1) := by decide +kernel
theorem dX2_isOver_18 : decode cX2_isOver 18 = .ok (.iadd, 1) := by decide +kernel
theorem dX2_isOver_19 : decode cX2_isOver 19 = .ok (.imul, 1) := by decide +kernel
theorem dX2_isOver_20 : decode cX2_isOver 20 = .ok (.istore 4, 2) := by decide +kernel
theorem dX2_isOver_22 : decode cX2_isOver 22 = .ok (.iconst 3, 1) := by decide +kernel
theorem dX2_isOver_23 : decode cX2_isOver 23 = .ok (.iload_n 1, 1) := by decide +kernel
theorem dX2_isOver_24 : decode cX2_isOver 24 = .ok (.imul, 1) := by decide +kernel
theorem dX2_isOver_25 : decode cX2_isOver 25 = .ok (.iload_n 3, 1) := by decide +kernel
theorem dX2_isOver_26 : decode cX2_isOver 26 = .ok (.if_icmp .le 9, 3) := by decide +kernel
theorem dX2_isOver_29 : decode cX2_isOver 29 = .ok (.iconst 3, 1) := by decide +kernel
theorem dX2_isOver_30 : decode cX2_isOver 30 = .ok (.iload_n 1, 1) := by decide +kernel
theorem dX2_isOver_31 : decode cX2_isOver 31 = .ok (.imul, 1) := by decide +kernel
theorem dX2_isOver_32 : decode cX2_isOver 32 = .ok (.goto 4, 3) := by decide +kernel
theorem dX2_isOver_35 : decode cX2_isOver 35 = .ok (.iload_n 3, 1) := by decide +kernel
theorem dX2_isOver_36 : decode cX2_isOver 36 = .ok (.istore 5, 2) := by decide +kernel
theorem dX2_isOver_38 : decode cX2_isOver 38 = .ok (.iload 5, 2) := by decide +kernel
theorem dX2_isOver_40 : decode cX2_isOver 40 = .ok (.iload 4, 2) := by decide +kernel
theorem dX2_isOver_42 : decode cX2_isOver 42 = .ok (.if_icmp .ge 33, 3) := by decide +kernel
theorem dX2_isOver_45 : decode cX2_isOver 45 = .ok (.bipush 24, 2) := by decide +kernel
theorem dX2_isOver_47 : decode cX2_isOver 47 = .ok (.iload_n 1, 1) := by decide +kernel
theorem dX2_isOver_48 : decode cX2_isOver 48 = .ok (.iconst 2, 1) := by decide +kernel
theorem dX2_isOver_49 : decode cX2_isOver 49 = .ok (.iadd, 1) := by decide +kernel
theorem dX2_isOver_50 : decode cX2_isOver 50 = .ok (.imul, 1) := by decide +kernel
theorem dX2_isOver_51 : decode cX2_isOver 51 = .ok (.iconst 3, 1) := by decide +kernel
theorem dX2_isOver_52 : decode cX2_isOver 52 = .ok (.iload_n 2, 1) := by decide +kernel
theorem dX2_isOver_53 : decode cX2_isOver 53 = .ok (.imul, 1) := by decide +kernel
theorem dX2_isOver_54 : decode cX2_isOver 54 = .ok (.iconst 2, 1) := by decide +kernel
theorem dX2_isOver_55 : decode cX2_isOver 55 = .ok (.iadd, 1) := by decide +kernel
theorem dX2_isOver_56 : decode cX2_isOver 56 = .ok (.iload_n 2, 1) := by decide +kernel
theorem dX2_isOver_57 : decode cX2_isOver 57 = .ok (.ifCond .ge 8, 3) := by decide +kernel
theorem dX2_isOver_60 : decode cX2_isOver 60 = .ok (.iload 4, 2) := by decide +kernel
theorem dX2_isOver_62 : decode cX2_isOver 62 = .ok (.goto 5, 3) := by decide +kernel
theorem dX2_isOver_65 : decode cX2_isOver 65 = .ok (.iload 5, 2) := by decide +kernel
theorem dX2_isOver_67 : decode cX2_isOver 67 = .ok (.imul, 1) := by decide +kernel
theorem dX2_isOver_68 : decode cX2_isOver 68 = .ok (.if_icmp .le 7, 3) := by decide +kernel
theorem dX2_isOver_71 : decode cX2_isOver 71 = .ok (.iconst 1, 1) := by decide +kernel
theorem dX2_isOver_72 : decode cX2_isOver 72 = .ok (.goto 4, 3) := by decide +kernel
theorem dX2_isOver_75 : decode cX2_isOver 75 = .ok (.iconst 0, 1) := by decide +kernel
theorem dX2_isOver_76 : decode cX2_isOver 76 = .ok (.ireturn, 1) := by decide +kernel
theorem dX2_isUnder_0 : decode cX2_isUnder 0 = .ok (.iload_n 2, 1) := by decide +kernel
theorem dX2_isUnder_1 : decode cX2_isUnder 1 = .ok (.bipush (-2), 2) := by decide +kernel
theorem dX2_isUnder_3 : decode cX2_isUnder 3 = .ok (.if_icmp .ne 5, 3) := by decide +kernel
theorem dX2_isUnder_6 : decode cX2_isUnder 6 = .ok (.iconst 0, 1) := by decide +kernel
theorem dX2_isUnder_7 : decode cX2_isUnder 7 = .ok (.ireturn, 1) := by decide +kernel
theorem dX2_isUnder_8 : decode cX2_isUnder 8 = .ok (.iconst 4, 1) := by decide +kernel
theorem dX2_isUnder_9 : decode cX2_isUnder 9 = .ok (.bipush 16, 2) := by decide +kernel
theorem dX2_isUnder_11 : decode cX2_isUnder 11 = .ok (.iload_n 0, 1) := by decide +kernel
theorem dX2_isUnder_12 : decode cX2_isUnder 12 = .ok (.iadd, 1) := by decide +kernel
theorem dX2_isUnder_13 : decode cX2_isUnder 13 = .ok (.imul, 1) := by decide +kernel
theorem dX2_isUnder_14 : decode cX2_isUnder 14 = .ok (.istore_n 3, 1) := by decide +kernel
theorem dX2_isUnder_15 : decode cX2_isUnder 15 = .ok (.iconst 4, 1) := by decide +kernel
theorem dX2_isUnder_16 : decode cX2_isUnder 16 = .ok (.bipush 17, 2) := by decide +kernel
theorem dX2_isUnder_18 : decode cX2_isUnder 18 = .ok (.iload_n 0, 1) := by decide +kernel
theorem dX2_isUnder_19 : decode cX2_isUnder 19 = .ok (.iadd, 1) := by decide +kernel
theorem dX2_isUnder_20 : decode cX2_isUnder 20 = .ok (.imul, 1) := by decide +kernel
theorem dX2_isUnder_21 : decode cX2_isUnder 21 = .ok (.istore 4, 2) := by decide +kernel
theorem dX2_isUnder_23 : decode cX2_isUnder 23 = .ok (.bipush (-3), 2) := by decide +kernel
theorem dX2_isUnder_25 : decode cX2_isUnder 25 = .ok (.iload_n 1, 1) := by decide +kernel
theorem dX2_isUnder_26 : decode cX2_isUnder 26 = .ok (.iconst 2, 1) := by decide +kernel
theorem dX2_isUnder_27 : decode cX2_isUnder 27 = .ok (.iadd, 1) := by decide +kernel
theorem dX2_isUnder_28 : decode cX2_isUnder 28 = .ok (.imul, 1) := by decide +kernel
theorem dX2_isUnder_29 : decode cX2_isUnder 29 = .ok (.istore 5, 2) := by decide +kernel
theorem dX2_isUnder_31 : decode cX2_isUnder 31 = .ok (.iload_n 2, 1) := by decide +kernel
theorem dX2_isUnder_32 : decode cX2_isUnder 32 = .ok (.ifCond .le 31, 3) := by decide +kernel
theorem dX2_isUnder_35 : decode cX2_isUnder 35 = .ok (.bipush 24, 2) := by decide +kernel
theorem dX2_isUnder_37 : decode cX2_isUnder 37 = .ok (.iload_n 1, 1) := by decide +kernel
theorem dX2_isUnder_38 : decode cX2_isUnder 38 = .ok (.imul, 1) := by decide +kernel
theorem dX2_isUnder_39 : decode cX2_isUnder 39 = .ok (.iconst 3, 1) := by decide +kernel
theorem dX2_isUnder_40 : decode cX2_isUnder 40 = .ok (.iload_n 2, 1) := by decide +kernel
theorem dX2_isUnder_41 : decode cX2_isUnder 41 = .ok (.imul, 1) := by decide +kernel
theorem dX2_isUnder_42 : decode cX2_isUnder 42 = .ok (.iconst 2, 1) := by decide +kernel
theorem dX2_isUnder_43 : decode cX2_isUnder 43 = .ok (.isub, 1) := by decide +kernel
theorem dX2_isUnder_44 : decode cX2_isUnder 44 = .ok (.iload 4, 2) := by decide +kernel
theorem dX2_isUnder_46 : decode cX2_isUnder 46 = .ok (.imul, 1) := by decide +kernel
theorem dX2_isUnder_47 : decode cX2_isUnder 47 = .ok (.if_icmp .ge 14, 3) := by decide +kernel
theorem dX2_isUnder_50 : decode cX2_isUnder 50 = .ok (.iload 4, 2) := by decide +kernel
theorem dX2_isUnder_52 : decode cX2_isUnder 52 = .ok (.iload 5, 2) := by decide +kernel
theorem dX2_isUnder_54 : decode cX2_isUnder 54 = .ok (.if_icmp .le 7, 3) := by decide +kernel
theorem dX2_isUnder_57 : decode cX2_isUnder 57 = .ok (.iconst 1, 1) := by decide +kernel
theorem dX2_isUnder_58 : decode cX2_isUnder 58 = .ok (.goto 4, 3) := by decide +kernel
theorem dX2_isUnder_61 : decode cX2_isUnder 61 = .ok (.iconst 0, 1) := by decide +kernel
theorem dX2_isUnder_62 : decode cX2_isUnder 62 = .ok (.ireturn, 1) := by decide +kernel
theorem dX2_isUnder_63 : decode cX2_isUnder 63 = .ok (.iload 5, 2) := by decide +kernel
theorem dX2_isUnder_65 : decode cX2_isUnder 65 = .ok (.iload_n 3, 1) := by decide +kernel
theorem dX2_isUnder_66 : decode cX2_isUnder 66 = .ok (.if_icmp .ge 25, 3) := by decide +kernel
theorem dX2_isUnder_69 : decode cX2_isUnder 69 = .ok (.bipush 24, 2) := by decide +kernel
theorem dX2_isUnder_71 : decode cX2_isUnder 71 = .ok (.iload_n 1, 1) := by decide +kernel
theorem dX2_isUnder_72 : decode cX2_isUnder 72 = .ok (.imul, 1) := by decide +kernel
theorem dX2_isUnder_73 : decode cX2_isUnder 73 = .ok (.iconst 3, 1) := by decide +kernel
theorem dX2_isUnder_74 : decode cX2_isUnder 74 = .ok (.iload_n 2, 1) := by decide +kernel
theorem dX2_isUnder_75 : decode cX2_isUnder 75 = .ok (.imul, 1) := by decide +kernel
theorem dX2_isUnder_76 : decode cX2_isUnder 76 = .ok (.iconst 2, 1) := by decide +kernel
theorem dX2_isUnder_77 : decode cX2_isUnder 77 = .ok (.isub, 1) := by decide +kernel
theorem dX2_isUnder_78 : decode cX2_isUnder 78 = .ok (.iload_n 3, 1) := by decide +kernel
theorem dX2_isUnder_79 : decode cX2_isUnder 79 = .ok (.imul, 1) := by decide +kernel
theorem dX2_isUnder_80 : decode cX2_isUnder 80 = .ok (.if_icmp .ge 7, 3) := by decide +kernel
theorem dX2_isUnder_83 : decode cX2_isUnder 83 = .ok (.iconst 1, 1) := by decide +kernel
theorem dX2_isUnder_84 : decode cX2_isUnder 84 = .ok (.goto 34, 3) := by decide +kernel
theorem dX2_isUnder_87 : decode cX2_isUnder 87 = .ok (.iconst 0, 1) := by decide +kernel
theorem dX2_isUnder_88 : decode cX2_isUnder 88 = .ok (.goto 30, 3) := by decide +kernel
theorem dX2_isUnder_91 : decode cX2_isUnder 91 = .ok (.iload 5, 2) := by decide +kernel
theorem dX2_isUnder_93 : decode cX2_isUnder 93 = .ok (.iload 4, 2) := by decide +kernel
theorem dX2_isUnder_95 : decode cX2_isUnder 95 = .ok (.if_icmp .ge 22, 3) := by decide +kernel
theorem dX2_isUnder_98 : decode cX2_isUnder 98 = .ok (.bipush 24, 2) := by decide +kernel
theorem dX2_isUnder_100 : decode cX2_isUnder 100 = .ok (.iload_n 1, 1) := by decide +kernel
theorem dX2_isUnder_101 : decode cX2_isUnder 101 = .ok (.imul, 1) := by decide +kernel
theorem dX2_isUnder_102 : decode cX2_isUnder 102 = .ok (.iconst 3, 1) := by decide +kernel
theorem dX2_isUnder_103 : decode cX2_isUnder 103 = .ok (.iload_n 2, 1) := by decide +kernel
theorem dX2_isUnder_104 : decode cX2_isUnder 104 = .ok (.imul, 1) := by decide +kernel
theorem dX2_isUnder_105 : decode cX2_isUnder 105 = .ok (.iconst 2, 1) := by decide +kernel
theorem dX2_isUnder_106 : decode cX2_isUnder 106 = .ok (.isub, 1) := by decide +kernel
theorem dX2_isUnder_107 : decode cX2_isUnder 107 = .ok (.iload 5, 2) := by decide +kernel
theorem dX2_isUnder_109 : decode cX2_isUnder 109 = .ok (.imul, 1) := by decide +kernel
theorem dX2_isUnder_110 : decode cX2_isUnder 110 = .ok (.if_icmp .ge 7, 3) := by decide +kernel
theorem dX2_isUnder_113 : decode cX2_isUnder 113 = .ok (.iconst 1, 1) := by decide +kernel
theorem dX2_isUnder_114 : decode cX2_isUnder 114 = .ok (.goto 4, 3) := by decide +kernel
theorem dX2_isUnder_117 : decode cX2_isUnder 117 = .ok (.iconst 0, 1) := by decide +kernel
theorem dX2_isUnder_118 : decode cX2_isUnder 118 = .ok (.ireturn, 1) := by decide +kernel
set_option maxRecDepth 20000 in
theorem ggX2_isGood_X2_isOver : GoodIn wsX2_isGood wsX2_isOver := goodIn_r _ [4] (by decide +kernel) (by decide +kernel)
set_option maxRecDepth 20000 in
theorem gX2_isGood_X2_isOver : GoodIn wsX2_isGood (va_wsS RX2 42 yX2_isOver wsX2_isOver) := goodIn_app (goodIn_of _ (by decide +kernel)) ggX2_isGood_X2_isOver
set_option maxRecDepth 20000 in
theorem ggX2_isGood_X2_isUnder : GoodIn wsX2_isGood wsX2_isUnder := goodIn_r _ [7] (by decide +kernel) (by decide +kernel)
set_option maxRecDepth 20000 in
theorem gX2_isGood_X2_isUnder : GoodIn wsX2_isGood (va_wsS RX2 46 yX2_isUnder wsX2_isUnder) := goodIn_app (goodIn_of _ (by decide +kernel)) ggX2_isGood_X2_isUnder
theorem dX2_isGood_0 : decode cX2_isGood 0 = .ok (.iload_n 0, 1) := by decide +kernel
theorem dX2_isGood_1 : decode cX2_isGood 1 = .ok (.iload_n 1, 1) := by decide +kernel
theorem dX2_isGood_2 : decode cX2_isGood 2 = .ok (.iload_n 2, 1) := by decide +kernel
theorem dX2_isGood_3 : decode cX2_isGood 3 = .ok (.invokestatic 42, 3) := by decide +kernel
theorem dX2_isGood_6 : decode cX2_isGood 6 = .ok (.ifCond .ne 16, 3) := by decide +kernel
theorem dX2_isGood_9 : decode cX2_isGood 9 = .ok (.iload_n 0, 1) := by decide +kernel
theorem dX2_isGood_10 : decode cX2_isGood 10 = .ok (.iload_n 1, 1) := by decide +kernel
theorem dX2_isGood_11 : decode cX2_isGood 11 = .ok (.iload_n 2, 1) := by decide +kernel
theorem dX2_isGood_12 : decode cX2_isGood 12 = .ok (.invokestatic 46, 3) := by decide +kernel
theorem dX2_isGood_15 : decode cX2_isGood 15 = .ok (.ifCond .ne 7, 3) := by decide +kernel
theorem dX2_isGood_18 : decode cX2_isGood 18 = .ok (.iconst 1, 1) := by decide +kernel
theorem dX2_isGood_19 : decode cX2_isGood 19 = .ok (.goto 4, 3) := by decide +kernel
theorem dX2_isGood_22 : decode cX2_isGood 22 = .ok (.iconst 0, 1) := by decide +kernel
theorem dX2_isGood_23 : decode cX2_isGood 23 = .ok (.ireturn, 1) := by decide +kernel
set_option maxRecDepth 20000 in
theorem ggX2_madeOf_X2_isGood : GoodIn wsX2_madeOf wsX2_isGood := goodIn_r _ [4, 5, 6, 3, 7, 8, 9, 10] (by decide +kernel) (by decide +kernel)
set_option maxRecDepth 20000 in
theorem gX2_madeOf_X2_isGood : GoodIn wsX2_madeOf (va_wsS RX2 49 yX2_isGood wsX2_isGood) := goodIn_app (goodIn_of _ (by decide +kernel)) ggX2_madeOf_X2_isGood
theorem dX2_madeOf_0 : decode cX2_madeOf 0 = .ok (.iconst 0, 1) := by decide +kernel
theorem dX2_madeOf_1 : decode cX2_madeOf 1 = .ok (.istore_n 2, 1) := by decide +kernel
theorem dX2_madeOf_2 : decode cX2_madeOf 2 = .ok (.iload_n 2, 1) := by decide +kernel
theorem dX2_madeOf_3 : decode cX2_madeOf 3 = .ok (.iconst 2, 1) := by decide +kernel
theorem dX2_madeOf_4 : decode cX2_madeOf 4 = .ok (.if_icmp .gt 33, 3) := by decide +kernel
theorem dX2_madeOf_7 : decode cX2_madeOf 7 = .ok (.iload_n 0, 1) := by decide +kernel
theorem dX2_madeOf_8 : decode cX2_madeOf 8 = .ok (.iload_n 1, 1) := by decide +kernel
theorem dX2_madeOf_9 : decode cX2_madeOf 9 = .ok (.iload_n 2, 1) := by decide +kernel
theorem dX2_madeOf_10 : decode cX2_madeOf 10 = .ok (.invokestatic 49, 3) := by decide +kernel
theorem dX2_madeOf_13 : decode cX2_madeOf 13 = .ok (.ifCond .eq 5, 3) := by decide +kernel
theorem dX2_madeOf_16 : decode cX2_madeOf 16 = .ok (.iload_n 2, 1) := by decide +kernel
theorem dX2_madeOf_17 : decode cX2_madeOf 17 = .ok (.ireturn, 1) := by decide +kernel
theorem dX2_madeOf_18 : decode cX2_madeOf 18 = .ok (.iload_n 0, 1) := by decide +kernel
theorem dX2_madeOf_19 : decode cX2_madeOf 19 = .ok (.iload_n 1, 1) := by decide +kernel
theorem dX2_madeOf_20 : decode cX2_madeOf 20 = .ok (.iload_n 2, 1) := by decide +kernel
theorem dX2_madeOf_21 : decode cX2_madeOf 21 = .ok (.ineg, 1) := by decide +kernel
theorem dX2_madeOf_22 : decode cX2_madeOf 22 = .ok (.invokestatic 49, 3) := by decide +kernel
theorem dX2_madeOf_25 : decode cX2_madeOf 25 = .ok (.ifCond .eq 6, 3) := by decide +kernel
theorem dX2_madeOf_28 : decode cX2_madeOf 28 = .ok (.iload_n 2, 1) := by decide +kernel
theorem dX2_madeOf_29 : decode cX2_madeOf 29 = .ok (.ineg, 1) := by decide +kernel
theorem dX2_madeOf_30 : decode cX2_madeOf 30 = .ok (.ireturn, 1) := by decide +kernel
theorem dX2_madeOf_31 : decode cX2_madeOf 31 = .ok (.iinc 2 1, 3) := by decide +kernel
theorem dX2_madeOf_34 : decode cX2_madeOf 34 = .ok (.goto (-32), 3) := by decide +kernel
theorem dX2_madeOf_37 : decode cX2_madeOf 37 = .ok (.iconst 0, 1) := by decide +kernel
theorem dX2_madeOf_38 : decode cX2_madeOf 38 = .ok (.ireturn, 1) := by decide +kernel
set_option maxRecDepth 20000 in
theorem ggX2_fill_X2_madeOf : GoodIn wsX2_fill wsX2_madeOf := goodIn_r _ [5, 6, 7, 4, 8, 9, 10, 11, 12, 13, 14] (by decide +kernel) (by decide +kernel)
set_option maxRecDepth 20000 in
theorem gX2_fill_X2_madeOf : GoodIn wsX2_fill (va_wsS RX2 52 yX2_madeOf wsX2_madeOf) := goodIn_app (goodIn_of _ (by decide +kernel)) ggX2_fill_X2_madeOf
theorem dX2_fill_0 : decode cX2_fill 0 = .ok (.iconst 0, 1) := by decide +kernel
theorem dX2_fill_1 : decode cX2_fill 1 = .ok (.istore_n 2, 1) := by decide +kernel
theorem dX2_fill_2 : decode cX2_fill 2 = .ok (.iconst 0, 1) := by decide +kernel
theorem dX2_fill_3 : decode cX2_fill 3 = .ok (.istore_n 3, 1) := by decide +kernel
theorem dX2_fill_4 : decode cX2_fill 4 = .ok (.iload_n 3, 1) := by decide +kernel
theorem dX2_fill_5 : decode cX2_fill 5 = .ok (.bipush 16, 2) := by decide +kernel
theorem dX2_fill_7 : decode cX2_fill 7 = .ok (.if_icmp .ge 82, 3) := by decide +kernel
theorem dX2_fill_10 : decode cX2_fill 10 = .ok (.iconst 0, 1) := by decide +kernel
theorem dX2_fill_11 : decode cX2_fill 11 = .ok (.istore 4, 2) := by decide +kernel
theorem dX2_fill_13 : decode cX2_fill 13 = .ok (.iload 4, 2) := by decide +kernel
theorem dX2_fill_15 : decode cX2_fill 15 = .ok (.sipush 128, 3) := by decide +kernel
theorem dX2_fill_18 : decode cX2_fill 18 = .ok (.if_icmp .ge 65, 3) := by decide +kernel
theorem dX2_fill_21 : decode cX2_fill 21 = .ok (.sipush 2048, 3) := by decide +kernel
theorem dX2_fill_24 : decode cX2_fill 24 = .ok (.iload_n 1, 1) := by decide +kernel
theorem dX2_fill_25 : decode cX2_fill 25 = .ok (.imul, 1) := by decide +kernel
theorem dX2_fill_26 : decode cX2_fill 26 = .ok (.sipush 128, 3) := by decide +kernel
theorem dX2_fill_29 : decode cX2_fill 29 = .ok (.iload_n 3, 1) := by decide +kernel
theorem dX2_fill_30 : decode cX2_fill 30 = .ok (.imul, 1) := by decide +kernel
theorem dX2_fill_31 : decode cX2_fill 31 = .ok (.iadd, 1) := by decide +kernel
theorem dX2_fill_32 : decode cX2_fill 32 = .ok (.iload 4, 2) := by decide +kernel
theorem dX2_fill_34 : decode cX2_fill 34 = .ok (.iadd, 1) := by decide +kernel
theorem dX2_fill_35 : decode cX2_fill 35 = .ok (.istore 5, 2) := by decide +kernel
theorem dX2_fill_37 : decode cX2_fill 37 = .ok (.iload_n 3, 1) := by decide +kernel
theorem dX2_fill_38 : decode cX2_fill 38 = .ok (.iload 4, 2) := by decide +kernel
theorem dX2_fill_40 : decode cX2_fill 40 = .ok (.bipush 64, 2) := by decide +kernel
theorem dX2_fill_42 : decode cX2_fill 42 = .ok (.isub, 1) := by decide +kernel
theorem dX2_fill_43 : decode cX2_fill 43 = .ok (.invokestatic 52, 3) := by decide +kernel
theorem dX2_fill_46 : decode cX2_fill 46 = .ok (.istore 6, 2) := by decide +kernel
theorem dX2_fill_48 : decode cX2_fill 48 = .ok (.iload_n 2, 1) := by decide +kernel
theorem dX2_fill_49 : decode cX2_fill 49 = .ok (.aload_n 0, 1) := by decide +kernel
theorem dX2_fill_50 : decode cX2_fill 50 = .ok (.getfield 7, 3) := by decide +kernel
theorem dX2_fill_53 : decode cX2_fill 53 = .ok (.iload 5, 2) := by decide +kernel
theorem dX2_fill_55 : decode cX2_fill 55 = .ok (.iaload, 1) := by decide +kernel
theorem dX2_fill_56 : decode cX2_fill 56 = .ok (.iload 6, 2) := by decide +kernel
theorem dX2_fill_58 : decode cX2_fill 58 = .ok (.if_icmp .ne 7, 3) := by decide +kernel
theorem dX2_fill_61 : decode cX2_fill 61 = .ok (.iconst 0, 1) := by decide +kernel
theorem dX2_fill_62 : decode cX2_fill 62 = .ok (.goto 4, 3) := by decide +kernel
theorem dX2_fill_65 : decode cX2_fill 65 = .ok (.iconst 1, 1) := by decide +kernel
theorem dX2_fill_66 : decode cX2_fill 66 = .ok (.iadd, 1) := by decide +kernel
theorem dX2_fill_67 : decode cX2_fill 67 = .ok (.istore_n 2, 1) := by decide +kernel
theorem dX2_fill_68 : decode cX2_fill 68 = .ok (.aload_n 0, 1) := by decide +kernel
theorem dX2_fill_69 : decode cX2_fill 69 = .ok (.getfield 7, 3) := by decide +kernel
theorem dX2_fill_72 : decode cX2_fill 72 = .ok (.iload 5, 2) := by decide +kernel
theorem dX2_fill_74 : decode cX2_fill 74 = .ok (.iload 6, 2) := by decide +kernel
theorem dX2_fill_76 : decode cX2_fill 76 = .ok (.iastore, 1) := by decide +kernel
theorem dX2_fill_77 : decode cX2_fill 77 = .ok (.iinc 4 1, 3) := by decide +kernel
theorem dX2_fill_80 : decode cX2_fill 80 = .ok (.goto (-67), 3) := by decide +kernel
theorem dX2_fill_83 : decode cX2_fill 83 = .ok (.iinc 3 1, 3) := by decide +kernel
theorem dX2_fill_86 : decode cX2_fill 86 = .ok (.goto (-82), 3) := by decide +kernel
theorem dX2_fill_89 : decode cX2_fill 89 = .ok (.iload_n 2, 1) := by decide +kernel
theorem dX2_fill_90 : decode cX2_fill 90 = .ok (.ireturn, 1) := by decide +kernel
set_option maxRecDepth 20000 in
theorem ggX2_isTable_X2_in : GoodIn wsX2_isTable wsX2_in := goodIn_r _ [4] (by decide +kernel) (by decide +kernel)
set_option maxRecDepth 20000 in
theorem gX2_isTable_X2_in : GoodIn wsX2_isTable (va_wsS RX2 56 yX2_in wsX2_in) := goodIn_app (goodIn_of _ (by decide +kernel)) ggX2_isTable_X2_in
theorem dX2_isTable_0 : decode cX2_isTable 0 = .ok (.iload_n 0, 1) := by decide +kernel
theorem dX2_isTable_1 : decode cX2_isTable 1 = .ok (.iconst 0, 1) := by decide +kernel
theorem dX2_isTable_2 : decode cX2_isTable 2 = .ok (.iconst 3, 1) := by decide +kernel
theorem dX2_isTable_3 : decode cX2_isTable 3 = .ok (.invokestatic 56, 3) := by decide +kernel
theorem dX2_isTable_6 : decode cX2_isTable 6 = .ok (.ireturn, 1) := by decide +kernel
set_option maxRecDepth 20000 in
theorem ggX2_isCell_X2_in : GoodIn wsX2_isCell wsX2_in := goodIn_r _ [4] (by decide +kernel) (by decide +kernel)
set_option maxRecDepth 20000 in
theorem gX2_isCell_X2_in : GoodIn wsX2_isCell (va_wsS RX2 56 yX2_in wsX2_in) := goodIn_app (goodIn_of _ (by decide +kernel)) ggX2_isCell_X2_in
theorem dX2_isCell_0 : decode cX2_isCell 0 = .ok (.iload_n 0, 1) := by decide +kernel
theorem dX2_isCell_1 : decode cX2_isCell 1 = .ok (.iconst 0, 1) := by decide +kernel
theorem dX2_isCell_2 : decode cX2_isCell 2 = .ok (.bipush 15, 2) := by decide +kernel
theorem dX2_isCell_4 : decode cX2_isCell 4 = .ok (.invokestatic 56, 3) := by decide +kernel
theorem dX2_isCell_7 : decode cX2_isCell 7 = .ok (.ifCond .eq 18, 3) := by decide +kernel
theorem dX2_isCell_10 : decode cX2_isCell 10 = .ok (.iload_n 1, 1) := by decide +kernel
theorem dX2_isCell_11 : decode cX2_isCell 11 = .ok (.bipush (-64), 2) := by decide +kernel
theorem dX2_isCell_13 : decode cX2_isCell 13 = .ok (.bipush 63, 2) := by decide +kernel
theorem dX2_isCell_15 : decode cX2_isCell 15 = .ok (.invokestatic 56, 3) := by decide +kernel
theorem dX2_isCell_18 : decode cX2_isCell 18 = .ok (.ifCond .eq 7, 3) := by decide +kernel
theorem dX2_isCell_21 : decode cX2_isCell 21 = .ok (.iconst 1, 1) := by decide +kernel
theorem dX2_isCell_22 : decode cX2_isCell 22 = .ok (.goto 4, 3) := by decide +kernel
theorem dX2_isCell_25 : decode cX2_isCell 25 = .ok (.iconst 0, 1) := by decide +kernel
theorem dX2_isCell_26 : decode cX2_isCell 26 = .ok (.ireturn, 1) := by decide +kernel
theorem dX2_cellAt_0 : decode cX2_cellAt 0 = .ok (.sipush 2048, 3) := by decide +kernel
theorem dX2_cellAt_3 : decode cX2_cellAt 3 = .ok (.iload_n 0, 1) := by decide +kernel
theorem dX2_cellAt_4 : decode cX2_cellAt 4 = .ok (.imul, 1) := by decide +kernel
theorem dX2_cellAt_5 : decode cX2_cellAt 5 = .ok (.sipush 128, 3) := by decide +kernel
theorem dX2_cellAt_8 : decode cX2_cellAt 8 = .ok (.iload_n 1, 1) := by decide +kernel
theorem dX2_cellAt_9 : decode cX2_cellAt 9 = .ok (.imul, 1) := by decide +kernel
theorem dX2_cellAt_10 : decode cX2_cellAt 10 = .ok (.iadd, 1) := by decide +kernel
theorem dX2_cellAt_11 : decode cX2_cellAt 11 = .ok (.iload_n 2, 1) := by decide +kernel
theorem dX2_cellAt_12 : decode cX2_cellAt 12 = .ok (.iadd, 1) := by decide +kernel
theorem dX2_cellAt_13 : decode cX2_cellAt 13 = .ok (.bipush 64, 2) := by decide +kernel
theorem dX2_cellAt_15 : decode cX2_cellAt 15 = .ok (.iadd, 1) := by decide +kernel
theorem dX2_cellAt_16 : decode cX2_cellAt 16 = .ok (.ireturn, 1) := by decide +kernel
set_option maxRecDepth 20000 in
theorem ggX2_digit_X2_isTable : GoodIn wsX2_digit wsX2_isTable := goodIn_r _ [5, 6, 7, 4, 8] (by decide +kernel) (by decide +kernel)
set_option maxRecDepth 20000 in
theorem gX2_digit_X2_isTable : GoodIn wsX2_digit (va_wsS RX2 59 yX2_isTable wsX2_isTable) := goodIn_app (goodIn_of _ (by decide +kernel)) ggX2_digit_X2_isTable
set_option maxRecDepth 20000 in
theorem ggX2_digit_X2_isCell : GoodIn wsX2_digit wsX2_isCell := goodIn_r _ [11, 6, 7, 4, 8] (by decide +kernel) (by decide +kernel)
set_option maxRecDepth 20000 in
theorem gX2_digit_X2_isCell : GoodIn wsX2_digit (va_wsS RX2 63 yX2_isCell wsX2_isCell) := goodIn_app (goodIn_of _ (by decide +kernel)) ggX2_digit_X2_isCell
set_option maxRecDepth 20000 in
theorem ggX2_digit_X2_cellAt : GoodIn wsX2_digit wsX2_cellAt := goodIn_r _ [14] (by decide +kernel) (by decide +kernel)
set_option maxRecDepth 20000 in
theorem gX2_digit_X2_cellAt : GoodIn wsX2_digit (va_wsS RX2 67 yX2_cellAt wsX2_cellAt) := goodIn_app (goodIn_of _ (by decide +kernel)) ggX2_digit_X2_cellAt
theorem dX2_digit_0 : decode cX2_digit 0 = .ok (.iload_n 1, 1) := by decide +kernel
theorem dX2_digit_1 : decode cX2_digit 1 = .ok (.invokestatic 59, 3) := by decide +kernel
theorem dX2_digit_4 : decode cX2_digit 4 = .ok (.ifCond .eq 25, 3) := by decide +kernel
theorem dX2_digit_7 : decode cX2_digit 7 = .ok (.iload_n 2, 1) := by decide +kernel
theorem dX2_digit_8 : decode cX2_digit 8 = .ok (.iload_n 3, 1) := by decide +kernel
theorem dX2_digit_9 : decode cX2_digit 9 = .ok (.invokestatic 63, 3) := by decide +kernel
theorem dX2_digit_12 : decode cX2_digit 12 = .ok (.ifCond .eq 17, 3) := by decide +kernel
theorem dX2_digit_15 : decode cX2_digit 15 = .ok (.aload_n 0, 1) := by decide +kernel
theorem dX2_digit_16 : decode cX2_digit 16 = .ok (.getfield 7, 3) := by decide +kernel
theorem dX2_digit_19 : decode cX2_digit 19 = .ok (.iload_n 1, 1) := by decide +kernel
theorem dX2_digit_20 : decode cX2_digit 20 = .ok (.iload_n 2, 1) := by decide +kernel
theorem dX2_digit_21 : decode cX2_digit 21 = .ok (.iload_n 3, 1) := by decide +kernel
theorem dX2_digit_22 : decode cX2_digit 22 = .ok (.invokestatic 67, 3) := by decide +kernel
theorem dX2_digit_25 : decode cX2_digit 25 = .ok (.iaload, 1) := by decide +kernel
theorem dX2_digit_26 : decode cX2_digit 26 = .ok (.goto 5, 3) := by decide +kernel
theorem dX2_digit_29 : decode cX2_digit 29 = .ok (.bipush (-101), 2) := by decide +kernel
theorem dX2_digit_31 : decode cX2_digit 31 = .ok (.ireturn, 1) := by decide +kernel
set_option maxRecDepth 20000 in
theorem ggX2_set_X2_isTable : GoodIn wsX2_set wsX2_isTable := goodIn_r _ [5, 6, 7, 4, 8] (by decide +kernel) (by decide +kernel)
set_option maxRecDepth 20000 in
theorem gX2_set_X2_isTable : GoodIn wsX2_set (va_wsS RX2 59 yX2_isTable wsX2_isTable) := goodIn_app (goodIn_of _ (by decide +kernel)) ggX2_set_X2_isTable
set_option maxRecDepth 20000 in
theorem ggX2_set_X2_isCell : GoodIn wsX2_set wsX2_isCell := goodIn_r _ [11, 6, 7, 4, 8] (by decide +kernel) (by decide +kernel)
set_option maxRecDepth 20000 in
theorem gX2_set_X2_isCell : GoodIn wsX2_set (va_wsS RX2 63 yX2_isCell wsX2_isCell) := goodIn_app (goodIn_of _ (by decide +kernel)) ggX2_set_X2_isCell
set_option maxRecDepth 20000 in
theorem ggX2_set_X2_in : GoodIn wsX2_set wsX2_in := goodIn_r _ [8] (by decide +kernel) (by decide +kernel)
set_option maxRecDepth 20000 in
theorem gX2_set_X2_in : GoodIn wsX2_set (va_wsS RX2 56 yX2_in wsX2_in) := goodIn_app (goodIn_of _ (by decide +kernel)) ggX2_set_X2_in
set_option maxRecDepth 20000 in
theorem ggX2_set_X2_cellAt : GoodIn wsX2_set wsX2_cellAt := goodIn_r _ [14] (by decide +kernel) (by decide +kernel)
set_option maxRecDepth 20000 in
theorem gX2_set_X2_cellAt : GoodIn wsX2_set (va_wsS RX2 67 yX2_cellAt wsX2_cellAt) := goodIn_app (goodIn_of _ (by decide +kernel)) ggX2_set_X2_cellAt
theorem dX2_set_0 : decode cX2_set 0 = .ok (.iload_n 1, 1) := by decide +kernel
theorem dX2_set_1 : decode cX2_set 1 = .ok (.invokestatic 59, 3) := by decide +kernel
theorem dX2_set_4 : decode cX2_set 4 = .ok (.ifCond .eq 22, 3) := by decide +kernel
theorem dX2_set_7 : decode cX2_set 7 = .ok (.iload_n 2, 1) := by decide +kernel
theorem dX2_set_8 : decode cX2_set 8 = .ok (.iload_n 3, 1) := by decide +kernel
theorem dX2_set_9 : decode cX2_set 9 = .ok (.invokestatic 63, 3) := by decide +kernel
theorem dX2_set_12 : decode cX2_set 12 = .ok (.ifCond .eq 14, 3) := by decide +kernel
theorem dX2_set_15 : decode cX2_set 15 = .ok (.iload 4, 2) := by decide +kernel
theorem dX2_set_17 : decode cX2_set 17 = .ok (.bipush (-2), 2) := by decide +kernel
theorem dX2_set_19 : decode cX2_set 19 = .ok (.iconst 2, 1) := by decide +kernel
theorem dX2_set_20 : decode cX2_set 20 = .ok (.invokestatic 56, 3) := by decide +kernel
theorem dX2_set_23 : decode cX2_set 23 = .ok (.ifCond .ne 6, 3) := by decide +kernel
theorem dX2_set_26 : decode cX2_set 26 = .ok (.bipush (-101), 2) := by decide +kernel
theorem dX2_set_28 : decode cX2_set 28 = .ok (.ireturn, 1) := by decide +kernel
theorem dX2_set_29 : decode cX2_set 29 = .ok (.iload_n 1, 1) := by decide +kernel
theorem dX2_set_30 : decode cX2_set 30 = .ok (.iload_n 2, 1) := by decide +kernel
theorem dX2_set_31 : decode cX2_set 31 = .ok (.iload_n 3, 1) := by decide +kernel
theorem dX2_set_32 : decode cX2_set 32 = .ok (.invokestatic 67, 3) := by decide +kernel
theorem dX2_set_35 : decode cX2_set 35 = .ok (.istore 5, 2) := by decide +kernel
theorem dX2_set_37 : decode cX2_set 37 = .ok (.aload_n 0, 1) := by decide +kernel
theorem dX2_set_38 : decode cX2_set 38 = .ok (.getfield 7, 3) := by decide +kernel
theorem dX2_set_41 : decode cX2_set 41 = .ok (.iload 5, 2) := by decide +kernel
theorem dX2_set_43 : decode cX2_set 43 = .ok (.iaload, 1) := by decide +kernel
theorem dX2_set_44 : decode cX2_set 44 = .ok (.istore 6, 2) := by decide +kernel
theorem dX2_set_46 : decode cX2_set 46 = .ok (.aload_n 0, 1) := by decide +kernel
theorem dX2_set_47 : decode cX2_set 47 = .ok (.getfield 7, 3) := by decide +kernel
theorem dX2_set_50 : decode cX2_set 50 = .ok (.iload 5, 2) := by decide +kernel
theorem dX2_set_52 : decode cX2_set 52 = .ok (.iload 4, 2) := by decide +kernel
theorem dX2_set_54 : decode cX2_set 54 = .ok (.iastore, 1) := by decide +kernel
theorem dX2_set_55 : decode cX2_set 55 = .ok (.iload 6, 2) := by decide +kernel
theorem dX2_set_57 : decode cX2_set 57 = .ok (.ireturn, 1) := by decide +kernel
set_option maxRecDepth 20000 in
theorem ggX2_make_X2_isTable : GoodIn wsX2_make wsX2_isTable := goodIn_r _ [4, 5, 6, 3, 7] (by decide +kernel) (by decide +kernel)
set_option maxRecDepth 20000 in
theorem gX2_make_X2_isTable : GoodIn wsX2_make (va_wsS RX2 59 yX2_isTable wsX2_isTable) := goodIn_app (goodIn_of _ (by decide +kernel)) ggX2_make_X2_isTable
set_option maxRecDepth 20000 in
theorem ggX2_make_X2_fill : GoodIn wsX2_make wsX2_fill := goodIn_r _ [11, 12, 13, 14, 3, 15, 16, 17, 18, 19, 20, 21, 22, 23, 24, 25, 26, 27, 28, 29, 30, 31, 32, 33, 34, 35, 36, 37, 38, 39, 40, 41, 42] (by decide +kernel) (by decide +kernel)
set_option maxRecDepth 20000 in
theorem gX2_make_X2_fill : GoodIn wsX2_make (wsV RX2 38 RX2 yX2_fill wsX2_fill) := goodIn_app (goodIn_of _ (by decide +kernel)) ggX2_make_X2_fill
theorem dX2_make_0 : decode cX2_make 0 = .ok (.iload_n 1, 1) := by decide +kernel
theorem dX2_make_1 : decode cX2_make 1 = .ok (.invokestatic 59, 3) := by decide +kernel
theorem dX2_make_4 : decode cX2_make 4 = .ok (.ifCond .eq 11, 3) := by decide +kernel
theorem dX2_make_7 : decode cX2_make 7 = .ok (.aload_n 0, 1) := by decide +kernel
theorem dX2_make_8 : decode cX2_make 8 = .ok (.iload_n 1, 1) := by decide +kernel
theorem dX2_make_9 : decode cX2_make 9 = .ok (.invokevirtual 38, 3) := by decide +kernel
theorem dX2_make_12 : decode cX2_make 12 = .ok (.goto 4, 3) := by decide +kernel
theorem dX2_make_15 : decode cX2_make 15 = .ok (.iconst (-1), 1) := by decide +kernel
theorem dX2_make_16 : decode cX2_make 16 = .ok (.ireturn, 1) := by decide +kernel
set_option maxRecDepth 20000 in
theorem ggX2_copy_X2_isTable : GoodIn wsX2_copy wsX2_isTable := goodIn_r _ [5, 6, 7, 4, 8] (by decide +kernel) (by decide +kernel)
set_option maxRecDepth 20000 in
theorem gX2_copy_X2_isTable : GoodIn wsX2_copy (va_wsS RX2 59 yX2_isTable wsX2_isTable) := goodIn_app (goodIn_of _ (by decide +kernel)) ggX2_copy_X2_isTable
theorem dX2_copy_0 : decode cX2_copy 0 = .ok (.iload_n 1, 1) := by decide +kernel
theorem dX2_copy_1 : decode cX2_copy 1 = .ok (.invokestatic 59, 3) := by decide +kernel
theorem dX2_copy_4 : decode cX2_copy 4 = .ok (.ifCond .eq 10, 3) := by decide +kernel
theorem dX2_copy_7 : decode cX2_copy 7 = .ok (.iload_n 2, 1) := by decide +kernel
theorem dX2_copy_8 : decode cX2_copy 8 = .ok (.invokestatic 59, 3) := by decide +kernel
theorem dX2_copy_11 : decode cX2_copy 11 = .ok (.ifCond .ne 5, 3) := by decide +kernel
theorem dX2_copy_14 : decode cX2_copy 14 = .ok (.iconst (-1), 1) := by decide +kernel
theorem dX2_copy_15 : decode cX2_copy 15 = .ok (.ireturn, 1) := by decide +kernel
theorem dX2_copy_16 : decode cX2_copy 16 = .ok (.iconst 0, 1) := by decide +kernel
theorem dX2_copy_17 : decode cX2_copy 17 = .ok (.istore_n 3, 1) := by decide +kernel
theorem dX2_copy_18 : decode cX2_copy 18 = .ok (.iconst 0, 1) := by decide +kernel
theorem dX2_copy_19 : decode cX2_copy 19 = .ok (.istore 4, 2) := by decide +kernel
theorem dX2_copy_21 : decode cX2_copy 21 = .ok (.iload 4, 2) := by decide +kernel
theorem dX2_copy_23 : decode cX2_copy 23 = .ok (.sipush 2048, 3) := by decide +kernel
theorem dX2_copy_26 : decode cX2_copy 26 = .ok (.if_icmp .ge 72, 3) := by decide +kernel
theorem dX2_copy_29 : decode cX2_copy 29 = .ok (.iload_n 3, 1) := by decide +kernel
theorem dX2_copy_30 : decode cX2_copy 30 = .ok (.aload_n 0, 1) := by decide +kernel
theorem dX2_copy_31 : decode cX2_copy 31 = .ok (.getfield 7, 3) := by decide +kernel
theorem dX2_copy_34 : decode cX2_copy 34 = .ok (.sipush 2048, 3) := by decide +kernel
theorem dX2_copy_37 : decode cX2_copy 37 = .ok (.iload_n 2, 1) := by decide +kernel
theorem dX2_copy_38 : decode cX2_copy 38 = .ok (.imul, 1) := by decide +kernel
theorem dX2_copy_39 : decode cX2_copy 39 = .ok (.iload 4, 2) := by decide +kernel
theorem dX2_copy_41 : decode cX2_copy 41 = .ok (.iadd, 1) := by decide +kernel
theorem dX2_copy_42 : decode cX2_copy 42 = .ok (.iaload, 1) := by decide +kernel
theorem dX2_copy_43 : decode cX2_copy 43 = .ok (.aload_n 0, 1) := by decide +kernel
theorem dX2_copy_44 : decode cX2_copy 44 = .ok (.getfield 7, 3) := by decide +kernel
theorem dX2_copy_47 : decode cX2_copy 47 = .ok (.sipush 2048, 3) := by decide +kernel
theorem dX2_copy_50 : decode cX2_copy 50 = .ok (.iload_n 1, 1) := by decide +kernel
theorem dX2_copy_51 : decode cX2_copy 51 = .ok (.imul, 1) := by decide +kernel
theorem dX2_copy_52 : decode cX2_copy 52 = .ok (.iload 4, 2) := by decide +kernel
theorem dX2_copy_54 : decode cX2_copy 54 = .ok (.iadd, 1) := by decide +kernel
theorem dX2_copy_55 : decode cX2_copy 55 = .ok (.iaload, 1) := by decide +kernel
theorem dX2_copy_56 : decode cX2_copy 56 = .ok (.if_icmp .ne 7, 3) := by decide +kernel
theorem dX2_copy_59 : decode cX2_copy 59 = .ok (.iconst 0, 1) := by decide +kernel
theorem dX2_copy_60 : decode cX2_copy 60 = .ok (.goto 4, 3) := by decide +kernel
theorem dX2_copy_63 : decode cX2_copy 63 = .ok (.iconst 1, 1) := by decide +kernel
theorem dX2_copy_64 : decode cX2_copy 64 = .ok (.iadd, 1) := by decide +kernel
theorem dX2_copy_65 : decode cX2_copy 65 = .ok (.istore_n 3, 1) := by decide +kernel
theorem dX2_copy_66 : decode cX2_copy 66 = .ok (.aload_n 0, 1) := by decide +kernel
theorem dX2_copy_67 : decode cX2_copy 67 = .ok (.getfield 7, 3) := by decide +kernel
theorem dX2_copy_70 : decode cX2_copy 70 = .ok (.sipush 2048, 3) := by decide +kernel
theorem dX2_copy_73 : decode cX2_copy 73 = .ok (.iload_n 2, 1) := by decide +kernel
theorem dX2_copy_74 : decode cX2_copy 74 = .ok (.imul, 1) := by decide +kernel
theorem dX2_copy_75 : decode cX2_copy 75 = .ok (.iload 4, 2) := by decide +kernel
theorem dX2_copy_77 : decode cX2_copy 77 = .ok (.iadd, 1) := by decide +kernel
theorem dX2_copy_78 : decode cX2_copy 78 = .ok (.aload_n 0, 1) := by decide +kernel
theorem dX2_copy_79 : decode cX2_copy 79 = .ok (.getfield 7, 3) := by decide +kernel
theorem dX2_copy_82 : decode cX2_copy 82 = .ok (.sipush 2048, 3) := by decide +kernel
theorem dX2_copy_85 : decode cX2_copy 85 = .ok (.iload_n 1, 1) := by decide +kernel
theorem dX2_copy_86 : decode cX2_copy 86 = .ok (.imul, 1) := by decide +kernel
theorem dX2_copy_87 : decode cX2_copy 87 = .ok (.iload 4, 2) := by decide +kernel
theorem dX2_copy_89 : decode cX2_copy 89 = .ok (.iadd, 1) := by decide +kernel
theorem dX2_copy_90 : decode cX2_copy 90 = .ok (.iaload, 1) := by decide +kernel
theorem dX2_copy_91 : decode cX2_copy 91 = .ok (.iastore, 1) := by decide +kernel
theorem dX2_copy_92 : decode cX2_copy 92 = .ok (.iinc 4 1, 3) := by decide +kernel
theorem dX2_copy_95 : decode cX2_copy 95 = .ok (.goto (-74), 3) := by decide +kernel
theorem dX2_copy_98 : decode cX2_copy 98 = .ok (.iload_n 3, 1) := by decide +kernel
theorem dX2_copy_99 : decode cX2_copy 99 = .ok (.ireturn, 1) := by decide +kernel
set_option maxRecDepth 20000 in
theorem ggX2_good_X2_isCell : GoodIn wsX2_good wsX2_isCell := goodIn_r _ [4, 5, 6, 3, 7] (by decide +kernel) (by decide +kernel)
set_option maxRecDepth 20000 in
theorem gX2_good_X2_isCell : GoodIn wsX2_good (va_wsS RX2 63 yX2_isCell wsX2_isCell) := goodIn_app (goodIn_of _ (by decide +kernel)) ggX2_good_X2_isCell
set_option maxRecDepth 20000 in
theorem ggX2_good_X2_in : GoodIn wsX2_good wsX2_in := goodIn_r _ [7] (by decide +kernel) (by decide +kernel)
set_option maxRecDepth 20000 in
theorem gX2_good_X2_in : GoodIn wsX2_good (va_wsS RX2 56 yX2_in wsX2_in) := goodIn_app (goodIn_of _ (by decide +kernel)) ggX2_good_X2_in
set_option maxRecDepth 20000 in
theorem ggX2_good_X2_isGood : GoodIn wsX2_good wsX2_isGood := goodIn_r _ [10, 11, 12, 3, 13, 14, 15, 16] (by decide +kernel) (by decide +kernel)
set_option maxRecDepth 20000 in
theorem gX2_good_X2_isGood : GoodIn wsX2_good (va_wsS RX2 49 yX2_isGood wsX2_isGood) := goodIn_app (goodIn_of _ (by decide +kernel)) ggX2_good_X2_isGood
theorem dX2_good_0 : decode cX2_good 0 = .ok (.iload_n 1, 1) := by decide +kernel
theorem dX2_good_1 : decode cX2_good 1 = .ok (.iload_n 2, 1) := by decide +kernel
theorem dX2_good_2 : decode cX2_good 2 = .ok (.invokestatic 63, 3) := by decide +kernel
theorem dX2_good_5 : decode cX2_good 5 = .ok (.ifCond .eq 13, 3) := by decide +kernel
theorem dX2_good_8 : decode cX2_good 8 = .ok (.iload_n 3, 1) := by decide +kernel
theorem dX2_good_9 : decode cX2_good 9 = .ok (.bipush (-2), 2) := by decide +kernel
theorem dX2_good_11 : decode cX2_good 11 = .ok (.iconst 2, 1) := by decide +kernel
theorem dX2_good_12 : decode cX2_good 12 = .ok (.invokestatic 56, 3) := by decide +kernel
theorem dX2_good_15 : decode cX2_good 15 = .ok (.ifCond .ne 7, 3) := by decide +kernel
theorem dX2_good_18 : decode cX2_good 18 = .ok (.iconst (-1), 1) := by decide +kernel
theorem dX2_good_19 : decode cX2_good 19 = .ok (.goto 17, 3) := by decide +kernel
theorem dX2_good_22 : decode cX2_good 22 = .ok (.iload_n 1, 1) := by decide +kernel
theorem dX2_good_23 : decode cX2_good 23 = .ok (.iload_n 2, 1) := by decide +kernel
theorem dX2_good_24 : decode cX2_good 24 = .ok (.iload_n 3, 1) := by decide +kernel
theorem dX2_good_25 : decode cX2_good 25 = .ok (.invokestatic 49, 3) := by decide +kernel
theorem dX2_good_28 : decode cX2_good 28 = .ok (.ifCond .eq 7, 3) := by decide +kernel
theorem dX2_good_31 : decode cX2_good 31 = .ok (.iconst 1, 1) := by decide +kernel
theorem dX2_good_32 : decode cX2_good 32 = .ok (.goto 4, 3) := by decide +kernel
theorem dX2_good_35 : decode cX2_good 35 = .ok (.iconst 0, 1) := by decide +kernel
theorem dX2_good_36 : decode cX2_good 36 = .ok (.ireturn, 1) := by decide +kernel
set_option maxRecDepth 20000 in
theorem ggX2_holds_X2_isCell : GoodIn wsX2_holds wsX2_isCell := goodIn_r _ [4, 5, 6, 3, 7] (by decide +kernel) (by decide +kernel)
set_option maxRecDepth 20000 in
theorem gX2_holds_X2_isCell : GoodIn wsX2_holds (va_wsS RX2 63 yX2_isCell wsX2_isCell) := goodIn_app (goodIn_of _ (by decide +kernel)) ggX2_holds_X2_isCell
set_option maxRecDepth 20000 in
theorem ggX2_holds_X2_isHeld : GoodIn wsX2_holds wsX2_isHeld := goodIn_r _ [10] (by decide +kernel) (by decide +kernel)
set_option maxRecDepth 20000 in
theorem gX2_holds_X2_isHeld : GoodIn wsX2_holds (va_wsS RX2 71 yX2_isHeld wsX2_isHeld) := goodIn_app (goodIn_of _ (by decide +kernel)) ggX2_holds_X2_isHeld
theorem dX2_holds_0 : decode cX2_holds 0 = .ok (.iload_n 1, 1) := by decide +kernel
theorem dX2_holds_1 : decode cX2_holds 1 = .ok (.iload_n 2, 1) := by decide +kernel
theorem dX2_holds_2 : decode cX2_holds 2 = .ok (.invokestatic 63, 3) := by decide +kernel
theorem dX2_holds_5 : decode cX2_holds 5 = .ok (.ifCond .ne 7, 3) := by decide +kernel
theorem dX2_holds_8 : decode cX2_holds 8 = .ok (.iconst (-1), 1) := by decide +kernel
theorem dX2_holds_9 : decode cX2_holds 9 = .ok (.goto 16, 3) := by decide +kernel
theorem dX2_holds_12 : decode cX2_holds 12 = .ok (.iload_n 1, 1) := by decide +kernel
theorem dX2_holds_13 : decode cX2_holds 13 = .ok (.iload_n 2, 1) := by decide +kernel
theorem dX2_holds_14 : decode cX2_holds 14 = .ok (.invokestatic 71, 3) := by decide +kernel
theorem dX2_holds_17 : decode cX2_holds 17 = .ok (.ifCond .eq 7, 3) := by decide +kernel
theorem dX2_holds_20 : decode cX2_holds 20 = .ok (.iconst 1, 1) := by decide +kernel
theorem dX2_holds_21 : decode cX2_holds 21 = .ok (.goto 4, 3) := by decide +kernel
theorem dX2_holds_24 : decode cX2_holds 24 = .ok (.iconst 0, 1) := by decide +kernel
theorem dX2_holds_25 : decode cX2_holds 25 = .ok (.ireturn, 1) := by decide +kernel
set_option maxRecDepth 20000 in
theorem ggX2_isWrong_X2_isGood : GoodIn wsX2_isWrong wsX2_isGood := goodIn_r _ [5, 6, 7, 4, 8, 9, 10, 11] (by decide +kernel) (by decide +kernel)
set_option maxRecDepth 20000 in
theorem gX2_isWrong_X2_isGood : GoodIn wsX2_isWrong (va_wsS RX2 49 yX2_isGood wsX2_isGood) := goodIn_app (goodIn_of _ (by decide +kernel)) ggX2_isWrong_X2_isGood
theorem dX2_isWrong_0 : decode cX2_isWrong 0 = .ok (.iload_n 2, 1) := by decide +kernel
theorem dX2_isWrong_1 : decode cX2_isWrong 1 = .ok (.sipush 128, 3) := by decide +kernel
theorem dX2_isWrong_4 : decode cX2_isWrong 4 = .ok (.idiv, 1) := by decide +kernel
theorem dX2_isWrong_5 : decode cX2_isWrong 5 = .ok (.iload_n 2, 1) := by decide +kernel
theorem dX2_isWrong_6 : decode cX2_isWrong 6 = .ok (.sipush 128, 3) := by decide +kernel
theorem dX2_isWrong_9 : decode cX2_isWrong 9 = .ok (.irem, 1) := by decide +kernel
theorem dX2_isWrong_10 : decode cX2_isWrong 10 = .ok (.bipush 64, 2) := by decide +kernel
theorem dX2_isWrong_12 : decode cX2_isWrong 12 = .ok (.isub, 1) := by decide +kernel
theorem dX2_isWrong_13 : decode cX2_isWrong 13 = .ok (.aload_n 0, 1) := by decide +kernel
theorem dX2_isWrong_14 : decode cX2_isWrong 14 = .ok (.getfield 7, 3) := by decide +kernel
theorem dX2_isWrong_17 : decode cX2_isWrong 17 = .ok (.sipush 2048, 3) := by decide +kernel
theorem dX2_isWrong_20 : decode cX2_isWrong 20 = .ok (.iload_n 1, 1) := by decide +kernel
theorem dX2_isWrong_21 : decode cX2_isWrong 21 = .ok (.imul, 1) := by decide +kernel
theorem dX2_isWrong_22 : decode cX2_isWrong 22 = .ok (.iload_n 2, 1) := by decide +kernel
theorem dX2_isWrong_23 : decode cX2_isWrong 23 = .ok (.iadd, 1) := by decide +kernel
theorem dX2_isWrong_24 : decode cX2_isWrong 24 = .ok (.iaload, 1) := by decide +kernel
theorem dX2_isWrong_25 : decode cX2_isWrong 25 = .ok (.invokestatic 49, 3) := by decide +kernel
theorem dX2_isWrong_28 : decode cX2_isWrong 28 = .ok (.ifCond .ne 7, 3) := by decide +kernel
theorem dX2_isWrong_31 : decode cX2_isWrong 31 = .ok (.iconst 1, 1) := by decide +kernel
theorem dX2_isWrong_32 : decode cX2_isWrong 32 = .ok (.goto 4, 3) := by decide +kernel
theorem dX2_isWrong_35 : decode cX2_isWrong 35 = .ok (.iconst 0, 1) := by decide +kernel
theorem dX2_isWrong_36 : decode cX2_isWrong 36 = .ok (.ireturn, 1) := by decide +kernel
set_option maxRecDepth 20000 in
theorem ggX2_check_X2_isTable : GoodIn wsX2_check wsX2_isTable := goodIn_r _ [4, 5, 6, 3, 7] (by decide +kernel) (by decide +kernel)
set_option maxRecDepth 20000 in
theorem gX2_check_X2_isTable : GoodIn wsX2_check (va_wsS RX2 59 yX2_isTable wsX2_isTable) := goodIn_app (goodIn_of _ (by decide +kernel)) ggX2_check_X2_isTable
set_option maxRecDepth 20000 in
theorem ggX2_check_X2_isWrong : GoodIn wsX2_check wsX2_isWrong := goodIn_r _ [11, 12, 13, 14, 3, 15, 16, 17, 18, 19, 20, 21, 22, 23, 24, 25, 26, 27, 28, 29, 30, 31, 32, 33, 34, 35, 36, 37, 38, 39] (by decide +kernel) (by decide +kernel)
set_option maxRecDepth 20000 in
theorem gX2_check_X2_isWrong : GoodIn wsX2_check (wsV RX2 74 RX2 yX2_isWrong wsX2_isWrong) := goodIn_app (goodIn_of _ (by decide +kernel)) ggX2_check_X2_isWrong
theorem dX2_check_0 : decode cX2_check 0 = .ok (.iload_n 1, 1) := by decide +kernel
theorem dX2_check_1 : decode cX2_check 1 = .ok (.invokestatic 59, 3) := by decide +kernel
theorem dX2_check_4 : decode cX2_check 4 = .ok (.ifCond .ne 5, 3) := by decide +kernel
theorem dX2_check_7 : decode cX2_check 7 = .ok (.iconst (-1), 1) := by decide +kernel
theorem dX2_check_8 : decode cX2_check 8 = .ok (.ireturn, 1) := by decide +kernel
theorem dX2_check_9 : decode cX2_check 9 = .ok (.iconst 0, 1) := by decide +kernel
theorem dX2_check_10 : decode cX2_check 10 = .ok (.istore_n 2, 1) := by decide +kernel
theorem dX2_check_11 : decode cX2_check 11 = .ok (.iconst 0, 1) := by decide +kernel
theorem dX2_check_12 : decode cX2_check 12 = .ok (.istore_n 3, 1) := by decide +kernel
theorem dX2_check_13 : decode cX2_check 13 = .ok (.iload_n 3, 1) := by decide +kernel
theorem dX2_check_14 : decode cX2_check 14 = .ok (.sipush 2048, 3) := by decide +kernel
theorem dX2_check_17 : decode cX2_check 17 = .ok (.if_icmp .ge 26, 3) := by decide +kernel
theorem dX2_check_20 : decode cX2_check 20 = .ok (.iload_n 2, 1) := by decide +kernel
theorem dX2_check_21 : decode cX2_check 21 = .ok (.aload_n 0, 1) := by decide +kernel
theorem dX2_check_22 : decode cX2_check 22 = .ok (.iload_n 1, 1) := by decide +kernel
theorem dX2_check_23 : decode cX2_check 23 = .ok (.iload_n 3, 1) := by decide +kernel
theorem dX2_check_24 : decode cX2_check 24 = .ok (.invokevirtual 74, 3) := by decide +kernel
theorem dX2_check_27 : decode cX2_check 27 = .ok (.ifCond .eq 7, 3) := by decide +kernel
theorem dX2_check_30 : decode cX2_check 30 = .ok (.iconst 1, 1) := by decide +kernel
theorem dX2_check_31 : decode cX2_check 31 = .ok (.goto 4, 3) := by decide +kernel
theorem dX2_check_34 : decode cX2_check 34 = .ok (.iconst 0, 1) := by decide +kernel
theorem dX2_check_35 : decode cX2_check 35 = .ok (.iadd, 1) := by decide +kernel
theorem dX2_check_36 : decode cX2_check 36 = .ok (.istore_n 2, 1) := by decide +kernel
theorem dX2_check_37 : decode cX2_check 37 = .ok (.iinc 3 1, 3) := by decide +kernel
theorem dX2_check_40 : decode cX2_check 40 = .ok (.goto (-27), 3) := by decide +kernel
theorem dX2_check_43 : decode cX2_check 43 = .ok (.iload_n 2, 1) := by decide +kernel
theorem dX2_check_44 : decode cX2_check 44 = .ok (.ireturn, 1) := by decide +kernel
set_option maxRecDepth 20000 in
theorem ggX2_wrong_X2_isTable : GoodIn wsX2_wrong wsX2_isTable := goodIn_r _ [4, 5, 6, 3, 7] (by decide +kernel) (by decide +kernel)
set_option maxRecDepth 20000 in
theorem gX2_wrong_X2_isTable : GoodIn wsX2_wrong (va_wsS RX2 59 yX2_isTable wsX2_isTable) := goodIn_app (goodIn_of _ (by decide +kernel)) ggX2_wrong_X2_isTable
set_option maxRecDepth 20000 in
theorem ggX2_wrong_X2_isWrong : GoodIn wsX2_wrong wsX2_isWrong := goodIn_r _ [11, 12, 13, 14, 3, 15, 16, 17, 18, 19, 20, 21, 22, 23, 24, 25, 26, 27, 28, 29, 30, 31, 32, 33, 34, 35, 36, 37, 38, 39] (by decide +kernel) (by decide +kernel)
set_option maxRecDepth 20000 in
theorem gX2_wrong_X2_isWrong : GoodIn wsX2_wrong (wsV RX2 74 RX2 yX2_isWrong wsX2_isWrong) := goodIn_app (goodIn_of _ (by decide +kernel)) ggX2_wrong_X2_isWrong
theorem dX2_wrong_0 : decode cX2_wrong 0 = .ok (.iload_n 1, 1) := by decide +kernel
theorem dX2_wrong_1 : decode cX2_wrong 1 = .ok (.invokestatic 59, 3) := by decide +kernel
theorem dX2_wrong_4 : decode cX2_wrong 4 = .ok (.ifCond .eq 7, 3) := by decide +kernel
theorem dX2_wrong_7 : decode cX2_wrong 7 = .ok (.iload_n 2, 1) := by decide +kernel
theorem dX2_wrong_8 : decode cX2_wrong 8 = .ok (.ifCond .ge 5, 3) := by decide +kernel
theorem dX2_wrong_11 : decode cX2_wrong 11 = .ok (.iconst (-1), 1) := by decide +kernel
theorem dX2_wrong_12 : decode cX2_wrong 12 = .ok (.ireturn, 1) := by decide +kernel
theorem dX2_wrong_13 : decode cX2_wrong 13 = .ok (.iload_n 2, 1) := by decide +kernel
theorem dX2_wrong_14 : decode cX2_wrong 14 = .ok (.istore_n 3, 1) := by decide +kernel
theorem dX2_wrong_15 : decode cX2_wrong 15 = .ok (.iconst 0, 1) := by decide +kernel
theorem dX2_wrong_16 : decode cX2_wrong 16 = .ok (.istore 4, 2) := by decide +kernel
theorem dX2_wrong_18 : decode cX2_wrong 18 = .ok (.iload 4, 2) := by decide +kernel
theorem dX2_wrong_20 : decode cX2_wrong 20 = .ok (.sipush 2048, 3) := by decide +kernel
theorem dX2_wrong_23 : decode cX2_wrong 23 = .ok (.if_icmp .ge 29, 3) := by decide +kernel
theorem dX2_wrong_26 : decode cX2_wrong 26 = .ok (.aload_n 0, 1) := by decide +kernel
theorem dX2_wrong_27 : decode cX2_wrong 27 = .ok (.iload_n 1, 1) := by decide +kernel
theorem dX2_wrong_28 : decode cX2_wrong 28 = .ok (.iload 4, 2) := by decide +kernel
theorem dX2_wrong_30 : decode cX2_wrong 30 = .ok (.invokevirtual 74, 3) := by decide +kernel
theorem dX2_wrong_33 : decode cX2_wrong 33 = .ok (.ifCond .eq 13, 3) := by decide +kernel
theorem dX2_wrong_36 : decode cX2_wrong 36 = .ok (.iload_n 3, 1) := by decide +kernel
theorem dX2_wrong_37 : decode cX2_wrong 37 = .ok (.ifCond .ne 6, 3) := by decide +kernel
theorem dX2_wrong_40 : decode cX2_wrong 40 = .ok (.iload 4, 2) := by decide +kernel
theorem dX2_wrong_42 : decode cX2_wrong 42 = .ok (.ireturn, 1) := by decide +kernel
theorem dX2_wrong_43 : decode cX2_wrong 43 = .ok (.iinc 3 (-1), 3) := by decide +kernel
theorem dX2_wrong_46 : decode cX2_wrong 46 = .ok (.iinc 4 1, 3) := by decide +kernel
theorem dX2_wrong_49 : decode cX2_wrong 49 = .ok (.goto (-31), 3) := by decide +kernel
theorem dX2_wrong_52 : decode cX2_wrong 52 = .ok (.bipush (-2), 2) := by decide +kernel
theorem dX2_wrong_54 : decode cX2_wrong 54 = .ok (.ireturn, 1) := by decide +kernel
theorem dX2_sizeOf_0 : decode cX2_sizeOf 0 = .ok (.iload_n 0, 1) := by decide +kernel
theorem dX2_sizeOf_1 : decode cX2_sizeOf 1 = .ok (.ifCond .ge 9, 3) := by decide +kernel
theorem dX2_sizeOf_4 : decode cX2_sizeOf 4 = .ok (.iload_n 0, 1) := by decide +kernel
theorem dX2_sizeOf_5 : decode cX2_sizeOf 5 = .ok (.i2l, 1) := by decide +kernel
theorem dX2_sizeOf_6 : decode cX2_sizeOf 6 = .ok (.lneg, 1) := by decide +kernel
theorem dX2_sizeOf_7 : decode cX2_sizeOf 7 = .ok (.goto 5, 3) := by decide +kernel
theorem dX2_sizeOf_10 : decode cX2_sizeOf 10 = .ok (.iload_n 0, 1) := by decide +kernel
theorem dX2_sizeOf_11 : decode cX2_sizeOf 11 = .ok (.i2l, 1) := by decide +kernel
theorem dX2_sizeOf_12 : decode cX2_sizeOf 12 = .ok (.lreturn, 1) := by decide +kernel
theorem dX2_doublings_0 : decode cX2_doublings 0 = .ok (.iconst 0, 1) := by decide +kernel
theorem dX2_doublings_1 : decode cX2_doublings 1 = .ok (.istore_n 2, 1) := by decide +kernel
theorem dX2_doublings_2 : decode cX2_doublings 2 = .ok (.lload_n 0, 1) := by decide +kernel
theorem dX2_doublings_3 : decode cX2_doublings 3 = .ok (.lstore_n 3, 1) := by decide +kernel
theorem dX2_doublings_4 : decode cX2_doublings 4 = .ok (.lload_n 3, 1) := by decide +kernel
theorem dX2_doublings_5 : decode cX2_doublings 5 = .ok (.ldc2_w 77, 3) := by decide +kernel
theorem dX2_doublings_8 : decode cX2_doublings 8 = .ok (.lcmp, 1) := by decide +kernel
theorem dX2_doublings_9 : decode cX2_doublings 9 = .ok (.ifCond .ge 15, 3) := by decide +kernel
theorem dX2_doublings_12 : decode cX2_doublings 12 = .ok (.ldc2_w 79, 3) := by decide +kernel
theorem dX2_doublings_15 : decode cX2_doublings 15 = .ok (.lload_n 3, 1) := by decide +kernel
theorem dX2_doublings_16 : decode cX2_doublings 16 = .ok (.lmul, 1) := by decide +kernel
theorem dX2_doublings_17 : decode cX2_doublings 17 = .ok (.lstore_n 3, 1) := by decide +kernel
theorem dX2_doublings_18 : decode cX2_doublings 18 = .ok (.iinc 2 1, 3) := by decide +kernel
theorem dX2_doublings_21 : decode cX2_doublings 21 = .ok (.goto (-17), 3) := by decide +kernel
theorem dX2_doublings_24 : decode cX2_doublings 24 = .ok (.iload_n 2, 1) := by decide +kernel
theorem dX2_doublings_25 : decode cX2_doublings 25 = .ok (.ireturn, 1) := by decide +kernel
set_option maxRecDepth 20000 in
theorem ggX2_nextDigit_X2_cellAt : GoodIn wsX2_nextDigit wsX2_cellAt := goodIn_r _ [19] (by decide +kernel) (by decide +kernel)
set_option maxRecDepth 20000 in
theorem gX2_nextDigit_X2_cellAt : GoodIn wsX2_nextDigit (va_wsS RX2 67 yX2_cellAt wsX2_cellAt) := goodIn_app (goodIn_of _ (by decide +kernel)) ggX2_nextDigit_X2_cellAt
theorem dX2_nextDigit_0 : decode cX2_nextDigit 0 = .ok (.ldc2_w 81, 3) := by decide +kernel
theorem dX2_nextDigit_3 : decode cX2_nextDigit 3 = .ok (.aload_n 0, 1) := by decide +kernel
theorem dX2_nextDigit_4 : decode cX2_nextDigit 4 = .ok (.getfield 19, 3) := by decide +kernel
theorem dX2_nextDigit_7 : decode cX2_nextDigit 7 = .ok (.iload_n 1, 1) := by decide +kernel
theorem dX2_nextDigit_8 : decode cX2_nextDigit 8 = .ok (.iconst 1, 1) := by decide +kernel
theorem dX2_nextDigit_9 : decode cX2_nextDigit 9 = .ok (.isub, 1) := by decide +kernel
theorem dX2_nextDigit_10 : decode cX2_nextDigit 10 = .ok (.laload, 1) := by decide +kernel
theorem dX2_nextDigit_11 : decode cX2_nextDigit 11 = .ok (.lmul, 1) := by decide +kernel
theorem dX2_nextDigit_12 : decode cX2_nextDigit 12 = .ok (.lstore 4, 2) := by decide +kernel
theorem dX2_nextDigit_14 : decode cX2_nextDigit 14 = .ok (.ldc2_w 81, 3) := by decide +kernel
theorem dX2_nextDigit_17 : decode cX2_nextDigit 17 = .ok (.aload_n 0, 1) := by decide +kernel
theorem dX2_nextDigit_18 : decode cX2_nextDigit 18 = .ok (.getfield 23, 3) := by decide +kernel
theorem dX2_nextDigit_21 : decode cX2_nextDigit 21 = .ok (.iload_n 1, 1) := by decide +kernel
theorem dX2_nextDigit_22 : decode cX2_nextDigit 22 = .ok (.iconst 1, 1) := by decide +kernel
theorem dX2_nextDigit_23 : decode cX2_nextDigit 23 = .ok (.isub, 1) := by decide +kernel
theorem dX2_nextDigit_24 : decode cX2_nextDigit 24 = .ok (.laload, 1) := by decide +kernel
theorem dX2_nextDigit_25 : decode cX2_nextDigit 25 = .ok (.lmul, 1) := by decide +kernel
theorem dX2_nextDigit_26 : decode cX2_nextDigit 26 = .ok (.lstore 6, 2) := by decide +kernel
theorem dX2_nextDigit_28 : decode cX2_nextDigit 28 = .ok (.lload 4, 2) := by decide +kernel
theorem dX2_nextDigit_30 : decode cX2_nextDigit 30 = .ok (.bipush 31, 2) := by decide +kernel
theorem dX2_nextDigit_32 : decode cX2_nextDigit 32 = .ok (.lshr, 1) := by decide +kernel
theorem dX2_nextDigit_33 : decode cX2_nextDigit 33 = .ok (.lload 6, 2) := by decide +kernel
theorem dX2_nextDigit_35 : decode cX2_nextDigit 35 = .ok (.bipush 31, 2) := by decide +kernel
theorem dX2_nextDigit_37 : decode cX2_nextDigit 37 = .ok (.lshr, 1) := by decide +kernel
theorem dX2_nextDigit_38 : decode cX2_nextDigit 38 = .ok (.ladd, 1) := by decide +kernel
theorem dX2_nextDigit_39 : decode cX2_nextDigit 39 = .ok (.l2i, 1) := by decide +kernel
theorem dX2_nextDigit_40 : decode cX2_nextDigit 40 = .ok (.istore 8, 2) := by decide +kernel
theorem dX2_nextDigit_42 : decode cX2_nextDigit 42 = .ok (.iload 8, 2) := by decide +kernel
theorem dX2_nextDigit_44 : decode cX2_nextDigit 44 = .ok (.bipush (-64), 2) := by decide +kernel
theorem dX2_nextDigit_46 : decode cX2_nextDigit 46 = .ok (.if_icmp .ge 8, 3) := by decide +kernel
theorem dX2_nextDigit_49 : decode cX2_nextDigit 49 = .ok (.bipush (-64), 2) := by decide +kernel
theorem dX2_nextDigit_51 : decode cX2_nextDigit 51 = .ok (.goto 17, 3) := by decide +kernel
theorem dX2_nextDigit_54 : decode cX2_nextDigit 54 = .ok (.iload 8, 2) := by decide +kernel
theorem dX2_nextDigit_56 : decode cX2_nextDigit 56 = .ok (.bipush 63, 2) := by decide +kernel
theorem dX2_nextDigit_58 : decode cX2_nextDigit 58 = .ok (.if_icmp .le 8, 3) := by decide +kernel
theorem dX2_nextDigit_61 : decode cX2_nextDigit 61 = .ok (.bipush 63, 2) := by decide +kernel
theorem dX2_nextDigit_63 : decode cX2_nextDigit 63 = .ok (.goto 5, 3) := by decide +kernel
theorem dX2_nextDigit_66 : decode cX2_nextDigit 66 = .ok (.iload 8, 2) := by decide +kernel
theorem dX2_nextDigit_68 : decode cX2_nextDigit 68 = .ok (.istore 9, 2) := by decide +kernel
theorem dX2_nextDigit_70 : decode cX2_nextDigit 70 = .ok (.aload_n 0, 1) := by decide +kernel
theorem dX2_nextDigit_71 : decode cX2_nextDigit 71 = .ok (.getfield 7, 3) := by decide +kernel
theorem dX2_nextDigit_74 : decode cX2_nextDigit 74 = .ok (.aload_n 0, 1) := by decide +kernel
theorem dX2_nextDigit_75 : decode cX2_nextDigit 75 = .ok (.getfield 83, 3) := by decide +kernel
theorem dX2_nextDigit_78 : decode cX2_nextDigit 78 = .ok (.aload_n 0, 1) := by decide +kernel
theorem dX2_nextDigit_79 : decode cX2_nextDigit 79 = .ok (.getfield 87, 3) := by decide +kernel
theorem dX2_nextDigit_82 : decode cX2_nextDigit 82 = .ok (.iload 9, 2) := by decide +kernel
theorem dX2_nextDigit_84 : decode cX2_nextDigit 84 = .ok (.invokestatic 67, 3) := by decide +kernel
theorem dX2_nextDigit_87 : decode cX2_nextDigit 87 = .ok (.iaload, 1) := by decide +kernel
theorem dX2_nextDigit_88 : decode cX2_nextDigit 88 = .ok (.istore 10, 2) := by decide +kernel
theorem dX2_nextDigit_90 : decode cX2_nextDigit 90 = .ok (.ldc2_w 90, 3) := by decide +kernel
theorem dX2_nextDigit_93 : decode cX2_nextDigit 93 = .ok (.iload 10, 2) := by decide +kernel
theorem dX2_nextDigit_95 : decode cX2_nextDigit 95 = .ok (.i2l, 1) := by decide +kernel
theorem dX2_nextDigit_96 : decode cX2_nextDigit 96 = .ok (.lmul, 1) := by decide +kernel
theorem dX2_nextDigit_97 : decode cX2_nextDigit 97 = .ok (.lload_n 2, 1) := by decide +kernel
theorem dX2_nextDigit_98 : decode cX2_nextDigit 98 = .ok (.lmul, 1) := by decide +kernel
theorem dX2_nextDigit_99 : decode cX2_nextDigit 99 = .ok (.lstore 11, 2) := by decide +kernel
theorem dX2_nextDigit_101 : decode cX2_nextDigit 101 = .ok (.aload_n 0, 1) := by decide +kernel
theorem dX2_nextDigit_102 : decode cX2_nextDigit 102 = .ok (.getfield 19, 3) := by decide +kernel
theorem dX2_nextDigit_105 : decode cX2_nextDigit 105 = .ok (.iload_n 1, 1) := by decide +kernel
theorem dX2_nextDigit_106 : decode cX2_nextDigit 106 = .ok (.lload 4, 2) := by decide +kernel
theorem dX2_nextDigit_108 : decode cX2_nextDigit 108 = .ok (.lload 6, 2) := by decide +kernel
theorem dX2_nextDigit_110 : decode cX2_nextDigit 110 = .ok (.lxor, 1) := by decide +kernel
theorem dX2_nextDigit_111 : decode cX2_nextDigit 111 = .ok (.lload 11, 2) := by decide +kernel
theorem dX2_nextDigit_113 : decode cX2_nextDigit 113 = .ok (.lxor, 1) := by decide +kernel
theorem dX2_nextDigit_114 : decode cX2_nextDigit 114 = .ok (.lastore, 1) := by decide +kernel
theorem dX2_nextDigit_115 : decode cX2_nextDigit 115 = .ok (.aload_n 0, 1) := by decide +kernel
theorem dX2_nextDigit_116 : decode cX2_nextDigit 116 = .ok (.getfield 23, 3) := by decide +kernel
theorem dX2_nextDigit_119 : decode cX2_nextDigit 119 = .ok (.iload_n 1, 1) := by decide +kernel
theorem dX2_nextDigit_120 : decode cX2_nextDigit 120 = .ok (.ldc2_w 79, 3) := by decide +kernel
theorem dX2_nextDigit_123 : decode cX2_nextDigit 123 = .ok (.lload 4, 2) := by decide +kernel
theorem dX2_nextDigit_125 : decode cX2_nextDigit 125 = .ok (.lload 6, 2) := by decide +kernel
theorem dX2_nextDigit_127 : decode cX2_nextDigit 127 = .ok (.land, 1) := by decide +kernel
theorem dX2_nextDigit_128 : decode cX2_nextDigit 128 = .ok (.lload 4, 2) := by decide +kernel
theorem dX2_nextDigit_130 : decode cX2_nextDigit 130 = .ok (.lload 11, 2) := by decide +kernel
theorem dX2_nextDigit_132 : decode cX2_nextDigit 132 = .ok (.land, 1) := by decide +kernel
theorem dX2_nextDigit_133 : decode cX2_nextDigit 133 = .ok (.lor, 1) := by decide +kernel
theorem dX2_nextDigit_134 : decode cX2_nextDigit 134 = .ok (.lload 6, 2) := by decide +kernel
theorem dX2_nextDigit_136 : decode cX2_nextDigit 136 = .ok (.lload 11, 2) := by decide +kernel
theorem dX2_nextDigit_138 : decode cX2_nextDigit 138 = .ok (.land, 1) := by decide +kernel
theorem dX2_nextDigit_139 : decode cX2_nextDigit 139 = .ok (.lor, 1) := by decide +kernel
theorem dX2_nextDigit_140 : decode cX2_nextDigit 140 = .ok (.lmul, 1) := by decide +kernel
theorem dX2_nextDigit_141 : decode cX2_nextDigit 141 = .ok (.lastore, 1) := by decide +kernel
theorem dX2_nextDigit_142 : decode cX2_nextDigit 142 = .ok (.aload_n 0, 1) := by decide +kernel
theorem dX2_nextDigit_143 : decode cX2_nextDigit 143 = .ok (.getfield 26, 3) := by decide +kernel
theorem dX2_nextDigit_146 : decode cX2_nextDigit 146 = .ok (.iload_n 1, 1) := by decide +kernel
theorem dX2_nextDigit_147 : decode cX2_nextDigit 147 = .ok (.iconst 1, 1) := by decide +kernel
theorem dX2_nextDigit_148 : decode cX2_nextDigit 148 = .ok (.isub, 1) := by decide +kernel
theorem dX2_nextDigit_149 : decode cX2_nextDigit 149 = .ok (.laload, 1) := by decide +kernel
theorem dX2_nextDigit_150 : decode cX2_nextDigit 150 = .ok (.lstore 13, 2) := by decide +kernel
theorem dX2_nextDigit_152 : decode cX2_nextDigit 152 = .ok (.aload_n 0, 1) := by decide +kernel
theorem dX2_nextDigit_153 : decode cX2_nextDigit 153 = .ok (.getfield 29, 3) := by decide +kernel
theorem dX2_nextDigit_156 : decode cX2_nextDigit 156 = .ok (.iload_n 1, 1) := by decide +kernel
theorem dX2_nextDigit_157 : decode cX2_nextDigit 157 = .ok (.iconst 1, 1) := by decide +kernel
theorem dX2_nextDigit_158 : decode cX2_nextDigit 158 = .ok (.isub, 1) := by decide +kernel
theorem dX2_nextDigit_159 : decode cX2_nextDigit 159 = .ok (.laload, 1) := by decide +kernel
theorem dX2_nextDigit_160 : decode cX2_nextDigit 160 = .ok (.lstore 15, 2) := by decide +kernel
theorem dX2_nextDigit_162 : decode cX2_nextDigit 162 = .ok (.aload_n 0, 1) := by decide +kernel
theorem dX2_nextDigit_163 : decode cX2_nextDigit 163 = .ok (.getfield 26, 3) := by decide +kernel
theorem dX2_nextDigit_166 : decode cX2_nextDigit 166 = .ok (.iload_n 1, 1) := by decide +kernel
theorem dX2_nextDigit_167 : decode cX2_nextDigit 167 = .ok (.iload 10, 2) := by decide +kernel
theorem dX2_nextDigit_169 : decode cX2_nextDigit 169 = .ok (.ifCond .lt 16, 3) := by decide +kernel
theorem dX2_nextDigit_172 : decode cX2_nextDigit 172 = .ok (.ldc2_w 81, 3) := by decide +kernel
theorem dX2_nextDigit_175 : decode cX2_nextDigit 175 = .ok (.lload 13, 2) := by decide +kernel
theorem dX2_nextDigit_177 : decode cX2_nextDigit 177 = .ok (.lmul, 1) := by decide +kernel
theorem dX2_nextDigit_178 : decode cX2_nextDigit 178 = .ok (.iload 10, 2) := by decide +kernel
theorem dX2_nextDigit_180 : decode cX2_nextDigit 180 = .ok (.i2l, 1) := by decide +kernel
theorem dX2_nextDigit_181 : decode cX2_nextDigit 181 = .ok (.ladd, 1) := by decide +kernel
theorem dX2_nextDigit_182 : decode cX2_nextDigit 182 = .ok (.goto 17, 3) := by decide +kernel
theorem dX2_nextDigit_185 : decode cX2_nextDigit 185 = .ok (.ldc2_w 81, 3) := by decide +kernel
theorem dX2_nextDigit_188 : decode cX2_nextDigit 188 = .ok (.lload 15, 2) := by decide +kernel
theorem dX2_nextDigit_190 : decode cX2_nextDigit 190 = .ok (.lmul, 1) := by decide +kernel
theorem dX2_nextDigit_191 : decode cX2_nextDigit 191 = .ok (.ldc2_w 81, 3) := by decide +kernel
theorem dX2_nextDigit_194 : decode cX2_nextDigit 194 = .ok (.ladd, 1) := by decide +kernel
theorem dX2_nextDigit_195 : decode cX2_nextDigit 195 = .ok (.iload 10, 2) := by decide +kernel
theorem dX2_nextDigit_197 : decode cX2_nextDigit 197 = .ok (.i2l, 1) := by decide +kernel
theorem dX2_nextDigit_198 : decode cX2_nextDigit 198 = .ok (.ladd, 1) := by decide +kernel
theorem dX2_nextDigit_199 : decode cX2_nextDigit 199 = .ok (.lastore, 1) := by decide +kernel
theorem dX2_nextDigit_200 : decode cX2_nextDigit 200 = .ok (.aload_n 0, 1) := by decide +kernel
theorem dX2_nextDigit_201 : decode cX2_nextDigit 201 = .ok (.getfield 29, 3) := by decide +kernel
theorem dX2_nextDigit_204 : decode cX2_nextDigit 204 = .ok (.iload_n 1, 1) := by decide +kernel
theorem dX2_nextDigit_205 : decode cX2_nextDigit 205 = .ok (.iload 10, 2) := by decide +kernel
theorem dX2_nextDigit_207 : decode cX2_nextDigit 207 = .ok (.ifCond .le 18, 3) := by decide +kernel
theorem dX2_nextDigit_210 : decode cX2_nextDigit 210 = .ok (.ldc2_w 81, 3) := by decide +kernel
theorem dX2_nextDigit_213 : decode cX2_nextDigit 213 = .ok (.lload 13, 2) := by decide +kernel
theorem dX2_nextDigit_215 : decode cX2_nextDigit 215 = .ok (.lmul, 1) := by decide +kernel
theorem dX2_nextDigit_216 : decode cX2_nextDigit 216 = .ok (.iload 10, 2) := by decide +kernel
theorem dX2_nextDigit_218 : decode cX2_nextDigit 218 = .ok (.i2l, 1) := by decide +kernel
theorem dX2_nextDigit_219 : decode cX2_nextDigit 219 = .ok (.ladd, 1) := by decide +kernel
theorem dX2_nextDigit_220 : decode cX2_nextDigit 220 = .ok (.lconst 1, 1) := by decide +kernel
theorem dX2_nextDigit_221 : decode cX2_nextDigit 221 = .ok (.lsub, 1) := by decide +kernel
theorem dX2_nextDigit_222 : decode cX2_nextDigit 222 = .ok (.goto 17, 3) := by decide +kernel
theorem dX2_nextDigit_225 : decode cX2_nextDigit 225 = .ok (.ldc2_w 81, 3) := by decide +kernel
theorem dX2_nextDigit_228 : decode cX2_nextDigit 228 = .ok (.lload 15, 2) := by decide +kernel
theorem dX2_nextDigit_230 : decode cX2_nextDigit 230 = .ok (.lmul, 1) := by decide +kernel
theorem dX2_nextDigit_231 : decode cX2_nextDigit 231 = .ok (.ldc2_w 92, 3) := by decide +kernel
theorem dX2_nextDigit_234 : decode cX2_nextDigit 234 = .ok (.ladd, 1) := by decide +kernel
theorem dX2_nextDigit_235 : decode cX2_nextDigit 235 = .ok (.iload 10, 2) := by decide +kernel
theorem dX2_nextDigit_237 : decode cX2_nextDigit 237 = .ok (.i2l, 1) := by decide +kernel
theorem dX2_nextDigit_238 : decode cX2_nextDigit 238 = .ok (.ladd, 1) := by decide +kernel
theorem dX2_nextDigit_239 : decode cX2_nextDigit 239 = .ok (.lastore, 1) := by decide +kernel
theorem dX2_nextDigit_240 : decode cX2_nextDigit 240 = .ok (.aload_n 0, 1) := by decide +kernel
theorem dX2_nextDigit_241 : decode cX2_nextDigit 241 = .ok (.getfield 13, 3) := by decide +kernel
theorem dX2_nextDigit_244 : decode cX2_nextDigit 244 = .ok (.iload_n 1, 1) := by decide +kernel
theorem dX2_nextDigit_245 : decode cX2_nextDigit 245 = .ok (.iload 10, 2) := by decide +kernel
theorem dX2_nextDigit_247 : decode cX2_nextDigit 247 = .ok (.iastore, 1) := by decide +kernel
theorem dX2_nextDigit_248 : decode cX2_nextDigit 248 = .ok (.aload_n 0, 1) := by decide +kernel
theorem dX2_nextDigit_249 : decode cX2_nextDigit 249 = .ok (.getfield 16, 3) := by decide +kernel
theorem dX2_nextDigit_252 : decode cX2_nextDigit 252 = .ok (.iload_n 1, 1) := by decide +kernel
theorem dX2_nextDigit_253 : decode cX2_nextDigit 253 = .ok (.iload 8, 2) := by decide +kernel
theorem dX2_nextDigit_255 : decode cX2_nextDigit 255 = .ok (.iastore, 1) := by decide +kernel
theorem dX2_nextDigit_256 : decode cX2_nextDigit 256 = .ok (.aload_n 0, 1) := by decide +kernel
theorem dX2_nextDigit_257 : decode cX2_nextDigit 257 = .ok (.getfield 19, 3) := by decide +kernel
theorem dX2_nextDigit_260 : decode cX2_nextDigit 260 = .ok (.iload_n 1, 1) := by decide +kernel
theorem dX2_nextDigit_261 : decode cX2_nextDigit 261 = .ok (.laload, 1) := by decide +kernel
theorem dX2_nextDigit_262 : decode cX2_nextDigit 262 = .ok (.aload_n 0, 1) := by decide +kernel
theorem dX2_nextDigit_263 : decode cX2_nextDigit 263 = .ok (.getfield 23, 3) := by decide +kernel
theorem dX2_nextDigit_266 : decode cX2_nextDigit 266 = .ok (.iload_n 1, 1) := by decide +kernel
theorem dX2_nextDigit_267 : decode cX2_nextDigit 267 = .ok (.laload, 1) := by decide +kernel
theorem dX2_nextDigit_268 : decode cX2_nextDigit 268 = .ok (.ladd, 1) := by decide +kernel
theorem dX2_nextDigit_269 : decode cX2_nextDigit 269 = .ok (.lstore 17, 2) := by decide +kernel
theorem dX2_nextDigit_271 : decode cX2_nextDigit 271 = .ok (.ldc2_w 94, 3) := by decide +kernel
theorem dX2_nextDigit_274 : decode cX2_nextDigit 274 = .ok (.lload_n 2, 1) := by decide +kernel
theorem dX2_nextDigit_275 : decode cX2_nextDigit 275 = .ok (.lmul, 1) := by decide +kernel
theorem dX2_nextDigit_276 : decode cX2_nextDigit 276 = .ok (.ldc2_w 92, 3) := by decide +kernel
theorem dX2_nextDigit_279 : decode cX2_nextDigit 279 = .ok (.ldiv, 1) := by decide +kernel
theorem dX2_nextDigit_280 : decode cX2_nextDigit 280 = .ok (.lstore 19, 2) := by decide +kernel
theorem dX2_nextDigit_282 : decode cX2_nextDigit 282 = .ok (.aload_n 0, 1) := by decide +kernel
theorem dX2_nextDigit_283 : decode cX2_nextDigit 283 = .ok (.getfield 96, 3) := by decide +kernel
theorem dX2_nextDigit_286 : decode cX2_nextDigit 286 = .ok (.ifCond .ne 25, 3) := by decide +kernel
theorem dX2_nextDigit_289 : decode cX2_nextDigit 289 = .ok (.lload 17, 2) := by decide +kernel
theorem dX2_nextDigit_291 : decode cX2_nextDigit 291 = .ok (.lload 19, 2) := by decide +kernel
theorem dX2_nextDigit_293 : decode cX2_nextDigit 293 = .ok (.lcmp, 1) := by decide +kernel
theorem dX2_nextDigit_294 : decode cX2_nextDigit 294 = .ok (.ifCond .gt 12, 3) := by decide +kernel
theorem dX2_nextDigit_297 : decode cX2_nextDigit 297 = .ok (.lload 17, 2) := by decide +kernel
theorem dX2_nextDigit_299 : decode cX2_nextDigit 299 = .ok (.lload 19, 2) := by decide +kernel
theorem dX2_nextDigit_301 : decode cX2_nextDigit 301 = .ok (.lneg, 1) := by decide +kernel
theorem dX2_nextDigit_302 : decode cX2_nextDigit 302 = .ok (.lcmp, 1) := by decide +kernel
theorem dX2_nextDigit_303 : decode cX2_nextDigit 303 = .ok (.ifCond .ge 8, 3) := by decide +kernel
theorem dX2_nextDigit_306 : decode cX2_nextDigit 306 = .ok (.aload_n 0, 1) := by decide +kernel
theorem dX2_nextDigit_307 : decode cX2_nextDigit 307 = .ok (.iload_n 1, 1) := by decide +kernel
theorem dX2_nextDigit_308 : decode cX2_nextDigit 308 = .ok (.putfield 96, 3) := by decide +kernel
theorem dX2_nextDigit_311 : decode cX2_nextDigit 311 = .ok (.return_, 1) := by decide +kernel
set_option maxRecDepth 20000 in
theorem ggX2_work_X2_sizeOf : GoodIn wsX2_work wsX2_sizeOf := goodIn_r _ [18] (by decide +kernel) (by decide +kernel)
set_option maxRecDepth 20000 in
theorem gX2_work_X2_sizeOf : GoodIn wsX2_work (va_wsS RX2 99 yX2_sizeOf wsX2_sizeOf) := goodIn_app (goodIn_of _ (by decide +kernel)) ggX2_work_X2_sizeOf
set_option maxRecDepth 20000 in
theorem ggX2_work_X2_doublings : GoodIn wsX2_work wsX2_doublings := goodIn_r _ [21, 22, 23] (by decide +kernel) (by decide +kernel)
set_option maxRecDepth 20000 in
theorem gX2_work_X2_doublings : GoodIn wsX2_work (va_wsS RX2 118 yX2_doublings wsX2_doublings) := goodIn_app (goodIn_of _ (by decide +kernel)) ggX2_work_X2_doublings
set_option maxRecDepth 20000 in
theorem ggX2_work_X2_nextDigit : GoodIn wsX2_work wsX2_nextDigit := goodIn_r _ [27, 28, 7, 8, 29, 30, 3, 31, 23, 9, 10, 32, 33, 34, 35, 6, 36, 37, 17, 38, 39, 40, 41, 42, 43, 44, 45, 46, 47, 48, 49, 50, 51, 52, 53, 54, 55, 56] (by decide +kernel) (by decide +kernel)
set_option maxRecDepth 20000 in
theorem gX2_work_X2_nextDigit : GoodIn wsX2_work (wsV RX2 124 RX2 yX2_nextDigit wsX2_nextDigit) := goodIn_app (goodIn_of _ (by decide +kernel)) ggX2_work_X2_nextDigit
theorem dX2_work_0 : decode cX2_work 0 = .ok (.iload_n 1, 1) := by decide +kernel
theorem dX2_work_1 : decode cX2_work 1 = .ok (.invokestatic 99, 3) := by decide +kernel
theorem dX2_work_4 : decode cX2_work 4 = .ok (.lstore_n 3, 1) := by decide +kernel
theorem dX2_work_5 : decode cX2_work 5 = .ok (.iload_n 2, 1) := by decide +kernel
theorem dX2_work_6 : decode cX2_work 6 = .ok (.invokestatic 99, 3) := by decide +kernel
theorem dX2_work_9 : decode cX2_work 9 = .ok (.lstore 5, 2) := by decide +kernel
theorem dX2_work_11 : decode cX2_work 11 = .ok (.aload_n 0, 1) := by decide +kernel
theorem dX2_work_12 : decode cX2_work 12 = .ok (.iconst 1, 1) := by decide +kernel
theorem dX2_work_13 : decode cX2_work 13 = .ok (.putfield 103, 3) := by decide +kernel
theorem dX2_work_16 : decode cX2_work 16 = .ok (.aload_n 0, 1) := by decide +kernel
theorem dX2_work_17 : decode cX2_work 17 = .ok (.iconst 0, 1) := by decide +kernel
theorem dX2_work_18 : decode cX2_work 18 = .ok (.putfield 107, 3) := by decide +kernel
theorem dX2_work_21 : decode cX2_work 21 = .ok (.aload_n 0, 1) := by decide +kernel
theorem dX2_work_22 : decode cX2_work 22 = .ok (.iconst 0, 1) := by decide +kernel
theorem dX2_work_23 : decode cX2_work 23 = .ok (.putfield 87, 3) := by decide +kernel
theorem dX2_work_26 : decode cX2_work 26 = .ok (.aload_n 0, 1) := by decide +kernel
theorem dX2_work_27 : decode cX2_work 27 = .ok (.iconst 0, 1) := by decide +kernel
theorem dX2_work_28 : decode cX2_work 28 = .ok (.putfield 110, 3) := by decide +kernel
theorem dX2_work_31 : decode cX2_work 31 = .ok (.aload_n 0, 1) := by decide +kernel
theorem dX2_work_32 : decode cX2_work 32 = .ok (.iconst 0, 1) := by decide +kernel
theorem dX2_work_33 : decode cX2_work 33 = .ok (.putfield 113, 3) := by decide +kernel
theorem dX2_work_36 : decode cX2_work 36 = .ok (.aload_n 0, 1) := by decide +kernel
theorem dX2_work_37 : decode cX2_work 37 = .ok (.iconst 0, 1) := by decide +kernel
theorem dX2_work_38 : decode cX2_work 38 = .ok (.putfield 96, 3) := by decide +kernel
theorem dX2_work_41 : decode cX2_work 41 = .ok (.aload_n 0, 1) := by decide +kernel
theorem dX2_work_42 : decode cX2_work 42 = .ok (.getfield 19, 3) := by decide +kernel
theorem dX2_work_45 : decode cX2_work 45 = .ok (.iconst 0, 1) := by decide +kernel
theorem dX2_work_46 : decode cX2_work 46 = .ok (.lconst 0, 1) := by decide +kernel
theorem dX2_work_47 : decode cX2_work 47 = .ok (.lastore, 1) := by decide +kernel
theorem dX2_work_48 : decode cX2_work 48 = .ok (.aload_n 0, 1) := by decide +kernel
theorem dX2_work_49 : decode cX2_work 49 = .ok (.getfield 23, 3) := by decide +kernel
theorem dX2_work_52 : decode cX2_work 52 = .ok (.iconst 0, 1) := by decide +kernel
theorem dX2_work_53 : decode cX2_work 53 = .ok (.lconst 0, 1) := by decide +kernel
theorem dX2_work_54 : decode cX2_work 54 = .ok (.lastore, 1) := by decide +kernel
theorem dX2_work_55 : decode cX2_work 55 = .ok (.aload_n 0, 1) := by decide +kernel
theorem dX2_work_56 : decode cX2_work 56 = .ok (.getfield 26, 3) := by decide +kernel
theorem dX2_work_59 : decode cX2_work 59 = .ok (.iconst 0, 1) := by decide +kernel
theorem dX2_work_60 : decode cX2_work 60 = .ok (.lconst 0, 1) := by decide +kernel
theorem dX2_work_61 : decode cX2_work 61 = .ok (.lastore, 1) := by decide +kernel
theorem dX2_work_62 : decode cX2_work 62 = .ok (.aload_n 0, 1) := by decide +kernel
theorem dX2_work_63 : decode cX2_work 63 = .ok (.getfield 29, 3) := by decide +kernel
theorem dX2_work_66 : decode cX2_work 66 = .ok (.iconst 0, 1) := by decide +kernel
theorem dX2_work_67 : decode cX2_work 67 = .ok (.ldc2_w 116, 3) := by decide +kernel
theorem dX2_work_70 : decode cX2_work 70 = .ok (.lastore, 1) := by decide +kernel
theorem dX2_work_71 : decode cX2_work 71 = .ok (.lconst 0, 1) := by decide +kernel
theorem dX2_work_72 : decode cX2_work 72 = .ok (.lstore 7, 2) := by decide +kernel
theorem dX2_work_74 : decode cX2_work 74 = .ok (.lload_n 3, 1) := by decide +kernel
theorem dX2_work_75 : decode cX2_work 75 = .ok (.lstore 9, 2) := by decide +kernel
theorem dX2_work_77 : decode cX2_work 77 = .ok (.lload_n 3, 1) := by decide +kernel
theorem dX2_work_78 : decode cX2_work 78 = .ok (.lload 5, 2) := by decide +kernel
theorem dX2_work_80 : decode cX2_work 80 = .ok (.lcmp, 1) := by decide +kernel
theorem dX2_work_81 : decode cX2_work 81 = .ok (.ifCond .lt 206, 3) := by decide +kernel
theorem dX2_work_84 : decode cX2_work 84 = .ok (.aload_n 0, 1) := by decide +kernel
theorem dX2_work_85 : decode cX2_work 85 = .ok (.lload_n 3, 1) := by decide +kernel
theorem dX2_work_86 : decode cX2_work 86 = .ok (.invokestatic 118, 3) := by decide +kernel
theorem dX2_work_89 : decode cX2_work 89 = .ok (.putfield 110, 3) := by decide +kernel
theorem dX2_work_92 : decode cX2_work 92 = .ok (.aload_n 0, 1) := by decide +kernel
theorem dX2_work_93 : decode cX2_work 93 = .ok (.lload 5, 2) := by decide +kernel
theorem dX2_work_95 : decode cX2_work 95 = .ok (.invokestatic 118, 3) := by decide +kernel
theorem dX2_work_98 : decode cX2_work 98 = .ok (.putfield 113, 3) := by decide +kernel
theorem dX2_work_101 : decode cX2_work 101 = .ok (.aload_n 0, 1) := by decide +kernel
theorem dX2_work_102 : decode cX2_work 102 = .ok (.getfield 113, 3) := by decide +kernel
theorem dX2_work_105 : decode cX2_work 105 = .ok (.aload_n 0, 1) := by decide +kernel
theorem dX2_work_106 : decode cX2_work 106 = .ok (.getfield 110, 3) := by decide +kernel
theorem dX2_work_109 : decode cX2_work 109 = .ok (.isub, 1) := by decide +kernel
theorem dX2_work_110 : decode cX2_work 110 = .ok (.istore 11, 2) := by decide +kernel
theorem dX2_work_112 : decode cX2_work 112 = .ok (.iload 11, 2) := by decide +kernel
theorem dX2_work_114 : decode cX2_work 114 = .ok (.iconst 2, 1) := by decide +kernel
theorem dX2_work_115 : decode cX2_work 115 = .ok (.irem, 1) := by decide +kernel
theorem dX2_work_116 : decode cX2_work 116 = .ok (.ifCond .ne 7, 3) := by decide +kernel
theorem dX2_work_119 : decode cX2_work 119 = .ok (.iconst 2, 1) := by decide +kernel
theorem dX2_work_120 : decode cX2_work 120 = .ok (.goto 4, 3) := by decide +kernel
theorem dX2_work_123 : decode cX2_work 123 = .ok (.iconst 3, 1) := by decide +kernel
theorem dX2_work_124 : decode cX2_work 124 = .ok (.istore 12, 2) := by decide +kernel
theorem dX2_work_126 : decode cX2_work 126 = .ok (.aload_n 0, 1) := by decide +kernel
theorem dX2_work_127 : decode cX2_work 127 = .ok (.iload 11, 2) := by decide +kernel
theorem dX2_work_129 : decode cX2_work 129 = .ok (.iload 12, 2) := by decide +kernel
theorem dX2_work_131 : decode cX2_work 131 = .ok (.iadd, 1) := by decide +kernel
theorem dX2_work_132 : decode cX2_work 132 = .ok (.iconst 2, 1) := by decide +kernel
theorem dX2_work_133 : decode cX2_work 133 = .ok (.idiv, 1) := by decide +kernel
theorem dX2_work_134 : decode cX2_work 134 = .ok (.putfield 107, 3) := by decide +kernel
theorem dX2_work_137 : decode cX2_work 137 = .ok (.lload 5, 2) := by decide +kernel
theorem dX2_work_139 : decode cX2_work 139 = .ok (.aload_n 0, 1) := by decide +kernel
theorem dX2_work_140 : decode cX2_work 140 = .ok (.getfield 113, 3) := by decide +kernel
theorem dX2_work_143 : decode cX2_work 143 = .ok (.lshl, 1) := by decide +kernel
theorem dX2_work_144 : decode cX2_work 144 = .ok (.lstore 13, 2) := by decide +kernel
theorem dX2_work_146 : decode cX2_work 146 = .ok (.aload_n 0, 1) := by decide +kernel
theorem dX2_work_147 : decode cX2_work 147 = .ok (.lload 13, 2) := by decide +kernel
theorem dX2_work_149 : decode cX2_work 149 = .ok (.bipush 27, 2) := by decide +kernel
theorem dX2_work_151 : decode cX2_work 151 = .ok (.lshr, 1) := by decide +kernel
theorem dX2_work_152 : decode cX2_work 152 = .ok (.l2i, 1) := by decide +kernel
theorem dX2_work_153 : decode cX2_work 153 = .ok (.bipush 16, 2) := by decide +kernel
theorem dX2_work_155 : decode cX2_work 155 = .ok (.irem, 1) := by decide +kernel
theorem dX2_work_156 : decode cX2_work 156 = .ok (.putfield 87, 3) := by decide +kernel
theorem dX2_work_159 : decode cX2_work 159 = .ok (.aload_n 0, 1) := by decide +kernel
theorem dX2_work_160 : decode cX2_work 160 = .ok (.getfield 19, 3) := by decide +kernel
theorem dX2_work_163 : decode cX2_work 163 = .ok (.iconst 0, 1) := by decide +kernel
theorem dX2_work_164 : decode cX2_work 164 = .ok (.lload_n 3, 1) := by decide +kernel
theorem dX2_work_165 : decode cX2_work 165 = .ok (.aload_n 0, 1) := by decide +kernel
theorem dX2_work_166 : decode cX2_work 166 = .ok (.getfield 110, 3) := by decide +kernel
theorem dX2_work_169 : decode cX2_work 169 = .ok (.lshl, 1) := by decide +kernel
theorem dX2_work_170 : decode cX2_work 170 = .ok (.ldc2_w 122, 3) := by decide +kernel
theorem dX2_work_173 : decode cX2_work 173 = .ok (.lmul, 1) := by decide +kernel
theorem dX2_work_174 : decode cX2_work 174 = .ok (.iload 12, 2) := by decide +kernel
theorem dX2_work_176 : decode cX2_work 176 = .ok (.lshr, 1) := by decide +kernel
theorem dX2_work_177 : decode cX2_work 177 = .ok (.lastore, 1) := by decide +kernel
theorem dX2_work_178 : decode cX2_work 178 = .ok (.iconst 1, 1) := by decide +kernel
theorem dX2_work_179 : decode cX2_work 179 = .ok (.istore 15, 2) := by decide +kernel
theorem dX2_work_181 : decode cX2_work 181 = .ok (.iload 15, 2) := by decide +kernel
theorem dX2_work_183 : decode cX2_work 183 = .ok (.aload_n 0, 1) := by decide +kernel
theorem dX2_work_184 : decode cX2_work 184 = .ok (.getfield 107, 3) := by decide +kernel
theorem dX2_work_187 : decode cX2_work 187 = .ok (.if_icmp .gt 17, 3) := by decide +kernel
theorem dX2_work_190 : decode cX2_work 190 = .ok (.aload_n 0, 1) := by decide +kernel
theorem dX2_work_191 : decode cX2_work 191 = .ok (.iload 15, 2) := by decide +kernel
theorem dX2_work_193 : decode cX2_work 193 = .ok (.lload 13, 2) := by decide +kernel
theorem dX2_work_195 : decode cX2_work 195 = .ok (.invokevirtual 124, 3) := by decide +kernel
theorem dX2_work_198 : decode cX2_work 198 = .ok (.iinc 15 1, 3) := by decide +kernel
theorem dX2_work_201 : decode cX2_work 201 = .ok (.goto (-20), 3) := by decide +kernel
theorem dX2_work_204 : decode cX2_work 204 = .ok (.aload_n 0, 1) := by decide +kernel
theorem dX2_work_205 : decode cX2_work 205 = .ok (.getfield 19, 3) := by decide +kernel
theorem dX2_work_208 : decode cX2_work 208 = .ok (.aload_n 0, 1) := by decide +kernel
theorem dX2_work_209 : decode cX2_work 209 = .ok (.getfield 107, 3) := by decide +kernel
theorem dX2_work_212 : decode cX2_work 212 = .ok (.laload, 1) := by decide +kernel
theorem dX2_work_213 : decode cX2_work 213 = .ok (.aload_n 0, 1) := by decide +kernel
theorem dX2_work_214 : decode cX2_work 214 = .ok (.getfield 23, 3) := by decide +kernel
theorem dX2_work_217 : decode cX2_work 217 = .ok (.aload_n 0, 1) := by decide +kernel
theorem dX2_work_218 : decode cX2_work 218 = .ok (.getfield 107, 3) := by decide +kernel
theorem dX2_work_221 : decode cX2_work 221 = .ok (.laload, 1) := by decide +kernel
theorem dX2_work_222 : decode cX2_work 222 = .ok (.ladd, 1) := by decide +kernel
theorem dX2_work_223 : decode cX2_work 223 = .ok (.lstore 15, 2) := by decide +kernel
theorem dX2_work_225 : decode cX2_work 225 = .ok (.lload 15, 2) := by decide +kernel
theorem dX2_work_227 : decode cX2_work 227 = .ok (.lconst 0, 1) := by decide +kernel
theorem dX2_work_228 : decode cX2_work 228 = .ok (.lcmp, 1) := by decide +kernel
theorem dX2_work_229 : decode cX2_work 229 = .ok (.ifCond .ge 15, 3) := by decide +kernel
theorem dX2_work_232 : decode cX2_work 232 = .ok (.aload_n 0, 1) := by decide +kernel
theorem dX2_work_233 : decode cX2_work 233 = .ok (.getfield 29, 3) := by decide +kernel
theorem dX2_work_236 : decode cX2_work 236 = .ok (.aload_n 0, 1) := by decide +kernel
theorem dX2_work_237 : decode cX2_work 237 = .ok (.getfield 107, 3) := by decide +kernel
theorem dX2_work_240 : decode cX2_work 240 = .ok (.laload, 1) := by decide +kernel
theorem dX2_work_241 : decode cX2_work 241 = .ok (.goto 12, 3) := by decide +kernel
theorem dX2_work_244 : decode cX2_work 244 = .ok (.aload_n 0, 1) := by decide +kernel
theorem dX2_work_245 : decode cX2_work 245 = .ok (.getfield 26, 3) := by decide +kernel
theorem dX2_work_248 : decode cX2_work 248 = .ok (.aload_n 0, 1) := by decide +kernel
theorem dX2_work_249 : decode cX2_work 249 = .ok (.getfield 107, 3) := by decide +kernel
theorem dX2_work_252 : decode cX2_work 252 = .ok (.laload, 1) := by decide +kernel
theorem dX2_work_253 : decode cX2_work 253 = .ok (.lstore 7, 2) := by decide +kernel
theorem dX2_work_255 : decode cX2_work 255 = .ok (.lload 15, 2) := by decide +kernel
theorem dX2_work_257 : decode cX2_work 257 = .ok (.lconst 0, 1) := by decide +kernel
theorem dX2_work_258 : decode cX2_work 258 = .ok (.lcmp, 1) := by decide +kernel
theorem dX2_work_259 : decode cX2_work 259 = .ok (.ifCond .ge 15, 3) := by decide +kernel
theorem dX2_work_262 : decode cX2_work 262 = .ok (.lload 15, 2) := by decide +kernel
theorem dX2_work_264 : decode cX2_work 264 = .ok (.ldc2_w 122, 3) := by decide +kernel
theorem dX2_work_267 : decode cX2_work 267 = .ok (.lload 13, 2) := by decide +kernel
theorem dX2_work_269 : decode cX2_work 269 = .ok (.lmul, 1) := by decide +kernel
theorem dX2_work_270 : decode cX2_work 270 = .ok (.ladd, 1) := by decide +kernel
theorem dX2_work_271 : decode cX2_work 271 = .ok (.goto 5, 3) := by decide +kernel
theorem dX2_work_274 : decode cX2_work 274 = .ok (.lload 15, 2) := by decide +kernel
theorem dX2_work_276 : decode cX2_work 276 = .ok (.ldc2_w 122, 3) := by decide +kernel
theorem dX2_work_279 : decode cX2_work 279 = .ok (.aload_n 0, 1) := by decide +kernel
theorem dX2_work_280 : decode cX2_work 280 = .ok (.getfield 113, 3) := by decide +kernel
theorem dX2_work_283 : decode cX2_work 283 = .ok (.lshl, 1) := by decide +kernel
theorem dX2_work_284 : decode cX2_work 284 = .ok (.ldiv, 1) := by decide +kernel
theorem dX2_work_285 : decode cX2_work 285 = .ok (.lstore 9, 2) := by decide +kernel
theorem dX2_work_287 : decode cX2_work 287 = .ok (.aload_n 0, 1) := by decide +kernel
theorem dX2_work_288 : decode cX2_work 288 = .ok (.iload_n 1, 1) := by decide +kernel
theorem dX2_work_289 : decode cX2_work 289 = .ok (.ifCond .ge 7, 3) := by decide +kernel
theorem dX2_work_292 : decode cX2_work 292 = .ok (.iconst 1, 1) := by decide +kernel
theorem dX2_work_293 : decode cX2_work 293 = .ok (.goto 4, 3) := by decide +kernel
theorem dX2_work_296 : decode cX2_work 296 = .ok (.iconst 0, 1) := by decide +kernel
theorem dX2_work_297 : decode cX2_work 297 = .ok (.iload_n 2, 1) := by decide +kernel
theorem dX2_work_298 : decode cX2_work 298 = .ok (.ifCond .ge 7, 3) := by decide +kernel
theorem dX2_work_301 : decode cX2_work 301 = .ok (.iconst 1, 1) := by decide +kernel
theorem dX2_work_302 : decode cX2_work 302 = .ok (.goto 4, 3) := by decide +kernel
theorem dX2_work_305 : decode cX2_work 305 = .ok (.iconst 0, 1) := by decide +kernel
theorem dX2_work_306 : decode cX2_work 306 = .ok (.if_icmp .eq 9, 3) := by decide +kernel
theorem dX2_work_309 : decode cX2_work 309 = .ok (.lload 7, 2) := by decide +kernel
theorem dX2_work_311 : decode cX2_work 311 = .ok (.lneg, 1) := by decide +kernel
theorem dX2_work_312 : decode cX2_work 312 = .ok (.goto 5, 3) := by decide +kernel
theorem dX2_work_315 : decode cX2_work 315 = .ok (.lload 7, 2) := by decide +kernel
theorem dX2_work_317 : decode cX2_work 317 = .ok (.l2i, 1) := by decide +kernel
theorem dX2_work_318 : decode cX2_work 318 = .ok (.putfield 128, 3) := by decide +kernel
theorem dX2_work_321 : decode cX2_work 321 = .ok (.aload_n 0, 1) := by decide +kernel
theorem dX2_work_322 : decode cX2_work 322 = .ok (.iload_n 1, 1) := by decide +kernel
theorem dX2_work_323 : decode cX2_work 323 = .ok (.ifCond .ge 9, 3) := by decide +kernel
theorem dX2_work_326 : decode cX2_work 326 = .ok (.lload 9, 2) := by decide +kernel
theorem dX2_work_328 : decode cX2_work 328 = .ok (.lneg, 1) := by decide +kernel
theorem dX2_work_329 : decode cX2_work 329 = .ok (.goto 5, 3) := by decide +kernel
theorem dX2_work_332 : decode cX2_work 332 = .ok (.lload 9, 2) := by decide +kernel
theorem dX2_work_334 : decode cX2_work 334 = .ok (.l2i, 1) := by decide +kernel
theorem dX2_work_335 : decode cX2_work 335 = .ok (.putfield 131, 3) := by decide +kernel
theorem dX2_work_338 : decode cX2_work 338 = .ok (.return_, 1) := by decide +kernel
set_option maxRecDepth 20000 in
theorem ggX2_use_X2_isTable : GoodIn wsX2_use wsX2_isTable := goodIn_r _ [5, 6, 7, 4, 8] (by decide +kernel) (by decide +kernel)
set_option maxRecDepth 20000 in
theorem gX2_use_X2_isTable : GoodIn wsX2_use (va_wsS RX2 59 yX2_isTable wsX2_isTable) := goodIn_app (goodIn_of _ (by decide +kernel)) ggX2_use_X2_isTable
theorem dX2_use_0 : decode cX2_use 0 = .ok (.iload_n 1, 1) := by decide +kernel
theorem dX2_use_1 : decode cX2_use 1 = .ok (.invokestatic 59, 3) := by decide +kernel
theorem dX2_use_4 : decode cX2_use 4 = .ok (.ifCond .ne 5, 3) := by decide +kernel
theorem dX2_use_7 : decode cX2_use 7 = .ok (.iconst (-1), 1) := by decide +kernel
theorem dX2_use_8 : decode cX2_use 8 = .ok (.ireturn, 1) := by decide +kernel
theorem dX2_use_9 : decode cX2_use 9 = .ok (.aload_n 0, 1) := by decide +kernel
theorem dX2_use_10 : decode cX2_use 10 = .ok (.getfield 83, 3) := by decide +kernel
theorem dX2_use_13 : decode cX2_use 13 = .ok (.istore_n 2, 1) := by decide +kernel
theorem dX2_use_14 : decode cX2_use 14 = .ok (.aload_n 0, 1) := by decide +kernel
theorem dX2_use_15 : decode cX2_use 15 = .ok (.iload_n 1, 1) := by decide +kernel
theorem dX2_use_16 : decode cX2_use 16 = .ok (.putfield 83, 3) := by decide +kernel
theorem dX2_use_19 : decode cX2_use 19 = .ok (.iload_n 2, 1) := by decide +kernel
theorem dX2_use_20 : decode cX2_use 20 = .ok (.ireturn, 1) := by decide +kernel
set_option maxRecDepth 20000 in
theorem ggX2_divide_X2_work : GoodIn wsX2_divide wsX2_work := goodIn_r _ [6, 7, 1, 8, 9, 10, 11, 12, 13, 14, 15, 16, 17, 18, 19, 20, 21, 5, 22, 23, 24, 25, 26, 27, 28, 29, 30, 31, 32, 33, 34, 35, 36, 37, 38, 39, 40, 41, 42, 43, 44, 45, 46, 47, 48, 49, 50, 51, 52, 53, 54, 55, 56, 57, 58, 59, 60] (by decide +kernel) (by decide +kernel)
set_option maxRecDepth 20000 in
theorem gX2_divide_X2_work : GoodIn wsX2_divide (wsV RX2 134 RX2 yX2_work wsX2_work) := goodIn_app (goodIn_of _ (by decide +kernel)) ggX2_divide_X2_work
theorem dX2_divide_0 : decode cX2_divide 0 = .ok (.iload_n 2, 1) := by decide +kernel
theorem dX2_divide_1 : decode cX2_divide 1 = .ok (.ifCond .ne 5, 3) := by decide +kernel
theorem dX2_divide_4 : decode cX2_divide 4 = .ok (.iconst (-1), 1) := by decide +kernel
theorem dX2_divide_5 : decode cX2_divide 5 = .ok (.ireturn, 1) := by decide +kernel
theorem dX2_divide_6 : decode cX2_divide 6 = .ok (.aload_n 0, 1) := by decide +kernel
theorem dX2_divide_7 : decode cX2_divide 7 = .ok (.iload_n 1, 1) := by decide +kernel
theorem dX2_divide_8 : decode cX2_divide 8 = .ok (.iload_n 2, 1) := by decide +kernel
theorem dX2_divide_9 : decode cX2_divide 9 = .ok (.invokevirtual 134, 3) := by decide +kernel
theorem dX2_divide_12 : decode cX2_divide 12 = .ok (.aload_n 0, 1) := by decide +kernel
theorem dX2_divide_13 : decode cX2_divide 13 = .ok (.getfield 107, 3) := by decide +kernel
theorem dX2_divide_16 : decode cX2_divide 16 = .ok (.ireturn, 1) := by decide +kernel
theorem dX2_quotient_0 : decode cX2_quotient 0 = .ok (.aload_n 0, 1) := by decide +kernel
theorem dX2_quotient_1 : decode cX2_quotient 1 = .ok (.getfield 128, 3) := by decide +kernel
theorem dX2_quotient_4 : decode cX2_quotient 4 = .ok (.ireturn, 1) := by decide +kernel
theorem dX2_rest_0 : decode cX2_rest 0 = .ok (.aload_n 0, 1) := by decide +kernel
theorem dX2_rest_1 : decode cX2_rest 1 = .ok (.getfield 131, 3) := by decide +kernel
theorem dX2_rest_4 : decode cX2_rest 4 = .ok (.ireturn, 1) := by decide +kernel
theorem dX2_left_0 : decode cX2_left 0 = .ok (.aload_n 0, 1) := by decide +kernel
theorem dX2_left_1 : decode cX2_left 1 = .ok (.getfield 96, 3) := by decide +kernel
theorem dX2_left_4 : decode cX2_left 4 = .ok (.ireturn, 1) := by decide +kernel
set_option maxRecDepth 20000 in
theorem ggX2_step_X2_in : GoodIn wsX2_step wsX2_in := goodIn_r _ [7] (by decide +kernel) (by decide +kernel)
set_option maxRecDepth 20000 in
theorem gX2_step_X2_in : GoodIn wsX2_step (va_wsS RX2 56 yX2_in wsX2_in) := goodIn_app (goodIn_of _ (by decide +kernel)) ggX2_step_X2_in
theorem dX2_step_0 : decode cX2_step 0 = .ok (.iload_n 1, 1) := by decide +kernel
theorem dX2_step_1 : decode cX2_step 1 = .ok (.iconst 1, 1) := by decide +kernel
theorem dX2_step_2 : decode cX2_step 2 = .ok (.aload_n 0, 1) := by decide +kernel
theorem dX2_step_3 : decode cX2_step 3 = .ok (.getfield 107, 3) := by decide +kernel
theorem dX2_step_6 : decode cX2_step 6 = .ok (.invokestatic 56, 3) := by decide +kernel
theorem dX2_step_9 : decode cX2_step 9 = .ok (.ifCond .eq 34, 3) := by decide +kernel
theorem dX2_step_12 : decode cX2_step 12 = .ok (.iload_n 2, 1) := by decide +kernel
theorem dX2_step_13 : decode cX2_step 13 = .ok (.iconst 0, 1) := by decide +kernel
theorem dX2_step_14 : decode cX2_step 14 = .ok (.iconst 1, 1) := by decide +kernel
theorem dX2_step_15 : decode cX2_step 15 = .ok (.invokestatic 56, 3) := by decide +kernel
theorem dX2_step_18 : decode cX2_step 18 = .ok (.ifCond .eq 25, 3) := by decide +kernel
theorem dX2_step_21 : decode cX2_step 21 = .ok (.iload_n 2, 1) := by decide +kernel
theorem dX2_step_22 : decode cX2_step 22 = .ok (.ifCond .ne 12, 3) := by decide +kernel
theorem dX2_step_25 : decode cX2_step 25 = .ok (.aload_n 0, 1) := by decide +kernel
theorem dX2_step_26 : decode cX2_step 26 = .ok (.getfield 13, 3) := by decide +kernel
theorem dX2_step_29 : decode cX2_step 29 = .ok (.iload_n 1, 1) := by decide +kernel
theorem dX2_step_30 : decode cX2_step 30 = .ok (.iaload, 1) := by decide +kernel
theorem dX2_step_31 : decode cX2_step 31 = .ok (.goto 14, 3) := by decide +kernel
theorem dX2_step_34 : decode cX2_step 34 = .ok (.aload_n 0, 1) := by decide +kernel
theorem dX2_step_35 : decode cX2_step 35 = .ok (.getfield 16, 3) := by decide +kernel
theorem dX2_step_38 : decode cX2_step 38 = .ok (.iload_n 1, 1) := by decide +kernel
theorem dX2_step_39 : decode cX2_step 39 = .ok (.iaload, 1) := by decide +kernel
theorem dX2_step_40 : decode cX2_step 40 = .ok (.goto 5, 3) := by decide +kernel
theorem dX2_step_43 : decode cX2_step 43 = .ok (.bipush (-101), 2) := by decide +kernel
theorem dX2_step_45 : decode cX2_step 45 = .ok (.ireturn, 1) := by decide +kernel
set_option maxRecDepth 20000 in
theorem ggX2_state_X2_in : GoodIn wsX2_state wsX2_in := goodIn_r _ [10] (by decide +kernel) (by decide +kernel)
set_option maxRecDepth 20000 in
theorem gX2_state_X2_in : GoodIn wsX2_state (va_wsS RX2 56 yX2_in wsX2_in) := goodIn_app (goodIn_of _ (by decide +kernel)) ggX2_state_X2_in
theorem dX2_state_0 : decode cX2_state 0 = .ok (.aload_n 0, 1) := by decide +kernel
theorem dX2_state_1 : decode cX2_state 1 = .ok (.getfield 103, 3) := by decide +kernel
theorem dX2_state_4 : decode cX2_state 4 = .ok (.ifCond .eq 15, 3) := by decide +kernel
theorem dX2_state_7 : decode cX2_state 7 = .ok (.iload_n 1, 1) := by decide +kernel
theorem dX2_state_8 : decode cX2_state 8 = .ok (.iconst 0, 1) := by decide +kernel
theorem dX2_state_9 : decode cX2_state 9 = .ok (.aload_n 0, 1) := by decide +kernel
theorem dX2_state_10 : decode cX2_state 10 = .ok (.getfield 107, 3) := by decide +kernel
theorem dX2_state_13 : decode cX2_state 13 = .ok (.invokestatic 56, 3) := by decide +kernel
theorem dX2_state_16 : decode cX2_state 16 = .ok (.ifCond .ne 5, 3) := by decide +kernel
theorem dX2_state_19 : decode cX2_state 19 = .ok (.lconst 0, 1) := by decide +kernel
theorem dX2_state_20 : decode cX2_state 20 = .ok (.lreturn, 1) := by decide +kernel
theorem dX2_state_21 : decode cX2_state 21 = .ok (.iload_n 2, 1) := by decide +kernel
theorem dX2_state_22 : decode cX2_state 22 = .ok (.ifCond .ne 12, 3) := by decide +kernel
theorem dX2_state_25 : decode cX2_state 25 = .ok (.aload_n 0, 1) := by decide +kernel
theorem dX2_state_26 : decode cX2_state 26 = .ok (.getfield 19, 3) := by decide +kernel
theorem dX2_state_29 : decode cX2_state 29 = .ok (.iload_n 1, 1) := by decide +kernel
theorem dX2_state_30 : decode cX2_state 30 = .ok (.laload, 1) := by decide +kernel
theorem dX2_state_31 : decode cX2_state 31 = .ok (.goto 46, 3) := by decide +kernel
theorem dX2_state_34 : decode cX2_state 34 = .ok (.iload_n 2, 1) := by decide +kernel
theorem dX2_state_35 : decode cX2_state 35 = .ok (.iconst 1, 1) := by decide +kernel
theorem dX2_state_36 : decode cX2_state 36 = .ok (.if_icmp .ne 12, 3) := by decide +kernel
theorem dX2_state_39 : decode cX2_state 39 = .ok (.aload_n 0, 1) := by decide +kernel
theorem dX2_state_40 : decode cX2_state 40 = .ok (.getfield 23, 3) := by decide +kernel
theorem dX2_state_43 : decode cX2_state 43 = .ok (.iload_n 1, 1) := by decide +kernel
theorem dX2_state_44 : decode cX2_state 44 = .ok (.laload, 1) := by decide +kernel
theorem dX2_state_45 : decode cX2_state 45 = .ok (.goto 32, 3) := by decide +kernel
theorem dX2_state_48 : decode cX2_state 48 = .ok (.iload_n 2, 1) := by decide +kernel
theorem dX2_state_49 : decode cX2_state 49 = .ok (.iconst 2, 1) := by decide +kernel
theorem dX2_state_50 : decode cX2_state 50 = .ok (.if_icmp .ne 12, 3) := by decide +kernel
theorem dX2_state_53 : decode cX2_state 53 = .ok (.aload_n 0, 1) := by decide +kernel
theorem dX2_state_54 : decode cX2_state 54 = .ok (.getfield 26, 3) := by decide +kernel
theorem dX2_state_57 : decode cX2_state 57 = .ok (.iload_n 1, 1) := by decide +kernel
theorem dX2_state_58 : decode cX2_state 58 = .ok (.laload, 1) := by decide +kernel
theorem dX2_state_59 : decode cX2_state 59 = .ok (.goto 18, 3) := by decide +kernel
theorem dX2_state_62 : decode cX2_state 62 = .ok (.iload_n 2, 1) := by decide +kernel
theorem dX2_state_63 : decode cX2_state 63 = .ok (.iconst 3, 1) := by decide +kernel
theorem dX2_state_64 : decode cX2_state 64 = .ok (.if_icmp .ne 12, 3) := by decide +kernel
theorem dX2_state_67 : decode cX2_state 67 = .ok (.aload_n 0, 1) := by decide +kernel
theorem dX2_state_68 : decode cX2_state 68 = .ok (.getfield 29, 3) := by decide +kernel
theorem dX2_state_71 : decode cX2_state 71 = .ok (.iload_n 1, 1) := by decide +kernel
theorem dX2_state_72 : decode cX2_state 72 = .ok (.laload, 1) := by decide +kernel
theorem dX2_state_73 : decode cX2_state 73 = .ok (.goto 4, 3) := by decide +kernel
theorem dX2_state_76 : decode cX2_state 76 = .ok (.lconst 0, 1) := by decide +kernel
theorem dX2_state_77 : decode cX2_state 77 = .ok (.lreturn, 1) := by decide +kernel
theorem dX2_told_0 : decode cX2_told 0 = .ok (.iconst 0, 1) := by decide +kernel
theorem dX2_told_1 : decode cX2_told 1 = .ok (.istore_n 2, 1) := by decide +kernel
theorem dX2_told_2 : decode cX2_told 2 = .ok (.iconst 1, 1) := by decide +kernel
theorem dX2_told_3 : decode cX2_told 3 = .ok (.istore_n 3, 1) := by decide +kernel
theorem dX2_told_4 : decode cX2_told 4 = .ok (.iload_n 3, 1) := by decide +kernel
theorem dX2_told_5 : decode cX2_told 5 = .ok (.aload_n 0, 1) := by decide +kernel
theorem dX2_told_6 : decode cX2_told 6 = .ok (.getfield 107, 3) := by decide +kernel
theorem dX2_told_9 : decode cX2_told 9 = .ok (.if_icmp .gt 26, 3) := by decide +kernel
theorem dX2_told_12 : decode cX2_told 12 = .ok (.iload_n 2, 1) := by decide +kernel
theorem dX2_told_13 : decode cX2_told 13 = .ok (.aload_n 0, 1) := by decide +kernel
theorem dX2_told_14 : decode cX2_told 14 = .ok (.getfield 13, 3) := by decide +kernel
theorem dX2_told_17 : decode cX2_told 17 = .ok (.iload_n 3, 1) := by decide +kernel
theorem dX2_told_18 : decode cX2_told 18 = .ok (.iaload, 1) := by decide +kernel
theorem dX2_told_19 : decode cX2_told 19 = .ok (.ifCond .ne 7, 3) := by decide +kernel
theorem dX2_told_22 : decode cX2_told 22 = .ok (.iconst 0, 1) := by decide +kernel
theorem dX2_told_23 : decode cX2_told 23 = .ok (.goto 4, 3) := by decide +kernel
theorem dX2_told_26 : decode cX2_told 26 = .ok (.iconst 1, 1) := by decide +kernel
theorem dX2_told_27 : decode cX2_told 27 = .ok (.iadd, 1) := by decide +kernel
theorem dX2_told_28 : decode cX2_told 28 = .ok (.istore_n 2, 1) := by decide +kernel
theorem dX2_told_29 : decode cX2_told 29 = .ok (.iinc 3 1, 3) := by decide +kernel
theorem dX2_told_32 : decode cX2_told 32 = .ok (.goto (-28), 3) := by decide +kernel
theorem dX2_told_35 : decode cX2_told 35 = .ok (.iload_n 1, 1) := by decide +kernel
theorem dX2_told_36 : decode cX2_told 36 = .ok (.ifCond .ne 10, 3) := by decide +kernel
theorem dX2_told_39 : decode cX2_told 39 = .ok (.aload_n 0, 1) := by decide +kernel
theorem dX2_told_40 : decode cX2_told 40 = .ok (.getfield 87, 3) := by decide +kernel
theorem dX2_told_43 : decode cX2_told 43 = .ok (.goto 49, 3) := by decide +kernel
theorem dX2_told_46 : decode cX2_told 46 = .ok (.iload_n 1, 1) := by decide +kernel
theorem dX2_told_47 : decode cX2_told 47 = .ok (.iconst 1, 1) := by decide +kernel
theorem dX2_told_48 : decode cX2_told 48 = .ok (.if_icmp .ne 10, 3) := by decide +kernel
theorem dX2_told_51 : decode cX2_told 51 = .ok (.aload_n 0, 1) := by decide +kernel
theorem dX2_told_52 : decode cX2_told 52 = .ok (.getfield 110, 3) := by decide +kernel
theorem dX2_told_55 : decode cX2_told 55 = .ok (.goto 37, 3) := by decide +kernel
theorem dX2_told_58 : decode cX2_told 58 = .ok (.iload_n 1, 1) := by decide +kernel
theorem dX2_told_59 : decode cX2_told 59 = .ok (.iconst 2, 1) := by decide +kernel
theorem dX2_told_60 : decode cX2_told 60 = .ok (.if_icmp .ne 10, 3) := by decide +kernel
theorem dX2_told_63 : decode cX2_told 63 = .ok (.aload_n 0, 1) := by decide +kernel
theorem dX2_told_64 : decode cX2_told 64 = .ok (.getfield 113, 3) := by decide +kernel
theorem dX2_told_67 : decode cX2_told 67 = .ok (.goto 25, 3) := by decide +kernel
theorem dX2_told_70 : decode cX2_told 70 = .ok (.iload_n 1, 1) := by decide +kernel
theorem dX2_told_71 : decode cX2_told 71 = .ok (.iconst 3, 1) := by decide +kernel
theorem dX2_told_72 : decode cX2_told 72 = .ok (.if_icmp .ne 10, 3) := by decide +kernel
theorem dX2_told_75 : decode cX2_told 75 = .ok (.aload_n 0, 1) := by decide +kernel
theorem dX2_told_76 : decode cX2_told 76 = .ok (.getfield 107, 3) := by decide +kernel
theorem dX2_told_79 : decode cX2_told 79 = .ok (.goto 13, 3) := by decide +kernel
theorem dX2_told_82 : decode cX2_told 82 = .ok (.iload_n 1, 1) := by decide +kernel
theorem dX2_told_83 : decode cX2_told 83 = .ok (.iconst 4, 1) := by decide +kernel
theorem dX2_told_84 : decode cX2_told 84 = .ok (.if_icmp .ne 7, 3) := by decide +kernel
theorem dX2_told_87 : decode cX2_told 87 = .ok (.iload_n 2, 1) := by decide +kernel
theorem dX2_told_88 : decode cX2_told 88 = .ok (.goto 4, 3) := by decide +kernel
theorem dX2_told_91 : decode cX2_told 91 = .ok (.iconst (-1), 1) := by decide +kernel
theorem dX2_told_92 : decode cX2_told 92 = .ok (.ireturn, 1) := by decide +kernel
theorem dX2_keep_0 : decode cX2_keep 0 = .ok (.iconst 0, 1) := by decide +kernel
theorem dX2_keep_1 : decode cX2_keep 1 = .ok (.istore_n 1, 1) := by decide +kernel
theorem dX2_keep_2 : decode cX2_keep 2 = .ok (.iload_n 1, 1) := by decide +kernel
theorem dX2_keep_3 : decode cX2_keep 3 = .ok (.bipush 20, 2) := by decide +kernel
theorem dX2_keep_5 : decode cX2_keep 5 = .ok (.if_icmp .ge 93, 3) := by decide +kernel
theorem dX2_keep_8 : decode cX2_keep 8 = .ok (.aload_n 0, 1) := by decide +kernel
theorem dX2_keep_9 : decode cX2_keep 9 = .ok (.getfield 32, 3) := by decide +kernel
theorem dX2_keep_12 : decode cX2_keep 12 = .ok (.iload_n 1, 1) := by decide +kernel
theorem dX2_keep_13 : decode cX2_keep 13 = .ok (.aload_n 0, 1) := by decide +kernel
theorem dX2_keep_14 : decode cX2_keep 14 = .ok (.getfield 13, 3) := by decide +kernel
theorem dX2_keep_17 : decode cX2_keep 17 = .ok (.iload_n 1, 1) := by decide +kernel
theorem dX2_keep_18 : decode cX2_keep 18 = .ok (.iaload, 1) := by decide +kernel
theorem dX2_keep_19 : decode cX2_keep 19 = .ok (.iastore, 1) := by decide +kernel
theorem dX2_keep_20 : decode cX2_keep 20 = .ok (.aload_n 0, 1) := by decide +kernel
theorem dX2_keep_21 : decode cX2_keep 21 = .ok (.getfield 32, 3) := by decide +kernel
theorem dX2_keep_24 : decode cX2_keep 24 = .ok (.bipush 20, 2) := by decide +kernel
theorem dX2_keep_26 : decode cX2_keep 26 = .ok (.iload_n 1, 1) := by decide +kernel
theorem dX2_keep_27 : decode cX2_keep 27 = .ok (.iadd, 1) := by decide +kernel
theorem dX2_keep_28 : decode cX2_keep 28 = .ok (.aload_n 0, 1) := by decide +kernel
theorem dX2_keep_29 : decode cX2_keep 29 = .ok (.getfield 16, 3) := by decide +kernel
theorem dX2_keep_32 : decode cX2_keep 32 = .ok (.iload_n 1, 1) := by decide +kernel
theorem dX2_keep_33 : decode cX2_keep 33 = .ok (.iaload, 1) := by decide +kernel
theorem dX2_keep_34 : decode cX2_keep 34 = .ok (.iastore, 1) := by decide +kernel
theorem dX2_keep_35 : decode cX2_keep 35 = .ok (.aload_n 0, 1) := by decide +kernel
theorem dX2_keep_36 : decode cX2_keep 36 = .ok (.getfield 35, 3) := by decide +kernel
theorem dX2_keep_39 : decode cX2_keep 39 = .ok (.iload_n 1, 1) := by decide +kernel
theorem dX2_keep_40 : decode cX2_keep 40 = .ok (.aload_n 0, 1) := by decide +kernel
theorem dX2_keep_41 : decode cX2_keep 41 = .ok (.getfield 19, 3) := by decide +kernel
theorem dX2_keep_44 : decode cX2_keep 44 = .ok (.iload_n 1, 1) := by decide +kernel
theorem dX2_keep_45 : decode cX2_keep 45 = .ok (.laload, 1) := by decide +kernel
theorem dX2_keep_46 : decode cX2_keep 46 = .ok (.lastore, 1) := by decide +kernel
theorem dX2_keep_47 : decode cX2_keep 47 = .ok (.aload_n 0, 1) := by decide +kernel
theorem dX2_keep_48 : decode cX2_keep 48 = .ok (.getfield 35, 3) := by decide +kernel
theorem dX2_keep_51 : decode cX2_keep 51 = .ok (.bipush 20, 2) := by decide +kernel
theorem dX2_keep_53 : decode cX2_keep 53 = .ok (.iload_n 1, 1) := by decide +kernel
theorem dX2_keep_54 : decode cX2_keep 54 = .ok (.iadd, 1) := by decide +kernel
theorem dX2_keep_55 : decode cX2_keep 55 = .ok (.aload_n 0, 1) := by decide +kernel
theorem dX2_keep_56 : decode cX2_keep 56 = .ok (.getfield 23, 3) := by decide +kernel
theorem dX2_keep_59 : decode cX2_keep 59 = .ok (.iload_n 1, 1) := by decide +kernel
theorem dX2_keep_60 : decode cX2_keep 60 = .ok (.laload, 1) := by decide +kernel
theorem dX2_keep_61 : decode cX2_keep 61 = .ok (.lastore, 1) := by decide +kernel
theorem dX2_keep_62 : decode cX2_keep 62 = .ok (.aload_n 0, 1) := by decide +kernel
theorem dX2_keep_63 : decode cX2_keep 63 = .ok (.getfield 35, 3) := by decide +kernel
theorem dX2_keep_66 : decode cX2_keep 66 = .ok (.bipush 40, 2) := by decide +kernel
theorem dX2_keep_68 : decode cX2_keep 68 = .ok (.iload_n 1, 1) := by decide +kernel
theorem dX2_keep_69 : decode cX2_keep 69 = .ok (.iadd, 1) := by decide +kernel
theorem dX2_keep_70 : decode cX2_keep 70 = .ok (.aload_n 0, 1) := by decide +kernel
theorem dX2_keep_71 : decode cX2_keep 71 = .ok (.getfield 26, 3) := by decide +kernel
theorem dX2_keep_74 : decode cX2_keep 74 = .ok (.iload_n 1, 1) := by decide +kernel
theorem dX2_keep_75 : decode cX2_keep 75 = .ok (.laload, 1) := by decide +kernel
theorem dX2_keep_76 : decode cX2_keep 76 = .ok (.lastore, 1) := by decide +kernel
theorem dX2_keep_77 : decode cX2_keep 77 = .ok (.aload_n 0, 1) := by decide +kernel
theorem dX2_keep_78 : decode cX2_keep 78 = .ok (.getfield 35, 3) := by decide +kernel
theorem dX2_keep_81 : decode cX2_keep 81 = .ok (.bipush 60, 2) := by decide +kernel
theorem dX2_keep_83 : decode cX2_keep 83 = .ok (.iload_n 1, 1) := by decide +kernel
theorem dX2_keep_84 : decode cX2_keep 84 = .ok (.iadd, 1) := by decide +kernel
theorem dX2_keep_85 : decode cX2_keep 85 = .ok (.aload_n 0, 1) := by decide +kernel
theorem dX2_keep_86 : decode cX2_keep 86 = .ok (.getfield 29, 3) := by decide +kernel
theorem dX2_keep_89 : decode cX2_keep 89 = .ok (.iload_n 1, 1) := by decide +kernel
theorem dX2_keep_90 : decode cX2_keep 90 = .ok (.laload, 1) := by decide +kernel
theorem dX2_keep_91 : decode cX2_keep 91 = .ok (.lastore, 1) := by decide +kernel
theorem dX2_keep_92 : decode cX2_keep 92 = .ok (.iinc 1 1, 3) := by decide +kernel
theorem dX2_keep_95 : decode cX2_keep 95 = .ok (.goto (-93), 3) := by decide +kernel
theorem dX2_keep_98 : decode cX2_keep 98 = .ok (.aload_n 0, 1) := by decide +kernel
theorem dX2_keep_99 : decode cX2_keep 99 = .ok (.getfield 32, 3) := by decide +kernel
theorem dX2_keep_102 : decode cX2_keep 102 = .ok (.bipush 40, 2) := by decide +kernel
theorem dX2_keep_104 : decode cX2_keep 104 = .ok (.aload_n 0, 1) := by decide +kernel
theorem dX2_keep_105 : decode cX2_keep 105 = .ok (.getfield 107, 3) := by decide +kernel
theorem dX2_keep_108 : decode cX2_keep 108 = .ok (.iastore, 1) := by decide +kernel
theorem dX2_keep_109 : decode cX2_keep 109 = .ok (.aload_n 0, 1) := by decide +kernel
theorem dX2_keep_110 : decode cX2_keep 110 = .ok (.getfield 32, 3) := by decide +kernel
theorem dX2_keep_113 : decode cX2_keep 113 = .ok (.bipush 41, 2) := by decide +kernel
theorem dX2_keep_115 : decode cX2_keep 115 = .ok (.aload_n 0, 1) := by decide +kernel
theorem dX2_keep_116 : decode cX2_keep 116 = .ok (.getfield 87, 3) := by decide +kernel
theorem dX2_keep_119 : decode cX2_keep 119 = .ok (.iastore, 1) := by decide +kernel
theorem dX2_keep_120 : decode cX2_keep 120 = .ok (.aload_n 0, 1) := by decide +kernel
theorem dX2_keep_121 : decode cX2_keep 121 = .ok (.getfield 32, 3) := by decide +kernel
theorem dX2_keep_124 : decode cX2_keep 124 = .ok (.bipush 42, 2) := by decide +kernel
theorem dX2_keep_126 : decode cX2_keep 126 = .ok (.aload_n 0, 1) := by decide +kernel
theorem dX2_keep_127 : decode cX2_keep 127 = .ok (.getfield 110, 3) := by decide +kernel
theorem dX2_keep_130 : decode cX2_keep 130 = .ok (.iastore, 1) := by decide +kernel
theorem dX2_keep_131 : decode cX2_keep 131 = .ok (.aload_n 0, 1) := by decide +kernel
theorem dX2_keep_132 : decode cX2_keep 132 = .ok (.getfield 32, 3) := by decide +kernel
theorem dX2_keep_135 : decode cX2_keep 135 = .ok (.bipush 43, 2) := by decide +kernel
theorem dX2_keep_137 : decode cX2_keep 137 = .ok (.aload_n 0, 1) := by decide +kernel
theorem dX2_keep_138 : decode cX2_keep 138 = .ok (.getfield 113, 3) := by decide +kernel
theorem dX2_keep_141 : decode cX2_keep 141 = .ok (.iastore, 1) := by decide +kernel
theorem dX2_keep_142 : decode cX2_keep 142 = .ok (.aload_n 0, 1) := by decide +kernel
theorem dX2_keep_143 : decode cX2_keep 143 = .ok (.getfield 32, 3) := by decide +kernel
theorem dX2_keep_146 : decode cX2_keep 146 = .ok (.bipush 44, 2) := by decide +kernel
theorem dX2_keep_148 : decode cX2_keep 148 = .ok (.aload_n 0, 1) := by decide +kernel
theorem dX2_keep_149 : decode cX2_keep 149 = .ok (.getfield 96, 3) := by decide +kernel
theorem dX2_keep_152 : decode cX2_keep 152 = .ok (.iastore, 1) := by decide +kernel
theorem dX2_keep_153 : decode cX2_keep 153 = .ok (.aload_n 0, 1) := by decide +kernel
theorem dX2_keep_154 : decode cX2_keep 154 = .ok (.getfield 32, 3) := by decide +kernel
theorem dX2_keep_157 : decode cX2_keep 157 = .ok (.bipush 45, 2) := by decide +kernel
theorem dX2_keep_159 : decode cX2_keep 159 = .ok (.aload_n 0, 1) := by decide +kernel
theorem dX2_keep_160 : decode cX2_keep 160 = .ok (.getfield 128, 3) := by decide +kernel
theorem dX2_keep_163 : decode cX2_keep 163 = .ok (.iastore, 1) := by decide +kernel
theorem dX2_keep_164 : decode cX2_keep 164 = .ok (.aload_n 0, 1) := by decide +kernel
theorem dX2_keep_165 : decode cX2_keep 165 = .ok (.getfield 32, 3) := by decide +kernel
theorem dX2_keep_168 : decode cX2_keep 168 = .ok (.bipush 46, 2) := by decide +kernel
theorem dX2_keep_170 : decode cX2_keep 170 = .ok (.aload_n 0, 1) := by decide +kernel
theorem dX2_keep_171 : decode cX2_keep 171 = .ok (.getfield 131, 3) := by decide +kernel
theorem dX2_keep_174 : decode cX2_keep 174 = .ok (.iastore, 1) := by decide +kernel
theorem dX2_keep_175 : decode cX2_keep 175 = .ok (.aload_n 0, 1) := by decide +kernel
theorem dX2_keep_176 : decode cX2_keep 176 = .ok (.getfield 32, 3) := by decide +kernel
theorem dX2_keep_179 : decode cX2_keep 179 = .ok (.bipush 47, 2) := by decide +kernel
theorem dX2_keep_181 : decode cX2_keep 181 = .ok (.aload_n 0, 1) := by decide +kernel
theorem dX2_keep_182 : decode cX2_keep 182 = .ok (.getfield 103, 3) := by decide +kernel
theorem dX2_keep_185 : decode cX2_keep 185 = .ok (.ifCond .eq 7, 3) := by decide +kernel
theorem dX2_keep_188 : decode cX2_keep 188 = .ok (.iconst 1, 1) := by decide +kernel
theorem dX2_keep_189 : decode cX2_keep 189 = .ok (.goto 4, 3) := by decide +kernel
theorem dX2_keep_192 : decode cX2_keep 192 = .ok (.iconst 0, 1) := by decide +kernel
theorem dX2_keep_193 : decode cX2_keep 193 = .ok (.iastore, 1) := by decide +kernel
theorem dX2_keep_194 : decode cX2_keep 194 = .ok (.return_, 1) := by decide +kernel
theorem dX2_back_0 : decode cX2_back 0 = .ok (.iconst 0, 1) := by decide +kernel
theorem dX2_back_1 : decode cX2_back 1 = .ok (.istore_n 1, 1) := by decide +kernel
theorem dX2_back_2 : decode cX2_back 2 = .ok (.iload_n 1, 1) := by decide +kernel
theorem dX2_back_3 : decode cX2_back 3 = .ok (.bipush 20, 2) := by decide +kernel
theorem dX2_back_5 : decode cX2_back 5 = .ok (.if_icmp .ge 93, 3) := by decide +kernel
theorem dX2_back_8 : decode cX2_back 8 = .ok (.aload_n 0, 1) := by decide +kernel
theorem dX2_back_9 : decode cX2_back 9 = .ok (.getfield 13, 3) := by decide +kernel
theorem dX2_back_12 : decode cX2_back 12 = .ok (.iload_n 1, 1) := by decide +kernel
theorem dX2_back_13 : decode cX2_back 13 = .ok (.aload_n 0, 1) := by decide +kernel
theorem dX2_back_14 : decode cX2_back 14 = .ok (.getfield 32, 3) := by decide +kernel
theorem dX2_back_17 : decode cX2_back 17 = .ok (.iload_n 1, 1) := by decide +kernel
theorem dX2_back_18 : decode cX2_back 18 = .ok (.iaload, 1) := by decide +kernel
theorem dX2_back_19 : decode cX2_back 19 = .ok (.iastore, 1) := by decide +kernel
theorem dX2_back_20 : decode cX2_back 20 = .ok (.aload_n 0, 1) := by decide +kernel
theorem dX2_back_21 : decode cX2_back 21 = .ok (.getfield 16, 3) := by decide +kernel
theorem dX2_back_24 : decode cX2_back 24 = .ok (.iload_n 1, 1) := by decide +kernel
theorem dX2_back_25 : decode cX2_back 25 = .ok (.aload_n 0, 1) := by decide +kernel
theorem dX2_back_26 : decode cX2_back 26 = .ok (.getfield 32, 3) := by decide +kernel
theorem dX2_back_29 : decode cX2_back 29 = .ok (.bipush 20, 2) := by decide +kernel
theorem dX2_back_31 : decode cX2_back 31 = .ok (.iload_n 1, 1) := by decide +kernel
theorem dX2_back_32 : decode cX2_back 32 = .ok (.iadd, 1) := by decide +kernel
theorem dX2_back_33 : decode cX2_back 33 = .ok (.iaload, 1) := by decide +kernel
theorem dX2_back_34 : decode cX2_back 34 = .ok (.iastore, 1) := by decide +kernel
theorem dX2_back_35 : decode cX2_back 35 = .ok (.aload_n 0, 1) := by decide +kernel
theorem dX2_back_36 : decode cX2_back 36 = .ok (.getfield 19, 3) := by decide +kernel
theorem dX2_back_39 : decode cX2_back 39 = .ok (.iload_n 1, 1) := by decide +kernel
theorem dX2_back_40 : decode cX2_back 40 = .ok (.aload_n 0, 1) := by decide +kernel
theorem dX2_back_41 : decode cX2_back 41 = .ok (.getfield 35, 3) := by decide +kernel
theorem dX2_back_44 : decode cX2_back 44 = .ok (.iload_n 1, 1) := by decide +kernel
theorem dX2_back_45 : decode cX2_back 45 = .ok (.laload, 1) := by decide +kernel
theorem dX2_back_46 : decode cX2_back 46 = .ok (.lastore, 1) := by decide +kernel
theorem dX2_back_47 : decode cX2_back 47 = .ok (.aload_n 0, 1) := by decide +kernel
theorem dX2_back_48 : decode cX2_back 48 = .ok (.getfield 23, 3) := by decide +kernel
theorem dX2_back_51 : decode cX2_back 51 = .ok (.iload_n 1, 1) := by decide +kernel
theorem dX2_back_52 : decode cX2_back 52 = .ok (.aload_n 0, 1) := by decide +kernel
theorem dX2_back_53 : decode cX2_back 53 = .ok (.getfield 35, 3) := by decide +kernel
theorem dX2_back_56 : decode cX2_back 56 = .ok (.bipush 20, 2) := by decide +kernel
theorem dX2_back_58 : decode cX2_back 58 = .ok (.iload_n 1, 1) := by decide +kernel
theorem dX2_back_59 : decode cX2_back 59 = .ok (.iadd, 1) := by decide +kernel
theorem dX2_back_60 : decode cX2_back 60 = .ok (.laload, 1) := by decide +kernel
theorem dX2_back_61 : decode cX2_back 61 = .ok (.lastore, 1) := by decide +kernel
theorem dX2_back_62 : decode cX2_back 62 = .ok (.aload_n 0, 1) := by decide +kernel
theorem dX2_back_63 : decode cX2_back 63 = .ok (.getfield 26, 3) := by decide +kernel
theorem dX2_back_66 : decode cX2_back 66 = .ok (.iload_n 1, 1) := by decide +kernel
theorem dX2_back_67 : decode cX2_back 67 = .ok (.aload_n 0, 1) := by decide +kernel
theorem dX2_back_68 : decode cX2_back 68 = .ok (.getfield 35, 3) := by decide +kernel
theorem dX2_back_71 : decode cX2_back 71 = .ok (.bipush 40, 2) := by decide +kernel
theorem dX2_back_73 : decode cX2_back 73 = .ok (.iload_n 1, 1) := by decide +kernel
theorem dX2_back_74 : decode cX2_back 74 = .ok (.iadd, 1) := by decide +kernel
theorem dX2_back_75 : decode cX2_back 75 = .ok (.laload, 1) := by decide +kernel
theorem dX2_back_76 : decode cX2_back 76 = .ok (.lastore, 1) := by decide +kernel
theorem dX2_back_77 : decode cX2_back 77 = .ok (.aload_n 0, 1) := by decide +kernel
theorem dX2_back_78 : decode cX2_back 78 = .ok (.getfield 29, 3) := by decide +kernel
theorem dX2_back_81 : decode cX2_back 81 = .ok (.iload_n 1, 1) := by decide +kernel
theorem dX2_back_82 : decode cX2_back 82 = .ok (.aload_n 0, 1) := by decide +kernel
theorem dX2_back_83 : decode cX2_back 83 = .ok (.getfield 35, 3) := by decide +kernel
theorem dX2_back_86 : decode cX2_back 86 = .ok (.bipush 60, 2) := by decide +kernel
theorem dX2_back_88 : decode cX2_back 88 = .ok (.iload_n 1, 1) := by decide +kernel
theorem dX2_back_89 : decode cX2_back 89 = .ok (.iadd, 1) := by decide +kernel
theorem dX2_back_90 : decode cX2_back 90 = .ok (.laload, 1) := by decide +kernel
theorem dX2_back_91 : decode cX2_back 91 = .ok (.lastore, 1) := by decide +kernel
theorem dX2_back_92 : decode cX2_back 92 = .ok (.iinc 1 1, 3) := by decide +kernel
theorem dX2_back_95 : decode cX2_back 95 = .ok (.goto (-93), 3) := by decide +kernel
theorem dX2_back_98 : decode cX2_back 98 = .ok (.aload_n 0, 1) := by decide +kernel
theorem dX2_back_99 : decode cX2_back 99 = .ok (.aload_n 0, 1) := by decide +kernel
theorem dX2_back_100 : decode cX2_back 100 = .ok (.getfield 32, 3) := by decide +kernel
theorem dX2_back_103 : decode cX2_back 103 = .ok (.bipush 40, 2) := by decide +kernel
theorem dX2_back_105 : decode cX2_back 105 = .ok (.iaload, 1) := by decide +kernel
theorem dX2_back_106 : decode cX2_back 106 = .ok (.putfield 107, 3) := by decide +kernel
theorem dX2_back_109 : decode cX2_back 109 = .ok (.aload_n 0, 1) := by decide +kernel
theorem dX2_back_110 : decode cX2_back 110 = .ok (.aload_n 0, 1) := by decide +kernel
theorem dX2_back_111 : decode cX2_back 111 = .ok (.getfield 32, 3) := by decide +kernel
theorem dX2_back_114 : decode cX2_back 114 = .ok (.bipush 41, 2) := by decide +kernel
theorem dX2_back_116 : decode cX2_back 116 = .ok (.iaload, 1) := by decide +kernel
theorem dX2_back_117 : decode cX2_back 117 = .ok (.putfield 87, 3) := by decide +kernel
theorem dX2_back_120 : decode cX2_back 120 = .ok (.aload_n 0, 1) := by decide +kernel
theorem dX2_back_121 : decode cX2_back 121 = .ok (.aload_n 0, 1) := by decide +kernel
theorem dX2_back_122 : decode cX2_back 122 = .ok (.getfield 32, 3) := by decide +kernel
theorem dX2_back_125 : decode cX2_back 125 = .ok (.bipush 42, 2) := by decide +kernel
theorem dX2_back_127 : decode cX2_back 127 = .ok (.iaload, 1) := by decide +kernel
theorem dX2_back_128 : decode cX2_back 128 = .ok (.putfield 110, 3) := by decide +kernel
theorem dX2_back_131 : decode cX2_back 131 = .ok (.aload_n 0, 1) := by decide +kernel
theorem dX2_back_132 : decode cX2_back 132 = .ok (.aload_n 0, 1) := by decide +kernel
theorem dX2_back_133 : decode cX2_back 133 = .ok (.getfield 32, 3) := by decide +kernel
theorem dX2_back_136 : decode cX2_back 136 = .ok (.bipush 43, 2) := by decide +kernel
theorem dX2_back_138 : decode cX2_back 138 = .ok (.iaload, 1) := by decide +kernel
theorem dX2_back_139 : decode cX2_back 139 = .ok (.putfield 113, 3) := by decide +kernel
theorem dX2_back_142 : decode cX2_back 142 = .ok (.aload_n 0, 1) := by decide +kernel
theorem dX2_back_143 : decode cX2_back 143 = .ok (.aload_n 0, 1) := by decide +kernel
theorem dX2_back_144 : decode cX2_back 144 = .ok (.getfield 32, 3) := by decide +kernel
theorem dX2_back_147 : decode cX2_back 147 = .ok (.bipush 44, 2) := by decide +kernel
theorem dX2_back_149 : decode cX2_back 149 = .ok (.iaload, 1) := by decide +kernel
theorem dX2_back_150 : decode cX2_back 150 = .ok (.putfield 96, 3) := by decide +kernel
theorem dX2_back_153 : decode cX2_back 153 = .ok (.aload_n 0, 1) := by decide +kernel
theorem dX2_back_154 : decode cX2_back 154 = .ok (.aload_n 0, 1) := by decide +kernel
theorem dX2_back_155 : decode cX2_back 155 = .ok (.getfield 32, 3) := by decide +kernel
theorem dX2_back_158 : decode cX2_back 158 = .ok (.bipush 45, 2) := by decide +kernel
theorem dX2_back_160 : decode cX2_back 160 = .ok (.iaload, 1) := by decide +kernel
theorem dX2_back_161 : decode cX2_back 161 = .ok (.putfield 128, 3) := by decide +kernel
theorem dX2_back_164 : decode cX2_back 164 = .ok (.aload_n 0, 1) := by decide +kernel
theorem dX2_back_165 : decode cX2_back 165 = .ok (.aload_n 0, 1) := by decide +kernel
theorem dX2_back_166 : decode cX2_back 166 = .ok (.getfield 32, 3) := by decide +kernel
theorem dX2_back_169 : decode cX2_back 169 = .ok (.bipush 46, 2) := by decide +kernel
theorem dX2_back_171 : decode cX2_back 171 = .ok (.iaload, 1) := by decide +kernel
theorem dX2_back_172 : decode cX2_back 172 = .ok (.putfield 131, 3) := by decide +kernel
theorem dX2_back_175 : decode cX2_back 175 = .ok (.aload_n 0, 1) := by decide +kernel
theorem dX2_back_176 : decode cX2_back 176 = .ok (.aload_n 0, 1) := by decide +kernel
theorem dX2_back_177 : decode cX2_back 177 = .ok (.getfield 32, 3) := by decide +kernel
theorem dX2_back_180 : decode cX2_back 180 = .ok (.bipush 47, 2) := by decide +kernel
theorem dX2_back_182 : decode cX2_back 182 = .ok (.iaload, 1) := by decide +kernel
theorem dX2_back_183 : decode cX2_back 183 = .ok (.iconst 1, 1) := by decide +kernel
theorem dX2_back_184 : decode cX2_back 184 = .ok (.if_icmp .ne 7, 3) := by decide +kernel
theorem dX2_back_187 : decode cX2_back 187 = .ok (.iconst 1, 1) := by decide +kernel
theorem dX2_back_188 : decode cX2_back 188 = .ok (.goto 4, 3) := by decide +kernel
theorem dX2_back_191 : decode cX2_back 191 = .ok (.iconst 0, 1) := by decide +kernel
theorem dX2_back_192 : decode cX2_back 192 = .ok (.putfield 103, 3) := by decide +kernel
theorem dX2_back_195 : decode cX2_back 195 = .ok (.return_, 1) := by decide +kernel
set_option maxRecDepth 20000 in
theorem ggX2_sweep_X2_in : GoodIn wsX2_sweep wsX2_in := goodIn_r _ [6] (by decide +kernel) (by decide +kernel)
set_option maxRecDepth 20000 in
theorem gX2_sweep_X2_in : GoodIn wsX2_sweep (va_wsS RX2 56 yX2_in wsX2_in) := goodIn_app (goodIn_of _ (by decide +kernel)) ggX2_sweep_X2_in
set_option maxRecDepth 20000 in
theorem ggX2_sweep_X2_keep : GoodIn wsX2_sweep wsX2_keep := goodIn_r _ [10, 11, 12, 13, 14, 15, 16, 17, 18, 19, 20, 21, 22, 23, 1, 2, 24, 56, 57, 58, 59, 60, 61, 62, 63, 64, 65, 66, 67, 68, 69, 70, 71, 72, 73] (by decide +kernel) (by decide +kernel)
set_option maxRecDepth 20000 in
theorem gX2_sweep_X2_keep : GoodIn wsX2_sweep (wsV RX2 138 RX2 yX2_keep wsX2_keep) := goodIn_app (goodIn_of _ (by decide +kernel)) ggX2_sweep_X2_keep
set_option maxRecDepth 20000 in
theorem ggX2_sweep_X2_work : GoodIn wsX2_sweep wsX2_work := goodIn_r _ [28, 24, 19, 20, 21, 22, 23, 15, 16, 17, 18, 29, 30, 1, 2, 31, 32, 5, 33, 34, 35, 36, 37, 38, 39, 40, 41, 42, 43, 44, 45, 46, 47, 12, 13, 48, 49, 50, 51, 56, 57, 58, 59, 60, 61, 62, 63, 64, 65, 66, 67, 68, 69, 70, 71, 72, 73] (by decide +kernel) (by decide +kernel)
set_option maxRecDepth 20000 in
theorem gX2_sweep_X2_work : GoodIn wsX2_sweep (wsV RX2 134 RX2 yX2_work wsX2_work) := goodIn_app (goodIn_of _ (by decide +kernel)) ggX2_sweep_X2_work
set_option maxRecDepth 20000 in
theorem ggX2_sweep_X2_back : GoodIn wsX2_sweep wsX2_back := goodIn_r _ [55, 12, 11, 13, 15, 14, 16, 17, 18, 19, 20, 21, 22, 23, 1, 2, 24, 56, 57, 58, 59, 60, 61, 62, 63, 64, 65, 66, 67, 68, 69, 70, 71, 72, 73] (by decide +kernel) (by decide +kernel)
set_option maxRecDepth 20000 in
theorem gX2_sweep_X2_back : GoodIn wsX2_sweep (wsV RX2 141 RX2 yX2_back wsX2_back) := goodIn_app (goodIn_of _ (by decide +kernel)) ggX2_sweep_X2_back
theorem dX2_sweep_0 : decode cX2_sweep 0 = .ok (.iload_n 2, 1) := by decide +kernel
theorem dX2_sweep_1 : decode cX2_sweep 1 = .ok (.iconst 1, 1) := by decide +kernel
theorem dX2_sweep_2 : decode cX2_sweep 2 = .ok (.sipush 300, 3) := by decide +kernel
theorem dX2_sweep_5 : decode cX2_sweep 5 = .ok (.invokestatic 56, 3) := by decide +kernel
theorem dX2_sweep_8 : decode cX2_sweep 8 = .ok (.ifCond .eq 7, 3) := by decide +kernel
theorem dX2_sweep_11 : decode cX2_sweep 11 = .ok (.iload_n 3, 1) := by decide +kernel
theorem dX2_sweep_12 : decode cX2_sweep 12 = .ok (.ifCond .ne 5, 3) := by decide +kernel
theorem dX2_sweep_15 : decode cX2_sweep 15 = .ok (.iconst (-1), 1) := by decide +kernel
theorem dX2_sweep_16 : decode cX2_sweep 16 = .ok (.ireturn, 1) := by decide +kernel
theorem dX2_sweep_17 : decode cX2_sweep 17 = .ok (.aload_n 0, 1) := by decide +kernel
theorem dX2_sweep_18 : decode cX2_sweep 18 = .ok (.invokevirtual 138, 3) := by decide +kernel
theorem dX2_sweep_21 : decode cX2_sweep 21 = .ok (.iconst 0, 1) := by decide +kernel
theorem dX2_sweep_22 : decode cX2_sweep 22 = .ok (.istore 4, 2) := by decide +kernel
theorem dX2_sweep_24 : decode cX2_sweep 24 = .ok (.iconst 0, 1) := by decide +kernel
theorem dX2_sweep_25 : decode cX2_sweep 25 = .ok (.istore 5, 2) := by decide +kernel
theorem dX2_sweep_27 : decode cX2_sweep 27 = .ok (.iload 5, 2) := by decide +kernel
theorem dX2_sweep_29 : decode cX2_sweep 29 = .ok (.iload_n 2, 1) := by decide +kernel
theorem dX2_sweep_30 : decode cX2_sweep 30 = .ok (.if_icmp .ge 60, 3) := by decide +kernel
theorem dX2_sweep_33 : decode cX2_sweep 33 = .ok (.iload_n 1, 1) := by decide +kernel
theorem dX2_sweep_34 : decode cX2_sweep 34 = .ok (.iload 5, 2) := by decide +kernel
theorem dX2_sweep_36 : decode cX2_sweep 36 = .ok (.iadd, 1) := by decide +kernel
theorem dX2_sweep_37 : decode cX2_sweep 37 = .ok (.istore 6, 2) := by decide +kernel
theorem dX2_sweep_39 : decode cX2_sweep 39 = .ok (.aload_n 0, 1) := by decide +kernel
theorem dX2_sweep_40 : decode cX2_sweep 40 = .ok (.iload 6, 2) := by decide +kernel
theorem dX2_sweep_42 : decode cX2_sweep 42 = .ok (.iload_n 3, 1) := by decide +kernel
theorem dX2_sweep_43 : decode cX2_sweep 43 = .ok (.invokevirtual 134, 3) := by decide +kernel
theorem dX2_sweep_46 : decode cX2_sweep 46 = .ok (.iload 4, 2) := by decide +kernel
theorem dX2_sweep_48 : decode cX2_sweep 48 = .ok (.aload_n 0, 1) := by decide +kernel
theorem dX2_sweep_49 : decode cX2_sweep 49 = .ok (.getfield 128, 3) := by decide +kernel
theorem dX2_sweep_52 : decode cX2_sweep 52 = .ok (.iload 6, 2) := by decide +kernel
theorem dX2_sweep_54 : decode cX2_sweep 54 = .ok (.i2l, 1) := by decide +kernel
theorem dX2_sweep_55 : decode cX2_sweep 55 = .ok (.iload_n 3, 1) := by decide +kernel
theorem dX2_sweep_56 : decode cX2_sweep 56 = .ok (.i2l, 1) := by decide +kernel
theorem dX2_sweep_57 : decode cX2_sweep 57 = .ok (.ldiv, 1) := by decide +kernel
theorem dX2_sweep_58 : decode cX2_sweep 58 = .ok (.l2i, 1) := by decide +kernel
theorem dX2_sweep_59 : decode cX2_sweep 59 = .ok (.if_icmp .ne 17, 3) := by decide +kernel
theorem dX2_sweep_62 : decode cX2_sweep 62 = .ok (.aload_n 0, 1) := by decide +kernel
theorem dX2_sweep_63 : decode cX2_sweep 63 = .ok (.getfield 131, 3) := by decide +kernel
theorem dX2_sweep_66 : decode cX2_sweep 66 = .ok (.iload 6, 2) := by decide +kernel
theorem dX2_sweep_68 : decode cX2_sweep 68 = .ok (.i2l, 1) := by decide +kernel
theorem dX2_sweep_69 : decode cX2_sweep 69 = .ok (.iload_n 3, 1) := by decide +kernel
theorem dX2_sweep_70 : decode cX2_sweep 70 = .ok (.i2l, 1) := by decide +kernel
theorem dX2_sweep_71 : decode cX2_sweep 71 = .ok (.lrem, 1) := by decide +kernel
theorem dX2_sweep_72 : decode cX2_sweep 72 = .ok (.l2i, 1) := by decide +kernel
theorem dX2_sweep_73 : decode cX2_sweep 73 = .ok (.if_icmp .eq 7, 3) := by decide +kernel
theorem dX2_sweep_76 : decode cX2_sweep 76 = .ok (.iconst 1, 1) := by decide +kernel
theorem dX2_sweep_77 : decode cX2_sweep 77 = .ok (.goto 4, 3) := by decide +kernel
theorem dX2_sweep_80 : decode cX2_sweep 80 = .ok (.iconst 0, 1) := by decide +kernel
theorem dX2_sweep_81 : decode cX2_sweep 81 = .ok (.iadd, 1) := by decide +kernel
theorem dX2_sweep_82 : decode cX2_sweep 82 = .ok (.istore 4, 2) := by decide +kernel
theorem dX2_sweep_84 : decode cX2_sweep 84 = .ok (.iinc 5 1, 3) := by decide +kernel
theorem dX2_sweep_87 : decode cX2_sweep 87 = .ok (.goto (-60), 3) := by decide +kernel
theorem dX2_sweep_90 : decode cX2_sweep 90 = .ok (.aload_n 0, 1) := by decide +kernel
theorem dX2_sweep_91 : decode cX2_sweep 91 = .ok (.invokevirtual 141, 3) := by decide +kernel
theorem dX2_sweep_94 : decode cX2_sweep 94 = .ok (.iload 4, 2) := by decide +kernel
theorem dX2_sweep_96 : decode cX2_sweep 96 = .ok (.ireturn, 1) := by decide +kernel
end
section
theorem dJ9_abs_067f4_0 : decode cJ9_abs_067f4 0 = .ok (.lload_n 0, 1) := by decide +kernel
theorem dJ9_abs_067f4_1 : decode cJ9_abs_067f4 1 = .ok (.lconst 0, 1) := by decide +kernel
theorem dJ9_abs_067f4_2 : decode cJ9_abs_067f4 2 = .ok (.lcmp, 1) := by decide +kernel
theorem dJ9_abs_067f4_3 : decode cJ9_abs_067f4 3 = .ok (.ifCond .ge 8, 3) := by decide +kernel
theorem dJ9_abs_067f4_6 : decode cJ9_abs_067f4 6 = .ok (.lload_n 0, 1) := by decide +kernel
theorem dJ9_abs_067f4_7 : decode cJ9_abs_067f4 7 = .ok (.lneg, 1) := by decide +kernel
theorem dJ9_abs_067f4_8 : decode cJ9_abs_067f4 8 = .ok (.goto 4, 3) := by decide +kernel
theorem dJ9_abs_067f4_11 : decode cJ9_abs_067f4 11 = .ok (.lload_n 0, 1) := by decide +kernel
theorem dJ9_abs_067f4_12 : decode cJ9_abs_067f4 12 = .ok (.lreturn, 1) := by decide +kernel
theorem dJ9_max_7cf53_0 : decode cJ9_max_7cf53 0 = .ok (.iload_n 0, 1) := by decide +kernel
theorem dJ9_max_7cf53_1 : decode cJ9_max_7cf53 1 = .ok (.iload_n 1, 1) := by decide +kernel
theorem dJ9_max_7cf53_2 : decode cJ9_max_7cf53 2 = .ok (.if_icmp .lt 7, 3) := by decide +kernel
theorem dJ9_max_7cf53_5 : decode cJ9_max_7cf53 5 = .ok (.iload_n 0, 1) := by decide +kernel
theorem dJ9_max_7cf53_6 : decode cJ9_max_7cf53 6 = .ok (.goto 4, 3) := by decide +kernel
theorem dJ9_max_7cf53_9 : decode cJ9_max_7cf53 9 = .ok (.iload_n 1, 1) := by decide +kernel
theorem dJ9_max_7cf53_10 : decode cJ9_max_7cf53 10 = .ok (.ireturn, 1) := by decide +kernel
theorem dJ9_min_7cf53_0 : decode cJ9_min_7cf53 0 = .ok (.iload_n 0, 1) := by decide +kernel
theorem dJ9_min_7cf53_1 : decode cJ9_min_7cf53 1 = .ok (.iload_n 1, 1) := by decide +kernel
theorem dJ9_min_7cf53_2 : decode cJ9_min_7cf53 2 = .ok (.if_icmp .gt 7, 3) := by decide +kernel
theorem dJ9_min_7cf53_5 : decode cJ9_min_7cf53 5 = .ok (.iload_n 0, 1) := by decide +kernel
theorem dJ9_min_7cf53_6 : decode cJ9_min_7cf53 6 = .ok (.goto 4, 3) := by decide +kernel
theorem dJ9_min_7cf53_9 : decode cJ9_min_7cf53 9 = .ok (.iload_n 1, 1) := by decide +kernel
theorem dJ9_min_7cf53_10 : decode cJ9_min_7cf53 10 = .ok (.ireturn, 1) := by decide +kernel
set_option maxRecDepth 20000 in
theorem ggL_law_X1_init : GoodIn wsL_law wsX1_init := goodIn_r _ [8, 9, 10, 11, 12, 13, 14, 15, 16, 17, 18, 19, 20, 21, 22, 23, 24, 25, 26, 27, 28, 29, 30, 31, 32, 33, 34, 35, 36, 37, 38, 39, 40, 41, 2, 42, 43, 44, 45, 46, 47, 48, 49, 50, 51, 52, 53, 54, 55, 56, 57, 58, 59, 60, 61, 62, 63, 64, 65, 66, 67, 346, 347, 348, 349, 350, 369, 370, 371, 372, 373, 374, 375, 376, 377, 378, 379, 380, 381, 382] (by decide +kernel) (by decide +kernel)
set_option maxRecDepth 20000 in
theorem gL_law_X1_init : GoodIn wsL_law (wsX1_init) := ggL_law_X1_init
set_option maxRecDepth 20000 in
theorem ggL_law_X2_init : GoodIn wsL_law wsX2_init := goodIn_r _ [70, 71, 10, 11, 13, 72, 73, 74, 27, 75, 76, 77, 78, 79, 80, 81, 82, 83, 5, 84, 85, 86, 87, 88, 89, 90, 91, 92, 93, 94, 95, 96, 351, 352, 353, 354, 355, 356, 357, 358, 359, 360, 361, 362, 363, 364, 365, 366, 367, 368] (by decide +kernel) (by decide +kernel)
set_option maxRecDepth 20000 in
theorem gL_law_X2_init : GoodIn wsL_law (wsX2_init) := ggL_law_X2_init
set_option maxRecDepth 20000 in
theorem ggL_law_X1_digit : GoodIn wsL_law wsX1_digit := goodIn_r _ [100, 14, 101, 102, 2, 103, 104, 105, 106, 107, 108, 109, 346, 347, 348, 349, 350] (by decide +kernel) (by decide +kernel)
set_option maxRecDepth 20000 in
theorem gL_law_X1_digit : GoodIn wsL_law (wsV RL 13 RX1 yX1_digit wsX1_digit) := goodIn_app (goodIn_of _ (by decide +kernel)) ggL_law_X1_digit
set_option maxRecDepth 20000 in
theorem ggL_law_X2_digit : GoodIn wsL_law wsX2_digit := goodIn_r _ [113, 72, 114, 115, 5, 116, 117, 118, 119, 120, 121, 122, 123, 124, 125, 351, 352, 353, 354, 355, 356, 357, 358, 359, 360, 361, 362, 363, 364, 365, 366, 367, 368] (by decide +kernel) (by decide +kernel)
set_option maxRecDepth 20000 in
theorem gL_law_X2_digit : GoodIn wsL_law (wsV RL 17 RX2 yX2_digit wsX2_digit) := goodIn_app (goodIn_of _ (by decide +kernel)) ggL_law_X2_digit
set_option maxRecDepth 20000 in
theorem ggL_law_X1_set : GoodIn wsL_law wsX1_set := goodIn_r _ [129, 14, 101, 102, 2, 103, 104, 105, 106, 130, 131, 132, 107, 108, 109, 346, 347, 348, 349, 350] (by decide +kernel) (by decide +kernel)
set_option maxRecDepth 20000 in
theorem gL_law_X1_set : GoodIn wsL_law (wsV RL 18 RX1 yX1_set wsX1_set) := goodIn_app (goodIn_of _ (by decide +kernel)) ggL_law_X1_set
set_option maxRecDepth 20000 in
theorem ggL_law_X2_set : GoodIn wsL_law wsX2_set := goodIn_r _ [136, 72, 114, 115, 5, 116, 117, 118, 119, 120, 121, 122, 123, 124, 125, 351, 352, 353, 354, 355, 356, 357, 358, 359, 360, 361, 362, 363, 364, 365, 366, 367, 368] (by decide +kernel) (by decide +kernel)
set_option maxRecDepth 20000 in
theorem gL_law_X2_set : GoodIn wsL_law (wsV RL 22 RX2 yX2_set wsX2_set) := goodIn_app (goodIn_of _ (by decide +kernel)) ggL_law_X2_set
set_option maxRecDepth 20000 in
theorem ggL_law_X1_make : GoodIn wsL_law wsX1_make := goodIn_r _ [140, 101, 102, 2, 103, 59, 60, 61, 62, 63, 64, 65, 66, 67, 15, 141, 142, 143, 144, 14, 346, 347, 348, 349, 350] (by decide +kernel) (by decide +kernel)
set_option maxRecDepth 20000 in
theorem gL_law_X1_make : GoodIn wsL_law (wsV RL 23 RX1 yX1_make wsX1_make) := goodIn_app (goodIn_of _ (by decide +kernel)) ggL_law_X1_make
set_option maxRecDepth 20000 in
theorem ggL_law_X2_make : GoodIn wsL_law wsX2_make := goodIn_r _ [148, 114, 115, 5, 116, 117, 118, 119, 81, 82, 83, 84, 72, 85, 86, 87, 88, 89, 90, 91, 92, 93, 94, 95, 96, 351, 352, 353, 354, 355, 356, 357, 358, 359, 360, 361, 362, 363, 364, 365, 366, 367, 368] (by decide +kernel) (by decide +kernel)
set_option maxRecDepth 20000 in
theorem gL_law_X2_make : GoodIn wsL_law (wsV RL 27 RX2 yX2_make wsX2_make) := goodIn_app (goodIn_of _ (by decide +kernel)) ggL_law_X2_make
set_option maxRecDepth 20000 in
theorem ggL_law_X1_copy : GoodIn wsL_law wsX1_copy := goodIn_r _ [152, 14, 101, 102, 2, 103, 141, 142, 143, 144, 346, 347, 348, 349, 350] (by decide +kernel) (by decide +kernel)
set_option maxRecDepth 20000 in
theorem gL_law_X1_copy : GoodIn wsL_law (wsV RL 28 RX1 yX1_copy wsX1_copy) := goodIn_app (goodIn_of _ (by decide +kernel)) ggL_law_X1_copy
set_option maxRecDepth 20000 in
theorem ggL_law_X2_copy : GoodIn wsL_law wsX2_copy := goodIn_r _ [156, 72, 114, 115, 5, 116, 117, 118, 119, 351, 352, 353, 354, 355, 356, 357, 358, 359, 360, 361, 362, 363, 364, 365, 366, 367, 368] (by decide +kernel) (by decide +kernel)
set_option maxRecDepth 20000 in
theorem gL_law_X2_copy : GoodIn wsL_law (wsV RL 32 RX2 yX2_copy wsX2_copy) := goodIn_app (goodIn_of _ (by decide +kernel)) ggL_law_X2_copy
set_option maxRecDepth 20000 in
theorem ggL_law_X1_good : GoodIn wsL_law wsX1_good := goodIn_r _ [160, 104, 105, 2, 106, 130, 131, 132, 107, 108, 109, 64, 65, 66, 67, 15, 346, 347, 348, 349, 350] (by decide +kernel) (by decide +kernel)
set_option maxRecDepth 20000 in
theorem gL_law_X1_good : GoodIn wsL_law (wsV RL 33 RX1 yX1_good wsX1_good) := goodIn_app (goodIn_of _ (by decide +kernel)) ggL_law_X1_good
set_option maxRecDepth 20000 in
theorem ggL_law_X2_good : GoodIn wsL_law wsX2_good := goodIn_r _ [164, 120, 121, 5, 122, 117, 118, 119, 88, 89, 90, 91, 92, 93, 94, 95, 96] (by decide +kernel) (by decide +kernel)
set_option maxRecDepth 20000 in
theorem gL_law_X2_good : GoodIn wsL_law (wsV RL 36 RX2 yX2_good wsX2_good) := goodIn_app (goodIn_of _ (by decide +kernel)) ggL_law_X2_good
set_option maxRecDepth 20000 in
theorem ggL_law_X1_holds : GoodIn wsL_law wsX1_holds := goodIn_r _ [168, 104, 105, 2, 106, 43, 44, 45, 46, 47, 48, 49, 50, 51, 52, 53, 54, 55] (by decide +kernel) (by decide +kernel)
set_option maxRecDepth 20000 in
theorem gL_law_X1_holds : GoodIn wsL_law (wsV RL 37 RX1 yX1_holds wsX1_holds) := goodIn_app (goodIn_of _ (by decide +kernel)) ggL_law_X1_holds
set_option maxRecDepth 20000 in
theorem ggL_law_X2_holds : GoodIn wsL_law wsX2_holds := goodIn_r _ [172, 120, 121, 5, 122, 117, 118, 119, 173, 174, 175] (by decide +kernel) (by decide +kernel)
set_option maxRecDepth 20000 in
theorem gL_law_X2_holds : GoodIn wsL_law (wsV RL 40 RX2 yX2_holds wsX2_holds) := goodIn_app (goodIn_of _ (by decide +kernel)) ggL_law_X2_holds
set_option maxRecDepth 20000 in
theorem ggL_law_X1_check : GoodIn wsL_law wsX1_check := goodIn_r _ [179, 14, 101, 102, 2, 103, 64, 65, 66, 67, 15, 346, 347, 348, 349, 350] (by decide +kernel) (by decide +kernel)
set_option maxRecDepth 20000 in
theorem gL_law_X1_check : GoodIn wsL_law (wsV RL 41 RX1 yX1_check wsX1_check) := goodIn_app (goodIn_of _ (by decide +kernel)) ggL_law_X1_check
set_option maxRecDepth 20000 in
theorem ggL_law_X2_check : GoodIn wsL_law wsX2_check := goodIn_r _ [183, 114, 115, 5, 116, 117, 118, 119, 184, 185, 186, 187, 72, 88, 89, 90, 91, 92, 93, 94, 95, 96, 351, 352, 353, 354, 355, 356, 357, 358, 359, 360, 361, 362, 363, 364, 365, 366, 367, 368] (by decide +kernel) (by decide +kernel)
set_option maxRecDepth 20000 in
theorem gL_law_X2_check : GoodIn wsL_law (wsV RL 44 RX2 yX2_check wsX2_check) := goodIn_app (goodIn_of _ (by decide +kernel)) ggL_law_X2_check
set_option maxRecDepth 20000 in
theorem ggL_law_X1_wrong : GoodIn wsL_law wsX1_wrong := goodIn_r _ [191, 14, 101, 102, 2, 103, 64, 65, 66, 67, 15, 346, 347, 348, 349, 350] (by decide +kernel) (by decide +kernel)
set_option maxRecDepth 20000 in
theorem gL_law_X1_wrong : GoodIn wsL_law (wsV RL 45 RX1 yX1_wrong wsX1_wrong) := goodIn_app (goodIn_of _ (by decide +kernel)) ggL_law_X1_wrong
set_option maxRecDepth 20000 in
theorem ggL_law_X2_wrong : GoodIn wsL_law wsX2_wrong := goodIn_r _ [195, 114, 115, 5, 116, 117, 118, 119, 184, 185, 186, 187, 72, 88, 89, 90, 91, 92, 93, 94, 95, 96, 351, 352, 353, 354, 355, 356, 357, 358, 359, 360, 361, 362, 363, 364, 365, 366, 367, 368] (by decide +kernel) (by decide +kernel)
set_option maxRecDepth 20000 in
theorem gL_law_X2_wrong : GoodIn wsL_law (wsV RL 48 RX2 yX2_wrong wsX2_wrong) := goodIn_app (goodIn_of _ (by decide +kernel)) ggL_law_X2_wrong
set_option maxRecDepth 20000 in
theorem ggL_law_X1_use : GoodIn wsL_law wsX1_use := goodIn_r _ [199, 21, 101, 102, 2, 103, 346, 347, 348, 349, 350] (by decide +kernel) (by decide +kernel)
set_option maxRecDepth 20000 in
theorem gL_law_X1_use : GoodIn wsL_law (wsV RL 49 RX1 yX1_use wsX1_use) := goodIn_app (goodIn_of _ (by decide +kernel)) ggL_law_X1_use
set_option maxRecDepth 20000 in
theorem ggL_law_X2_use : GoodIn wsL_law wsX2_use := goodIn_r _ [203, 204, 114, 115, 5, 116, 117, 118, 119, 351, 352, 353, 354, 355, 356, 357, 358, 359, 360, 361, 362, 363, 364, 365, 366, 367, 368] (by decide +kernel) (by decide +kernel)
set_option maxRecDepth 20000 in
theorem gL_law_X2_use : GoodIn wsL_law (wsV RL 52 RX2 yX2_use wsX2_use) := goodIn_app (goodIn_of _ (by decide +kernel)) ggL_law_X2_use
set_option maxRecDepth 20000 in
theorem ggL_law_X1_divide : GoodIn wsL_law wsX1_divide := goodIn_r _ [208, 19, 14, 21, 209, 18, 210, 211, 212, 213, 51, 214, 38, 39, 35, 215, 216, 217, 218, 28, 29, 30, 31, 219, 32, 33, 34, 36, 37, 220, 221, 222, 223, 224, 225, 226, 227, 228, 229, 230, 231, 232, 233, 234, 235, 236, 50, 52, 26, 25, 237, 238, 108, 2, 109, 239, 240, 241, 242, 243, 244, 245, 246, 247, 346, 347, 348, 349, 350, 369, 370, 371, 372, 373, 374, 375, 376, 377, 378, 379, 380, 381, 382] (by decide +kernel) (by decide +kernel)
set_option maxRecDepth 20000 in
theorem gL_law_X1_divide : GoodIn wsL_law (wsV RL 53 RX1 yX1_divide wsX1_divide) := goodIn_app (goodIn_of _ (by decide +kernel)) ggL_law_X1_divide
set_option maxRecDepth 20000 in
theorem ggL_law_X2_divide : GoodIn wsL_law wsX2_divide := goodIn_r _ [251, 252, 253, 254, 255, 5, 256, 257, 258, 259, 260, 261, 75, 76, 77, 78, 262, 263, 264, 265, 266, 267, 268, 269, 270, 271, 272, 273, 274, 275, 276, 277, 278, 72, 204, 279, 280, 73, 74, 281, 123, 124, 125, 351, 352, 353, 354, 355, 356, 357, 358, 359, 360, 361, 362, 363, 364, 365, 366, 367, 368] (by decide +kernel) (by decide +kernel)
set_option maxRecDepth 20000 in
theorem gL_law_X2_divide : GoodIn wsL_law (wsV RL 56 RX2 yX2_divide wsX2_divide) := goodIn_app (goodIn_of _ (by decide +kernel)) ggL_law_X2_divide
set_option maxRecDepth 20000 in
theorem ggL_law_X1_quotient : GoodIn wsL_law wsX1_quotient := goodIn_r _ [285, 19, 346, 347, 348, 349, 350, 369, 370, 371, 372, 373, 374, 375, 376, 377, 378, 379, 380, 381, 382] (by decide +kernel) (by decide +kernel)
set_option maxRecDepth 20000 in
theorem gL_law_X1_quotient : GoodIn wsL_law (wsV RL 57 RX1 yX1_quotient wsX1_quotient) := goodIn_app (goodIn_of _ (by decide +kernel)) ggL_law_X1_quotient
set_option maxRecDepth 20000 in
theorem ggL_law_X2_quotient : GoodIn wsL_law wsX2_quotient := goodIn_r _ [289, 264, 351, 352, 353, 354, 355, 356, 357, 358, 359, 360, 361, 362, 363, 364, 365, 366, 367, 368] (by decide +kernel) (by decide +kernel)
set_option maxRecDepth 20000 in
theorem gL_law_X2_quotient : GoodIn wsL_law (wsV RL 61 RX2 yX2_quotient wsX2_quotient) := goodIn_app (goodIn_of _ (by decide +kernel)) ggL_law_X2_quotient
set_option maxRecDepth 20000 in
theorem ggL_law_X1_rest : GoodIn wsL_law wsX1_rest := goodIn_r _ [293, 19, 346, 347, 348, 349, 350, 369, 370, 371, 372, 373, 374, 375, 376, 377, 378, 379, 380, 381, 382] (by decide +kernel) (by decide +kernel)
set_option maxRecDepth 20000 in
theorem gL_law_X1_rest : GoodIn wsL_law (wsV RL 62 RX1 yX1_rest wsX1_rest) := goodIn_app (goodIn_of _ (by decide +kernel)) ggL_law_X1_rest
set_option maxRecDepth 20000 in
theorem ggL_law_X2_rest : GoodIn wsL_law wsX2_rest := goodIn_r _ [297, 265, 351, 352, 353, 354, 355, 356, 357, 358, 359, 360, 361, 362, 363, 364, 365, 366, 367, 368] (by decide +kernel) (by decide +kernel)
set_option maxRecDepth 20000 in
theorem gL_law_X2_rest : GoodIn wsL_law (wsV RL 65 RX2 yX2_rest wsX2_rest) := goodIn_app (goodIn_of _ (by decide +kernel)) ggL_law_X2_rest
set_option maxRecDepth 20000 in
theorem ggL_law_X1_left : GoodIn wsL_law wsX1_left := goodIn_r _ [301, 19, 346, 347, 348, 349, 350, 369, 370, 371, 372, 373, 374, 375, 376, 377, 378, 379, 380, 381, 382] (by decide +kernel) (by decide +kernel)
set_option maxRecDepth 20000 in
theorem gL_law_X1_left : GoodIn wsL_law (wsV RL 66 RX1 yX1_left wsX1_left) := goodIn_app (goodIn_of _ (by decide +kernel)) ggL_law_X1_left
set_option maxRecDepth 20000 in
theorem ggL_law_X2_left : GoodIn wsL_law wsX2_left := goodIn_r _ [305, 261, 351, 352, 353, 354, 355, 356, 357, 358, 359, 360, 361, 362, 363, 364, 365, 366, 367, 368] (by decide +kernel) (by decide +kernel)
set_option maxRecDepth 20000 in
theorem gL_law_X2_left : GoodIn wsL_law (wsV RL 69 RX2 yX2_left wsX2_left) := goodIn_app (goodIn_of _ (by decide +kernel)) ggL_law_X2_left
set_option maxRecDepth 20000 in
theorem ggL_law_X1_step : GoodIn wsL_law wsX1_step := goodIn_r _ [309, 19, 346, 347, 348, 349, 350, 369, 370, 371, 372, 373, 374, 375, 376, 377, 378, 379, 380, 381, 382] (by decide +kernel) (by decide +kernel)
set_option maxRecDepth 20000 in
theorem gL_law_X1_step : GoodIn wsL_law (wsV RL 70 RX1 yX1_step wsX1_step) := goodIn_app (goodIn_of _ (by decide +kernel)) ggL_law_X1_step
set_option maxRecDepth 20000 in
theorem ggL_law_X2_step : GoodIn wsL_law wsX2_step := goodIn_r _ [313, 252, 73, 74, 117, 118, 5, 119, 351, 352, 353, 354, 355, 356, 357, 358, 359, 360, 361, 362, 363, 364, 365, 366, 367, 368] (by decide +kernel) (by decide +kernel)
set_option maxRecDepth 20000 in
theorem gL_law_X2_step : GoodIn wsL_law (wsV RL 73 RX2 yX2_step wsX2_step) := goodIn_app (goodIn_of _ (by decide +kernel)) ggL_law_X2_step
set_option maxRecDepth 20000 in
theorem ggL_law_X1_state : GoodIn wsL_law wsX1_state := goodIn_r _ [317, 19, 346, 347, 348, 349, 350, 369, 370, 371, 372, 373, 374, 375, 376, 377, 378, 379, 380, 381, 382] (by decide +kernel) (by decide +kernel)
set_option maxRecDepth 20000 in
theorem gL_law_X1_state : GoodIn wsL_law (wsV RL 74 RX1 yX1_state wsX1_state) := goodIn_app (goodIn_of _ (by decide +kernel)) ggL_law_X1_state
set_option maxRecDepth 20000 in
theorem ggL_law_X2_state : GoodIn wsL_law wsX2_state := goodIn_r _ [321, 257, 252, 75, 76, 77, 78, 117, 118, 5, 119, 351, 352, 353, 354, 355, 356, 357, 358, 359, 360, 361, 362, 363, 364, 365, 366, 367, 368] (by decide +kernel) (by decide +kernel)
set_option maxRecDepth 20000 in
theorem gL_law_X2_state : GoodIn wsL_law (wsV RL 78 RX2 yX2_state wsX2_state) := goodIn_app (goodIn_of _ (by decide +kernel)) ggL_law_X2_state
set_option maxRecDepth 20000 in
theorem ggL_law_X1_told : GoodIn wsL_law wsX1_told := goodIn_r _ [325, 19, 346, 347, 348, 349, 350, 369, 370, 371, 372, 373, 374, 375, 376, 377, 378, 379, 380, 381, 382] (by decide +kernel) (by decide +kernel)
set_option maxRecDepth 20000 in
theorem gL_law_X1_told : GoodIn wsL_law (wsV RL 79 RX1 yX1_told wsX1_told) := goodIn_app (goodIn_of _ (by decide +kernel)) ggL_law_X1_told
set_option maxRecDepth 20000 in
theorem ggL_law_X2_told : GoodIn wsL_law wsX2_told := goodIn_r _ [329, 252, 73, 258, 259, 260, 351, 352, 353, 354, 355, 356, 357, 358, 359, 360, 361, 362, 363, 364, 365, 366, 367, 368] (by decide +kernel) (by decide +kernel)
set_option maxRecDepth 20000 in
theorem gL_law_X2_told : GoodIn wsL_law (wsV RL 82 RX2 yX2_told wsX2_told) := goodIn_app (goodIn_of _ (by decide +kernel)) ggL_law_X2_told
set_option maxRecDepth 20000 in
theorem ggL_law_X1_sweep : GoodIn wsL_law wsX1_sweep := goodIn_r _ [333, 20, 14, 21, 209, 18, 210, 211, 212, 213, 51, 214, 38, 39, 35, 215, 216, 217, 218, 28, 29, 30, 31, 219, 32, 33, 34, 36, 37, 220, 221, 222, 223, 224, 225, 226, 227, 228, 229, 230, 231, 232, 233, 234, 235, 236, 50, 52, 26, 25, 237, 238, 108, 2, 109, 239, 240, 241, 242, 243, 244, 245, 246, 247, 346, 347, 348, 349, 350, 369, 370, 371, 372, 373, 374, 375, 376, 377, 378, 379, 380, 381, 382] (by decide +kernel) (by decide +kernel)
set_option maxRecDepth 20000 in
theorem gL_law_X1_sweep : GoodIn wsL_law (wsV RL 83 RX1 yX1_sweep wsX1_sweep) := goodIn_app (goodIn_of _ (by decide +kernel)) ggL_law_X1_sweep
set_option maxRecDepth 20000 in
theorem ggL_law_X2_sweep : GoodIn wsL_law wsX2_sweep := goodIn_r _ [337, 264, 265, 117, 118, 5, 119, 338, 339, 340, 341, 79, 73, 74, 80, 75, 76, 77, 78, 252, 258, 259, 260, 261, 257, 253, 254, 255, 256, 262, 263, 266, 267, 268, 269, 270, 271, 272, 273, 274, 275, 276, 277, 278, 72, 204, 279, 280, 281, 123, 124, 125, 342, 343, 344, 345, 351, 352, 353, 354, 355, 356, 357, 358, 359, 360, 361, 362, 363, 364, 365, 366, 367, 368] (by decide +kernel) (by decide +kernel)
set_option maxRecDepth 20000 in
theorem gL_law_X2_sweep : GoodIn wsL_law (wsV RL 86 RX2 yX2_sweep wsX2_sweep) := goodIn_app (goodIn_of _ (by decide +kernel)) ggL_law_X2_sweep
theorem dL_law_0 : decode cL_law 0 = .ok (.new 7, 3) := by decide +kernel
theorem dL_law_3 : decode cL_law 3 = .ok (.dup, 1) := by decide +kernel
theorem dL_law_4 : decode cL_law 4 = .ok (.invokespecial 9, 3) := by decide +kernel
theorem dL_law_7 : decode cL_law 7 = .ok (.astore_n 1, 1) := by decide +kernel
theorem dL_law_8 : decode cL_law 8 = .ok (.new 10, 3) := by decide +kernel
theorem dL_law_11 : decode cL_law 11 = .ok (.dup, 1) := by decide +kernel
theorem dL_law_12 : decode cL_law 12 = .ok (.invokespecial 12, 3) := by decide +kernel
theorem dL_law_15 : decode cL_law 15 = .ok (.astore_n 2, 1) := by decide +kernel
theorem dL_law_16 : decode cL_law 16 = .ok (.iconst 0, 1) := by decide +kernel
theorem dL_law_17 : decode cL_law 17 = .ok (.istore_n 3, 1) := by decide +kernel
theorem dL_law_18 : decode cL_law 18 = .ok (.iload_n 3, 1) := by decide +kernel
theorem dL_law_19 : decode cL_law 19 = .ok (.aload_n 0, 1) := by decide +kernel
theorem dL_law_20 : decode cL_law 20 = .ok (.arraylength, 1) := by decide +kernel
theorem dL_law_21 : decode cL_law 21 = .ok (.iconst 5, 1) := by decide +kernel
theorem dL_law_22 : decode cL_law 22 = .ok (.isub, 1) := by decide +kernel
theorem dL_law_23 : decode cL_law 23 = .ok (.if_icmp .gt 611, 3) := by decide +kernel
theorem dL_law_26 : decode cL_law 26 = .ok (.aload_n 0, 1) := by decide +kernel
theorem dL_law_27 : decode cL_law 27 = .ok (.iload_n 3, 1) := by decide +kernel
theorem dL_law_28 : decode cL_law 28 = .ok (.iaload, 1) := by decide +kernel
theorem dL_law_29 : decode cL_law 29 = .ok (.bipush 31, 2) := by decide +kernel
theorem dL_law_31 : decode cL_law 31 = .ok (.iand, 1) := by decide +kernel
theorem dL_law_32 : decode cL_law 32 = .ok (.tableswitch 596 0 16 #[84, 127, 180, 203, 236, 279, 312, 335, 368, 391, 424, 437, 450, 463, 496, 530, 553], 84) := by decide +kernel
theorem dL_law_116 : decode cL_law 116 = .ok (.aload_n 1, 1) := by decide +kernel
theorem dL_law_117 : decode cL_law 117 = .ok (.aload_n 0, 1) := by decide +kernel
theorem dL_law_118 : decode cL_law 118 = .ok (.iload_n 3, 1) := by decide +kernel
theorem dL_law_119 : decode cL_law 119 = .ok (.iconst 1, 1) := by decide +kernel
theorem dL_law_120 : decode cL_law 120 = .ok (.iadd, 1) := by decide +kernel
theorem dL_law_121 : decode cL_law 121 = .ok (.iaload, 1) := by decide +kernel
theorem dL_law_122 : decode cL_law 122 = .ok (.aload_n 0, 1) := by decide +kernel
theorem dL_law_123 : decode cL_law 123 = .ok (.iload_n 3, 1) := by decide +kernel
theorem dL_law_124 : decode cL_law 124 = .ok (.iconst 2, 1) := by decide +kernel
theorem dL_law_125 : decode cL_law 125 = .ok (.iadd, 1) := by decide +kernel
theorem dL_law_126 : decode cL_law 126 = .ok (.iaload, 1) := by decide +kernel
theorem dL_law_127 : decode cL_law 127 = .ok (.aload_n 0, 1) := by decide +kernel
theorem dL_law_128 : decode cL_law 128 = .ok (.iload_n 3, 1) := by decide +kernel
theorem dL_law_129 : decode cL_law 129 = .ok (.iconst 3, 1) := by decide +kernel
theorem dL_law_130 : decode cL_law 130 = .ok (.iadd, 1) := by decide +kernel
theorem dL_law_131 : decode cL_law 131 = .ok (.iaload, 1) := by decide +kernel
theorem dL_law_132 : decode cL_law 132 = .ok (.invokevirtual 13, 3) := by decide +kernel
theorem dL_law_135 : decode cL_law 135 = .ok (.aload_n 2, 1) := by decide +kernel
theorem dL_law_136 : decode cL_law 136 = .ok (.aload_n 0, 1) := by decide +kernel
theorem dL_law_137 : decode cL_law 137 = .ok (.iload_n 3, 1) := by decide +kernel
theorem dL_law_138 : decode cL_law 138 = .ok (.iconst 1, 1) := by decide +kernel
theorem dL_law_139 : decode cL_law 139 = .ok (.iadd, 1) := by decide +kernel
theorem dL_law_140 : decode cL_law 140 = .ok (.iaload, 1) := by decide +kernel
theorem dL_law_141 : decode cL_law 141 = .ok (.aload_n 0, 1) := by decide +kernel
theorem dL_law_142 : decode cL_law 142 = .ok (.iload_n 3, 1) := by decide +kernel
theorem dL_law_143 : decode cL_law 143 = .ok (.iconst 2, 1) := by decide +kernel
theorem dL_law_144 : decode cL_law 144 = .ok (.iadd, 1) := by decide +kernel
theorem dL_law_145 : decode cL_law 145 = .ok (.iaload, 1) := by decide +kernel
theorem dL_law_146 : decode cL_law 146 = .ok (.aload_n 0, 1) := by decide +kernel
theorem dL_law_147 : decode cL_law 147 = .ok (.iload_n 3, 1) := by decide +kernel
theorem dL_law_148 : decode cL_law 148 = .ok (.iconst 3, 1) := by decide +kernel
theorem dL_law_149 : decode cL_law 149 = .ok (.iadd, 1) := by decide +kernel
theorem dL_law_150 : decode cL_law 150 = .ok (.iaload, 1) := by decide +kernel
theorem dL_law_151 : decode cL_law 151 = .ok (.invokevirtual 17, 3) := by decide +kernel
theorem dL_law_154 : decode cL_law 154 = .ok (.if_icmp .eq 474, 3) := by decide +kernel
theorem dL_law_157 : decode cL_law 157 = .ok (.iconst 0, 1) := by decide +kernel
theorem dL_law_158 : decode cL_law 158 = .ok (.ireturn, 1) := by decide +kernel
theorem dL_law_159 : decode cL_law 159 = .ok (.aload_n 1, 1) := by decide +kernel
theorem dL_law_160 : decode cL_law 160 = .ok (.aload_n 0, 1) := by decide +kernel
theorem dL_law_161 : decode cL_law 161 = .ok (.iload_n 3, 1) := by decide +kernel
theorem dL_law_162 : decode cL_law 162 = .ok (.iconst 1, 1) := by decide +kernel
theorem dL_law_163 : decode cL_law 163 = .ok (.iadd, 1) := by decide +kernel
theorem dL_law_164 : decode cL_law 164 = .ok (.iaload, 1) := by decide +kernel
theorem dL_law_165 : decode cL_law 165 = .ok (.aload_n 0, 1) := by decide +kernel
theorem dL_law_166 : decode cL_law 166 = .ok (.iload_n 3, 1) := by decide +kernel
theorem dL_law_167 : decode cL_law 167 = .ok (.iconst 2, 1) := by decide +kernel
theorem dL_law_168 : decode cL_law 168 = .ok (.iadd, 1) := by decide +kernel
theorem dL_law_169 : decode cL_law 169 = .ok (.iaload, 1) := by decide +kernel
theorem dL_law_170 : decode cL_law 170 = .ok (.aload_n 0, 1) := by decide +kernel
theorem dL_law_171 : decode cL_law 171 = .ok (.iload_n 3, 1) := by decide +kernel
theorem dL_law_172 : decode cL_law 172 = .ok (.iconst 3, 1) := by decide +kernel
theorem dL_law_173 : decode cL_law 173 = .ok (.iadd, 1) := by decide +kernel
theorem dL_law_174 : decode cL_law 174 = .ok (.iaload, 1) := by decide +kernel
theorem dL_law_175 : decode cL_law 175 = .ok (.aload_n 0, 1) := by decide +kernel
theorem dL_law_176 : decode cL_law 176 = .ok (.iload_n 3, 1) := by decide +kernel
theorem dL_law_177 : decode cL_law 177 = .ok (.iconst 4, 1) := by decide +kernel
theorem dL_law_178 : decode cL_law 178 = .ok (.iadd, 1) := by decide +kernel
theorem dL_law_179 : decode cL_law 179 = .ok (.iaload, 1) := by decide +kernel
theorem dL_law_180 : decode cL_law 180 = .ok (.invokevirtual 18, 3) := by decide +kernel
theorem dL_law_183 : decode cL_law 183 = .ok (.aload_n 2, 1) := by decide +kernel
theorem dL_law_184 : decode cL_law 184 = .ok (.aload_n 0, 1) := by decide +kernel
theorem dL_law_185 : decode cL_law 185 = .ok (.iload_n 3, 1) := by decide +kernel
theorem dL_law_186 : decode cL_law 186 = .ok (.iconst 1, 1) := by decide +kernel
theorem dL_law_187 : decode cL_law 187 = .ok (.iadd, 1) := by decide +kernel
theorem dL_law_188 : decode cL_law 188 = .ok (.iaload, 1) := by decide +kernel
theorem dL_law_189 : decode cL_law 189 = .ok (.aload_n 0, 1) := by decide +kernel
theorem dL_law_190 : decode cL_law 190 = .ok (.iload_n 3, 1) := by decide +kernel
theorem dL_law_191 : decode cL_law 191 = .ok (.iconst 2, 1) := by decide +kernel
theorem dL_law_192 : decode cL_law 192 = .ok (.iadd, 1) := by decide +kernel
theorem dL_law_193 : decode cL_law 193 = .ok (.iaload, 1) := by decide +kernel
theorem dL_law_194 : decode cL_law 194 = .ok (.aload_n 0, 1) := by decide +kernel
theorem dL_law_195 : decode cL_law 195 = .ok (.iload_n 3, 1) := by decide +kernel
theorem dL_law_196 : decode cL_law 196 = .ok (.iconst 3, 1) := by decide +kernel
theorem dL_law_197 : decode cL_law 197 = .ok (.iadd, 1) := by decide +kernel
theorem dL_law_198 : decode cL_law 198 = .ok (.iaload, 1) := by decide +kernel
theorem dL_law_199 : decode cL_law 199 = .ok (.aload_n 0, 1) := by decide +kernel
theorem dL_law_200 : decode cL_law 200 = .ok (.iload_n 3, 1) := by decide +kernel
theorem dL_law_201 : decode cL_law 201 = .ok (.iconst 4, 1) := by decide +kernel
theorem dL_law_202 : decode cL_law 202 = .ok (.iadd, 1) := by decide +kernel
theorem dL_law_203 : decode cL_law 203 = .ok (.iaload, 1) := by decide +kernel
theorem dL_law_204 : decode cL_law 204 = .ok (.invokevirtual 22, 3) := by decide +kernel
theorem dL_law_207 : decode cL_law 207 = .ok (.if_icmp .eq 421, 3) := by decide +kernel
theorem dL_law_210 : decode cL_law 210 = .ok (.iconst 0, 1) := by decide +kernel
theorem dL_law_211 : decode cL_law 211 = .ok (.ireturn, 1) := by decide +kernel
theorem dL_law_212 : decode cL_law 212 = .ok (.aload_n 1, 1) := by decide +kernel
theorem dL_law_213 : decode cL_law 213 = .ok (.aload_n 0, 1) := by decide +kernel
theorem dL_law_214 : decode cL_law 214 = .ok (.iload_n 3, 1) := by decide +kernel
theorem dL_law_215 : decode cL_law 215 = .ok (.iconst 1, 1) := by decide +kernel
theorem dL_law_216 : decode cL_law 216 = .ok (.iadd, 1) := by decide +kernel
theorem dL_law_217 : decode cL_law 217 = .ok (.iaload, 1) := by decide +kernel
theorem dL_law_218 : decode cL_law 218 = .ok (.invokevirtual 23, 3) := by decide +kernel
theorem dL_law_221 : decode cL_law 221 = .ok (.aload_n 2, 1) := by decide +kernel
theorem dL_law_222 : decode cL_law 222 = .ok (.aload_n 0, 1) := by decide +kernel
theorem dL_law_223 : decode cL_law 223 = .ok (.iload_n 3, 1) := by decide +kernel
theorem dL_law_224 : decode cL_law 224 = .ok (.iconst 1, 1) := by decide +kernel
theorem dL_law_225 : decode cL_law 225 = .ok (.iadd, 1) := by decide +kernel
theorem dL_law_226 : decode cL_law 226 = .ok (.iaload, 1) := by decide +kernel
theorem dL_law_227 : decode cL_law 227 = .ok (.invokevirtual 27, 3) := by decide +kernel
theorem dL_law_230 : decode cL_law 230 = .ok (.if_icmp .eq 398, 3) := by decide +kernel
theorem dL_law_233 : decode cL_law 233 = .ok (.iconst 0, 1) := by decide +kernel
theorem dL_law_234 : decode cL_law 234 = .ok (.ireturn, 1) := by decide +kernel
theorem dL_law_235 : decode cL_law 235 = .ok (.aload_n 1, 1) := by decide +kernel
theorem dL_law_236 : decode cL_law 236 = .ok (.aload_n 0, 1) := by decide +kernel
theorem dL_law_237 : decode cL_law 237 = .ok (.iload_n 3, 1) := by decide +kernel
theorem dL_law_238 : decode cL_law 238 = .ok (.iconst 1, 1) := by decide +kernel
theorem dL_law_239 : decode cL_law 239 = .ok (.iadd, 1) := by decide +kernel
theorem dL_law_240 : decode cL_law 240 = .ok (.iaload, 1) := by decide +kernel
theorem dL_law_241 : decode cL_law 241 = .ok (.aload_n 0, 1) := by decide +kernel
theorem dL_law_242 : decode cL_law 242 = .ok (.iload_n 3, 1) := by decide +kernel
theorem dL_law_243 : decode cL_law 243 = .ok (.iconst 2, 1) := by decide +kernel
theorem dL_law_244 : decode cL_law 244 = .ok (.iadd, 1) := by decide +kernel
theorem dL_law_245 : decode cL_law 245 = .ok (.iaload, 1) := by decide +kernel
theorem dL_law_246 : decode cL_law 246 = .ok (.invokevirtual 28, 3) := by decide +kernel
theorem dL_law_249 : decode cL_law 249 = .ok (.aload_n 2, 1) := by decide +kernel
theorem dL_law_250 : decode cL_law 250 = .ok (.aload_n 0, 1) := by decide +kernel
theorem dL_law_251 : decode cL_law 251 = .ok (.iload_n 3, 1) := by decide +kernel
theorem dL_law_252 : decode cL_law 252 = .ok (.iconst 1, 1) := by decide +kernel
theorem dL_law_253 : decode cL_law 253 = .ok (.iadd, 1) := by decide +kernel
theorem dL_law_254 : decode cL_law 254 = .ok (.iaload, 1) := by decide +kernel
theorem dL_law_255 : decode cL_law 255 = .ok (.aload_n 0, 1) := by decide +kernel
theorem dL_law_256 : decode cL_law 256 = .ok (.iload_n 3, 1) := by decide +kernel
theorem dL_law_257 : decode cL_law 257 = .ok (.iconst 2, 1) := by decide +kernel
theorem dL_law_258 : decode cL_law 258 = .ok (.iadd, 1) := by decide +kernel
theorem dL_law_259 : decode cL_law 259 = .ok (.iaload, 1) := by decide +kernel
theorem dL_law_260 : decode cL_law 260 = .ok (.invokevirtual 32, 3) := by decide +kernel
theorem dL_law_263 : decode cL_law 263 = .ok (.if_icmp .eq 365, 3) := by decide +kernel
theorem dL_law_266 : decode cL_law 266 = .ok (.iconst 0, 1) := by decide +kernel
theorem dL_law_267 : decode cL_law 267 = .ok (.ireturn, 1) := by decide +kernel
theorem dL_law_268 : decode cL_law 268 = .ok (.aload_n 1, 1) := by decide +kernel
theorem dL_law_269 : decode cL_law 269 = .ok (.aload_n 0, 1) := by decide +kernel
theorem dL_law_270 : decode cL_law 270 = .ok (.iload_n 3, 1) := by decide +kernel
theorem dL_law_271 : decode cL_law 271 = .ok (.iconst 1, 1) := by decide +kernel
theorem dL_law_272 : decode cL_law 272 = .ok (.iadd, 1) := by decide +kernel
theorem dL_law_273 : decode cL_law 273 = .ok (.iaload, 1) := by decide +kernel
theorem dL_law_274 : decode cL_law 274 = .ok (.aload_n 0, 1) := by decide +kernel
theorem dL_law_275 : decode cL_law 275 = .ok (.iload_n 3, 1) := by decide +kernel
theorem dL_law_276 : decode cL_law 276 = .ok (.iconst 2, 1) := by decide +kernel
theorem dL_law_277 : decode cL_law 277 = .ok (.iadd, 1) := by decide +kernel
theorem dL_law_278 : decode cL_law 278 = .ok (.iaload, 1) := by decide +kernel
theorem dL_law_279 : decode cL_law 279 = .ok (.aload_n 0, 1) := by decide +kernel
theorem dL_law_280 : decode cL_law 280 = .ok (.iload_n 3, 1) := by decide +kernel
theorem dL_law_281 : decode cL_law 281 = .ok (.iconst 3, 1) := by decide +kernel
theorem dL_law_282 : decode cL_law 282 = .ok (.iadd, 1) := by decide +kernel
theorem dL_law_283 : decode cL_law 283 = .ok (.iaload, 1) := by decide +kernel
theorem dL_law_284 : decode cL_law 284 = .ok (.invokevirtual 33, 3) := by decide +kernel
theorem dL_law_287 : decode cL_law 287 = .ok (.aload_n 2, 1) := by decide +kernel
theorem dL_law_288 : decode cL_law 288 = .ok (.aload_n 0, 1) := by decide +kernel
theorem dL_law_289 : decode cL_law 289 = .ok (.iload_n 3, 1) := by decide +kernel
theorem dL_law_290 : decode cL_law 290 = .ok (.iconst 1, 1) := by decide +kernel
theorem dL_law_291 : decode cL_law 291 = .ok (.iadd, 1) := by decide +kernel
theorem dL_law_292 : decode cL_law 292 = .ok (.iaload, 1) := by decide +kernel
theorem dL_law_293 : decode cL_law 293 = .ok (.aload_n 0, 1) := by decide +kernel
theorem dL_law_294 : decode cL_law 294 = .ok (.iload_n 3, 1) := by decide +kernel
theorem dL_law_295 : decode cL_law 295 = .ok (.iconst 2, 1) := by decide +kernel
theorem dL_law_296 : decode cL_law 296 = .ok (.iadd, 1) := by decide +kernel
theorem dL_law_297 : decode cL_law 297 = .ok (.iaload, 1) := by decide +kernel
theorem dL_law_298 : decode cL_law 298 = .ok (.aload_n 0, 1) := by decide +kernel
theorem dL_law_299 : decode cL_law 299 = .ok (.iload_n 3, 1) := by decide +kernel
theorem dL_law_300 : decode cL_law 300 = .ok (.iconst 3, 1) := by decide +kernel
theorem dL_law_301 : decode cL_law 301 = .ok (.iadd, 1) := by decide +kernel
theorem dL_law_302 : decode cL_law 302 = .ok (.iaload, 1) := by decide +kernel
theorem dL_law_303 : decode cL_law 303 = .ok (.invokevirtual 36, 3) := by decide +kernel
theorem dL_law_306 : decode cL_law 306 = .ok (.if_icmp .eq 322, 3) := by decide +kernel
theorem dL_law_309 : decode cL_law 309 = .ok (.iconst 0, 1) := by decide +kernel
theorem dL_law_310 : decode cL_law 310 = .ok (.ireturn, 1) := by decide +kernel
theorem dL_law_311 : decode cL_law 311 = .ok (.aload_n 1, 1) := by decide +kernel
theorem dL_law_312 : decode cL_law 312 = .ok (.aload_n 0, 1) := by decide +kernel
theorem dL_law_313 : decode cL_law 313 = .ok (.iload_n 3, 1) := by decide +kernel
theorem dL_law_314 : decode cL_law 314 = .ok (.iconst 1, 1) := by decide +kernel
theorem dL_law_315 : decode cL_law 315 = .ok (.iadd, 1) := by decide +kernel
theorem dL_law_316 : decode cL_law 316 = .ok (.iaload, 1) := by decide +kernel
theorem dL_law_317 : decode cL_law 317 = .ok (.aload_n 0, 1) := by decide +kernel
theorem dL_law_318 : decode cL_law 318 = .ok (.iload_n 3, 1) := by decide +kernel
theorem dL_law_319 : decode cL_law 319 = .ok (.iconst 2, 1) := by decide +kernel
theorem dL_law_320 : decode cL_law 320 = .ok (.iadd, 1) := by decide +kernel
theorem dL_law_321 : decode cL_law 321 = .ok (.iaload, 1) := by decide +kernel
theorem dL_law_322 : decode cL_law 322 = .ok (.invokevirtual 37, 3) := by decide +kernel
theorem dL_law_325 : decode cL_law 325 = .ok (.aload_n 2, 1) := by decide +kernel
theorem dL_law_326 : decode cL_law 326 = .ok (.aload_n 0, 1) := by decide +kernel
theorem dL_law_327 : decode cL_law 327 = .ok (.iload_n 3, 1) := by decide +kernel
theorem dL_law_328 : decode cL_law 328 = .ok (.iconst 1, 1) := by decide +kernel
theorem dL_law_329 : decode cL_law 329 = .ok (.iadd, 1) := by decide +kernel
theorem dL_law_330 : decode cL_law 330 = .ok (.iaload, 1) := by decide +kernel
theorem dL_law_331 : decode cL_law 331 = .ok (.aload_n 0, 1) := by decide +kernel
theorem dL_law_332 : decode cL_law 332 = .ok (.iload_n 3, 1) := by decide +kernel
theorem dL_law_333 : decode cL_law 333 = .ok (.iconst 2, 1) := by decide +kernel
theorem dL_law_334 : decode cL_law 334 = .ok (.iadd, 1) := by decide +kernel
theorem dL_law_335 : decode cL_law 335 = .ok (.iaload, 1) := by decide +kernel
theorem dL_law_336 : decode cL_law 336 = .ok (.invokevirtual 40, 3) := by decide +kernel
theorem dL_law_339 : decode cL_law 339 = .ok (.if_icmp .eq 289, 3) := by decide +kernel
theorem dL_law_342 : decode cL_law 342 = .ok (.iconst 0, 1) := by decide +kernel
theorem dL_law_343 : decode cL_law 343 = .ok (.ireturn, 1) := by decide +kernel
theorem dL_law_344 : decode cL_law 344 = .ok (.aload_n 1, 1) := by decide +kernel
theorem dL_law_345 : decode cL_law 345 = .ok (.aload_n 0, 1) := by decide +kernel
theorem dL_law_346 : decode cL_law 346 = .ok (.iload_n 3, 1) := by decide +kernel
theorem dL_law_347 : decode cL_law 347 = .ok (.iconst 1, 1) := by decide +kernel
theorem dL_law_348 : decode cL_law 348 = .ok (.iadd, 1) := by decide +kernel
theorem dL_law_349 : decode cL_law 349 = .ok (.iaload, 1) := by decide +kernel
theorem dL_law_350 : decode cL_law 350 = .ok (.invokevirtual 41, 3) := by decide +kernel
theorem dL_law_353 : decode cL_law 353 = .ok (.aload_n 2, 1) := by decide +kernel
theorem dL_law_354 : decode cL_law 354 = .ok (.aload_n 0, 1) := by decide +kernel
theorem dL_law_355 : decode cL_law 355 = .ok (.iload_n 3, 1) := by decide +kernel
theorem dL_law_356 : decode cL_law 356 = .ok (.iconst 1, 1) := by decide +kernel
theorem dL_law_357 : decode cL_law 357 = .ok (.iadd, 1) := by decide +kernel
theorem dL_law_358 : decode cL_law 358 = .ok (.iaload, 1) := by decide +kernel
theorem dL_law_359 : decode cL_law 359 = .ok (.invokevirtual 44, 3) := by decide +kernel
theorem dL_law_362 : decode cL_law 362 = .ok (.if_icmp .eq 266, 3) := by decide +kernel
theorem dL_law_365 : decode cL_law 365 = .ok (.iconst 0, 1) := by decide +kernel
theorem dL_law_366 : decode cL_law 366 = .ok (.ireturn, 1) := by decide +kernel
theorem dL_law_367 : decode cL_law 367 = .ok (.aload_n 1, 1) := by decide +kernel
theorem dL_law_368 : decode cL_law 368 = .ok (.aload_n 0, 1) := by decide +kernel
theorem dL_law_369 : decode cL_law 369 = .ok (.iload_n 3, 1) := by decide +kernel
theorem dL_law_370 : decode cL_law 370 = .ok (.iconst 1, 1) := by decide +kernel
theorem dL_law_371 : decode cL_law 371 = .ok (.iadd, 1) := by decide +kernel
theorem dL_law_372 : decode cL_law 372 = .ok (.iaload, 1) := by decide +kernel
theorem dL_law_373 : decode cL_law 373 = .ok (.aload_n 0, 1) := by decide +kernel
theorem dL_law_374 : decode cL_law 374 = .ok (.iload_n 3, 1) := by decide +kernel
theorem dL_law_375 : decode cL_law 375 = .ok (.iconst 2, 1) := by decide +kernel
theorem dL_law_376 : decode cL_law 376 = .ok (.iadd, 1) := by decide +kernel
theorem dL_law_377 : decode cL_law 377 = .ok (.iaload, 1) := by decide +kernel
theorem dL_law_378 : decode cL_law 378 = .ok (.invokevirtual 45, 3) := by decide +kernel
theorem dL_law_381 : decode cL_law 381 = .ok (.aload_n 2, 1) := by decide +kernel
theorem dL_law_382 : decode cL_law 382 = .ok (.aload_n 0, 1) := by decide +kernel
theorem dL_law_383 : decode cL_law 383 = .ok (.iload_n 3, 1) := by decide +kernel
theorem dL_law_384 : decode cL_law 384 = .ok (.iconst 1, 1) := by decide +kernel
theorem dL_law_385 : decode cL_law 385 = .ok (.iadd, 1) := by decide +kernel
theorem dL_law_386 : decode cL_law 386 = .ok (.iaload, 1) := by decide +kernel
theorem dL_law_387 : decode cL_law 387 = .ok (.aload_n 0, 1) := by decide +kernel
theorem dL_law_388 : decode cL_law 388 = .ok (.iload_n 3, 1) := by decide +kernel
theorem dL_law_389 : decode cL_law 389 = .ok (.iconst 2, 1) := by decide +kernel
theorem dL_law_390 : decode cL_law 390 = .ok (.iadd, 1) := by decide +kernel
theorem dL_law_391 : decode cL_law 391 = .ok (.iaload, 1) := by decide +kernel
theorem dL_law_392 : decode cL_law 392 = .ok (.invokevirtual 48, 3) := by decide +kernel
theorem dL_law_395 : decode cL_law 395 = .ok (.if_icmp .eq 233, 3) := by decide +kernel
theorem dL_law_398 : decode cL_law 398 = .ok (.iconst 0, 1) := by decide +kernel
theorem dL_law_399 : decode cL_law 399 = .ok (.ireturn, 1) := by decide +kernel
theorem dL_law_400 : decode cL_law 400 = .ok (.aload_n 1, 1) := by decide +kernel
theorem dL_law_401 : decode cL_law 401 = .ok (.aload_n 0, 1) := by decide +kernel
theorem dL_law_402 : decode cL_law 402 = .ok (.iload_n 3, 1) := by decide +kernel
theorem dL_law_403 : decode cL_law 403 = .ok (.iconst 1, 1) := by decide +kernel
theorem dL_law_404 : decode cL_law 404 = .ok (.iadd, 1) := by decide +kernel
theorem dL_law_405 : decode cL_law 405 = .ok (.iaload, 1) := by decide +kernel
theorem dL_law_406 : decode cL_law 406 = .ok (.invokevirtual 49, 3) := by decide +kernel
theorem dL_law_409 : decode cL_law 409 = .ok (.aload_n 2, 1) := by decide +kernel
theorem dL_law_410 : decode cL_law 410 = .ok (.aload_n 0, 1) := by decide +kernel
theorem dL_law_411 : decode cL_law 411 = .ok (.iload_n 3, 1) := by decide +kernel
theorem dL_law_412 : decode cL_law 412 = .ok (.iconst 1, 1) := by decide +kernel
theorem dL_law_413 : decode cL_law 413 = .ok (.iadd, 1) := by decide +kernel
theorem dL_law_414 : decode cL_law 414 = .ok (.iaload, 1) := by decide +kernel
theorem dL_law_415 : decode cL_law 415 = .ok (.invokevirtual 52, 3) := by decide +kernel
theorem dL_law_418 : decode cL_law 418 = .ok (.if_icmp .eq 210, 3) := by decide +kernel
theorem dL_law_421 : decode cL_law 421 = .ok (.iconst 0, 1) := by decide +kernel
theorem dL_law_422 : decode cL_law 422 = .ok (.ireturn, 1) := by decide +kernel
theorem dL_law_423 : decode cL_law 423 = .ok (.aload_n 1, 1) := by decide +kernel
theorem dL_law_424 : decode cL_law 424 = .ok (.aload_n 0, 1) := by decide +kernel
theorem dL_law_425 : decode cL_law 425 = .ok (.iload_n 3, 1) := by decide +kernel
theorem dL_law_426 : decode cL_law 426 = .ok (.iconst 1, 1) := by decide +kernel
theorem dL_law_427 : decode cL_law 427 = .ok (.iadd, 1) := by decide +kernel
theorem dL_law_428 : decode cL_law 428 = .ok (.iaload, 1) := by decide +kernel
theorem dL_law_429 : decode cL_law 429 = .ok (.aload_n 0, 1) := by decide +kernel
theorem dL_law_430 : decode cL_law 430 = .ok (.iload_n 3, 1) := by decide +kernel
theorem dL_law_431 : decode cL_law 431 = .ok (.iconst 2, 1) := by decide +kernel
theorem dL_law_432 : decode cL_law 432 = .ok (.iadd, 1) := by decide +kernel
theorem dL_law_433 : decode cL_law 433 = .ok (.iaload, 1) := by decide +kernel
theorem dL_law_434 : decode cL_law 434 = .ok (.invokevirtual 53, 3) := by decide +kernel
theorem dL_law_437 : decode cL_law 437 = .ok (.aload_n 2, 1) := by decide +kernel
theorem dL_law_438 : decode cL_law 438 = .ok (.aload_n 0, 1) := by decide +kernel
theorem dL_law_439 : decode cL_law 439 = .ok (.iload_n 3, 1) := by decide +kernel
theorem dL_law_440 : decode cL_law 440 = .ok (.iconst 1, 1) := by decide +kernel
theorem dL_law_441 : decode cL_law 441 = .ok (.iadd, 1) := by decide +kernel
theorem dL_law_442 : decode cL_law 442 = .ok (.iaload, 1) := by decide +kernel
theorem dL_law_443 : decode cL_law 443 = .ok (.aload_n 0, 1) := by decide +kernel
theorem dL_law_444 : decode cL_law 444 = .ok (.iload_n 3, 1) := by decide +kernel
theorem dL_law_445 : decode cL_law 445 = .ok (.iconst 2, 1) := by decide +kernel
theorem dL_law_446 : decode cL_law 446 = .ok (.iadd, 1) := by decide +kernel
theorem dL_law_447 : decode cL_law 447 = .ok (.iaload, 1) := by decide +kernel
theorem dL_law_448 : decode cL_law 448 = .ok (.invokevirtual 56, 3) := by decide +kernel
theorem dL_law_451 : decode cL_law 451 = .ok (.if_icmp .eq 177, 3) := by decide +kernel
theorem dL_law_454 : decode cL_law 454 = .ok (.iconst 0, 1) := by decide +kernel
theorem dL_law_455 : decode cL_law 455 = .ok (.ireturn, 1) := by decide +kernel
theorem dL_law_456 : decode cL_law 456 = .ok (.aload_n 1, 1) := by decide +kernel
theorem dL_law_457 : decode cL_law 457 = .ok (.invokevirtual 57, 3) := by decide +kernel
theorem dL_law_460 : decode cL_law 460 = .ok (.aload_n 2, 1) := by decide +kernel
theorem dL_law_461 : decode cL_law 461 = .ok (.invokevirtual 61, 3) := by decide +kernel
theorem dL_law_464 : decode cL_law 464 = .ok (.if_icmp .eq 164, 3) := by decide +kernel
theorem dL_law_467 : decode cL_law 467 = .ok (.iconst 0, 1) := by decide +kernel
theorem dL_law_468 : decode cL_law 468 = .ok (.ireturn, 1) := by decide +kernel
theorem dL_law_469 : decode cL_law 469 = .ok (.aload_n 1, 1) := by decide +kernel
theorem dL_law_470 : decode cL_law 470 = .ok (.invokevirtual 62, 3) := by decide +kernel
theorem dL_law_473 : decode cL_law 473 = .ok (.aload_n 2, 1) := by decide +kernel
theorem dL_law_474 : decode cL_law 474 = .ok (.invokevirtual 65, 3) := by decide +kernel
theorem dL_law_477 : decode cL_law 477 = .ok (.if_icmp .eq 151, 3) := by decide +kernel
theorem dL_law_480 : decode cL_law 480 = .ok (.iconst 0, 1) := by decide +kernel
theorem dL_law_481 : decode cL_law 481 = .ok (.ireturn, 1) := by decide +kernel
theorem dL_law_482 : decode cL_law 482 = .ok (.aload_n 1, 1) := by decide +kernel
theorem dL_law_483 : decode cL_law 483 = .ok (.invokevirtual 66, 3) := by decide +kernel
theorem dL_law_486 : decode cL_law 486 = .ok (.aload_n 2, 1) := by decide +kernel
theorem dL_law_487 : decode cL_law 487 = .ok (.invokevirtual 69, 3) := by decide +kernel
theorem dL_law_490 : decode cL_law 490 = .ok (.if_icmp .eq 138, 3) := by decide +kernel
theorem dL_law_493 : decode cL_law 493 = .ok (.iconst 0, 1) := by decide +kernel
theorem dL_law_494 : decode cL_law 494 = .ok (.ireturn, 1) := by decide +kernel
theorem dL_law_495 : decode cL_law 495 = .ok (.aload_n 1, 1) := by decide +kernel
theorem dL_law_496 : decode cL_law 496 = .ok (.aload_n 0, 1) := by decide +kernel
theorem dL_law_497 : decode cL_law 497 = .ok (.iload_n 3, 1) := by decide +kernel
theorem dL_law_498 : decode cL_law 498 = .ok (.iconst 1, 1) := by decide +kernel
theorem dL_law_499 : decode cL_law 499 = .ok (.iadd, 1) := by decide +kernel
theorem dL_law_500 : decode cL_law 500 = .ok (.iaload, 1) := by decide +kernel
theorem dL_law_501 : decode cL_law 501 = .ok (.aload_n 0, 1) := by decide +kernel
theorem dL_law_502 : decode cL_law 502 = .ok (.iload_n 3, 1) := by decide +kernel
theorem dL_law_503 : decode cL_law 503 = .ok (.iconst 2, 1) := by decide +kernel
theorem dL_law_504 : decode cL_law 504 = .ok (.iadd, 1) := by decide +kernel
theorem dL_law_505 : decode cL_law 505 = .ok (.iaload, 1) := by decide +kernel
theorem dL_law_506 : decode cL_law 506 = .ok (.invokevirtual 70, 3) := by decide +kernel
theorem dL_law_509 : decode cL_law 509 = .ok (.aload_n 2, 1) := by decide +kernel
theorem dL_law_510 : decode cL_law 510 = .ok (.aload_n 0, 1) := by decide +kernel
theorem dL_law_511 : decode cL_law 511 = .ok (.iload_n 3, 1) := by decide +kernel
theorem dL_law_512 : decode cL_law 512 = .ok (.iconst 1, 1) := by decide +kernel
theorem dL_law_513 : decode cL_law 513 = .ok (.iadd, 1) := by decide +kernel
theorem dL_law_514 : decode cL_law 514 = .ok (.iaload, 1) := by decide +kernel
theorem dL_law_515 : decode cL_law 515 = .ok (.aload_n 0, 1) := by decide +kernel
theorem dL_law_516 : decode cL_law 516 = .ok (.iload_n 3, 1) := by decide +kernel
theorem dL_law_517 : decode cL_law 517 = .ok (.iconst 2, 1) := by decide +kernel
theorem dL_law_518 : decode cL_law 518 = .ok (.iadd, 1) := by decide +kernel
theorem dL_law_519 : decode cL_law 519 = .ok (.iaload, 1) := by decide +kernel
theorem dL_law_520 : decode cL_law 520 = .ok (.invokevirtual 73, 3) := by decide +kernel
theorem dL_law_523 : decode cL_law 523 = .ok (.if_icmp .eq 105, 3) := by decide +kernel
theorem dL_law_526 : decode cL_law 526 = .ok (.iconst 0, 1) := by decide +kernel
theorem dL_law_527 : decode cL_law 527 = .ok (.ireturn, 1) := by decide +kernel
theorem dL_law_528 : decode cL_law 528 = .ok (.aload_n 1, 1) := by decide +kernel
theorem dL_law_529 : decode cL_law 529 = .ok (.aload_n 0, 1) := by decide +kernel
theorem dL_law_530 : decode cL_law 530 = .ok (.iload_n 3, 1) := by decide +kernel
theorem dL_law_531 : decode cL_law 531 = .ok (.iconst 1, 1) := by decide +kernel
theorem dL_law_532 : decode cL_law 532 = .ok (.iadd, 1) := by decide +kernel
theorem dL_law_533 : decode cL_law 533 = .ok (.iaload, 1) := by decide +kernel
theorem dL_law_534 : decode cL_law 534 = .ok (.aload_n 0, 1) := by decide +kernel
theorem dL_law_535 : decode cL_law 535 = .ok (.iload_n 3, 1) := by decide +kernel
theorem dL_law_536 : decode cL_law 536 = .ok (.iconst 2, 1) := by decide +kernel
theorem dL_law_537 : decode cL_law 537 = .ok (.iadd, 1) := by decide +kernel
theorem dL_law_538 : decode cL_law 538 = .ok (.iaload, 1) := by decide +kernel
theorem dL_law_539 : decode cL_law 539 = .ok (.invokevirtual 74, 3) := by decide +kernel
theorem dL_law_542 : decode cL_law 542 = .ok (.aload_n 2, 1) := by decide +kernel
theorem dL_law_543 : decode cL_law 543 = .ok (.aload_n 0, 1) := by decide +kernel
theorem dL_law_544 : decode cL_law 544 = .ok (.iload_n 3, 1) := by decide +kernel
theorem dL_law_545 : decode cL_law 545 = .ok (.iconst 1, 1) := by decide +kernel
theorem dL_law_546 : decode cL_law 546 = .ok (.iadd, 1) := by decide +kernel
theorem dL_law_547 : decode cL_law 547 = .ok (.iaload, 1) := by decide +kernel
theorem dL_law_548 : decode cL_law 548 = .ok (.aload_n 0, 1) := by decide +kernel
theorem dL_law_549 : decode cL_law 549 = .ok (.iload_n 3, 1) := by decide +kernel
theorem dL_law_550 : decode cL_law 550 = .ok (.iconst 2, 1) := by decide +kernel
theorem dL_law_551 : decode cL_law 551 = .ok (.iadd, 1) := by decide +kernel
theorem dL_law_552 : decode cL_law 552 = .ok (.iaload, 1) := by decide +kernel
theorem dL_law_553 : decode cL_law 553 = .ok (.invokevirtual 78, 3) := by decide +kernel
theorem dL_law_556 : decode cL_law 556 = .ok (.lcmp, 1) := by decide +kernel
theorem dL_law_557 : decode cL_law 557 = .ok (.ifCond .eq 71, 3) := by decide +kernel
theorem dL_law_560 : decode cL_law 560 = .ok (.iconst 0, 1) := by decide +kernel
theorem dL_law_561 : decode cL_law 561 = .ok (.ireturn, 1) := by decide +kernel
theorem dL_law_562 : decode cL_law 562 = .ok (.aload_n 1, 1) := by decide +kernel
theorem dL_law_563 : decode cL_law 563 = .ok (.aload_n 0, 1) := by decide +kernel
theorem dL_law_564 : decode cL_law 564 = .ok (.iload_n 3, 1) := by decide +kernel
theorem dL_law_565 : decode cL_law 565 = .ok (.iconst 1, 1) := by decide +kernel
theorem dL_law_566 : decode cL_law 566 = .ok (.iadd, 1) := by decide +kernel
theorem dL_law_567 : decode cL_law 567 = .ok (.iaload, 1) := by decide +kernel
theorem dL_law_568 : decode cL_law 568 = .ok (.invokevirtual 79, 3) := by decide +kernel
theorem dL_law_571 : decode cL_law 571 = .ok (.aload_n 2, 1) := by decide +kernel
theorem dL_law_572 : decode cL_law 572 = .ok (.aload_n 0, 1) := by decide +kernel
theorem dL_law_573 : decode cL_law 573 = .ok (.iload_n 3, 1) := by decide +kernel
theorem dL_law_574 : decode cL_law 574 = .ok (.iconst 1, 1) := by decide +kernel
theorem dL_law_575 : decode cL_law 575 = .ok (.iadd, 1) := by decide +kernel
theorem dL_law_576 : decode cL_law 576 = .ok (.iaload, 1) := by decide +kernel
theorem dL_law_577 : decode cL_law 577 = .ok (.invokevirtual 82, 3) := by decide +kernel
theorem dL_law_580 : decode cL_law 580 = .ok (.if_icmp .eq 48, 3) := by decide +kernel
theorem dL_law_583 : decode cL_law 583 = .ok (.iconst 0, 1) := by decide +kernel
theorem dL_law_584 : decode cL_law 584 = .ok (.ireturn, 1) := by decide +kernel
theorem dL_law_585 : decode cL_law 585 = .ok (.aload_n 1, 1) := by decide +kernel
theorem dL_law_586 : decode cL_law 586 = .ok (.aload_n 0, 1) := by decide +kernel
theorem dL_law_587 : decode cL_law 587 = .ok (.iload_n 3, 1) := by decide +kernel
theorem dL_law_588 : decode cL_law 588 = .ok (.iconst 1, 1) := by decide +kernel
theorem dL_law_589 : decode cL_law 589 = .ok (.iadd, 1) := by decide +kernel
theorem dL_law_590 : decode cL_law 590 = .ok (.iaload, 1) := by decide +kernel
theorem dL_law_591 : decode cL_law 591 = .ok (.aload_n 0, 1) := by decide +kernel
theorem dL_law_592 : decode cL_law 592 = .ok (.iload_n 3, 1) := by decide +kernel
theorem dL_law_593 : decode cL_law 593 = .ok (.iconst 2, 1) := by decide +kernel
theorem dL_law_594 : decode cL_law 594 = .ok (.iadd, 1) := by decide +kernel
theorem dL_law_595 : decode cL_law 595 = .ok (.iaload, 1) := by decide +kernel
theorem dL_law_596 : decode cL_law 596 = .ok (.aload_n 0, 1) := by decide +kernel
theorem dL_law_597 : decode cL_law 597 = .ok (.iload_n 3, 1) := by decide +kernel
theorem dL_law_598 : decode cL_law 598 = .ok (.iconst 3, 1) := by decide +kernel
theorem dL_law_599 : decode cL_law 599 = .ok (.iadd, 1) := by decide +kernel
theorem dL_law_600 : decode cL_law 600 = .ok (.iaload, 1) := by decide +kernel
theorem dL_law_601 : decode cL_law 601 = .ok (.invokevirtual 83, 3) := by decide +kernel
theorem dL_law_604 : decode cL_law 604 = .ok (.aload_n 2, 1) := by decide +kernel
theorem dL_law_605 : decode cL_law 605 = .ok (.aload_n 0, 1) := by decide +kernel
theorem dL_law_606 : decode cL_law 606 = .ok (.iload_n 3, 1) := by decide +kernel
theorem dL_law_607 : decode cL_law 607 = .ok (.iconst 1, 1) := by decide +kernel
theorem dL_law_608 : decode cL_law 608 = .ok (.iadd, 1) := by decide +kernel
theorem dL_law_609 : decode cL_law 609 = .ok (.iaload, 1) := by decide +kernel
theorem dL_law_610 : decode cL_law 610 = .ok (.aload_n 0, 1) := by decide +kernel
theorem dL_law_611 : decode cL_law 611 = .ok (.iload_n 3, 1) := by decide +kernel
theorem dL_law_612 : decode cL_law 612 = .ok (.iconst 2, 1) := by decide +kernel
theorem dL_law_613 : decode cL_law 613 = .ok (.iadd, 1) := by decide +kernel
theorem dL_law_614 : decode cL_law 614 = .ok (.iaload, 1) := by decide +kernel
theorem dL_law_615 : decode cL_law 615 = .ok (.aload_n 0, 1) := by decide +kernel
theorem dL_law_616 : decode cL_law 616 = .ok (.iload_n 3, 1) := by decide +kernel
theorem dL_law_617 : decode cL_law 617 = .ok (.iconst 3, 1) := by decide +kernel
theorem dL_law_618 : decode cL_law 618 = .ok (.iadd, 1) := by decide +kernel
theorem dL_law_619 : decode cL_law 619 = .ok (.iaload, 1) := by decide +kernel
theorem dL_law_620 : decode cL_law 620 = .ok (.invokevirtual 86, 3) := by decide +kernel
theorem dL_law_623 : decode cL_law 623 = .ok (.if_icmp .eq 5, 3) := by decide +kernel
theorem dL_law_626 : decode cL_law 626 = .ok (.iconst 0, 1) := by decide +kernel
theorem dL_law_627 : decode cL_law 627 = .ok (.ireturn, 1) := by decide +kernel
theorem dL_law_628 : decode cL_law 628 = .ok (.iinc 3 5, 3) := by decide +kernel
theorem dL_law_631 : decode cL_law 631 = .ok (.goto (-613), 3) := by decide +kernel
theorem dL_law_634 : decode cL_law 634 = .ok (.iconst 1, 1) := by decide +kernel
theorem dL_law_635 : decode cL_law 635 = .ok (.ireturn, 1) := by decide +kernel
end
section
/-! helpers of my own: names for computed values, joins, loops, a table of four rows, read-only arrays -/
section AX
variable {p : Program} {l : Launch} {e : Env} {R : Room} {s : State} {m : MethodId} {args : Array Value} {below : List Frame} {meth : Method} {c : Code} {H : Heap} {locs : List Loc} {cells slots : Nat} {Q : State → Prop}
variable {cc : ByteArray} {pc : Nat} {ls : Array Slot} {rest : List Value} {D : va_G} {cl : List vw_C} {A : Nat → Prop} {a : Nat} {tys : List (ClassId × FieldType)} {ws : va_W} {H0 : Heap}
theorem ax_nmI {x : Int32} (y : Int32) (h : x = y) (k : W p l e R s m args below meth c H locs cells slots Q (F0 m pc ls (.int y :: rest))) : W p l e R s m args below meth c H locs cells slots Q (F0 m pc ls (.int x :: rest)) := by rw [h]; exact k
theorem ax_nmL {x : Int64} (y : Int64) (h : x = y) (k : W p l e R s m args below meth c H locs cells slots Q (F0 m pc ls (.long y :: rest))) : W p l e R s m args below meth c H locs cells slots Q (F0 m pc ls (.long x :: rest)) := by rw [h]; exact k
theorem ax_joinI {g : JFrame} (J : Nat) (v : Int32) (ls : Array Slot) (rest : List Value) (k : W p l e R s m args below meth c H locs cells slots Q (F0 m J ls (.int v :: rest))) (br : (∀ u : Int32, u = v → W p l e R s m args below meth c H locs cells slots Q (F0 m J ls (.int u :: rest))) → W p l e R s m args below meth c H locs cells slots Q g) : W p l e R s m args below meth c H locs cells slots Q g := br (fun u h => by rw [h]; exact k)
theorem ax_joinL {g : JFrame} (J : Nat) (v : Int64) (ls : Array Slot) (rest : List Value) (k : W p l e R s m args below meth c H locs cells slots Q (F0 m J ls (.long v :: rest))) (br : (∀ u : Int64, u = v → W p l e R s m args below meth c H locs cells slots Q (F0 m J ls (.long u :: rest))) → W p l e R s m args below meth c H locs cells slots Q g) : W p l e R s m args below meth c H locs cells slots Q g := br (fun u h => by rw [h]; exact k)
theorem ax_loopS {pc : Nat} (I : Nat → Heap → List Loc → Array Slot → Prop) (N : Nat)
    (hs : ∀ i, i ≤ N → (i < N → ∀ H locs ls, I (i + 1) H locs ls → W p l e R s m args below meth c H locs cells slots Q (F0 m pc ls [])) → ∀ H locs ls, I i H locs ls → W p l e R s m args below meth c H locs cells slots Q (F0 m pc ls []))
    (h0 : I 0 H locs ls) : W p l e R s m args below meth c H locs cells slots Q (F0 m pc ls []) := by
  have key : ∀ n i, i ≤ N → N ≤ i + n → ∀ H locs ls, I i H locs ls → W p l e R s m args below meth c H locs cells slots Q (F0 m pc ls []) := by
    intro n
    induction n with
    | zero => intro i h1 h2; exact hs i h1 (fun h => absurd h (by omega))
    | succ n ih => intro i h1 h2; exact hs i h1 (fun h => ih (i + 1) (by omega) (by omega))
  exact key N 0 (Nat.zero_le _) (by omega) H locs ls h0
theorem ax_loopP {pc : Nat} (I : Nat → Array Slot → Prop) (N : Nat)
    (hs : ∀ i, i ≤ N → (i < N → ∀ ls, I (i + 1) ls → W p l e R s m args below meth c H locs cells slots Q (F0 m pc ls [])) → ∀ ls, I i ls → W p l e R s m args below meth c H locs cells slots Q (F0 m pc ls []))
    (h0 : I 0 ls) : W p l e R s m args below meth c H locs cells slots Q (F0 m pc ls []) := by
  have key : ∀ n i, i ≤ N → N ≤ i + n → ∀ ls, I i ls → W p l e R s m args below meth c H locs cells slots Q (F0 m pc ls []) := by
    intro n
    induction n with
    | zero => intro i h1 h2; exact hs i h1 (fun h => absurd h (by omega))
    | succ n ih => intro i h1 h2; exact hs i h1 (fun h => ih (i + 1) (by omega) (by omega))
  exact key N 0 (Nat.zero_le _) (by omega) ls h0
theorem ax_nb {v : Int32} (h : v = 0 ∨ v = 1) : narrow .boolean (.int v) = .int v := by rcases h with rfl | rfl <;> rfl
theorem ax_lt4 {i : Int32} {n : Nat} (h : vp_in i n) : i.toNatClampNeg < n := Nat.not_le.mp fun q => h (Or.inr q)
def ax_rows (r : Nat → Nat) : Nat → Option Nat := fun i => if i < 4 then some (r i) else none
theorem ax_aald (hexec : p.tables.exec = Jvm.exec) (hb : c.code = cc) (hK : va_K D cl tys s) (hP : va_P D cl ws H) (q0 t0 : Nat) {cA : ClassId} {r : Nat → Nat} (ha : ws[q0]? = some (a, .inl (cA, 4, .inr (.inr (.inr (.inr (ax_rows r))))))) (ht : tys[t0]? = some (cA, .array .int)) {i : Int32} (hin : vp_in i 4) (hdg : decode cc pc = .ok (.aaload, 1))
    (kk : W p l e R s m args below meth c H locs cells slots Q (F0 m (pc + 1) ls (.ref (r i.toNatClampNeg) :: rest))) : W p l e R s m args below meth c H locs cells slots Q (F0 m pc ls (.int i :: .ref a :: rest)) := by
  have hlt : i.toNatClampNeg < 4 := ax_lt4 hin
  have hv : va_rf (ax_rows r i.toNatClampNeg) = .ref (r i.toNatClampNeg) := by unfold ax_rows; rw [if_pos hlt]; rfl
  exact W.aald (v := .ref (r i.toNatClampNeg)) (ty := .array .int) hexec hb (hP q0 _ ha) ((hK.2 t0 _ ht).1 4 (fun j => va_rf (ax_rows r j))) rfl (fun q => by cases q) (by show ¬ (i < 0 ∨ (arrV _ _ _).slots.size ≤ _); rw [arrV_size]; exact hin) (by show (arrV _ _ _).slots[_]? = _; rw [arrV_read _ _ hlt]; exact congrArg some hv) rfl rfl hdg kk
theorem ax_get {c0 c1 : Nat × va_E} {r : Nat → Nat} {cI : ClassId} {n : Nat} {M : Nat → Nat → Int32} {rs : va_W} {i : Nat} (h : i < 4) : (c0 :: c1 :: (r 0, .inl (cI, n, .inl (M 0))) :: (r 1, .inl (cI, n, .inl (M 1))) :: (r 2, .inl (cI, n, .inl (M 2))) :: (r 3, .inl (cI, n, .inl (M 3))) :: rs : va_W)[2 + i]? = some (r i, .inl (cI, n, .inl (M i))) := by
  match i, h with
  | 0, _ => rfl
  | 1, _ => rfl
  | 2, _ => rfl
  | 3, _ => rfl
theorem ax_set {c0 c1 : Nat × va_E} {r : Nat → Nat} {cI : ClassId} {n : Nat} {M : Nat → Nat → Int32} {f : Nat → Int32} {rs : va_W} {i : Nat} (h : i < 4) : (c0 :: c1 :: (r 0, .inl (cI, n, .inl (M 0))) :: (r 1, .inl (cI, n, .inl (M 1))) :: (r 2, .inl (cI, n, .inl (M 2))) :: (r 3, .inl (cI, n, .inl (M 3))) :: rs : va_W).set (2 + i) (r i, .inl (cI, n, .inl f)) = c0 :: c1 :: (r 0, .inl (cI, n, .inl (va_up M i f 0))) :: (r 1, .inl (cI, n, .inl (va_up M i f 1))) :: (r 2, .inl (cI, n, .inl (va_up M i f 2))) :: (r 3, .inl (cI, n, .inl (va_up M i f 3))) :: rs := by
  match i, h with
  | 0, _ => rfl
  | 1, _ => rfl
  | 2, _ => rfl
  | 3, _ => rfl
theorem ax_tld {t N : Nat} {f : Nat → Int32} (hexec : p.tables.exec = Jvm.exec) (hb : c.code = cc) (hT : va_T .int t N (fun j => .int (f j)) A s s.heap) (hS : va_S A s.heap H locs) {i : Int32} (hin : vp_in i N) (hdg : decode cc pc = .ok (.iaload, 1))
    (kk : W p l e R s m args below meth c H locs cells slots Q (F0 m (pc + 1) ls (.int (f i.toNatClampNeg) :: rest))) : W p l e R s m args below meth c H locs cells slots Q (F0 m pc ls (.int i :: .ref t :: rest)) := va_ti hexec hb hT hS hin rfl hdg kk
/-- a cell of the world that a callee doesn't get, as an array that it may only read -/
theorem ax_ro (hK : va_K D cl tys s) (t0 : Nat) {cA : ClassId} (ht : tys[t0]? = some (cA, .int)) {wc : va_W} (hP : va_P D cl ws H) (hD : va_D A ws) (k : Nat) {n : Nat} {f : Nat → Int32} (ha : ws[k]? = some (a, .inl (cA, n, .inl f))) (isC : List Nat) (hC : isC.map (fun i => ws[i]?) = wc.map some) (hk : k ∉ isC) (hn : n < 2 ^ 31) : va_T .int a n (fun j => .int (f j)) (va_A wc H.size) s H := by
  have hcell : H[a]? = some (vp_cell cA (n, .inl f)) := hP k _ ha
  refine ⟨vp_cell cA (n, .inl f), hcell, (hK.2 t0 _ ht).1 n (fun j => .int (f j)), fun q => (by cases q), ?_, ?_, ?_, ?_⟩
  · show n ≤ (arrV cA n (fun j => .int (f j))).slots.size
    rw [arrV_size]; exact Nat.le_refl _
  · show (arrV cA n (fun j => .int (f j))).slots.size.toInt32 = _
    rw [arrV_size]
  · intro j hj
    show (arrV cA n (fun j => .int (f j))).slots[j]? = _
    rw [arrV_read _ _ hj]
  · rintro (⟨q, e9, hq⟩ | h9)
    · have h1 : (wc.map some)[q]? = some (some (a, e9)) := by rw [List.getElem?_map, hq]; rfl
      rw [← hC, List.getElem?_map] at h1
      cases hi : isC[q]? with
      | none => rw [hi] at h1; cases h1
      | some i =>
        rw [hi] at h1
        have h2 : ws[i]? = some (a, e9) := Option.some.inj h1
        have h3 : i = k := hD.1 i k _ _ h2 ha rfl
        exact hk (h3 ▸ List.mem_of_getElem? hi)
    · exact absurd ((Array.getElem?_eq_some_iff.mp hcell).1) (Nat.not_lt.mpr h9)
end AX
theorem ax_ne {x k : Int32} {z : Int} (h : ¬ x = k) (hz : k.toInt = z) : x.toInt ≠ z := fun q => h (Int32.toInt_inj.mp (q.trans hz.symm))
theorem ax_end {i N : Nat} {K : Int32} (hK : K = nI N) (hN : N < 2 ^ 31) (hi : i ≤ N) (c : K ≤ nI i) : i = N := by
  rw [hK] at c
  have := (nI_leI hN (by omega)).mp c
  omega
theorem ax_more {i N : Nat} {K : Int32} (hK : K = nI N) (hN : N < 2 ^ 31) (hi : i ≤ N) (c : ¬ K ≤ nI i) : i < N := by
  rw [hK] at c
  have h : ¬ N ≤ i := fun q => c ((nI_leI hN (by omega)).mpr q)
  omega
theorem ax_endL {i N : Nat} {K : Int32} (hK : K = nI N) (hN : N + 1 < 2 ^ 31) (hi : i ≤ N) (c : K < nI (i + 1)) : i = N := by
  rw [hK] at c
  have := (nI_ltI (by omega) (by omega)).mp c
  omega
theorem ax_moreL {i N : Nat} {K : Int32} (hK : K = nI N) (hN : N + 1 < 2 ^ 31) (hi : i ≤ N) (c : ¬ K < nI (i + 1)) : i < N := by
  rw [hK] at c
  have h : ¬ N < i + 1 := fun q => c ((nI_ltI (by omega) (by omega)).mpr q)
  omega
theorem ax_look2 {d o1 o2 : Int} {x : Int32} (h0 : x.toInt ≠ 0) (h1 : x.toInt ≠ 1) : Op.lookupswitch.offset [(0, o1), (1, o2)] d x.toInt = d := by
  simp [Op.lookupswitch.offset, h0, h1, Ne.symm h0, Ne.symm h1]
end
section
def fX1_isTable (p0 : Int32) : Int32 := (if p0 < 0 then 0 else (if 4 ≤ p0 then 0 else 1))
theorem fX1_isTable_01 (p0 : Int32) : (fX1_isTable p0) = 0 ∨ (fX1_isTable p0) = 1 := by unfold fX1_isTable; (repeat' split) <;> simp
set_option maxHeartbeats 4000000 in
set_option maxRecDepth 100000 in
theorem kX1_isTable (l : Launch) (dC : Nat → ClassId) (dI : Nat → Nat → Nat) (p0 : Int32)  : Met l yX1_isTable wsX1_isTable ({ frames := 0, cells := 0, slots := 0, locals := 0 } : Room) (va_Pc [.int p0] (fun U => True)) (vp_Si (fun r : Int32 => r = (fX1_isTable p0))) 0 0 (fun _ => False) := by
  refine Met.ofW (cc := cX1_isTable) (maxL := 1) (ret := (some .boolean)) (by decide) rfl ?_
  intro p e s m args below meth c s₁ B hml hv
  obtain ⟨rfl, _⟩ := hv
  have hx := B.exec
  have hb := B.bytes
  have hr := B.returns
  have hts := atoms_spec (ws := wsX1_isTable) B.pre
  have hown : s.vm.findClass RX1 = some m.cls := findClass_of_methodNamed B.named
  have hlocks := B.notSynchronized
  have hS : va_S (fun _ => False) s.heap s.heap [] := va_S.rf
  have hl := lv_entry ([.int p0]) (n := 1) (Nat.le_of_ble_eq_true rfl)
  rw [lg_entry_eq]
  generalize (lg_sl ([.int p0]) ++ List.replicate (1 - (lg_sl ([.int p0])).length) Slot.unset).toArray = ls at hl ⊢
  have hl : lv_has ls 1 [(0, .int p0)] := hl
  refine lv_iload_n hx hb dX1_isTable_0 rfl (lv_at hl 0 rfl) ?_
  refine lv_if_lt (tgt := 13) hx hb dX1_isTable_1 (by decide) (fun c_1_1 => ?_) (fun c_1_1 => ?_)
  · refine lv_iconst (v := 0) hx hb dX1_isTable_13 (by decide) ?_
    exact W.zret (ty := .boolean) (v := 0) hx hb hr rfl (fun t ht hW => ⟨0, rfl, (by unfold fX1_isTable; rw [if_pos c_1_1]), ht⟩) (fun q h => absurd h List.not_mem_nil) dX1_isTable_14
  · refine lv_iload_n hx hb dX1_isTable_4 rfl (lv_at hl 0 rfl) ?_
    refine lv_iconst (v := 4) hx hb dX1_isTable_5 (by decide) ?_
    refine lv_icmp_ge (tgt := 13) hx hb dX1_isTable_6 (by decide) (fun c_6_2 => ?_) (fun c_6_2 => ?_)
    · refine lv_iconst (v := 0) hx hb dX1_isTable_13 (by decide) ?_
      exact W.zret (ty := .boolean) (v := 0) hx hb hr rfl (fun t ht hW => ⟨0, rfl, (by unfold fX1_isTable; rw [if_neg c_1_1, if_pos c_6_2]), ht⟩) (fun q h => absurd h List.not_mem_nil) dX1_isTable_14
    · refine lv_iconst (v := 1) hx hb dX1_isTable_9 (by decide) ?_
      refine lv_goto (tgt := 14) hx hb dX1_isTable_10 (by decide) ?_
      exact W.zret (ty := .boolean) (v := 1) hx hb hr rfl (fun t ht hW => ⟨1, rfl, (by unfold fX1_isTable; rw [if_neg c_1_1, if_neg c_6_2]), ht⟩) (fun q h => absurd h List.not_mem_nil) dX1_isTable_14

def fX1_isCell (p0 : Int32) (p1 : Int32) : Int32 := (if p0 < 0 then 0 else (if 16 ≤ p0 then 0 else (if p1 < (-64) then 0 else (if 63 < p1 then 0 else 1))))
theorem fX1_isCell_01 (p0 : Int32) (p1 : Int32) : (fX1_isCell p0 p1) = 0 ∨ (fX1_isCell p0 p1) = 1 := by unfold fX1_isCell; (repeat' split) <;> simp
set_option maxHeartbeats 4000000 in
set_option maxRecDepth 100000 in
theorem kX1_isCell (l : Launch) (dC : Nat → ClassId) (dI : Nat → Nat → Nat) (p0 : Int32) (p1 : Int32)  : Met l yX1_isCell wsX1_isCell ({ frames := 0, cells := 0, slots := 0, locals := 0 } : Room) (va_Pc [.int p0, .int p1] (fun U => True)) (vp_Si (fun r : Int32 => r = (fX1_isCell p0 p1))) 0 0 (fun _ => False) := by
  refine Met.ofW (cc := cX1_isCell) (maxL := 2) (ret := (some .boolean)) (by decide) rfl ?_
  intro p e s m args below meth c s₁ B hml hv
  obtain ⟨rfl, _⟩ := hv
  have hx := B.exec
  have hb := B.bytes
  have hr := B.returns
  have hts := atoms_spec (ws := wsX1_isCell) B.pre
  have hown : s.vm.findClass RX1 = some m.cls := findClass_of_methodNamed B.named
  have hlocks := B.notSynchronized
  have hS : va_S (fun _ => False) s.heap s.heap [] := va_S.rf
  have hl := lv_entry ([.int p0, .int p1]) (n := 2) (Nat.le_of_ble_eq_true rfl)
  rw [lg_entry_eq]
  generalize (lg_sl ([.int p0, .int p1]) ++ List.replicate (2 - (lg_sl ([.int p0, .int p1])).length) Slot.unset).toArray = ls at hl ⊢
  have hl : lv_has ls 2 [(0, .int p0), (1, .int p1)] := hl
  refine lv_iload_n hx hb dX1_isCell_0 rfl (lv_at hl 0 rfl) ?_
  refine lv_if_lt (tgt := 26) hx hb dX1_isCell_1 (by decide) (fun c_1_1 => ?_) (fun c_1_1 => ?_)
  · refine lv_iconst (v := 0) hx hb dX1_isCell_26 (by decide) ?_
    exact W.zret (ty := .boolean) (v := 0) hx hb hr rfl (fun t ht hW => ⟨0, rfl, (by unfold fX1_isCell; rw [if_pos c_1_1]), ht⟩) (fun q h => absurd h List.not_mem_nil) dX1_isCell_27
  · refine lv_iload_n hx hb dX1_isCell_4 rfl (lv_at hl 0 rfl) ?_
    refine lv_bipush (v := 16) hx hb dX1_isCell_5 (by decide) ?_
    refine lv_icmp_ge (tgt := 26) hx hb dX1_isCell_7 (by decide) (fun c_7_2 => ?_) (fun c_7_2 => ?_)
    · refine lv_iconst (v := 0) hx hb dX1_isCell_26 (by decide) ?_
      exact W.zret (ty := .boolean) (v := 0) hx hb hr rfl (fun t ht hW => ⟨0, rfl, (by unfold fX1_isCell; rw [if_neg c_1_1, if_pos c_7_2]), ht⟩) (fun q h => absurd h List.not_mem_nil) dX1_isCell_27
    · refine lv_iload_n hx hb dX1_isCell_10 rfl (lv_at hl 1 rfl) ?_
      refine lv_bipush (v := (-64)) hx hb dX1_isCell_11 (by decide) ?_
      refine lv_icmp_lt (tgt := 26) hx hb dX1_isCell_13 (by decide) (fun c_13_3 => ?_) (fun c_13_3 => ?_)
      · refine lv_iconst (v := 0) hx hb dX1_isCell_26 (by decide) ?_
        exact W.zret (ty := .boolean) (v := 0) hx hb hr rfl (fun t ht hW => ⟨0, rfl, (by unfold fX1_isCell; rw [if_neg c_1_1, if_neg c_7_2, if_pos c_13_3]), ht⟩) (fun q h => absurd h List.not_mem_nil) dX1_isCell_27
      · refine lv_iload_n hx hb dX1_isCell_16 rfl (lv_at hl 1 rfl) ?_
        refine lv_bipush (v := 63) hx hb dX1_isCell_17 (by decide) ?_
        refine lv_icmp_gt (tgt := 26) hx hb dX1_isCell_19 (by decide) (fun c_19_4 => ?_) (fun c_19_4 => ?_)
        · refine lv_iconst (v := 0) hx hb dX1_isCell_26 (by decide) ?_
          exact W.zret (ty := .boolean) (v := 0) hx hb hr rfl (fun t ht hW => ⟨0, rfl, (by unfold fX1_isCell; rw [if_neg c_1_1, if_neg c_7_2, if_neg c_13_3, if_pos c_19_4]), ht⟩) (fun q h => absurd h List.not_mem_nil) dX1_isCell_27
        · refine lv_iconst (v := 1) hx hb dX1_isCell_22 (by decide) ?_
          refine lv_goto (tgt := 27) hx hb dX1_isCell_23 (by decide) ?_
          exact W.zret (ty := .boolean) (v := 1) hx hb hr rfl (fun t ht hW => ⟨1, rfl, (by unfold fX1_isCell; rw [if_neg c_1_1, if_neg c_7_2, if_neg c_13_3, if_neg c_19_4]), ht⟩) (fun q h => absurd h List.not_mem_nil) dX1_isCell_27

def fX1_isDigit (p0 : Int32) : Int32 := (if p0 < (-2) then 0 else (if 2 < p0 then 0 else 1))
theorem fX1_isDigit_01 (p0 : Int32) : (fX1_isDigit p0) = 0 ∨ (fX1_isDigit p0) = 1 := by unfold fX1_isDigit; (repeat' split) <;> simp
set_option maxHeartbeats 4000000 in
set_option maxRecDepth 100000 in
theorem kX1_isDigit (l : Launch) (dC : Nat → ClassId) (dI : Nat → Nat → Nat) (p0 : Int32)  : Met l yX1_isDigit wsX1_isDigit ({ frames := 0, cells := 0, slots := 0, locals := 0 } : Room) (va_Pc [.int p0] (fun U => True)) (vp_Si (fun r : Int32 => r = (fX1_isDigit p0))) 0 0 (fun _ => False) := by
  refine Met.ofW (cc := cX1_isDigit) (maxL := 1) (ret := (some .boolean)) (by decide) rfl ?_
  intro p e s m args below meth c s₁ B hml hv
  obtain ⟨rfl, _⟩ := hv
  have hx := B.exec
  have hb := B.bytes
  have hr := B.returns
  have hts := atoms_spec (ws := wsX1_isDigit) B.pre
  have hown : s.vm.findClass RX1 = some m.cls := findClass_of_methodNamed B.named
  have hlocks := B.notSynchronized
  have hS : va_S (fun _ => False) s.heap s.heap [] := va_S.rf
  have hl := lv_entry ([.int p0]) (n := 1) (Nat.le_of_ble_eq_true rfl)
  rw [lg_entry_eq]
  generalize (lg_sl ([.int p0]) ++ List.replicate (1 - (lg_sl ([.int p0])).length) Slot.unset).toArray = ls at hl ⊢
  have hl : lv_has ls 1 [(0, .int p0)] := hl
  refine lv_iload_n hx hb dX1_isDigit_0 rfl (lv_at hl 0 rfl) ?_
  refine lv_bipush (v := (-2)) hx hb dX1_isDigit_1 (by decide) ?_
  refine lv_icmp_lt (tgt := 15) hx hb dX1_isDigit_3 (by decide) (fun c_3_1 => ?_) (fun c_3_1 => ?_)
  · refine lv_iconst (v := 0) hx hb dX1_isDigit_15 (by decide) ?_
    exact W.zret (ty := .boolean) (v := 0) hx hb hr rfl (fun t ht hW => ⟨0, rfl, (by unfold fX1_isDigit; rw [if_pos c_3_1]), ht⟩) (fun q h => absurd h List.not_mem_nil) dX1_isDigit_16
  · refine lv_iload_n hx hb dX1_isDigit_6 rfl (lv_at hl 0 rfl) ?_
    refine lv_iconst (v := 2) hx hb dX1_isDigit_7 (by decide) ?_
    refine lv_icmp_gt (tgt := 15) hx hb dX1_isDigit_8 (by decide) (fun c_8_2 => ?_) (fun c_8_2 => ?_)
    · refine lv_iconst (v := 0) hx hb dX1_isDigit_15 (by decide) ?_
      exact W.zret (ty := .boolean) (v := 0) hx hb hr rfl (fun t ht hW => ⟨0, rfl, (by unfold fX1_isDigit; rw [if_neg c_3_1, if_pos c_8_2]), ht⟩) (fun q h => absurd h List.not_mem_nil) dX1_isDigit_16
    · refine lv_iconst (v := 1) hx hb dX1_isDigit_11 (by decide) ?_
      refine lv_goto (tgt := 16) hx hb dX1_isDigit_12 (by decide) ?_
      exact W.zret (ty := .boolean) (v := 1) hx hb hr rfl (fun t ht hW => ⟨1, rfl, (by unfold fX1_isDigit; rw [if_neg c_3_1, if_neg c_8_2]), ht⟩) (fun q h => absurd h List.not_mem_nil) dX1_isDigit_16

def fX1_cellAt (p0 : Int32) (p1 : Int32) : Int32 := ((p0 * 128) + p1) - (-64)
set_option maxHeartbeats 4000000 in
set_option maxRecDepth 100000 in
theorem kX1_cellAt (l : Launch) (dC : Nat → ClassId) (dI : Nat → Nat → Nat) (p0 : Int32) (p1 : Int32)  : Met l yX1_cellAt wsX1_cellAt ({ frames := 0, cells := 0, slots := 0, locals := 0 } : Room) (va_Pc [.int p0, .int p1] (fun U => True)) (vp_Si (fun r : Int32 => r = (fX1_cellAt p0 p1))) 0 0 (fun _ => False) := by
  refine Met.ofW (cc := cX1_cellAt) (maxL := 2) (ret := (some .int)) (by decide) rfl ?_
  intro p e s m args below meth c s₁ B hml hv
  obtain ⟨rfl, _⟩ := hv
  have hx := B.exec
  have hb := B.bytes
  have hr := B.returns
  have hts := atoms_spec (ws := wsX1_cellAt) B.pre
  have hown : s.vm.findClass RX1 = some m.cls := findClass_of_methodNamed B.named
  have hlocks := B.notSynchronized
  have hS : va_S (fun _ => False) s.heap s.heap [] := va_S.rf
  have hl := lv_entry ([.int p0, .int p1]) (n := 2) (Nat.le_of_ble_eq_true rfl)
  rw [lg_entry_eq]
  generalize (lg_sl ([.int p0, .int p1]) ++ List.replicate (2 - (lg_sl ([.int p0, .int p1])).length) Slot.unset).toArray = ls at hl ⊢
  have hl : lv_has ls 2 [(0, .int p0), (1, .int p1)] := hl
  refine lv_iload_n hx hb dX1_cellAt_0 rfl (lv_at hl 0 rfl) ?_
  refine lv_sipush (v := 128) hx hb dX1_cellAt_1 (by decide) ?_
  refine lv_imul hx hb dX1_cellAt_4 ?_
  refine lv_iload_n hx hb dX1_cellAt_5 rfl (lv_at hl 1 rfl) ?_
  refine lv_iadd hx hb dX1_cellAt_6 ?_
  refine lv_bipush (v := (-64)) hx hb dX1_cellAt_7 (by decide) ?_
  refine lv_isub hx hb dX1_cellAt_9 ?_
  exact W.iret (v := ((p0 * 128) + p1) - (-64)) hx hb hr (fun t ht hW => ⟨((p0 * 128) + p1) - (-64), rfl, rfl, ht⟩) (fun q h => absurd h List.not_mem_nil) dX1_cellAt_10

def fX1_leastDivisor_m5 (p1 : Int32) : Int32 := (if p1 < (-(p1 + 2)) then (-(p1 + 2)) else p1)
def fX1_leastDivisor_m18 (p0 : Int32) (p1 : Int32) : Int32 := (if (4 * (16 + p0)) < (3 * (fX1_leastDivisor_m5 p1)) then (3 * (fX1_leastDivisor_m5 p1)) else (4 * (16 + p0)))
def fX1_leastDivisor (p0 : Int32) (p1 : Int32) : Int32 := (fX1_leastDivisor_m18 p0 p1)
set_option maxHeartbeats 4000000 in
set_option maxRecDepth 100000 in
theorem kX1_leastDivisor (l : Launch) (dC : Nat → ClassId) (dI : Nat → Nat → Nat) (p0 : Int32) (p1 : Int32)  : Met l yX1_leastDivisor wsX1_leastDivisor ({ frames := 1, cells := 0, slots := 0, locals := 13 } : Room) (va_Pc [.int p0, .int p1] (fun U => True)) (vp_Si (fun r : Int32 => r = (fX1_leastDivisor p0 p1))) 0 0 (fun _ => False) := by
  refine Met.ofW (cc := cX1_leastDivisor) (maxL := 3) (ret := (some .int)) (by decide) rfl ?_
  intro p e s m args below meth c s₁ B hml hv
  obtain ⟨rfl, _⟩ := hv
  have hx := B.exec
  have hb := B.bytes
  have hr := B.returns
  have hts := atoms_spec (ws := wsX1_leastDivisor) B.pre
  have hown : s.vm.findClass RX1 = some m.cls := findClass_of_methodNamed B.named
  have hlocks := B.notSynchronized
  have hS : va_S (fun _ => False) s.heap s.heap [] := va_S.rf
  have hl := lv_entry ([.int p0, .int p1]) (n := 3) (Nat.le_of_ble_eq_true rfl)
  rw [lg_entry_eq]
  generalize (lg_sl ([.int p0, .int p1]) ++ List.replicate (3 - (lg_sl ([.int p0, .int p1])).length) Slot.unset).toArray = ls at hl ⊢
  have hl : lv_has ls 3 [(0, .int p0), (1, .int p1)] := hl
  refine lv_iload_n hx hb dX1_leastDivisor_0 rfl (lv_at hl 1 rfl) ?_
  refine lv_iload_n hx hb dX1_leastDivisor_1 rfl (lv_at hl 1 rfl) ?_
  refine lv_iconst (v := 2) hx hb dX1_leastDivisor_2 (by decide) ?_
  refine lv_iadd hx hb dX1_leastDivisor_3 ?_
  refine lv_ineg hx hb dX1_leastDivisor_4 ?_
  refine va_mmax hx hb (hml.trans hl.1.symm) hown (hts (.methodLink RX1 118 Lib.Math.max.name) (by decide +kernel)) (hts (.static Lib.Math.max.name) (by decide +kernel)) (hts (.initialized "java/lang/Math") (by decide +kernel)) (hts (.code Lib.Math.max.name Lib.Math.max.code 2 (some .int)) (by decide +kernel)) (Nat.le_of_ble_eq_true rfl) (Nat.le_of_ble_eq_true rfl) (Nat.zero_le _) (Nat.zero_le _) dX1_leastDivisor_5 ?_
  refine ax_nmI (y := (fX1_leastDivisor_m5 p1)) rfl ?_
  refine lv_istore_n (lv' := [(2, .int (fX1_leastDivisor_m5 p1)), (0, .int p0), (1, .int p1)]) hx hb dX1_leastDivisor_8 rfl hl (by decide) rfl (fun ls hl => ?_)
  refine lv_iconst (v := 4) hx hb dX1_leastDivisor_9 (by decide) ?_
  refine lv_bipush (v := 16) hx hb dX1_leastDivisor_10 (by decide) ?_
  refine lv_iload_n hx hb dX1_leastDivisor_12 rfl (lv_at hl 1 rfl) ?_
  refine lv_iadd hx hb dX1_leastDivisor_13 ?_
  refine lv_imul hx hb dX1_leastDivisor_14 ?_
  refine lv_iconst (v := 3) hx hb dX1_leastDivisor_15 (by decide) ?_
  refine lv_iload_n hx hb dX1_leastDivisor_16 rfl (lv_at hl 0 rfl) ?_
  refine lv_imul hx hb dX1_leastDivisor_17 ?_
  refine va_mmax hx hb (hml.trans hl.1.symm) hown (hts (.methodLink RX1 118 Lib.Math.max.name) (by decide +kernel)) (hts (.static Lib.Math.max.name) (by decide +kernel)) (hts (.initialized "java/lang/Math") (by decide +kernel)) (hts (.code Lib.Math.max.name Lib.Math.max.code 2 (some .int)) (by decide +kernel)) (Nat.le_of_ble_eq_true rfl) (Nat.le_of_ble_eq_true rfl) (Nat.zero_le _) (Nat.zero_le _) dX1_leastDivisor_18 ?_
  refine ax_nmI (y := (fX1_leastDivisor_m18 p0 p1)) rfl ?_
  exact W.iret (v := (fX1_leastDivisor_m18 p0 p1)) hx hb hr (fun t ht hW => ⟨(fX1_leastDivisor_m18 p0 p1), rfl, rfl, ht⟩) (fun q h => absurd h List.not_mem_nil) dX1_leastDivisor_21

def fX1_endOfDivisors (p0 : Int32) : Int32 := 4 * (17 + p0)
set_option maxHeartbeats 4000000 in
set_option maxRecDepth 100000 in
theorem kX1_endOfDivisors (l : Launch) (dC : Nat → ClassId) (dI : Nat → Nat → Nat) (p0 : Int32)  : Met l yX1_endOfDivisors wsX1_endOfDivisors ({ frames := 0, cells := 0, slots := 0, locals := 0 } : Room) (va_Pc [.int p0] (fun U => True)) (vp_Si (fun r : Int32 => r = (fX1_endOfDivisors p0))) 0 0 (fun _ => False) := by
  refine Met.ofW (cc := cX1_endOfDivisors) (maxL := 1) (ret := (some .int)) (by decide) rfl ?_
  intro p e s m args below meth c s₁ B hml hv
  obtain ⟨rfl, _⟩ := hv
  have hx := B.exec
  have hb := B.bytes
  have hr := B.returns
  have hts := atoms_spec (ws := wsX1_endOfDivisors) B.pre
  have hown : s.vm.findClass RX1 = some m.cls := findClass_of_methodNamed B.named
  have hlocks := B.notSynchronized
  have hS : va_S (fun _ => False) s.heap s.heap [] := va_S.rf
  have hl := lv_entry ([.int p0]) (n := 1) (Nat.le_of_ble_eq_true rfl)
  rw [lg_entry_eq]
  generalize (lg_sl ([.int p0]) ++ List.replicate (1 - (lg_sl ([.int p0])).length) Slot.unset).toArray = ls at hl ⊢
  have hl : lv_has ls 1 [(0, .int p0)] := hl
  refine lv_iconst (v := 4) hx hb dX1_endOfDivisors_0 (by decide) ?_
  refine lv_bipush (v := 17) hx hb dX1_endOfDivisors_1 (by decide) ?_
  refine lv_iload_n hx hb dX1_endOfDivisors_3 rfl (lv_at hl 0 rfl) ?_
  refine lv_iadd hx hb dX1_endOfDivisors_4 ?_
  refine lv_imul hx hb dX1_endOfDivisors_5 ?_
  exact W.iret (v := 4 * (17 + p0)) hx hb hr (fun t ht hW => ⟨4 * (17 + p0), rfl, rfl, ht⟩) (fun q h => absurd h List.not_mem_nil) dX1_endOfDivisors_6

def fX1_holdsAny (p0 : Int32) (p1 : Int32) : Int32 := (if (fX1_endOfDivisors p0) ≤ (fX1_leastDivisor p0 p1) then 0 else 1)
theorem fX1_holdsAny_01 (p0 : Int32) (p1 : Int32) : (fX1_holdsAny p0 p1) = 0 ∨ (fX1_holdsAny p0 p1) = 1 := by unfold fX1_holdsAny; (repeat' split) <;> simp
set_option maxHeartbeats 4000000 in
set_option maxRecDepth 100000 in
theorem kX1_holdsAny (l : Launch) (dC : Nat → ClassId) (dI : Nat → Nat → Nat) (p0 : Int32) (p1 : Int32)  : Met l yX1_holdsAny wsX1_holdsAny ({ frames := 2, cells := 0, slots := 0, locals := 35 } : Room) (va_Pc [.int p0, .int p1] (fun U => True)) (vp_Si (fun r : Int32 => r = (fX1_holdsAny p0 p1))) 0 0 (fun _ => False) := by
  refine Met.ofW (cc := cX1_holdsAny) (maxL := 2) (ret := (some .boolean)) (by decide) rfl ?_
  intro p e s m args below meth c s₁ B hml hv
  obtain ⟨rfl, _⟩ := hv
  have hx := B.exec
  have hb := B.bytes
  have hr := B.returns
  have hts := atoms_spec (ws := wsX1_holdsAny) B.pre
  have hown : s.vm.findClass RX1 = some m.cls := findClass_of_methodNamed B.named
  have hlocks := B.notSynchronized
  have hS : va_S (fun _ => False) s.heap s.heap [] := va_S.rf
  have hl := lv_entry ([.int p0, .int p1]) (n := 2) (Nat.le_of_ble_eq_true rfl)
  rw [lg_entry_eq]
  generalize (lg_sl ([.int p0, .int p1]) ++ List.replicate (2 - (lg_sl ([.int p0, .int p1])).length) Slot.unset).toArray = ls at hl ⊢
  have hl : lv_has ls 2 [(0, .int p0), (1, .int p1)] := hl
  refine lv_iload_n hx hb dX1_holdsAny_0 rfl (lv_at hl 0 rfl) ?_
  refine lv_iload_n hx hb dX1_holdsAny_1 rfl (lv_at hl 1 rfl) ?_
  refine vp_callSi (W.runS (As := [.int p0, .int p1]) (rest := []) ⟨hx, hb, hml, hown, hts⟩ (kX1_leastDivisor l dC dI p0 p1) (va_cwS 2 hts gX1_holdsAny_X1_leastDivisor rfl rfl rfl (by decide +kernel) ⟨Nat.le_of_ble_eq_true rfl, Nat.le_of_ble_eq_true rfl⟩) ⟨fun a U g mk q => by obtain ⟨q0, qt⟩ := q; exact ⟨q0, qt⟩, fun U hU hW => ⟨rfl, trivial⟩⟩ rfl rfl hl.1 rfl (lv_room (Nat.le_of_ble_eq_true rfl)) dX1_holdsAny_2 ⟨Nat.zero_le _, Nat.zero_le _⟩) (fun r_1 hr_1 => ?_)
  subst hr_1
  refine lv_iload_n hx hb dX1_holdsAny_5 rfl (lv_at hl 0 rfl) ?_
  refine vp_callSi (W.runS (As := [.int p0]) (rest := [.int (fX1_leastDivisor p0 p1)]) ⟨hx, hb, hml, hown, hts⟩ (kX1_endOfDivisors l dC dI p0) (va_cwS 1 hts gX1_holdsAny_X1_endOfDivisors rfl rfl rfl (by decide +kernel) ⟨Nat.le_of_ble_eq_true rfl, Nat.le_of_ble_eq_true rfl⟩) ⟨fun a U g mk q => by obtain ⟨q0, qt⟩ := q; exact ⟨q0, qt⟩, fun U hU hW => ⟨rfl, trivial⟩⟩ rfl rfl hl.1 rfl (lv_room (Nat.le_of_ble_eq_true rfl)) dX1_holdsAny_6 ⟨Nat.zero_le _, Nat.zero_le _⟩) (fun r_2 hr_2 => ?_)
  subst hr_2
  refine lv_icmp_ge (tgt := 16) hx hb dX1_holdsAny_9 (by decide) (fun c_9_3 => ?_) (fun c_9_3 => ?_)
  · refine lv_iconst (v := 0) hx hb dX1_holdsAny_16 (by decide) ?_
    exact W.zret (ty := .boolean) (v := 0) hx hb hr rfl (fun t ht hW => ⟨0, rfl, (by unfold fX1_holdsAny; rw [if_pos c_9_3]), ht⟩) (fun q h => absurd h List.not_mem_nil) dX1_holdsAny_17
  · refine lv_iconst (v := 1) hx hb dX1_holdsAny_12 (by decide) ?_
    refine lv_goto (tgt := 17) hx hb dX1_holdsAny_13 (by decide) ?_
    exact W.zret (ty := .boolean) (v := 1) hx hb hr rfl (fun t ht hW => ⟨1, rfl, (by unfold fX1_holdsAny; rw [if_neg c_9_3]), ht⟩) (fun q h => absurd h List.not_mem_nil) dX1_holdsAny_17

def fX1_staysWithin_j69 (p0 : Int32) (p1 : Int32) (p2 : Int32) : Int32 := (if p2 = 2 then 1 else (if (((3 * p2) + 2) * (fX1_leastDivisor p0 p1)) < (24 * (p1 + 2)) then 0 else (if (((3 * p2) + 2) * (fX1_endOfDivisors p0)) < (24 * (p1 + 2)) then 0 else 1)))
def fX1_staysWithin_j101 (p0 : Int32) (p1 : Int32) (p2 : Int32) : Int32 := (if p2 = (-2) then 1 else (if (24 * p1) < (((3 * p2) - 2) * (fX1_leastDivisor p0 p1)) then 0 else (if (24 * p1) < (((3 * p2) - 2) * (fX1_endOfDivisors p0)) then 0 else 1)))
def fX1_staysWithin (p0 : Int32) (p1 : Int32) (p2 : Int32) : Int32 := (if (fX1_staysWithin_j69 p0 p1 p2) = 0 then 0 else (if (fX1_staysWithin_j101 p0 p1 p2) = 0 then 0 else 1))
theorem fX1_staysWithin_01 (p0 : Int32) (p1 : Int32) (p2 : Int32) : (fX1_staysWithin p0 p1 p2) = 0 ∨ (fX1_staysWithin p0 p1 p2) = 1 := by unfold fX1_staysWithin; (repeat' split) <;> simp
set_option maxHeartbeats 4000000 in
set_option maxRecDepth 100000 in
theorem kX1_staysWithin (l : Launch) (dC : Nat → ClassId) (dI : Nat → Nat → Nat) (p0 : Int32) (p1 : Int32) (p2 : Int32)  : Met l yX1_staysWithin wsX1_staysWithin ({ frames := 2, cells := 0, slots := 0, locals := 35 } : Room) (va_Pc [.int p0, .int p1, .int p2] (fun U => True)) (vp_Si (fun r : Int32 => r = (fX1_staysWithin p0 p1 p2))) 0 0 (fun _ => False) := by
  refine Met.ofW (cc := cX1_staysWithin) (maxL := 11) (ret := (some .boolean)) (by decide) rfl ?_
  intro p e s m args below meth c s₁ B hml hv
  obtain ⟨rfl, _⟩ := hv
  have hx := B.exec
  have hb := B.bytes
  have hr := B.returns
  have hts := atoms_spec (ws := wsX1_staysWithin) B.pre
  have hown : s.vm.findClass RX1 = some m.cls := findClass_of_methodNamed B.named
  have hlocks := B.notSynchronized
  have hS : va_S (fun _ => False) s.heap s.heap [] := va_S.rf
  have hl := lv_entry ([.int p0, .int p1, .int p2]) (n := 11) (Nat.le_of_ble_eq_true rfl)
  rw [lg_entry_eq]
  generalize (lg_sl ([.int p0, .int p1, .int p2]) ++ List.replicate (11 - (lg_sl ([.int p0, .int p1, .int p2])).length) Slot.unset).toArray = ls at hl ⊢
  have hl : lv_has ls 11 [(0, .int p0), (1, .int p1), (2, .int p2)] := hl
  refine lv_iload_n hx hb dX1_staysWithin_0 rfl (lv_at hl 0 rfl) ?_
  refine lv_iload_n hx hb dX1_staysWithin_1 rfl (lv_at hl 1 rfl) ?_
  refine vp_callSi (W.runS (As := [.int p0, .int p1]) (rest := []) ⟨hx, hb, hml, hown, hts⟩ (kX1_leastDivisor l dC dI p0 p1) (va_cwS 2 hts gX1_staysWithin_X1_leastDivisor rfl rfl rfl (by decide +kernel) ⟨Nat.le_of_ble_eq_true rfl, Nat.le_of_ble_eq_true rfl⟩) ⟨fun a U g mk q => by obtain ⟨q0, qt⟩ := q; exact ⟨q0, qt⟩, fun U hU hW => ⟨rfl, trivial⟩⟩ rfl rfl hl.1 rfl (lv_room (Nat.le_of_ble_eq_true rfl)) dX1_staysWithin_2 ⟨Nat.zero_le _, Nat.zero_le _⟩) (fun r_1 hr_1 => ?_)
  subst hr_1
  refine lv_istore_n (lv' := [(3, .int (fX1_leastDivisor p0 p1)), (0, .int p0), (1, .int p1), (2, .int p2)]) hx hb dX1_staysWithin_5 rfl hl (by decide) rfl (fun ls hl => ?_)
  refine lv_iload_n hx hb dX1_staysWithin_6 rfl (lv_at hl 1 rfl) ?_
  refine vp_callSi (W.runS (As := [.int p0]) (rest := []) ⟨hx, hb, hml, hown, hts⟩ (kX1_endOfDivisors l dC dI p0) (va_cwS 1 hts gX1_staysWithin_X1_endOfDivisors rfl rfl rfl (by decide +kernel) ⟨Nat.le_of_ble_eq_true rfl, Nat.le_of_ble_eq_true rfl⟩) ⟨fun a U g mk q => by obtain ⟨q0, qt⟩ := q; exact ⟨q0, qt⟩, fun U hU hW => ⟨rfl, trivial⟩⟩ rfl rfl hl.1 rfl (lv_room (Nat.le_of_ble_eq_true rfl)) dX1_staysWithin_7 ⟨Nat.zero_le _, Nat.zero_le _⟩) (fun r_2 hr_2 => ?_)
  subst hr_2
  refine lv_istore (lv' := [(4, .int (fX1_endOfDivisors p0)), (3, .int (fX1_leastDivisor p0 p1)), (0, .int p0), (1, .int p1), (2, .int p2)]) hx hb dX1_staysWithin_10 hl (by decide) rfl (fun ls hl => ?_)
  refine lv_bipush (v := 24) hx hb dX1_staysWithin_12 (by decide) ?_
  refine lv_iload_n hx hb dX1_staysWithin_14 rfl (lv_at hl 3 rfl) ?_
  refine lv_iconst (v := 2) hx hb dX1_staysWithin_15 (by decide) ?_
  refine lv_iadd hx hb dX1_staysWithin_16 ?_
  refine lv_imul hx hb dX1_staysWithin_17 ?_
  refine lv_istore (lv' := [(5, .int (24 * (p1 + 2))), (4, .int (fX1_endOfDivisors p0)), (3, .int (fX1_leastDivisor p0 p1)), (0, .int p0), (1, .int p1), (2, .int p2)]) hx hb dX1_staysWithin_18 hl (by decide) rfl (fun ls hl => ?_)
  refine lv_bipush (v := 24) hx hb dX1_staysWithin_20 (by decide) ?_
  refine lv_iload_n hx hb dX1_staysWithin_22 rfl (lv_at hl 4 rfl) ?_
  refine lv_imul hx hb dX1_staysWithin_23 ?_
  refine lv_istore (lv' := [(6, .int (24 * p1)), (5, .int (24 * (p1 + 2))), (4, .int (fX1_endOfDivisors p0)), (3, .int (fX1_leastDivisor p0 p1)), (0, .int p0), (1, .int p1), (2, .int p2)]) hx hb dX1_staysWithin_24 hl (by decide) rfl (fun ls hl => ?_)
  refine lv_iconst (v := 3) hx hb dX1_staysWithin_26 (by decide) ?_
  refine lv_iload_n hx hb dX1_staysWithin_27 rfl (lv_at hl 6 rfl) ?_
  refine lv_imul hx hb dX1_staysWithin_28 ?_
  refine lv_iconst (v := 2) hx hb dX1_staysWithin_29 (by decide) ?_
  refine lv_iadd hx hb dX1_staysWithin_30 ?_
  refine lv_istore (lv' := [(7, .int ((3 * p2) + 2)), (6, .int (24 * p1)), (5, .int (24 * (p1 + 2))), (4, .int (fX1_endOfDivisors p0)), (3, .int (fX1_leastDivisor p0 p1)), (0, .int p0), (1, .int p1), (2, .int p2)]) hx hb dX1_staysWithin_31 hl (by decide) rfl (fun ls hl => ?_)
  refine lv_iconst (v := 3) hx hb dX1_staysWithin_33 (by decide) ?_
  refine lv_iload_n hx hb dX1_staysWithin_34 rfl (lv_at hl 7 rfl) ?_
  refine lv_imul hx hb dX1_staysWithin_35 ?_
  refine lv_iconst (v := 2) hx hb dX1_staysWithin_36 (by decide) ?_
  refine lv_isub hx hb dX1_staysWithin_37 ?_
  refine lv_istore (lv' := [(8, .int ((3 * p2) - 2)), (7, .int ((3 * p2) + 2)), (6, .int (24 * p1)), (5, .int (24 * (p1 + 2))), (4, .int (fX1_endOfDivisors p0)), (3, .int (fX1_leastDivisor p0 p1)), (0, .int p0), (1, .int p1), (2, .int p2)]) hx hb dX1_staysWithin_38 hl (by decide) rfl (fun ls hl => ?_)
  refine lv_iload_n hx hb dX1_staysWithin_40 rfl (lv_at hl 8 rfl) ?_
  refine lv_iconst (v := 2) hx hb dX1_staysWithin_41 (by decide) ?_
  refine ax_joinI (J := 69) (v := (fX1_staysWithin_j69 p0 p1 p2)) (ls := ls) (rest := []) ?_ (fun kj_12 => ?_)
  · refine lv_istore (lv' := [(9, .int (fX1_staysWithin_j69 p0 p1 p2)), (8, .int ((3 * p2) - 2)), (7, .int ((3 * p2) + 2)), (6, .int (24 * p1)), (5, .int (24 * (p1 + 2))), (4, .int (fX1_endOfDivisors p0)), (3, .int (fX1_leastDivisor p0 p1)), (0, .int p0), (1, .int p1), (2, .int p2)]) hx hb dX1_staysWithin_69 hl (by decide) rfl (fun ls hl => ?_)
    refine lv_iload_n hx hb dX1_staysWithin_71 rfl (lv_at hl 9 rfl) ?_
    refine lv_bipush (v := (-2)) hx hb dX1_staysWithin_72 (by decide) ?_
    refine ax_joinI (J := 101) (v := (fX1_staysWithin_j101 p0 p1 p2)) (ls := ls) (rest := []) ?_ (fun kj_11 => ?_)
    · refine lv_istore (lv' := [(10, .int (fX1_staysWithin_j101 p0 p1 p2)), (9, .int (fX1_staysWithin_j69 p0 p1 p2)), (8, .int ((3 * p2) - 2)), (7, .int ((3 * p2) + 2)), (6, .int (24 * p1)), (5, .int (24 * (p1 + 2))), (4, .int (fX1_endOfDivisors p0)), (3, .int (fX1_leastDivisor p0 p1)), (0, .int p0), (1, .int p1), (2, .int p2)]) hx hb dX1_staysWithin_101 hl (by decide) rfl (fun ls hl => ?_)
      refine lv_iload hx hb dX1_staysWithin_103 (lv_at hl 1 rfl) ?_
      refine lv_if_eq (tgt := 117) hx hb dX1_staysWithin_105 (by decide) (fun c_105_9 => ?_) (fun c_105_9 => ?_)
      · refine lv_iconst (v := 0) hx hb dX1_staysWithin_117 (by decide) ?_
        exact W.zret (ty := .boolean) (v := 0) hx hb hr rfl (fun t ht hW => ⟨0, rfl, (by unfold fX1_staysWithin; rw [if_pos c_105_9]), ht⟩) (fun q h => absurd h List.not_mem_nil) dX1_staysWithin_118
      · refine lv_iload hx hb dX1_staysWithin_108 (lv_at hl 0 rfl) ?_
        refine lv_if_eq (tgt := 117) hx hb dX1_staysWithin_110 (by decide) (fun c_110_10 => ?_) (fun c_110_10 => ?_)
        · refine lv_iconst (v := 0) hx hb dX1_staysWithin_117 (by decide) ?_
          exact W.zret (ty := .boolean) (v := 0) hx hb hr rfl (fun t ht hW => ⟨0, rfl, (by unfold fX1_staysWithin; rw [if_neg c_105_9, if_pos c_110_10]), ht⟩) (fun q h => absurd h List.not_mem_nil) dX1_staysWithin_118
        · refine lv_iconst (v := 1) hx hb dX1_staysWithin_113 (by decide) ?_
          refine lv_goto (tgt := 118) hx hb dX1_staysWithin_114 (by decide) ?_
          exact W.zret (ty := .boolean) (v := 1) hx hb hr rfl (fun t ht hW => ⟨1, rfl, (by unfold fX1_staysWithin; rw [if_neg c_105_9, if_neg c_110_10]), ht⟩) (fun q h => absurd h List.not_mem_nil) dX1_staysWithin_118
    · refine lv_icmp_eq (tgt := 96) hx hb dX1_staysWithin_74 (by decide) (fun c_74_6 => ?_) (fun c_74_6 => ?_)
      · refine lv_iconst (v := 1) hx hb dX1_staysWithin_96 (by decide) ?_
        refine lv_goto (tgt := 101) hx hb dX1_staysWithin_97 (by decide) ?_
        exact kj_11 _ (by unfold fX1_staysWithin_j101; rw [if_pos c_74_6])
      · refine lv_iload hx hb dX1_staysWithin_77 (lv_at hl 3 rfl) ?_
        refine lv_iload hx hb dX1_staysWithin_79 (lv_at hl 1 rfl) ?_
        refine lv_iload_n hx hb dX1_staysWithin_81 rfl (lv_at hl 6 rfl) ?_
        refine lv_imul hx hb dX1_staysWithin_82 ?_
        refine lv_icmp_lt (tgt := 100) hx hb dX1_staysWithin_83 (by decide) (fun c_83_7 => ?_) (fun c_83_7 => ?_)
        · refine lv_iconst (v := 0) hx hb dX1_staysWithin_100 (by decide) ?_
          exact kj_11 _ (by unfold fX1_staysWithin_j101; rw [if_neg c_74_6, if_pos c_83_7])
        · refine lv_iload hx hb dX1_staysWithin_86 (lv_at hl 3 rfl) ?_
          refine lv_iload hx hb dX1_staysWithin_88 (lv_at hl 1 rfl) ?_
          refine lv_iload hx hb dX1_staysWithin_90 (lv_at hl 5 rfl) ?_
          refine lv_imul hx hb dX1_staysWithin_92 ?_
          refine lv_icmp_lt (tgt := 100) hx hb dX1_staysWithin_93 (by decide) (fun c_93_8 => ?_) (fun c_93_8 => ?_)
          · refine lv_iconst (v := 0) hx hb dX1_staysWithin_100 (by decide) ?_
            exact kj_11 _ (by unfold fX1_staysWithin_j101; rw [if_neg c_74_6, if_neg c_83_7, if_pos c_93_8])
          · refine lv_iconst (v := 1) hx hb dX1_staysWithin_96 (by decide) ?_
            refine lv_goto (tgt := 101) hx hb dX1_staysWithin_97 (by decide) ?_
            exact kj_11 _ (by unfold fX1_staysWithin_j101; rw [if_neg c_74_6, if_neg c_83_7, if_neg c_93_8])
  · refine lv_icmp_eq (tgt := 64) hx hb dX1_staysWithin_42 (by decide) (fun c_42_3 => ?_) (fun c_42_3 => ?_)
    · refine lv_iconst (v := 1) hx hb dX1_staysWithin_64 (by decide) ?_
      refine lv_goto (tgt := 69) hx hb dX1_staysWithin_65 (by decide) ?_
      exact kj_12 _ (by unfold fX1_staysWithin_j69; rw [if_pos c_42_3])
    · refine lv_iload hx hb dX1_staysWithin_45 (lv_at hl 3 rfl) ?_
      refine lv_iload hx hb dX1_staysWithin_47 (lv_at hl 1 rfl) ?_
      refine lv_iload_n hx hb dX1_staysWithin_49 rfl (lv_at hl 5 rfl) ?_
      refine lv_imul hx hb dX1_staysWithin_50 ?_
      refine lv_icmp_gt (tgt := 68) hx hb dX1_staysWithin_51 (by decide) (fun c_51_4 => ?_) (fun c_51_4 => ?_)
      · refine lv_iconst (v := 0) hx hb dX1_staysWithin_68 (by decide) ?_
        exact kj_12 _ (by unfold fX1_staysWithin_j69; rw [if_neg c_42_3, if_pos c_51_4])
      · refine lv_iload hx hb dX1_staysWithin_54 (lv_at hl 3 rfl) ?_
        refine lv_iload hx hb dX1_staysWithin_56 (lv_at hl 1 rfl) ?_
        refine lv_iload hx hb dX1_staysWithin_58 (lv_at hl 4 rfl) ?_
        refine lv_imul hx hb dX1_staysWithin_60 ?_
        refine lv_icmp_gt (tgt := 68) hx hb dX1_staysWithin_61 (by decide) (fun c_61_5 => ?_) (fun c_61_5 => ?_)
        · refine lv_iconst (v := 0) hx hb dX1_staysWithin_68 (by decide) ?_
          exact kj_12 _ (by unfold fX1_staysWithin_j69; rw [if_neg c_42_3, if_neg c_51_4, if_pos c_61_5])
        · refine lv_iconst (v := 1) hx hb dX1_staysWithin_64 (by decide) ?_
          refine lv_goto (tgt := 69) hx hb dX1_staysWithin_65 (by decide) ?_
          exact kj_12 _ (by unfold fX1_staysWithin_j69; rw [if_neg c_42_3, if_neg c_51_4, if_neg c_61_5])

def fX2_in (p0 : Int32) (p1 : Int32) (p2 : Int32) : Int32 := (if p0 < p1 then 0 else (if p2 < p0 then 0 else 1))
theorem fX2_in_01 (p0 : Int32) (p1 : Int32) (p2 : Int32) : (fX2_in p0 p1 p2) = 0 ∨ (fX2_in p0 p1 p2) = 1 := by unfold fX2_in; (repeat' split) <;> simp
set_option maxHeartbeats 4000000 in
set_option maxRecDepth 100000 in
theorem kX2_in (l : Launch) (dC : Nat → ClassId) (dI : Nat → Nat → Nat) (p0 : Int32) (p1 : Int32) (p2 : Int32)  : Met l yX2_in wsX2_in ({ frames := 0, cells := 0, slots := 0, locals := 0 } : Room) (va_Pc [.int p0, .int p1, .int p2] (fun U => True)) (vp_Si (fun r : Int32 => r = (fX2_in p0 p1 p2))) 0 0 (fun _ => False) := by
  refine Met.ofW (cc := cX2_in) (maxL := 3) (ret := (some .boolean)) (by decide) rfl ?_
  intro p e s m args below meth c s₁ B hml hv
  obtain ⟨rfl, _⟩ := hv
  have hx := B.exec
  have hb := B.bytes
  have hr := B.returns
  have hts := atoms_spec (ws := wsX2_in) B.pre
  have hown : s.vm.findClass RX2 = some m.cls := findClass_of_methodNamed B.named
  have hlocks := B.notSynchronized
  have hS : va_S (fun _ => False) s.heap s.heap [] := va_S.rf
  have hl := lv_entry ([.int p0, .int p1, .int p2]) (n := 3) (Nat.le_of_ble_eq_true rfl)
  rw [lg_entry_eq]
  generalize (lg_sl ([.int p0, .int p1, .int p2]) ++ List.replicate (3 - (lg_sl ([.int p0, .int p1, .int p2])).length) Slot.unset).toArray = ls at hl ⊢
  have hl : lv_has ls 3 [(0, .int p0), (1, .int p1), (2, .int p2)] := hl
  refine lv_iload_n hx hb dX2_in_0 rfl (lv_at hl 0 rfl) ?_
  refine lv_iload_n hx hb dX2_in_1 rfl (lv_at hl 1 rfl) ?_
  refine lv_icmp_lt (tgt := 14) hx hb dX2_in_2 (by decide) (fun c_2_1 => ?_) (fun c_2_1 => ?_)
  · refine lv_iconst (v := 0) hx hb dX2_in_14 (by decide) ?_
    exact W.zret (ty := .boolean) (v := 0) hx hb hr rfl (fun t ht hW => ⟨0, rfl, (by unfold fX2_in; rw [if_pos c_2_1]), ht⟩) (fun q h => absurd h List.not_mem_nil) dX2_in_15
  · refine lv_iload_n hx hb dX2_in_5 rfl (lv_at hl 0 rfl) ?_
    refine lv_iload_n hx hb dX2_in_6 rfl (lv_at hl 2 rfl) ?_
    refine lv_icmp_gt (tgt := 14) hx hb dX2_in_7 (by decide) (fun c_7_2 => ?_) (fun c_7_2 => ?_)
    · refine lv_iconst (v := 0) hx hb dX2_in_14 (by decide) ?_
      exact W.zret (ty := .boolean) (v := 0) hx hb hr rfl (fun t ht hW => ⟨0, rfl, (by unfold fX2_in; rw [if_neg c_2_1, if_pos c_7_2]), ht⟩) (fun q h => absurd h List.not_mem_nil) dX2_in_15
    · refine lv_iconst (v := 1) hx hb dX2_in_10 (by decide) ?_
      refine lv_goto (tgt := 15) hx hb dX2_in_11 (by decide) ?_
      exact W.zret (ty := .boolean) (v := 1) hx hb hr rfl (fun t ht hW => ⟨1, rfl, (by unfold fX2_in; rw [if_neg c_2_1, if_neg c_7_2]), ht⟩) (fun q h => absurd h List.not_mem_nil) dX2_in_15

def fX2_isHeld (p0 : Int32) (p1 : Int32) : Int32 := (if p1 = (-1) then 1 else (if p1 < 0 then (if (4 * (17 + p0)) ≤ ((-3) * (p1 + 2)) then 0 else 1) else (if (4 * (17 + p0)) ≤ (3 * p1) then 0 else 1)))
theorem fX2_isHeld_01 (p0 : Int32) (p1 : Int32) : (fX2_isHeld p0 p1) = 0 ∨ (fX2_isHeld p0 p1) = 1 := by unfold fX2_isHeld; (repeat' split) <;> simp
set_option maxHeartbeats 4000000 in
set_option maxRecDepth 100000 in
theorem kX2_isHeld (l : Launch) (dC : Nat → ClassId) (dI : Nat → Nat → Nat) (p0 : Int32) (p1 : Int32)  : Met l yX2_isHeld wsX2_isHeld ({ frames := 0, cells := 0, slots := 0, locals := 0 } : Room) (va_Pc [.int p0, .int p1] (fun U => True)) (vp_Si (fun r : Int32 => r = (fX2_isHeld p0 p1))) 0 0 (fun _ => False) := by
  refine Met.ofW (cc := cX2_isHeld) (maxL := 3) (ret := (some .boolean)) (by decide) rfl ?_
  intro p e s m args below meth c s₁ B hml hv
  obtain ⟨rfl, _⟩ := hv
  have hx := B.exec
  have hb := B.bytes
  have hr := B.returns
  have hts := atoms_spec (ws := wsX2_isHeld) B.pre
  have hown : s.vm.findClass RX2 = some m.cls := findClass_of_methodNamed B.named
  have hlocks := B.notSynchronized
  have hS : va_S (fun _ => False) s.heap s.heap [] := va_S.rf
  have hl := lv_entry ([.int p0, .int p1]) (n := 3) (Nat.le_of_ble_eq_true rfl)
  rw [lg_entry_eq]
  generalize (lg_sl ([.int p0, .int p1]) ++ List.replicate (3 - (lg_sl ([.int p0, .int p1])).length) Slot.unset).toArray = ls at hl ⊢
  have hl : lv_has ls 3 [(0, .int p0), (1, .int p1)] := hl
  refine lv_iconst (v := 4) hx hb dX2_isHeld_0 (by decide) ?_
  refine lv_bipush (v := 17) hx hb dX2_isHeld_1 (by decide) ?_
  refine lv_iload_n hx hb dX2_isHeld_3 rfl (lv_at hl 0 rfl) ?_
  refine lv_iadd hx hb dX2_isHeld_4 ?_
  refine lv_imul hx hb dX2_isHeld_5 ?_
  refine lv_istore_n (lv' := [(2, .int (4 * (17 + p0))), (0, .int p0), (1, .int p1)]) hx hb dX2_isHeld_6 rfl hl (by decide) rfl (fun ls hl => ?_)
  refine lv_iload_n hx hb dX2_isHeld_7 rfl (lv_at hl 2 rfl) ?_
  refine lv_iconst (v := (-1)) hx hb dX2_isHeld_8 (by decide) ?_
  refine lv_icmp_eq (tgt := 36) hx hb dX2_isHeld_9 (by decide) (fun c_9_1 => ?_) (fun c_9_1 => ?_)
  · refine lv_iconst (v := 1) hx hb dX2_isHeld_36 (by decide) ?_
    refine lv_goto (tgt := 41) hx hb dX2_isHeld_37 (by decide) ?_
    exact W.zret (ty := .boolean) (v := 1) hx hb hr rfl (fun t ht hW => ⟨1, rfl, (by unfold fX2_isHeld; rw [if_pos c_9_1]), ht⟩) (fun q h => absurd h List.not_mem_nil) dX2_isHeld_41
  · refine lv_iload_n hx hb dX2_isHeld_12 rfl (lv_at hl 2 rfl) ?_
    refine lv_if_lt (tgt := 26) hx hb dX2_isHeld_13 (by decide) (fun c_13_2 => ?_) (fun c_13_2 => ?_)
    · refine lv_bipush (v := (-3)) hx hb dX2_isHeld_26 (by decide) ?_
      refine lv_iload_n hx hb dX2_isHeld_28 rfl (lv_at hl 2 rfl) ?_
      refine lv_iconst (v := 2) hx hb dX2_isHeld_29 (by decide) ?_
      refine lv_iadd hx hb dX2_isHeld_30 ?_
      refine lv_imul hx hb dX2_isHeld_31 ?_
      refine lv_iload_n hx hb dX2_isHeld_32 rfl (lv_at hl 0 rfl) ?_
      refine lv_icmp_ge (tgt := 40) hx hb dX2_isHeld_33 (by decide) (fun c_33_3 => ?_) (fun c_33_3 => ?_)
      · refine lv_iconst (v := 0) hx hb dX2_isHeld_40 (by decide) ?_
        exact W.zret (ty := .boolean) (v := 0) hx hb hr rfl (fun t ht hW => ⟨0, rfl, (by unfold fX2_isHeld; rw [if_neg c_9_1, if_pos c_13_2, if_pos c_33_3]), ht⟩) (fun q h => absurd h List.not_mem_nil) dX2_isHeld_41
      · refine lv_iconst (v := 1) hx hb dX2_isHeld_36 (by decide) ?_
        refine lv_goto (tgt := 41) hx hb dX2_isHeld_37 (by decide) ?_
        exact W.zret (ty := .boolean) (v := 1) hx hb hr rfl (fun t ht hW => ⟨1, rfl, (by unfold fX2_isHeld; rw [if_neg c_9_1, if_pos c_13_2, if_neg c_33_3]), ht⟩) (fun q h => absurd h List.not_mem_nil) dX2_isHeld_41
    · refine lv_iconst (v := 3) hx hb dX2_isHeld_16 (by decide) ?_
      refine lv_iload_n hx hb dX2_isHeld_17 rfl (lv_at hl 2 rfl) ?_
      refine lv_imul hx hb dX2_isHeld_18 ?_
      refine lv_iload_n hx hb dX2_isHeld_19 rfl (lv_at hl 0 rfl) ?_
      refine lv_icmp_ge (tgt := 40) hx hb dX2_isHeld_20 (by decide) (fun c_20_4 => ?_) (fun c_20_4 => ?_)
      · refine lv_iconst (v := 0) hx hb dX2_isHeld_40 (by decide) ?_
        exact W.zret (ty := .boolean) (v := 0) hx hb hr rfl (fun t ht hW => ⟨0, rfl, (by unfold fX2_isHeld; rw [if_neg c_9_1, if_neg c_13_2, if_pos c_20_4]), ht⟩) (fun q h => absurd h List.not_mem_nil) dX2_isHeld_41
      · refine lv_goto (tgt := 36) hx hb dX2_isHeld_23 (by decide) ?_
        refine lv_iconst (v := 1) hx hb dX2_isHeld_36 (by decide) ?_
        refine lv_goto (tgt := 41) hx hb dX2_isHeld_37 (by decide) ?_
        exact W.zret (ty := .boolean) (v := 1) hx hb hr rfl (fun t ht hW => ⟨1, rfl, (by unfold fX2_isHeld; rw [if_neg c_9_1, if_neg c_13_2, if_neg c_20_4]), ht⟩) (fun q h => absurd h List.not_mem_nil) dX2_isHeld_41

def fX2_isOver_j36 (p0 : Int32) (p1 : Int32) : Int32 := (if (3 * p1) ≤ (4 * (16 + p0)) then 4 * (16 + p0) else 3 * p1)
def fX2_isOver_j67 (p0 : Int32) (p1 : Int32) (p2 : Int32) : Int32 := (if 0 ≤ p2 then (fX2_isOver_j36 p0 p1) else 4 * (17 + p0))
def fX2_isOver (p0 : Int32) (p1 : Int32) (p2 : Int32) : Int32 := (if p2 = 2 then 0 else (if (4 * (17 + p0)) ≤ (fX2_isOver_j36 p0 p1) then 0 else (if (24 * (p1 + 2)) ≤ (((3 * p2) + 2) * (fX2_isOver_j67 p0 p1 p2)) then 0 else 1)))
theorem fX2_isOver_01 (p0 : Int32) (p1 : Int32) (p2 : Int32) : (fX2_isOver p0 p1 p2) = 0 ∨ (fX2_isOver p0 p1 p2) = 1 := by unfold fX2_isOver; (repeat' split) <;> simp
set_option maxHeartbeats 4000000 in
set_option maxRecDepth 100000 in
theorem kX2_isOver (l : Launch) (dC : Nat → ClassId) (dI : Nat → Nat → Nat) (p0 : Int32) (p1 : Int32) (p2 : Int32)  : Met l yX2_isOver wsX2_isOver ({ frames := 0, cells := 0, slots := 0, locals := 0 } : Room) (va_Pc [.int p0, .int p1, .int p2] (fun U => True)) (vp_Si (fun r : Int32 => r = (fX2_isOver p0 p1 p2))) 0 0 (fun _ => False) := by
  refine Met.ofW (cc := cX2_isOver) (maxL := 6) (ret := (some .boolean)) (by decide) rfl ?_
  intro p e s m args below meth c s₁ B hml hv
  obtain ⟨rfl, _⟩ := hv
  have hx := B.exec
  have hb := B.bytes
  have hr := B.returns
  have hts := atoms_spec (ws := wsX2_isOver) B.pre
  have hown : s.vm.findClass RX2 = some m.cls := findClass_of_methodNamed B.named
  have hlocks := B.notSynchronized
  have hS : va_S (fun _ => False) s.heap s.heap [] := va_S.rf
  have hl := lv_entry ([.int p0, .int p1, .int p2]) (n := 6) (Nat.le_of_ble_eq_true rfl)
  rw [lg_entry_eq]
  generalize (lg_sl ([.int p0, .int p1, .int p2]) ++ List.replicate (6 - (lg_sl ([.int p0, .int p1, .int p2])).length) Slot.unset).toArray = ls at hl ⊢
  have hl : lv_has ls 6 [(0, .int p0), (1, .int p1), (2, .int p2)] := hl
  refine lv_iload_n hx hb dX2_isOver_0 rfl (lv_at hl 2 rfl) ?_
  refine lv_iconst (v := 2) hx hb dX2_isOver_1 (by decide) ?_
  refine lv_icmp_ne (tgt := 7) hx hb dX2_isOver_2 (by decide) (fun c_2_1 => ?_) (fun c_2_1 => ?_)
  · refine lv_iconst (v := 4) hx hb dX2_isOver_7 (by decide) ?_
    refine lv_bipush (v := 16) hx hb dX2_isOver_8 (by decide) ?_
    refine lv_iload_n hx hb dX2_isOver_10 rfl (lv_at hl 0 rfl) ?_
    refine lv_iadd hx hb dX2_isOver_11 ?_
    refine lv_imul hx hb dX2_isOver_12 ?_
    refine lv_istore_n (lv' := [(3, .int (4 * (16 + p0))), (0, .int p0), (1, .int p1), (2, .int p2)]) hx hb dX2_isOver_13 rfl hl (by decide) rfl (fun ls hl => ?_)
    refine lv_iconst (v := 4) hx hb dX2_isOver_14 (by decide) ?_
    refine lv_bipush (v := 17) hx hb dX2_isOver_15 (by decide) ?_
    refine lv_iload_n hx hb dX2_isOver_17 rfl (lv_at hl 1 rfl) ?_
    refine lv_iadd hx hb dX2_isOver_18 ?_
    refine lv_imul hx hb dX2_isOver_19 ?_
    refine lv_istore (lv' := [(4, .int (4 * (17 + p0))), (3, .int (4 * (16 + p0))), (0, .int p0), (1, .int p1), (2, .int p2)]) hx hb dX2_isOver_20 hl (by decide) rfl (fun ls hl => ?_)
    refine lv_iconst (v := 3) hx hb dX2_isOver_22 (by decide) ?_
    refine lv_iload_n hx hb dX2_isOver_23 rfl (lv_at hl 3 rfl) ?_
    refine lv_imul hx hb dX2_isOver_24 ?_
    refine lv_iload_n hx hb dX2_isOver_25 rfl (lv_at hl 1 rfl) ?_
    refine ax_joinI (J := 36) (v := (fX2_isOver_j36 p0 p1)) (ls := ls) (rest := []) ?_ (fun kj_7 => ?_)
    · refine lv_istore (lv' := [(5, .int (fX2_isOver_j36 p0 p1)), (4, .int (4 * (17 + p0))), (3, .int (4 * (16 + p0))), (0, .int p0), (1, .int p1), (2, .int p2)]) hx hb dX2_isOver_36 hl (by decide) rfl (fun ls hl => ?_)
      refine lv_iload hx hb dX2_isOver_38 (lv_at hl 0 rfl) ?_
      refine lv_iload hx hb dX2_isOver_40 (lv_at hl 1 rfl) ?_
      refine lv_icmp_ge (tgt := 75) hx hb dX2_isOver_42 (by decide) (fun c_42_3 => ?_) (fun c_42_3 => ?_)
      · refine lv_iconst (v := 0) hx hb dX2_isOver_75 (by decide) ?_
        exact W.zret (ty := .boolean) (v := 0) hx hb hr rfl (fun t ht hW => ⟨0, rfl, (by unfold fX2_isOver; rw [if_neg c_2_1, if_pos c_42_3]), ht⟩) (fun q h => absurd h List.not_mem_nil) dX2_isOver_76
      · refine lv_bipush (v := 24) hx hb dX2_isOver_45 (by decide) ?_
        refine lv_iload_n hx hb dX2_isOver_47 rfl (lv_at hl 4 rfl) ?_
        refine lv_iconst (v := 2) hx hb dX2_isOver_48 (by decide) ?_
        refine lv_iadd hx hb dX2_isOver_49 ?_
        refine lv_imul hx hb dX2_isOver_50 ?_
        refine lv_iconst (v := 3) hx hb dX2_isOver_51 (by decide) ?_
        refine lv_iload_n hx hb dX2_isOver_52 rfl (lv_at hl 5 rfl) ?_
        refine lv_imul hx hb dX2_isOver_53 ?_
        refine lv_iconst (v := 2) hx hb dX2_isOver_54 (by decide) ?_
        refine lv_iadd hx hb dX2_isOver_55 ?_
        refine lv_iload_n hx hb dX2_isOver_56 rfl (lv_at hl 5 rfl) ?_
        refine ax_joinI (J := 67) (v := (fX2_isOver_j67 p0 p1 p2)) (ls := ls) (rest := [.int ((3 * p2) + 2), .int (24 * (p1 + 2))]) ?_ (fun kj_6 => ?_)
        · refine lv_imul hx hb dX2_isOver_67 ?_
          refine lv_icmp_le (tgt := 75) hx hb dX2_isOver_68 (by decide) (fun c_68_5 => ?_) (fun c_68_5 => ?_)
          · refine lv_iconst (v := 0) hx hb dX2_isOver_75 (by decide) ?_
            exact W.zret (ty := .boolean) (v := 0) hx hb hr rfl (fun t ht hW => ⟨0, rfl, (by unfold fX2_isOver; rw [if_neg c_2_1, if_neg c_42_3, if_pos c_68_5]), ht⟩) (fun q h => absurd h List.not_mem_nil) dX2_isOver_76
          · refine lv_iconst (v := 1) hx hb dX2_isOver_71 (by decide) ?_
            refine lv_goto (tgt := 76) hx hb dX2_isOver_72 (by decide) ?_
            exact W.zret (ty := .boolean) (v := 1) hx hb hr rfl (fun t ht hW => ⟨1, rfl, (by unfold fX2_isOver; rw [if_neg c_2_1, if_neg c_42_3, if_neg c_68_5]), ht⟩) (fun q h => absurd h List.not_mem_nil) dX2_isOver_76
        · refine lv_if_ge (tgt := 65) hx hb dX2_isOver_57 (by decide) (fun c_57_4 => ?_) (fun c_57_4 => ?_)
          · refine lv_iload hx hb dX2_isOver_65 (lv_at hl 0 rfl) ?_
            exact kj_6 _ (by unfold fX2_isOver_j67; rw [if_pos c_57_4])
          · refine lv_iload hx hb dX2_isOver_60 (lv_at hl 1 rfl) ?_
            refine lv_goto (tgt := 67) hx hb dX2_isOver_62 (by decide) ?_
            exact kj_6 _ (by unfold fX2_isOver_j67; rw [if_neg c_57_4])
    · refine lv_icmp_le (tgt := 35) hx hb dX2_isOver_26 (by decide) (fun c_26_2 => ?_) (fun c_26_2 => ?_)
      · refine lv_iload_n hx hb dX2_isOver_35 rfl (lv_at hl 1 rfl) ?_
        exact kj_7 _ (by unfold fX2_isOver_j36; rw [if_pos c_26_2])
      · refine lv_iconst (v := 3) hx hb dX2_isOver_29 (by decide) ?_
        refine lv_iload_n hx hb dX2_isOver_30 rfl (lv_at hl 3 rfl) ?_
        refine lv_imul hx hb dX2_isOver_31 ?_
        refine lv_goto (tgt := 36) hx hb dX2_isOver_32 (by decide) ?_
        exact kj_7 _ (by unfold fX2_isOver_j36; rw [if_neg c_26_2])
  · refine lv_iconst (v := 0) hx hb dX2_isOver_5 (by decide) ?_
    exact W.zret (ty := .boolean) (v := 0) hx hb hr rfl (fun t ht hW => ⟨0, rfl, (by unfold fX2_isOver; rw [if_pos c_2_1]), ht⟩) (fun q h => absurd h List.not_mem_nil) dX2_isOver_6

def fX2_isUnder (p0 : Int32) (p1 : Int32) (p2 : Int32) : Int32 := (if p2 = (-2) then 0 else (if p2 ≤ 0 then (if (4 * (16 + p0)) ≤ ((-3) * (p1 + 2)) then (if (4 * (17 + p0)) ≤ ((-3) * (p1 + 2)) then 0 else (if (((3 * p2) - 2) * ((-3) * (p1 + 2))) ≤ (24 * p1) then 0 else 1)) else (if (((3 * p2) - 2) * (4 * (16 + p0))) ≤ (24 * p1) then 0 else 1)) else (if (((3 * p2) - 2) * (4 * (17 + p0))) ≤ (24 * p1) then 0 else (if (4 * (17 + p0)) ≤ ((-3) * (p1 + 2)) then 0 else 1))))
theorem fX2_isUnder_01 (p0 : Int32) (p1 : Int32) (p2 : Int32) : (fX2_isUnder p0 p1 p2) = 0 ∨ (fX2_isUnder p0 p1 p2) = 1 := by unfold fX2_isUnder; (repeat' split) <;> simp
set_option maxHeartbeats 4000000 in
set_option maxRecDepth 100000 in
theorem kX2_isUnder (l : Launch) (dC : Nat → ClassId) (dI : Nat → Nat → Nat) (p0 : Int32) (p1 : Int32) (p2 : Int32)  : Met l yX2_isUnder wsX2_isUnder ({ frames := 0, cells := 0, slots := 0, locals := 0 } : Room) (va_Pc [.int p0, .int p1, .int p2] (fun U => True)) (vp_Si (fun r : Int32 => r = (fX2_isUnder p0 p1 p2))) 0 0 (fun _ => False) := by
  refine Met.ofW (cc := cX2_isUnder) (maxL := 6) (ret := (some .boolean)) (by decide) rfl ?_
  intro p e s m args below meth c s₁ B hml hv
  obtain ⟨rfl, _⟩ := hv
  have hx := B.exec
  have hb := B.bytes
  have hr := B.returns
  have hts := atoms_spec (ws := wsX2_isUnder) B.pre
  have hown : s.vm.findClass RX2 = some m.cls := findClass_of_methodNamed B.named
  have hlocks := B.notSynchronized
  have hS : va_S (fun _ => False) s.heap s.heap [] := va_S.rf
  have hl := lv_entry ([.int p0, .int p1, .int p2]) (n := 6) (Nat.le_of_ble_eq_true rfl)
  rw [lg_entry_eq]
  generalize (lg_sl ([.int p0, .int p1, .int p2]) ++ List.replicate (6 - (lg_sl ([.int p0, .int p1, .int p2])).length) Slot.unset).toArray = ls at hl ⊢
  have hl : lv_has ls 6 [(0, .int p0), (1, .int p1), (2, .int p2)] := hl
  refine lv_iload_n hx hb dX2_isUnder_0 rfl (lv_at hl 2 rfl) ?_
  refine lv_bipush (v := (-2)) hx hb dX2_isUnder_1 (by decide) ?_
  refine lv_icmp_ne (tgt := 8) hx hb dX2_isUnder_3 (by decide) (fun c_3_1 => ?_) (fun c_3_1 => ?_)
  · refine lv_iconst (v := 4) hx hb dX2_isUnder_8 (by decide) ?_
    refine lv_bipush (v := 16) hx hb dX2_isUnder_9 (by decide) ?_
    refine lv_iload_n hx hb dX2_isUnder_11 rfl (lv_at hl 0 rfl) ?_
    refine lv_iadd hx hb dX2_isUnder_12 ?_
    refine lv_imul hx hb dX2_isUnder_13 ?_
    refine lv_istore_n (lv' := [(3, .int (4 * (16 + p0))), (0, .int p0), (1, .int p1), (2, .int p2)]) hx hb dX2_isUnder_14 rfl hl (by decide) rfl (fun ls hl => ?_)
    refine lv_iconst (v := 4) hx hb dX2_isUnder_15 (by decide) ?_
    refine lv_bipush (v := 17) hx hb dX2_isUnder_16 (by decide) ?_
    refine lv_iload_n hx hb dX2_isUnder_18 rfl (lv_at hl 1 rfl) ?_
    refine lv_iadd hx hb dX2_isUnder_19 ?_
    refine lv_imul hx hb dX2_isUnder_20 ?_
    refine lv_istore (lv' := [(4, .int (4 * (17 + p0))), (3, .int (4 * (16 + p0))), (0, .int p0), (1, .int p1), (2, .int p2)]) hx hb dX2_isUnder_21 hl (by decide) rfl (fun ls hl => ?_)
    refine lv_bipush (v := (-3)) hx hb dX2_isUnder_23 (by decide) ?_
    refine lv_iload_n hx hb dX2_isUnder_25 rfl (lv_at hl 3 rfl) ?_
    refine lv_iconst (v := 2) hx hb dX2_isUnder_26 (by decide) ?_
    refine lv_iadd hx hb dX2_isUnder_27 ?_
    refine lv_imul hx hb dX2_isUnder_28 ?_
    refine lv_istore (lv' := [(5, .int ((-3) * (p1 + 2))), (4, .int (4 * (17 + p0))), (3, .int (4 * (16 + p0))), (0, .int p0), (1, .int p1), (2, .int p2)]) hx hb dX2_isUnder_29 hl (by decide) rfl (fun ls hl => ?_)
    refine lv_iload_n hx hb dX2_isUnder_31 rfl (lv_at hl 5 rfl) ?_
    refine lv_if_le (tgt := 63) hx hb dX2_isUnder_32 (by decide) (fun c_32_2 => ?_) (fun c_32_2 => ?_)
    · refine lv_iload hx hb dX2_isUnder_63 (lv_at hl 0 rfl) ?_
      refine lv_iload_n hx hb dX2_isUnder_65 rfl (lv_at hl 2 rfl) ?_
      refine lv_icmp_ge (tgt := 91) hx hb dX2_isUnder_66 (by decide) (fun c_66_3 => ?_) (fun c_66_3 => ?_)
      · refine lv_iload hx hb dX2_isUnder_91 (lv_at hl 0 rfl) ?_
        refine lv_iload hx hb dX2_isUnder_93 (lv_at hl 1 rfl) ?_
        refine lv_icmp_ge (tgt := 117) hx hb dX2_isUnder_95 (by decide) (fun c_95_4 => ?_) (fun c_95_4 => ?_)
        · refine lv_iconst (v := 0) hx hb dX2_isUnder_117 (by decide) ?_
          exact W.zret (ty := .boolean) (v := 0) hx hb hr rfl (fun t ht hW => ⟨0, rfl, (by unfold fX2_isUnder; rw [if_neg c_3_1, if_pos c_32_2, if_pos c_66_3, if_pos c_95_4]), ht⟩) (fun q h => absurd h List.not_mem_nil) dX2_isUnder_118
        · refine lv_bipush (v := 24) hx hb dX2_isUnder_98 (by decide) ?_
          refine lv_iload_n hx hb dX2_isUnder_100 rfl (lv_at hl 4 rfl) ?_
          refine lv_imul hx hb dX2_isUnder_101 ?_
          refine lv_iconst (v := 3) hx hb dX2_isUnder_102 (by decide) ?_
          refine lv_iload_n hx hb dX2_isUnder_103 rfl (lv_at hl 5 rfl) ?_
          refine lv_imul hx hb dX2_isUnder_104 ?_
          refine lv_iconst (v := 2) hx hb dX2_isUnder_105 (by decide) ?_
          refine lv_isub hx hb dX2_isUnder_106 ?_
          refine lv_iload hx hb dX2_isUnder_107 (lv_at hl 0 rfl) ?_
          refine lv_imul hx hb dX2_isUnder_109 ?_
          refine lv_icmp_ge (tgt := 117) hx hb dX2_isUnder_110 (by decide) (fun c_110_5 => ?_) (fun c_110_5 => ?_)
          · refine lv_iconst (v := 0) hx hb dX2_isUnder_117 (by decide) ?_
            exact W.zret (ty := .boolean) (v := 0) hx hb hr rfl (fun t ht hW => ⟨0, rfl, (by unfold fX2_isUnder; rw [if_neg c_3_1, if_pos c_32_2, if_pos c_66_3, if_neg c_95_4, if_pos c_110_5]), ht⟩) (fun q h => absurd h List.not_mem_nil) dX2_isUnder_118
          · refine lv_iconst (v := 1) hx hb dX2_isUnder_113 (by decide) ?_
            refine lv_goto (tgt := 118) hx hb dX2_isUnder_114 (by decide) ?_
            exact W.zret (ty := .boolean) (v := 1) hx hb hr rfl (fun t ht hW => ⟨1, rfl, (by unfold fX2_isUnder; rw [if_neg c_3_1, if_pos c_32_2, if_pos c_66_3, if_neg c_95_4, if_neg c_110_5]), ht⟩) (fun q h => absurd h List.not_mem_nil) dX2_isUnder_118
      · refine lv_bipush (v := 24) hx hb dX2_isUnder_69 (by decide) ?_
        refine lv_iload_n hx hb dX2_isUnder_71 rfl (lv_at hl 4 rfl) ?_
        refine lv_imul hx hb dX2_isUnder_72 ?_
        refine lv_iconst (v := 3) hx hb dX2_isUnder_73 (by decide) ?_
        refine lv_iload_n hx hb dX2_isUnder_74 rfl (lv_at hl 5 rfl) ?_
        refine lv_imul hx hb dX2_isUnder_75 ?_
        refine lv_iconst (v := 2) hx hb dX2_isUnder_76 (by decide) ?_
        refine lv_isub hx hb dX2_isUnder_77 ?_
        refine lv_iload_n hx hb dX2_isUnder_78 rfl (lv_at hl 2 rfl) ?_
        refine lv_imul hx hb dX2_isUnder_79 ?_
        refine lv_icmp_ge (tgt := 87) hx hb dX2_isUnder_80 (by decide) (fun c_80_6 => ?_) (fun c_80_6 => ?_)
        · refine lv_iconst (v := 0) hx hb dX2_isUnder_87 (by decide) ?_
          refine lv_goto (tgt := 118) hx hb dX2_isUnder_88 (by decide) ?_
          exact W.zret (ty := .boolean) (v := 0) hx hb hr rfl (fun t ht hW => ⟨0, rfl, (by unfold fX2_isUnder; rw [if_neg c_3_1, if_pos c_32_2, if_neg c_66_3, if_pos c_80_6]), ht⟩) (fun q h => absurd h List.not_mem_nil) dX2_isUnder_118
        · refine lv_iconst (v := 1) hx hb dX2_isUnder_83 (by decide) ?_
          refine lv_goto (tgt := 118) hx hb dX2_isUnder_84 (by decide) ?_
          exact W.zret (ty := .boolean) (v := 1) hx hb hr rfl (fun t ht hW => ⟨1, rfl, (by unfold fX2_isUnder; rw [if_neg c_3_1, if_pos c_32_2, if_neg c_66_3, if_neg c_80_6]), ht⟩) (fun q h => absurd h List.not_mem_nil) dX2_isUnder_118
    · refine lv_bipush (v := 24) hx hb dX2_isUnder_35 (by decide) ?_
      refine lv_iload_n hx hb dX2_isUnder_37 rfl (lv_at hl 4 rfl) ?_
      refine lv_imul hx hb dX2_isUnder_38 ?_
      refine lv_iconst (v := 3) hx hb dX2_isUnder_39 (by decide) ?_
      refine lv_iload_n hx hb dX2_isUnder_40 rfl (lv_at hl 5 rfl) ?_
      refine lv_imul hx hb dX2_isUnder_41 ?_
      refine lv_iconst (v := 2) hx hb dX2_isUnder_42 (by decide) ?_
      refine lv_isub hx hb dX2_isUnder_43 ?_
      refine lv_iload hx hb dX2_isUnder_44 (lv_at hl 1 rfl) ?_
      refine lv_imul hx hb dX2_isUnder_46 ?_
      refine lv_icmp_ge (tgt := 61) hx hb dX2_isUnder_47 (by decide) (fun c_47_7 => ?_) (fun c_47_7 => ?_)
      · refine lv_iconst (v := 0) hx hb dX2_isUnder_61 (by decide) ?_
        exact W.zret (ty := .boolean) (v := 0) hx hb hr rfl (fun t ht hW => ⟨0, rfl, (by unfold fX2_isUnder; rw [if_neg c_3_1, if_neg c_32_2, if_pos c_47_7]), ht⟩) (fun q h => absurd h List.not_mem_nil) dX2_isUnder_62
      · refine lv_iload hx hb dX2_isUnder_50 (lv_at hl 1 rfl) ?_
        refine lv_iload hx hb dX2_isUnder_52 (lv_at hl 0 rfl) ?_
        refine lv_icmp_le (tgt := 61) hx hb dX2_isUnder_54 (by decide) (fun c_54_8 => ?_) (fun c_54_8 => ?_)
        · refine lv_iconst (v := 0) hx hb dX2_isUnder_61 (by decide) ?_
          exact W.zret (ty := .boolean) (v := 0) hx hb hr rfl (fun t ht hW => ⟨0, rfl, (by unfold fX2_isUnder; rw [if_neg c_3_1, if_neg c_32_2, if_neg c_47_7, if_pos c_54_8]), ht⟩) (fun q h => absurd h List.not_mem_nil) dX2_isUnder_62
        · refine lv_iconst (v := 1) hx hb dX2_isUnder_57 (by decide) ?_
          refine lv_goto (tgt := 62) hx hb dX2_isUnder_58 (by decide) ?_
          exact W.zret (ty := .boolean) (v := 1) hx hb hr rfl (fun t ht hW => ⟨1, rfl, (by unfold fX2_isUnder; rw [if_neg c_3_1, if_neg c_32_2, if_neg c_47_7, if_neg c_54_8]), ht⟩) (fun q h => absurd h List.not_mem_nil) dX2_isUnder_62
  · refine lv_iconst (v := 0) hx hb dX2_isUnder_6 (by decide) ?_
    exact W.zret (ty := .boolean) (v := 0) hx hb hr rfl (fun t ht hW => ⟨0, rfl, (by unfold fX2_isUnder; rw [if_pos c_3_1]), ht⟩) (fun q h => absurd h List.not_mem_nil) dX2_isUnder_7

def fX2_isGood (p0 : Int32) (p1 : Int32) (p2 : Int32) : Int32 := (if (fX2_isOver p0 p1 p2) = 0 then (if (fX2_isUnder p0 p1 p2) = 0 then 1 else 0) else 0)
theorem fX2_isGood_01 (p0 : Int32) (p1 : Int32) (p2 : Int32) : (fX2_isGood p0 p1 p2) = 0 ∨ (fX2_isGood p0 p1 p2) = 1 := by unfold fX2_isGood; (repeat' split) <;> simp
set_option maxHeartbeats 4000000 in
set_option maxRecDepth 100000 in
theorem kX2_isGood (l : Launch) (dC : Nat → ClassId) (dI : Nat → Nat → Nat) (p0 : Int32) (p1 : Int32) (p2 : Int32)  : Met l yX2_isGood wsX2_isGood ({ frames := 1, cells := 0, slots := 0, locals := 25 } : Room) (va_Pc [.int p0, .int p1, .int p2] (fun U => True)) (vp_Si (fun r : Int32 => r = (fX2_isGood p0 p1 p2))) 0 0 (fun _ => False) := by
  refine Met.ofW (cc := cX2_isGood) (maxL := 3) (ret := (some .boolean)) (by decide) rfl ?_
  intro p e s m args below meth c s₁ B hml hv
  obtain ⟨rfl, _⟩ := hv
  have hx := B.exec
  have hb := B.bytes
  have hr := B.returns
  have hts := atoms_spec (ws := wsX2_isGood) B.pre
  have hown : s.vm.findClass RX2 = some m.cls := findClass_of_methodNamed B.named
  have hlocks := B.notSynchronized
  have hS : va_S (fun _ => False) s.heap s.heap [] := va_S.rf
  have hl := lv_entry ([.int p0, .int p1, .int p2]) (n := 3) (Nat.le_of_ble_eq_true rfl)
  rw [lg_entry_eq]
  generalize (lg_sl ([.int p0, .int p1, .int p2]) ++ List.replicate (3 - (lg_sl ([.int p0, .int p1, .int p2])).length) Slot.unset).toArray = ls at hl ⊢
  have hl : lv_has ls 3 [(0, .int p0), (1, .int p1), (2, .int p2)] := hl
  refine lv_iload_n hx hb dX2_isGood_0 rfl (lv_at hl 0 rfl) ?_
  refine lv_iload_n hx hb dX2_isGood_1 rfl (lv_at hl 1 rfl) ?_
  refine lv_iload_n hx hb dX2_isGood_2 rfl (lv_at hl 2 rfl) ?_
  refine vp_callSi (W.runS (As := [.int p0, .int p1, .int p2]) (rest := []) ⟨hx, hb, hml, hown, hts⟩ (kX2_isOver l dC dI p0 p1 p2) (va_cwS 3 hts gX2_isGood_X2_isOver rfl rfl rfl (by decide +kernel) ⟨Nat.le_of_ble_eq_true rfl, Nat.le_of_ble_eq_true rfl⟩) ⟨fun a U g mk q => by obtain ⟨q0, qt⟩ := q; exact ⟨q0, qt⟩, fun U hU hW => ⟨rfl, trivial⟩⟩ rfl rfl hl.1 rfl (lv_room (Nat.le_of_ble_eq_true rfl)) dX2_isGood_3 ⟨Nat.zero_le _, Nat.zero_le _⟩) (fun r_1 hr_1 => ?_)
  subst hr_1
  refine lv_if_ne (tgt := 22) hx hb dX2_isGood_6 (by decide) (fun c_6_2 => ?_) (fun c_6_2 => ?_)
  · refine lv_iconst (v := 0) hx hb dX2_isGood_22 (by decide) ?_
    exact W.zret (ty := .boolean) (v := 0) hx hb hr rfl (fun t ht hW => ⟨0, rfl, (by unfold fX2_isGood; rw [if_neg c_6_2]), ht⟩) (fun q h => absurd h List.not_mem_nil) dX2_isGood_23
  · refine lv_iload_n hx hb dX2_isGood_9 rfl (lv_at hl 0 rfl) ?_
    refine lv_iload_n hx hb dX2_isGood_10 rfl (lv_at hl 1 rfl) ?_
    refine lv_iload_n hx hb dX2_isGood_11 rfl (lv_at hl 2 rfl) ?_
    refine vp_callSi (W.runS (As := [.int p0, .int p1, .int p2]) (rest := []) ⟨hx, hb, hml, hown, hts⟩ (kX2_isUnder l dC dI p0 p1 p2) (va_cwS 3 hts gX2_isGood_X2_isUnder rfl rfl rfl (by decide +kernel) ⟨Nat.le_of_ble_eq_true rfl, Nat.le_of_ble_eq_true rfl⟩) ⟨fun a U g mk q => by obtain ⟨q0, qt⟩ := q; exact ⟨q0, qt⟩, fun U hU hW => ⟨rfl, trivial⟩⟩ rfl rfl hl.1 rfl (lv_room (Nat.le_of_ble_eq_true rfl)) dX2_isGood_12 ⟨Nat.zero_le _, Nat.zero_le _⟩) (fun r_3 hr_3 => ?_)
    subst hr_3
    refine lv_if_ne (tgt := 22) hx hb dX2_isGood_15 (by decide) (fun c_15_4 => ?_) (fun c_15_4 => ?_)
    · refine lv_iconst (v := 0) hx hb dX2_isGood_22 (by decide) ?_
      exact W.zret (ty := .boolean) (v := 0) hx hb hr rfl (fun t ht hW => ⟨0, rfl, (by unfold fX2_isGood; rw [if_pos c_6_2, if_neg c_15_4]), ht⟩) (fun q h => absurd h List.not_mem_nil) dX2_isGood_23
    · refine lv_iconst (v := 1) hx hb dX2_isGood_18 (by decide) ?_
      refine lv_goto (tgt := 23) hx hb dX2_isGood_19 (by decide) ?_
      exact W.zret (ty := .boolean) (v := 1) hx hb hr rfl (fun t ht hW => ⟨1, rfl, (by unfold fX2_isGood; rw [if_pos c_6_2, if_pos c_15_4]), ht⟩) (fun q h => absurd h List.not_mem_nil) dX2_isGood_23

def fX2_isTable (p0 : Int32) : Int32 := (fX2_in p0 (0) (3))
theorem fX2_isTable_01 (p0 : Int32) : (fX2_isTable p0) = 0 ∨ (fX2_isTable p0) = 1 := by unfold fX2_isTable; exact fX2_in_01 _ _ _
set_option maxHeartbeats 4000000 in
set_option maxRecDepth 100000 in
theorem kX2_isTable (l : Launch) (dC : Nat → ClassId) (dI : Nat → Nat → Nat) (p0 : Int32)  : Met l yX2_isTable wsX2_isTable ({ frames := 1, cells := 0, slots := 0, locals := 22 } : Room) (va_Pc [.int p0] (fun U => True)) (vp_Si (fun r : Int32 => r = (fX2_isTable p0))) 0 0 (fun _ => False) := by
  refine Met.ofW (cc := cX2_isTable) (maxL := 1) (ret := (some .boolean)) (by decide) rfl ?_
  intro p e s m args below meth c s₁ B hml hv
  obtain ⟨rfl, _⟩ := hv
  have hx := B.exec
  have hb := B.bytes
  have hr := B.returns
  have hts := atoms_spec (ws := wsX2_isTable) B.pre
  have hown : s.vm.findClass RX2 = some m.cls := findClass_of_methodNamed B.named
  have hlocks := B.notSynchronized
  have hS : va_S (fun _ => False) s.heap s.heap [] := va_S.rf
  have hl := lv_entry ([.int p0]) (n := 1) (Nat.le_of_ble_eq_true rfl)
  rw [lg_entry_eq]
  generalize (lg_sl ([.int p0]) ++ List.replicate (1 - (lg_sl ([.int p0])).length) Slot.unset).toArray = ls at hl ⊢
  have hl : lv_has ls 1 [(0, .int p0)] := hl
  refine lv_iload_n hx hb dX2_isTable_0 rfl (lv_at hl 0 rfl) ?_
  refine lv_iconst (v := 0) hx hb dX2_isTable_1 (by decide) ?_
  refine lv_iconst (v := 3) hx hb dX2_isTable_2 (by decide) ?_
  refine vp_callSi (W.runS (As := [.int p0, .int 0, .int 3]) (rest := []) ⟨hx, hb, hml, hown, hts⟩ (kX2_in l dC dI p0 (0) (3)) (va_cwS 3 hts gX2_isTable_X2_in rfl rfl rfl (by decide +kernel) ⟨Nat.le_of_ble_eq_true rfl, Nat.le_of_ble_eq_true rfl⟩) ⟨fun a U g mk q => by obtain ⟨q0, qt⟩ := q; exact ⟨q0, qt⟩, fun U hU hW => ⟨rfl, trivial⟩⟩ rfl rfl hl.1 rfl (lv_room (Nat.le_of_ble_eq_true rfl)) dX2_isTable_3 ⟨Nat.zero_le _, Nat.zero_le _⟩) (fun r_1 hr_1 => ?_)
  subst hr_1
  exact W.zret (ty := .boolean) (v := (fX2_in p0 (0) (3))) hx hb hr (ax_nb (fX2_in_01 p0 (0) (3))) (fun t ht hW => ⟨(fX2_in p0 (0) (3)), rfl, rfl, ht⟩) (fun q h => absurd h List.not_mem_nil) dX2_isTable_6

def fX2_isCell (p0 : Int32) (p1 : Int32) : Int32 := (if (fX2_in p0 (0) (15)) = 0 then 0 else (if (fX2_in p1 ((-64)) (63)) = 0 then 0 else 1))
theorem fX2_isCell_01 (p0 : Int32) (p1 : Int32) : (fX2_isCell p0 p1) = 0 ∨ (fX2_isCell p0 p1) = 1 := by unfold fX2_isCell; (repeat' split) <;> simp
set_option maxHeartbeats 4000000 in
set_option maxRecDepth 100000 in
theorem kX2_isCell (l : Launch) (dC : Nat → ClassId) (dI : Nat → Nat → Nat) (p0 : Int32) (p1 : Int32)  : Met l yX2_isCell wsX2_isCell ({ frames := 1, cells := 0, slots := 0, locals := 22 } : Room) (va_Pc [.int p0, .int p1] (fun U => True)) (vp_Si (fun r : Int32 => r = (fX2_isCell p0 p1))) 0 0 (fun _ => False) := by
  refine Met.ofW (cc := cX2_isCell) (maxL := 2) (ret := (some .boolean)) (by decide) rfl ?_
  intro p e s m args below meth c s₁ B hml hv
  obtain ⟨rfl, _⟩ := hv
  have hx := B.exec
  have hb := B.bytes
  have hr := B.returns
  have hts := atoms_spec (ws := wsX2_isCell) B.pre
  have hown : s.vm.findClass RX2 = some m.cls := findClass_of_methodNamed B.named
  have hlocks := B.notSynchronized
  have hS : va_S (fun _ => False) s.heap s.heap [] := va_S.rf
  have hl := lv_entry ([.int p0, .int p1]) (n := 2) (Nat.le_of_ble_eq_true rfl)
  rw [lg_entry_eq]
  generalize (lg_sl ([.int p0, .int p1]) ++ List.replicate (2 - (lg_sl ([.int p0, .int p1])).length) Slot.unset).toArray = ls at hl ⊢
  have hl : lv_has ls 2 [(0, .int p0), (1, .int p1)] := hl
  refine lv_iload_n hx hb dX2_isCell_0 rfl (lv_at hl 0 rfl) ?_
  refine lv_iconst (v := 0) hx hb dX2_isCell_1 (by decide) ?_
  refine lv_bipush (v := 15) hx hb dX2_isCell_2 (by decide) ?_
  refine vp_callSi (W.runS (As := [.int p0, .int 0, .int 15]) (rest := []) ⟨hx, hb, hml, hown, hts⟩ (kX2_in l dC dI p0 (0) (15)) (va_cwS 3 hts gX2_isCell_X2_in rfl rfl rfl (by decide +kernel) ⟨Nat.le_of_ble_eq_true rfl, Nat.le_of_ble_eq_true rfl⟩) ⟨fun a U g mk q => by obtain ⟨q0, qt⟩ := q; exact ⟨q0, qt⟩, fun U hU hW => ⟨rfl, trivial⟩⟩ rfl rfl hl.1 rfl (lv_room (Nat.le_of_ble_eq_true rfl)) dX2_isCell_4 ⟨Nat.zero_le _, Nat.zero_le _⟩) (fun r_1 hr_1 => ?_)
  subst hr_1
  refine lv_if_eq (tgt := 25) hx hb dX2_isCell_7 (by decide) (fun c_7_2 => ?_) (fun c_7_2 => ?_)
  · refine lv_iconst (v := 0) hx hb dX2_isCell_25 (by decide) ?_
    exact W.zret (ty := .boolean) (v := 0) hx hb hr rfl (fun t ht hW => ⟨0, rfl, (by unfold fX2_isCell; rw [if_pos c_7_2]), ht⟩) (fun q h => absurd h List.not_mem_nil) dX2_isCell_26
  · refine lv_iload_n hx hb dX2_isCell_10 rfl (lv_at hl 1 rfl) ?_
    refine lv_bipush (v := (-64)) hx hb dX2_isCell_11 (by decide) ?_
    refine lv_bipush (v := 63) hx hb dX2_isCell_13 (by decide) ?_
    refine vp_callSi (W.runS (As := [.int p1, .int (-64), .int 63]) (rest := []) ⟨hx, hb, hml, hown, hts⟩ (kX2_in l dC dI p1 ((-64)) (63)) (va_cwS 3 hts gX2_isCell_X2_in rfl rfl rfl (by decide +kernel) ⟨Nat.le_of_ble_eq_true rfl, Nat.le_of_ble_eq_true rfl⟩) ⟨fun a U g mk q => by obtain ⟨q0, qt⟩ := q; exact ⟨q0, qt⟩, fun U hU hW => ⟨rfl, trivial⟩⟩ rfl rfl hl.1 rfl (lv_room (Nat.le_of_ble_eq_true rfl)) dX2_isCell_15 ⟨Nat.zero_le _, Nat.zero_le _⟩) (fun r_3 hr_3 => ?_)
    subst hr_3
    refine lv_if_eq (tgt := 25) hx hb dX2_isCell_18 (by decide) (fun c_18_4 => ?_) (fun c_18_4 => ?_)
    · refine lv_iconst (v := 0) hx hb dX2_isCell_25 (by decide) ?_
      exact W.zret (ty := .boolean) (v := 0) hx hb hr rfl (fun t ht hW => ⟨0, rfl, (by unfold fX2_isCell; rw [if_neg c_7_2, if_pos c_18_4]), ht⟩) (fun q h => absurd h List.not_mem_nil) dX2_isCell_26
    · refine lv_iconst (v := 1) hx hb dX2_isCell_21 (by decide) ?_
      refine lv_goto (tgt := 26) hx hb dX2_isCell_22 (by decide) ?_
      exact W.zret (ty := .boolean) (v := 1) hx hb hr rfl (fun t ht hW => ⟨1, rfl, (by unfold fX2_isCell; rw [if_neg c_7_2, if_neg c_18_4]), ht⟩) (fun q h => absurd h List.not_mem_nil) dX2_isCell_26

def fX2_cellAt (p0 : Int32) (p1 : Int32) (p2 : Int32) : Int32 := (((2048 * p0) + (128 * p1)) + p2) + 64
set_option maxHeartbeats 4000000 in
set_option maxRecDepth 100000 in
theorem kX2_cellAt (l : Launch) (dC : Nat → ClassId) (dI : Nat → Nat → Nat) (p0 : Int32) (p1 : Int32) (p2 : Int32)  : Met l yX2_cellAt wsX2_cellAt ({ frames := 0, cells := 0, slots := 0, locals := 0 } : Room) (va_Pc [.int p0, .int p1, .int p2] (fun U => True)) (vp_Si (fun r : Int32 => r = (fX2_cellAt p0 p1 p2))) 0 0 (fun _ => False) := by
  refine Met.ofW (cc := cX2_cellAt) (maxL := 3) (ret := (some .int)) (by decide) rfl ?_
  intro p e s m args below meth c s₁ B hml hv
  obtain ⟨rfl, _⟩ := hv
  have hx := B.exec
  have hb := B.bytes
  have hr := B.returns
  have hts := atoms_spec (ws := wsX2_cellAt) B.pre
  have hown : s.vm.findClass RX2 = some m.cls := findClass_of_methodNamed B.named
  have hlocks := B.notSynchronized
  have hS : va_S (fun _ => False) s.heap s.heap [] := va_S.rf
  have hl := lv_entry ([.int p0, .int p1, .int p2]) (n := 3) (Nat.le_of_ble_eq_true rfl)
  rw [lg_entry_eq]
  generalize (lg_sl ([.int p0, .int p1, .int p2]) ++ List.replicate (3 - (lg_sl ([.int p0, .int p1, .int p2])).length) Slot.unset).toArray = ls at hl ⊢
  have hl : lv_has ls 3 [(0, .int p0), (1, .int p1), (2, .int p2)] := hl
  refine lv_sipush (v := 2048) hx hb dX2_cellAt_0 (by decide) ?_
  refine lv_iload_n hx hb dX2_cellAt_3 rfl (lv_at hl 0 rfl) ?_
  refine lv_imul hx hb dX2_cellAt_4 ?_
  refine lv_sipush (v := 128) hx hb dX2_cellAt_5 (by decide) ?_
  refine lv_iload_n hx hb dX2_cellAt_8 rfl (lv_at hl 1 rfl) ?_
  refine lv_imul hx hb dX2_cellAt_9 ?_
  refine lv_iadd hx hb dX2_cellAt_10 ?_
  refine lv_iload_n hx hb dX2_cellAt_11 rfl (lv_at hl 2 rfl) ?_
  refine lv_iadd hx hb dX2_cellAt_12 ?_
  refine lv_bipush (v := 64) hx hb dX2_cellAt_13 (by decide) ?_
  refine lv_iadd hx hb dX2_cellAt_15 ?_
  exact W.iret (v := (((2048 * p0) + (128 * p1)) + p2) + 64) hx hb hr (fun t ht hW => ⟨(((2048 * p0) + (128 * p1)) + p2) + 64, rfl, rfl, ht⟩) (fun q h => absurd h List.not_mem_nil) dX2_cellAt_16

def fX2_sizeOf_j12 (p0 : Int32) : Int64 := (if 0 ≤ p0 then p0.toInt64 else -p0.toInt64)
def fX2_sizeOf (p0 : Int32) : Int64 := (fX2_sizeOf_j12 p0)
set_option maxHeartbeats 4000000 in
set_option maxRecDepth 100000 in
theorem kX2_sizeOf (l : Launch) (dC : Nat → ClassId) (dI : Nat → Nat → Nat) (p0 : Int32)  : Met l yX2_sizeOf wsX2_sizeOf ({ frames := 0, cells := 0, slots := 0, locals := 0 } : Room) (va_Pc [.int p0] (fun U => True)) (vp_Sl (fun r : Int64 => r = (fX2_sizeOf p0))) 0 0 (fun _ => False) := by
  refine Met.ofW (cc := cX2_sizeOf) (maxL := 1) (ret := (some .long)) (by decide) rfl ?_
  intro p e s m args below meth c s₁ B hml hv
  obtain ⟨rfl, _⟩ := hv
  have hx := B.exec
  have hb := B.bytes
  have hr := B.returns
  have hts := atoms_spec (ws := wsX2_sizeOf) B.pre
  have hown : s.vm.findClass RX2 = some m.cls := findClass_of_methodNamed B.named
  have hlocks := B.notSynchronized
  have hS : va_S (fun _ => False) s.heap s.heap [] := va_S.rf
  have hl := lv_entry ([.int p0]) (n := 1) (Nat.le_of_ble_eq_true rfl)
  rw [lg_entry_eq]
  generalize (lg_sl ([.int p0]) ++ List.replicate (1 - (lg_sl ([.int p0])).length) Slot.unset).toArray = ls at hl ⊢
  have hl : lv_has ls 1 [(0, .int p0)] := hl
  refine lv_iload_n hx hb dX2_sizeOf_0 rfl (lv_at hl 0 rfl) ?_
  refine ax_joinL (J := 12) (v := (fX2_sizeOf_j12 p0)) (ls := ls) (rest := []) ?_ (fun kj_2 => ?_)
  · exact W.lret (v := (fX2_sizeOf_j12 p0)) hx hb hr (fun t ht hW => ⟨(fX2_sizeOf_j12 p0), rfl, rfl, ht⟩) (fun q h => absurd h List.not_mem_nil) dX2_sizeOf_12
  · refine lv_if_ge (tgt := 10) hx hb dX2_sizeOf_1 (by decide) (fun c_1_1 => ?_) (fun c_1_1 => ?_)
    · refine lv_iload_n hx hb dX2_sizeOf_10 rfl (lv_at hl 0 rfl) ?_
      refine lv_i2l (v := p0.toInt64) hx hb dX2_sizeOf_11 rfl ?_
      exact kj_2 _ (by unfold fX2_sizeOf_j12; rw [if_pos c_1_1])
    · refine lv_iload_n hx hb dX2_sizeOf_4 rfl (lv_at hl 0 rfl) ?_
      refine lv_i2l (v := p0.toInt64) hx hb dX2_sizeOf_5 rfl ?_
      refine lv_lneg hx hb dX2_sizeOf_6 ?_
      refine lv_goto (tgt := 12) hx hb dX2_sizeOf_7 (by decide) ?_
      exact kj_2 _ (by unfold fX2_sizeOf_j12; rw [if_neg c_1_1])

def fX2_madeOf (p0 : Int32) (p1 : Int32) : Int32 := (if (fX2_isGood p0 p1 (0)) = 0 then (if (fX2_isGood p0 p1 (-0)) = 0 then (if (fX2_isGood p0 p1 (1)) = 0 then (if (fX2_isGood p0 p1 (-1)) = 0 then (if (fX2_isGood p0 p1 (2)) = 0 then (if (fX2_isGood p0 p1 (-2)) = 0 then 0 else -2) else 2) else -1) else 1) else -0) else 0)
set_option maxHeartbeats 4000000 in
set_option maxRecDepth 100000 in
theorem kX2_madeOf (l : Launch) (dC : Nat → ClassId) (dI : Nat → Nat → Nat) (p0 : Int32) (p1 : Int32)  : Met l yX2_madeOf wsX2_madeOf ({ frames := 2, cells := 0, slots := 0, locals := 47 } : Room) (va_Pc [.int p0, .int p1] (fun U => True)) (vp_Si (fun r : Int32 => r = (fX2_madeOf p0 p1))) 0 0 (fun _ => False) := by
  refine Met.ofW (cc := cX2_madeOf) (maxL := 3) (ret := (some .int)) (by decide) rfl ?_
  intro p e s m args below meth c s₁ B hml hv
  obtain ⟨rfl, _⟩ := hv
  have hx := B.exec
  have hb := B.bytes
  have hr := B.returns
  have hts := atoms_spec (ws := wsX2_madeOf) B.pre
  have hown : s.vm.findClass RX2 = some m.cls := findClass_of_methodNamed B.named
  have hlocks := B.notSynchronized
  have hS : va_S (fun _ => False) s.heap s.heap [] := va_S.rf
  have hl := lv_entry ([.int p0, .int p1]) (n := 3) (Nat.le_of_ble_eq_true rfl)
  rw [lg_entry_eq]
  generalize (lg_sl ([.int p0, .int p1]) ++ List.replicate (3 - (lg_sl ([.int p0, .int p1])).length) Slot.unset).toArray = ls at hl ⊢
  have hl : lv_has ls 3 [(0, .int p0), (1, .int p1)] := hl
  refine lv_iconst (v := 0) hx hb dX2_madeOf_0 (by decide) ?_
  refine lv_istore_n (lv' := [(2, .int 0), (0, .int p0), (1, .int p1)]) hx hb dX2_madeOf_1 rfl hl (by decide) rfl (fun ls hl => ?_)
  refine lv_iload_n hx hb dX2_madeOf_2 rfl (lv_at hl 0 rfl) ?_
  refine lv_iconst (v := 2) hx hb dX2_madeOf_3 (by decide) ?_
  refine lv_icmp_gt (tgt := 37) hx hb dX2_madeOf_4 (by decide) (fun c_4 => ?_) (fun c_4 => ?_)
  · exact absurd c_4 (by decide)
  · refine lv_iload_n hx hb dX2_madeOf_7 rfl (lv_at hl 1 rfl) ?_
    refine lv_iload_n hx hb dX2_madeOf_8 rfl (lv_at hl 2 rfl) ?_
    refine lv_iload_n hx hb dX2_madeOf_9 rfl (lv_at hl 0 rfl) ?_
    refine vp_callSi (W.runS (As := [.int p0, .int p1, .int 0]) (rest := []) ⟨hx, hb, hml, hown, hts⟩ (kX2_isGood l dC dI p0 p1 (0)) (va_cwS 3 hts gX2_madeOf_X2_isGood rfl rfl rfl (by decide +kernel) ⟨Nat.le_of_ble_eq_true rfl, Nat.le_of_ble_eq_true rfl⟩) ⟨fun a U g mk q => by obtain ⟨q0, qt⟩ := q; exact ⟨q0, qt⟩, fun U hU hW => ⟨rfl, trivial⟩⟩ rfl rfl hl.1 rfl (lv_room (Nat.le_of_ble_eq_true rfl)) dX2_madeOf_10 ⟨Nat.zero_le _, Nat.zero_le _⟩) (fun r_1 hr_1 => ?_)
    subst hr_1
    refine lv_if_eq (tgt := 18) hx hb dX2_madeOf_13 (by decide) (fun c_13_2 => ?_) (fun c_13_2 => ?_)
    · refine lv_iload_n hx hb dX2_madeOf_18 rfl (lv_at hl 1 rfl) ?_
      refine lv_iload_n hx hb dX2_madeOf_19 rfl (lv_at hl 2 rfl) ?_
      refine lv_iload_n hx hb dX2_madeOf_20 rfl (lv_at hl 0 rfl) ?_
      refine lv_ineg hx hb dX2_madeOf_21 ?_
      refine vp_callSi (W.runS (As := [.int p0, .int p1, .int (-0)]) (rest := []) ⟨hx, hb, hml, hown, hts⟩ (kX2_isGood l dC dI p0 p1 (-0)) (va_cwS 3 hts gX2_madeOf_X2_isGood rfl rfl rfl (by decide +kernel) ⟨Nat.le_of_ble_eq_true rfl, Nat.le_of_ble_eq_true rfl⟩) ⟨fun a U g mk q => by obtain ⟨q0, qt⟩ := q; exact ⟨q0, qt⟩, fun U hU hW => ⟨rfl, trivial⟩⟩ rfl rfl hl.1 rfl (lv_room (Nat.le_of_ble_eq_true rfl)) dX2_madeOf_22 ⟨Nat.zero_le _, Nat.zero_le _⟩) (fun r_3 hr_3 => ?_)
      subst hr_3
      refine lv_if_eq (tgt := 31) hx hb dX2_madeOf_25 (by decide) (fun c_25_4 => ?_) (fun c_25_4 => ?_)
      · refine lv_iinc (v := 1) (lv' := [(2, .int 1), (0, .int p0), (1, .int p1)]) hx hb dX2_madeOf_31 hl (k := 0) rfl (by decide) (by decide) rfl (fun ls hl => ?_)
        refine lv_goto (tgt := 2) hx hb dX2_madeOf_34 (by decide) ?_
        refine lv_iload_n hx hb dX2_madeOf_2 rfl (lv_at hl 0 rfl) ?_
        refine lv_iconst (v := 2) hx hb dX2_madeOf_3 (by decide) ?_
        refine lv_icmp_gt (tgt := 37) hx hb dX2_madeOf_4 (by decide) (fun c_4 => ?_) (fun c_4 => ?_)
        · exact absurd c_4 (by decide)
        · refine lv_iload_n hx hb dX2_madeOf_7 rfl (lv_at hl 1 rfl) ?_
          refine lv_iload_n hx hb dX2_madeOf_8 rfl (lv_at hl 2 rfl) ?_
          refine lv_iload_n hx hb dX2_madeOf_9 rfl (lv_at hl 0 rfl) ?_
          refine vp_callSi (W.runS (As := [.int p0, .int p1, .int 1]) (rest := []) ⟨hx, hb, hml, hown, hts⟩ (kX2_isGood l dC dI p0 p1 (1)) (va_cwS 3 hts gX2_madeOf_X2_isGood rfl rfl rfl (by decide +kernel) ⟨Nat.le_of_ble_eq_true rfl, Nat.le_of_ble_eq_true rfl⟩) ⟨fun a U g mk q => by obtain ⟨q0, qt⟩ := q; exact ⟨q0, qt⟩, fun U hU hW => ⟨rfl, trivial⟩⟩ rfl rfl hl.1 rfl (lv_room (Nat.le_of_ble_eq_true rfl)) dX2_madeOf_10 ⟨Nat.zero_le _, Nat.zero_le _⟩) (fun r_5 hr_5 => ?_)
          subst hr_5
          refine lv_if_eq (tgt := 18) hx hb dX2_madeOf_13 (by decide) (fun c_13_6 => ?_) (fun c_13_6 => ?_)
          · refine lv_iload_n hx hb dX2_madeOf_18 rfl (lv_at hl 1 rfl) ?_
            refine lv_iload_n hx hb dX2_madeOf_19 rfl (lv_at hl 2 rfl) ?_
            refine lv_iload_n hx hb dX2_madeOf_20 rfl (lv_at hl 0 rfl) ?_
            refine lv_ineg hx hb dX2_madeOf_21 ?_
            refine vp_callSi (W.runS (As := [.int p0, .int p1, .int (-1)]) (rest := []) ⟨hx, hb, hml, hown, hts⟩ (kX2_isGood l dC dI p0 p1 (-1)) (va_cwS 3 hts gX2_madeOf_X2_isGood rfl rfl rfl (by decide +kernel) ⟨Nat.le_of_ble_eq_true rfl, Nat.le_of_ble_eq_true rfl⟩) ⟨fun a U g mk q => by obtain ⟨q0, qt⟩ := q; exact ⟨q0, qt⟩, fun U hU hW => ⟨rfl, trivial⟩⟩ rfl rfl hl.1 rfl (lv_room (Nat.le_of_ble_eq_true rfl)) dX2_madeOf_22 ⟨Nat.zero_le _, Nat.zero_le _⟩) (fun r_7 hr_7 => ?_)
            subst hr_7
            refine lv_if_eq (tgt := 31) hx hb dX2_madeOf_25 (by decide) (fun c_25_8 => ?_) (fun c_25_8 => ?_)
            · refine lv_iinc (v := 2) (lv' := [(2, .int 2), (0, .int p0), (1, .int p1)]) hx hb dX2_madeOf_31 hl (k := 0) rfl (by decide) (by decide) rfl (fun ls hl => ?_)
              refine lv_goto (tgt := 2) hx hb dX2_madeOf_34 (by decide) ?_
              refine lv_iload_n hx hb dX2_madeOf_2 rfl (lv_at hl 0 rfl) ?_
              refine lv_iconst (v := 2) hx hb dX2_madeOf_3 (by decide) ?_
              refine lv_icmp_gt (tgt := 37) hx hb dX2_madeOf_4 (by decide) (fun c_4 => ?_) (fun c_4 => ?_)
              · exact absurd c_4 (by decide)
              · refine lv_iload_n hx hb dX2_madeOf_7 rfl (lv_at hl 1 rfl) ?_
                refine lv_iload_n hx hb dX2_madeOf_8 rfl (lv_at hl 2 rfl) ?_
                refine lv_iload_n hx hb dX2_madeOf_9 rfl (lv_at hl 0 rfl) ?_
                refine vp_callSi (W.runS (As := [.int p0, .int p1, .int 2]) (rest := []) ⟨hx, hb, hml, hown, hts⟩ (kX2_isGood l dC dI p0 p1 (2)) (va_cwS 3 hts gX2_madeOf_X2_isGood rfl rfl rfl (by decide +kernel) ⟨Nat.le_of_ble_eq_true rfl, Nat.le_of_ble_eq_true rfl⟩) ⟨fun a U g mk q => by obtain ⟨q0, qt⟩ := q; exact ⟨q0, qt⟩, fun U hU hW => ⟨rfl, trivial⟩⟩ rfl rfl hl.1 rfl (lv_room (Nat.le_of_ble_eq_true rfl)) dX2_madeOf_10 ⟨Nat.zero_le _, Nat.zero_le _⟩) (fun r_9 hr_9 => ?_)
                subst hr_9
                refine lv_if_eq (tgt := 18) hx hb dX2_madeOf_13 (by decide) (fun c_13_10 => ?_) (fun c_13_10 => ?_)
                · refine lv_iload_n hx hb dX2_madeOf_18 rfl (lv_at hl 1 rfl) ?_
                  refine lv_iload_n hx hb dX2_madeOf_19 rfl (lv_at hl 2 rfl) ?_
                  refine lv_iload_n hx hb dX2_madeOf_20 rfl (lv_at hl 0 rfl) ?_
                  refine lv_ineg hx hb dX2_madeOf_21 ?_
                  refine vp_callSi (W.runS (As := [.int p0, .int p1, .int (-2)]) (rest := []) ⟨hx, hb, hml, hown, hts⟩ (kX2_isGood l dC dI p0 p1 (-2)) (va_cwS 3 hts gX2_madeOf_X2_isGood rfl rfl rfl (by decide +kernel) ⟨Nat.le_of_ble_eq_true rfl, Nat.le_of_ble_eq_true rfl⟩) ⟨fun a U g mk q => by obtain ⟨q0, qt⟩ := q; exact ⟨q0, qt⟩, fun U hU hW => ⟨rfl, trivial⟩⟩ rfl rfl hl.1 rfl (lv_room (Nat.le_of_ble_eq_true rfl)) dX2_madeOf_22 ⟨Nat.zero_le _, Nat.zero_le _⟩) (fun r_11 hr_11 => ?_)
                  subst hr_11
                  refine lv_if_eq (tgt := 31) hx hb dX2_madeOf_25 (by decide) (fun c_25_12 => ?_) (fun c_25_12 => ?_)
                  · refine lv_iinc (v := 3) (lv' := [(2, .int 3), (0, .int p0), (1, .int p1)]) hx hb dX2_madeOf_31 hl (k := 0) rfl (by decide) (by decide) rfl (fun ls hl => ?_)
                    refine lv_goto (tgt := 2) hx hb dX2_madeOf_34 (by decide) ?_
                    refine lv_iload_n hx hb dX2_madeOf_2 rfl (lv_at hl 0 rfl) ?_
                    refine lv_iconst (v := 2) hx hb dX2_madeOf_3 (by decide) ?_
                    refine lv_icmp_gt (tgt := 37) hx hb dX2_madeOf_4 (by decide) (fun c_4 => ?_) (fun c_4 => ?_)
                    · refine lv_iconst (v := 0) hx hb dX2_madeOf_37 (by decide) ?_
                      exact W.iret (v := 0) hx hb hr (fun t ht hW => ⟨0, rfl, (by unfold fX2_madeOf; rw [if_pos c_13_2, if_pos c_25_4, if_pos c_13_6, if_pos c_25_8, if_pos c_13_10, if_pos c_25_12]), ht⟩) (fun q h => absurd h List.not_mem_nil) dX2_madeOf_38
                    · exact absurd c_4 (by decide)
                  · refine lv_iload_n hx hb dX2_madeOf_28 rfl (lv_at hl 0 rfl) ?_
                    refine lv_ineg hx hb dX2_madeOf_29 ?_
                    exact W.iret (v := -2) hx hb hr (fun t ht hW => ⟨-2, rfl, (by unfold fX2_madeOf; rw [if_pos c_13_2, if_pos c_25_4, if_pos c_13_6, if_pos c_25_8, if_pos c_13_10, if_neg c_25_12]), ht⟩) (fun q h => absurd h List.not_mem_nil) dX2_madeOf_30
                · refine lv_iload_n hx hb dX2_madeOf_16 rfl (lv_at hl 0 rfl) ?_
                  exact W.iret (v := 2) hx hb hr (fun t ht hW => ⟨2, rfl, (by unfold fX2_madeOf; rw [if_pos c_13_2, if_pos c_25_4, if_pos c_13_6, if_pos c_25_8, if_neg c_13_10]), ht⟩) (fun q h => absurd h List.not_mem_nil) dX2_madeOf_17
            · refine lv_iload_n hx hb dX2_madeOf_28 rfl (lv_at hl 0 rfl) ?_
              refine lv_ineg hx hb dX2_madeOf_29 ?_
              exact W.iret (v := -1) hx hb hr (fun t ht hW => ⟨-1, rfl, (by unfold fX2_madeOf; rw [if_pos c_13_2, if_pos c_25_4, if_pos c_13_6, if_neg c_25_8]), ht⟩) (fun q h => absurd h List.not_mem_nil) dX2_madeOf_30
          · refine lv_iload_n hx hb dX2_madeOf_16 rfl (lv_at hl 0 rfl) ?_
            exact W.iret (v := 1) hx hb hr (fun t ht hW => ⟨1, rfl, (by unfold fX2_madeOf; rw [if_pos c_13_2, if_pos c_25_4, if_neg c_13_6]), ht⟩) (fun q h => absurd h List.not_mem_nil) dX2_madeOf_17
      · refine lv_iload_n hx hb dX2_madeOf_28 rfl (lv_at hl 0 rfl) ?_
        refine lv_ineg hx hb dX2_madeOf_29 ?_
        exact W.iret (v := -0) hx hb hr (fun t ht hW => ⟨-0, rfl, (by unfold fX2_madeOf; rw [if_pos c_13_2, if_neg c_25_4]), ht⟩) (fun q h => absurd h List.not_mem_nil) dX2_madeOf_30
    · refine lv_iload_n hx hb dX2_madeOf_16 rfl (lv_at hl 0 rfl) ?_
      exact W.iret (v := 0) hx hb hr (fun t ht hW => ⟨0, rfl, (by unfold fX2_madeOf; rw [if_neg c_13_2]), ht⟩) (fun q h => absurd h List.not_mem_nil) dX2_madeOf_17
end
section
abbrev DV : Type := (Nat → Int32) × (Nat → Int32) × (Nat → Int64) × (Nat → Int64) × (Nat → Int64) × (Nat → Int64) × Int32 × Int32 × Int32 × Int32 × Int32 × Int32 × Int32 × Int32
abbrev dv0 (S : DV) : (Nat → Int32) := S.1
abbrev dv1 (S : DV) : (Nat → Int32) := S.2.1
abbrev dv2 (S : DV) : (Nat → Int64) := S.2.2.1
abbrev dv3 (S : DV) : (Nat → Int64) := S.2.2.2.1
abbrev dv4 (S : DV) : (Nat → Int64) := S.2.2.2.2.1
abbrev dv5 (S : DV) : (Nat → Int64) := S.2.2.2.2.2.1
abbrev dv6 (S : DV) : Int32 := S.2.2.2.2.2.2.1
abbrev dv7 (S : DV) : Int32 := S.2.2.2.2.2.2.2.1
abbrev dv8 (S : DV) : Int32 := S.2.2.2.2.2.2.2.2.1
abbrev dv9 (S : DV) : Int32 := S.2.2.2.2.2.2.2.2.2.1
abbrev dv10 (S : DV) : Int32 := S.2.2.2.2.2.2.2.2.2.2.1
abbrev dv11 (S : DV) : Int32 := S.2.2.2.2.2.2.2.2.2.2.2.1
abbrev dv12 (S : DV) : Int32 := S.2.2.2.2.2.2.2.2.2.2.2.2.1
abbrev dv13 (S : DV) : Int32 := S.2.2.2.2.2.2.2.2.2.2.2.2.2
abbrev MV : Type := (Nat → Int32) × Int32 × Int32 × Int32 × Int32 × Int32 × Int32 × Int32 × Int32 × Int32 × (Nat → Int32) × (Nat → Int32) × (Nat → Int64) × (Nat → Int64) × (Nat → Int64) × (Nat → Int64) × (Nat → Int32) × (Nat → Int64)
abbrev mv0 (S : MV) : (Nat → Int32) := S.1
abbrev mv1 (S : MV) : Int32 := S.2.1
abbrev mv2 (S : MV) : Int32 := S.2.2.1
abbrev mv3 (S : MV) : Int32 := S.2.2.2.1
abbrev mv4 (S : MV) : Int32 := S.2.2.2.2.1
abbrev mv5 (S : MV) : Int32 := S.2.2.2.2.2.1
abbrev mv6 (S : MV) : Int32 := S.2.2.2.2.2.2.1
abbrev mv7 (S : MV) : Int32 := S.2.2.2.2.2.2.2.1
abbrev mv8 (S : MV) : Int32 := S.2.2.2.2.2.2.2.2.1
abbrev mv9 (S : MV) : Int32 := S.2.2.2.2.2.2.2.2.2.1
abbrev mv10 (S : MV) : (Nat → Int32) := S.2.2.2.2.2.2.2.2.2.2.1
abbrev mv11 (S : MV) : (Nat → Int32) := S.2.2.2.2.2.2.2.2.2.2.2.1
abbrev mv12 (S : MV) : (Nat → Int64) := S.2.2.2.2.2.2.2.2.2.2.2.2.1
abbrev mv13 (S : MV) : (Nat → Int64) := S.2.2.2.2.2.2.2.2.2.2.2.2.2.1
abbrev mv14 (S : MV) : (Nat → Int64) := S.2.2.2.2.2.2.2.2.2.2.2.2.2.2.1
abbrev mv15 (S : MV) : (Nat → Int64) := S.2.2.2.2.2.2.2.2.2.2.2.2.2.2.2.1
abbrev mv16 (S : MV) : (Nat → Int32) := S.2.2.2.2.2.2.2.2.2.2.2.2.2.2.2.2.1
abbrev mv17 (S : MV) : (Nat → Int64) := S.2.2.2.2.2.2.2.2.2.2.2.2.2.2.2.2.2
/-- the words of nest mates -/
def nwX (U : State) : Prop := va_Nw (.fieldLinkNest RX1 80 "DigitDivider$Division" "digits" "[I" "DigitDivider") U ∧ va_Nw (.fieldLinkNest RX1 83 "DigitDivider$Division" "estimates" "[I" "DigitDivider") U ∧ va_Nw (.fieldLinkNest RX1 86 "DigitDivider$Division" "sums" "[J" "DigitDivider") U ∧ va_Nw (.fieldLinkNest RX1 90 "DigitDivider$Division" "carries" "[J" "DigitDivider") U ∧ va_Nw (.fieldLinkNest RX1 93 "DigitDivider$Division" "qs" "[J" "DigitDivider") U ∧ va_Nw (.fieldLinkNest RX1 96 "DigitDivider$Division" "rs" "[J" "DigitDivider") U ∧ va_Nw (.fieldLinkNest RX1 99 "DigitDivider$Division" "row" "I" "DigitDivider") U ∧ va_Nw (.fieldLinkNest RX1 102 "DigitDivider$Division" "s" "I" "DigitDivider") U ∧ va_Nw (.fieldLinkNest RX1 105 "DigitDivider$Division" "t" "I" "DigitDivider") U ∧ va_Nw (.fieldLinkNest RX1 68 "DigitDivider$Division" "n" "I" "DigitDivider") U ∧ va_Nw (.fieldLinkNest RX1 108 "DigitDivider$Division" "digitsNotZero" "I" "DigitDivider") U ∧ va_Nw (.fieldLinkNest RX1 77 "DigitDivider$Division" "firstLeft" "I" "DigitDivider") U ∧ va_Nw (.fieldLinkNest RX1 71 "DigitDivider$Division" "quotient" "I" "DigitDivider") U ∧ va_Nw (.fieldLinkNest RX1 74 "DigitDivider$Division" "rest" "I" "DigitDivider") U ∧ va_Nw (.methodLinkNest RX1 20 yX0_init "DigitDivider") U ∧ va_Nw (.methodLinkNest RX1 64 yX0_run "DigitDivider") U ∧ va_Nw (.methodLinkNest RX0 94 yX1_cellAt "DigitDivider") U
theorem nw_0 {U : State} (h : nwX U) : va_Nw (.fieldLinkNest RX1 80 "DigitDivider$Division" "digits" "[I" "DigitDivider") U := h.1
theorem nw_1 {U : State} (h : nwX U) : va_Nw (.fieldLinkNest RX1 83 "DigitDivider$Division" "estimates" "[I" "DigitDivider") U := h.2.1
theorem nw_2 {U : State} (h : nwX U) : va_Nw (.fieldLinkNest RX1 86 "DigitDivider$Division" "sums" "[J" "DigitDivider") U := h.2.2.1
theorem nw_3 {U : State} (h : nwX U) : va_Nw (.fieldLinkNest RX1 90 "DigitDivider$Division" "carries" "[J" "DigitDivider") U := h.2.2.2.1
theorem nw_4 {U : State} (h : nwX U) : va_Nw (.fieldLinkNest RX1 93 "DigitDivider$Division" "qs" "[J" "DigitDivider") U := h.2.2.2.2.1
theorem nw_5 {U : State} (h : nwX U) : va_Nw (.fieldLinkNest RX1 96 "DigitDivider$Division" "rs" "[J" "DigitDivider") U := h.2.2.2.2.2.1
theorem nw_6 {U : State} (h : nwX U) : va_Nw (.fieldLinkNest RX1 99 "DigitDivider$Division" "row" "I" "DigitDivider") U := h.2.2.2.2.2.2.1
theorem nw_7 {U : State} (h : nwX U) : va_Nw (.fieldLinkNest RX1 102 "DigitDivider$Division" "s" "I" "DigitDivider") U := h.2.2.2.2.2.2.2.1
theorem nw_8 {U : State} (h : nwX U) : va_Nw (.fieldLinkNest RX1 105 "DigitDivider$Division" "t" "I" "DigitDivider") U := h.2.2.2.2.2.2.2.2.1
theorem nw_9 {U : State} (h : nwX U) : va_Nw (.fieldLinkNest RX1 68 "DigitDivider$Division" "n" "I" "DigitDivider") U := h.2.2.2.2.2.2.2.2.2.1
theorem nw_10 {U : State} (h : nwX U) : va_Nw (.fieldLinkNest RX1 108 "DigitDivider$Division" "digitsNotZero" "I" "DigitDivider") U := h.2.2.2.2.2.2.2.2.2.2.1
theorem nw_11 {U : State} (h : nwX U) : va_Nw (.fieldLinkNest RX1 77 "DigitDivider$Division" "firstLeft" "I" "DigitDivider") U := h.2.2.2.2.2.2.2.2.2.2.2.1
theorem nw_12 {U : State} (h : nwX U) : va_Nw (.fieldLinkNest RX1 71 "DigitDivider$Division" "quotient" "I" "DigitDivider") U := h.2.2.2.2.2.2.2.2.2.2.2.2.1
theorem nw_13 {U : State} (h : nwX U) : va_Nw (.fieldLinkNest RX1 74 "DigitDivider$Division" "rest" "I" "DigitDivider") U := h.2.2.2.2.2.2.2.2.2.2.2.2.2.1
theorem nw_14 {U : State} (h : nwX U) : va_Nw (.methodLinkNest RX1 20 yX0_init "DigitDivider") U := h.2.2.2.2.2.2.2.2.2.2.2.2.2.2.1
theorem nw_15 {U : State} (h : nwX U) : va_Nw (.methodLinkNest RX1 64 yX0_run "DigitDivider") U := h.2.2.2.2.2.2.2.2.2.2.2.2.2.2.2.1
theorem nw_16 {U : State} (h : nwX U) : va_Nw (.methodLinkNest RX0 94 yX1_cellAt "DigitDivider") U := h.2.2.2.2.2.2.2.2.2.2.2.2.2.2.2.2
theorem nw_warm {s U : State} (hW : s.WarmedH U.vm) (h : nwX s) : nwX U := ⟨va_Nw.warmF hW (nw_0 h), va_Nw.warmF hW (nw_1 h), va_Nw.warmF hW (nw_2 h), va_Nw.warmF hW (nw_3 h), va_Nw.warmF hW (nw_4 h), va_Nw.warmF hW (nw_5 h), va_Nw.warmF hW (nw_6 h), va_Nw.warmF hW (nw_7 h), va_Nw.warmF hW (nw_8 h), va_Nw.warmF hW (nw_9 h), va_Nw.warmF hW (nw_10 h), va_Nw.warmF hW (nw_11 h), va_Nw.warmF hW (nw_12 h), va_Nw.warmF hW (nw_13 h), va_Nw.warmM hW (nw_14 h), va_Nw.warmM hW (nw_15 h), va_Nw.warmM hW (nw_16 h)⟩
theorem nw_same {u U : State} (e : u.vm = U.vm) (h : nwX u) : nwX U := ⟨va_Nw.same rfl e (nw_0 h), va_Nw.same rfl e (nw_1 h), va_Nw.same rfl e (nw_2 h), va_Nw.same rfl e (nw_3 h), va_Nw.same rfl e (nw_4 h), va_Nw.same rfl e (nw_5 h), va_Nw.same rfl e (nw_6 h), va_Nw.same rfl e (nw_7 h), va_Nw.same rfl e (nw_8 h), va_Nw.same rfl e (nw_9 h), va_Nw.same rfl e (nw_10 h), va_Nw.same rfl e (nw_11 h), va_Nw.same rfl e (nw_12 h), va_Nw.same rfl e (nw_13 h), va_Nw.same rfl e (nw_14 h), va_Nw.same rfl e (nw_15 h), va_Nw.same rfl e (nw_16 h)⟩
/-- how often a size can be doubled below 2^32, at most n times more than t -/
def dblF (V : Nat) : Nat → Nat → Nat
  | 0, t => t
  | n + 1, t => if V * 2 ^ (t + 1) < 4294967296 then dblF V n (t + 1) else t
def dbl (V : Nat) : Nat := dblF V 31 0
theorem dblF_stop {V n t : Nat} (h : ¬ V * 2 ^ (t + 1) < 4294967296) : dblF V n t = t := by
  cases n with
  | zero => rfl
  | succ n => show (if _ then _ else _) = _; rw [if_neg h]
theorem dblF_go {V n t : Nat} (h : V * 2 ^ (t + 1) < 4294967296) : dblF V (n + 1) t = dblF V n (t + 1) := by show (if _ then _ else _) = _; rw [if_pos h]
theorem dbl_shl {V t : Nat} (ht : t + 1 ≤ 31) : lN V <<< ((nI t + 1).toInt64 &&& 63) = lN (V * 2 ^ (t + 1)) := by
  rw [nI_1]
  apply Int64.toBitVec_inj.mp
  have h1 : (nI (t + 1)).toInt64 &&& 63 = lN (t + 1) := by
    have : ∀ k, k < 64 → ((nI k).toInt64 &&& 63) = lN k := by decide +kernel
    exact this _ (by omega)
  rw [h1]
  have h2 : ∀ k, k < 64 → (BitVec.ofNat 64 k).smod 64 = BitVec.ofNat 64 k := by decide +kernel
  have h3 : (lN (t + 1)).toBitVec = BitVec.ofNat 64 (t + 1) := rfl
  rw [Int64.toBitVec_shiftLeft, h3, h2 _ (by omega)]
  apply BitVec.eq_of_toNat_eq
  show _ = (BitVec.ofNat 64 (V * 2 ^ (t + 1))).toNat
  rw [BitVec.shiftLeft_eq', BitVec.toNat_shiftLeft]
  show ((BitVec.ofNat 64 V).toNat <<< (BitVec.ofNat 64 (t + 1)).toNat) % 2 ^ 64 = _
  rw [BitVec.toNat_ofNat, BitVec.toNat_ofNat, BitVec.toNat_ofNat, Nat.mod_eq_of_lt (show t + 1 < 2 ^ 64 by omega), Nat.shiftLeft_eq, Nat.mod_mul_mod]
theorem dbl_cmp {V t : Nat} {x : Int64} (hp : x = lN V) (hV : V ≤ 2147483648) (ht : t + 1 ≤ 31) : (4294967296 : Int64) ≤ x <<< ((nI t + 1).toInt64 &&& 63) ↔ ¬ V * 2 ^ (t + 1) < 4294967296 := by
  rw [hp, dbl_shl ht]
  have hb : V * 2 ^ (t + 1) < 2 ^ 63 := by
    have : 2 ^ (t + 1) ≤ 2 ^ 31 := Nat.pow_le_pow_right (by decide) ht
    calc V * 2 ^ (t + 1) ≤ 2147483648 * 2 ^ 31 := Nat.mul_le_mul hV this
      _ < 2 ^ 63 := by decide
  have : (4294967296 : Int64) = lN 4294967296 := rfl
  rw [this, pk_lLE (by decide) hb]
  omega
end
section
set_option maxHeartbeats 4000000 in
set_option maxRecDepth 100000 in
theorem kX0_doublings (l : Launch) (dC : Nat → ClassId) (dI : Nat → Nat → Nat) (V : Nat) (p0 : Int64) (hp : p0 = lN V) (hV : V ≤ 2147483648) : Met l yX0_doublings wsX0_doublings ({ frames := 0, cells := 0, slots := 0, locals := 0 } : Room) (va_Pc [.long p0] (fun U => True)) (vp_Si (fun r : Int32 => r = (nI (dbl V)))) 0 0 (fun _ => False) := by
  refine Met.ofW (cc := cX0_doublings) (maxL := 3) (ret := (some .int)) (by decide) rfl ?_
  intro p e s m args below meth c s₁ B hml hv
  obtain ⟨rfl, _⟩ := hv
  have hx := B.exec
  have hb := B.bytes
  have hr := B.returns
  have hts := atoms_spec (ws := wsX0_doublings) B.pre
  have hown : s.vm.findClass RX0 = some m.cls := findClass_of_methodNamed B.named
  have hlocks := B.notSynchronized
  have hS : va_S (fun _ => False) s.heap s.heap [] := va_S.rf
  have hl := lv_entry ([.long p0]) (n := 3) (Nat.le_of_ble_eq_true rfl)
  rw [lg_entry_eq]
  generalize (lg_sl ([.long p0]) ++ List.replicate (3 - (lg_sl ([.long p0])).length) Slot.unset).toArray = ls at hl ⊢
  have hl : lv_has ls 3 [(0, .long p0)] := hl
  refine lv_iconst (v := 0) hx hb dX0_doublings_0 (by decide) ?_
  refine lv_istore_n (lv' := [(2, .int 0), (0, .long p0)]) hx hb dX0_doublings_1 rfl hl (by decide) rfl (fun ls hl => ?_)
  refine ax_loopP (pc := 2) (fun i ls => dblF V (31 - i) i = dbl V ∧ lv_has ls 3 [(2, .int (nI i)), (0, .long p0)]) 31 (fun i hii ihi ls hIi => ?_) ⟨rfl, lv_sub hl [0, 1] rfl⟩
  obtain ⟨hv, hl⟩ := hIi
  refine lv_iload_n hx hb dX0_doublings_2 rfl (lv_at hl 0 rfl) ?_
  refine lv_bipush (v := 31) hx hb dX0_doublings_3 (by decide) ?_
  refine lv_icmp_ge (tgt := 26) hx hb dX0_doublings_5 (by decide) (fun c_5_1 => ?_) (fun c_5_1 => ?_)
  · obtain rfl : i = 31 := ax_end (N := 31) rfl (by decide) hii c_5_1
    refine lv_iload_n hx hb dX0_doublings_26 rfl (lv_at hl 0 rfl) ?_
    exact W.iret (v := nI 31) hx hb hr (fun t ht hW => ⟨nI 31, rfl, (by have h9 : dblF V (31 - 31) 31 = 31 := rfl; rw [← hv]; rfl), ht⟩) (fun q h => absurd h List.not_mem_nil) dX0_doublings_27
  · have hlti : i < 31 := ax_more (N := 31) rfl (by decide) hii c_5_1
    refine lv_lload_n hx hb dX0_doublings_8 rfl (lv_at hl 1 rfl) ?_
    refine lv_iload_n hx hb dX0_doublings_9 rfl (lv_at hl 0 rfl) ?_
    refine lv_iconst (v := 1) hx hb dX0_doublings_10 (by decide) ?_
    refine lv_iadd hx hb dX0_doublings_11 ?_
    refine lv_lshl (v := p0 <<< (((nI i) + 1).toInt64 &&& 63)) hx hb dX0_doublings_12 rfl ?_
    refine lv_ldc2 (v := 4294967296) hx hb hown (hts (.constantLong RX0 89 (4294967296)) (by decide +kernel)) dX0_doublings_13 ?_
    refine W.lcmp hx hb dX0_doublings_16 ?_
    refine lv_if_ge (tgt := 26) hx hb dX0_doublings_17 (by decide) (fun c_17_2 => ?_) (fun c_17_2 => ?_)
    · have c_17_2 := (lg_cmp_ge _ _).mp c_17_2
      refine lv_iload_n hx hb dX0_doublings_26 rfl (lv_at hl 0 rfl) ?_
      exact W.iret (v := nI i) hx hb hr (fun t ht hW => ⟨nI i, rfl, (by rw [← hv, dblF_stop ((dbl_cmp hp hV (by omega)).mp c_17_2)]), ht⟩) (fun q h => absurd h List.not_mem_nil) dX0_doublings_27
    · have c_17_2 := (not_congr (lg_cmp_ge _ _)).mp c_17_2
      refine lv_iinc (v := nI (i + 1)) (lv' := [(2, .int (nI (i + 1))), (0, .long p0)]) hx hb dX0_doublings_20 hl (k := 0) rfl (nI_1 _) (by decide) rfl (fun ls hl => ?_)
      refine lv_goto (tgt := 2) hx hb dX0_doublings_23 (by decide) ?_
      exact ihi hlti _ ⟨(by rw [← dblF_go (n := 31 - (i + 1)) (t := i) (Classical.byContradiction fun q => c_17_2 ((dbl_cmp hp hV (by omega)).mpr q)), show 31 - (i + 1) + 1 = 31 - i by omega]; exact hv), lv_sub hl [0, 1] rfl⟩

def gX0_clear (S : DV) : DV := ((dv0 S), (dv1 S), (vp_updL (dv2 S) (0 : Int32).toNatClampNeg 0), (vp_updL (dv3 S) (0 : Int32).toNatClampNeg 0), (vp_updL (dv4 S) (0 : Int32).toNatClampNeg 0), (vp_updL (dv5 S) (0 : Int32).toNatClampNeg (-1)), 0, 0, 0, 0, 0, 0, (dv12 S), (dv13 S))
theorem inX0_X0_clear : ∀ w ∈ wsX00, w ∈ wsX0_clear := by decide +kernel
set_option maxHeartbeats 4000000 in
set_option maxRecDepth 100000 in
theorem kX0_clear (l : Launch) (dC : Nat → ClassId) (dI : Nat → Nat → Nat) (o0 : Nat) (o1 : Nat) (o2 : Nat) (o3 : Nat) (o4 : Nat) (o5 : Nat) (o6 : Nat) (cI : ClassId) (cJ : ClassId) (sz : Nat) (S : DV)  : Met l yX0_clear wsX0_clear ({ frames := 0, cells := 0, slots := 0, locals := 0 } : Room) (va_Pc [.ref o0] (fun U => U.heap.size = sz ∧ va_P (dC, dI) vwCl [(o0, .inr (0, [.ref o1, .ref o2, .ref o3, .ref o4, .ref o5, .ref o6, .int (dv6 S), .int (dv7 S), .int (dv8 S), .int (dv9 S), .int (dv10 S), .int (dv11 S), .int (dv12 S), .int (dv13 S)])), (o1, .inl (cI, 18, .inl (dv0 S))), (o2, .inl (cI, 18, .inl (dv1 S))), (o3, .inl (cJ, 18, .inr (.inl (dv2 S)))), (o4, .inl (cJ, 18, .inr (.inl (dv3 S)))), (o5, .inl (cJ, 18, .inr (.inl (dv4 S)))), (o6, .inl (cJ, 18, .inr (.inl (dv5 S))))] U.heap ∧ va_K (dC, dI) vwCl [(cI, .int), (cJ, .long)] U ∧ va_D (fun _ => True) [(o0, .inr (0, [.ref o1, .ref o2, .ref o3, .ref o4, .ref o5, .ref o6, .int (dv6 S), .int (dv7 S), .int (dv8 S), .int (dv9 S), .int (dv10 S), .int (dv11 S), .int (dv12 S), .int (dv13 S)])), (o1, .inl (cI, 18, .inl (dv0 S))), (o2, .inl (cI, 18, .inl (dv1 S))), (o3, .inl (cJ, 18, .inr (.inl (dv2 S)))), (o4, .inl (cJ, 18, .inr (.inl (dv3 S)))), (o5, .inl (cJ, 18, .inr (.inl (dv4 S)))), (o6, .inl (cJ, 18, .inr (.inl (dv5 S))))])) (va_Qv (fun u : DV => u = (gX0_clear S)) (fun (u : DV) (t : State) => va_P (dC, dI) vwCl [(o0, .inr (0, [.ref o1, .ref o2, .ref o3, .ref o4, .ref o5, .ref o6, .int (dv6 u), .int (dv7 u), .int (dv8 u), .int (dv9 u), .int (dv10 u), .int (dv11 u), .int (dv12 u), .int (dv13 u)])), (o1, .inl (cI, 18, .inl (dv0 u))), (o2, .inl (cI, 18, .inl (dv1 u))), (o3, .inl (cJ, 18, .inr (.inl (dv2 u)))), (o4, .inl (cJ, 18, .inr (.inl (dv3 u)))), (o5, .inl (cJ, 18, .inr (.inl (dv4 u)))), (o6, .inl (cJ, 18, .inr (.inl (dv5 u))))] t.heap ∧ va_K (dC, dI) vwCl [(cI, .int), (cJ, .long)] t ∧ va_D (va_A [(o0, .inr (0, [.ref o1, .ref o2, .ref o3, .ref o4, .ref o5, .ref o6, .int (dv6 S), .int (dv7 S), .int (dv8 S), .int (dv9 S), .int (dv10 S), .int (dv11 S), .int (dv12 S), .int (dv13 S)])), (o1, .inl (cI, 18, .inl (dv0 S))), (o2, .inl (cI, 18, .inl (dv1 S))), (o3, .inl (cJ, 18, .inr (.inl (dv2 S)))), (o4, .inl (cJ, 18, .inr (.inl (dv3 S)))), (o5, .inl (cJ, 18, .inr (.inl (dv4 S)))), (o6, .inl (cJ, 18, .inr (.inl (dv5 S))))] sz) [(o0, .inr (0, [.ref o1, .ref o2, .ref o3, .ref o4, .ref o5, .ref o6, .int (dv6 u), .int (dv7 u), .int (dv8 u), .int (dv9 u), .int (dv10 u), .int (dv11 u), .int (dv12 u), .int (dv13 u)])), (o1, .inl (cI, 18, .inl (dv0 u))), (o2, .inl (cI, 18, .inl (dv1 u))), (o3, .inl (cJ, 18, .inr (.inl (dv2 u)))), (o4, .inl (cJ, 18, .inr (.inl (dv3 u)))), (o5, .inl (cJ, 18, .inr (.inl (dv4 u)))), (o6, .inl (cJ, 18, .inr (.inl (dv5 u))))]) (va_A [(o0, .inr (0, [.ref o1, .ref o2, .ref o3, .ref o4, .ref o5, .ref o6, .int (dv6 S), .int (dv7 S), .int (dv8 S), .int (dv9 S), .int (dv10 S), .int (dv11 S), .int (dv12 S), .int (dv13 S)])), (o1, .inl (cI, 18, .inl (dv0 S))), (o2, .inl (cI, 18, .inl (dv1 S))), (o3, .inl (cJ, 18, .inr (.inl (dv2 S)))), (o4, .inl (cJ, 18, .inr (.inl (dv3 S)))), (o5, .inl (cJ, 18, .inr (.inl (dv4 S)))), (o6, .inl (cJ, 18, .inr (.inl (dv5 S))))] sz)) 0 0 (va_A [(o0, .inr (0, [.ref o1, .ref o2, .ref o3, .ref o4, .ref o5, .ref o6, .int (dv6 S), .int (dv7 S), .int (dv8 S), .int (dv9 S), .int (dv10 S), .int (dv11 S), .int (dv12 S), .int (dv13 S)])), (o1, .inl (cI, 18, .inl (dv0 S))), (o2, .inl (cI, 18, .inl (dv1 S))), (o3, .inl (cJ, 18, .inr (.inl (dv2 S)))), (o4, .inl (cJ, 18, .inr (.inl (dv3 S)))), (o5, .inl (cJ, 18, .inr (.inl (dv4 S)))), (o6, .inl (cJ, 18, .inr (.inl (dv5 S))))] sz) := by
  refine Met.ofW (cc := cX0_clear) (maxL := 1) (ret := none) (by decide) rfl ?_
  intro p e s m args below meth c s₁ B hml hv
  obtain ⟨rfl, hsz, hP, hK, hD0⟩ := hv
  have hx := B.exec
  have hb := B.bytes
  have hr := B.returns
  have hts := atoms_spec (ws := wsX0_clear) B.pre
  have hown : s.vm.findClass RX0 = some m.cls := findClass_of_methodNamed B.named
  have hlocks := B.notSynchronized
  subst hsz
  have hD := hD0.self (sz := s.heap.size)
  generalize hAe : va_A [(o0, .inr (0, [.ref o1, .ref o2, .ref o3, .ref o4, .ref o5, .ref o6, .int (dv6 S), .int (dv7 S), .int (dv8 S), .int (dv9 S), .int (dv10 S), .int (dv11 S), .int (dv12 S), .int (dv13 S)])), (o1, .inl (cI, 18, .inl (dv0 S))), (o2, .inl (cI, 18, .inl (dv1 S))), (o3, .inl (cJ, 18, .inr (.inl (dv2 S)))), (o4, .inl (cJ, 18, .inr (.inl (dv3 S)))), (o5, .inl (cJ, 18, .inr (.inl (dv4 S)))), (o6, .inl (cJ, 18, .inr (.inl (dv5 S))))] s.heap.size = A at hD  ⊢
  have hA : ∀ q : Nat, s.heap.size ≤ q → A q := fun q h => by rw [← hAe]; exact Or.inr h
  have hS : va_S A s.heap s.heap [] := va_S.rf
  have hP : va_P (dC, dI) vwCl [(o0, .inr (0, [.ref o1, .ref o2, .ref o3, .ref o4, .ref o5, .ref o6, .int (dv6 S), .int (dv7 S), .int (dv8 S), .int (dv9 S), .int (dv10 S), .int (dv11 S), .int (dv12 S), .int (dv13 S)])), (o1, .inl (cI, 18, .inl (dv0 S))), (o2, .inl (cI, 18, .inl (dv1 S))), (o3, .inl (cJ, 18, .inr (.inl (dv2 S)))), (o4, .inl (cJ, 18, .inr (.inl (dv3 S)))), (o5, .inl (cJ, 18, .inr (.inl (dv4 S)))), (o6, .inl (cJ, 18, .inr (.inl (dv5 S))))] s.heap := hP
  have hl := lv_entry ([.ref o0]) (n := 1) (Nat.le_of_ble_eq_true rfl)
  rw [lg_entry_eq]
  generalize (lg_sl ([.ref o0]) ++ List.replicate (1 - (lg_sl ([.ref o0])).length) Slot.unset).toArray = ls at hl ⊢
  have hl : lv_has ls 1 [(0, .ref o0)] := hl
  refine lv_aload_n hx hb dX0_clear_0 rfl (lv_at hl 0 rfl) ?_
  refine va_get (D := (dC, dI)) (ci := 0) (v := .ref o3) (C := RX0) (T := TX0) (N := 14) hx hb hts inX0_X0_clear hown hK hP 0 rfl rfl 2 (by decide) (hts (.fieldLink RX0 18 "DigitDivider$Division" "sums" "[J") (by decide +kernel)) (fun _ h9 => h9) rfl dX0_clear_1 ?_
  refine lv_iconst (v := 0) hx hb dX0_clear_4 (by decide) ?_
  refine lv_lconst (v := 0) hx hb dX0_clear_5 (by decide) ?_
  refine va_last hx hb hK hP hD hS 3 1 rfl rfl (by unfold vp_in; decide) dX0_clear_6 (fun H locs hP hD hS => ?_)
  have hP : va_P (dC, dI) vwCl [(o0, .inr (0, [.ref o1, .ref o2, .ref o3, .ref o4, .ref o5, .ref o6, .int (dv6 S), .int (dv7 S), .int (dv8 S), .int (dv9 S), .int (dv10 S), .int (dv11 S), .int (dv12 S), .int (dv13 S)])), (o1, .inl (cI, 18, .inl (dv0 S))), (o2, .inl (cI, 18, .inl (dv1 S))), (o3, .inl (cJ, 18, .inr (.inl (vp_updL (dv2 S) (0 : Int32).toNatClampNeg 0)))), (o4, .inl (cJ, 18, .inr (.inl (dv3 S)))), (o5, .inl (cJ, 18, .inr (.inl (dv4 S)))), (o6, .inl (cJ, 18, .inr (.inl (dv5 S))))] H := hP
  have hD : va_D A [(o0, .inr (0, [.ref o1, .ref o2, .ref o3, .ref o4, .ref o5, .ref o6, .int (dv6 S), .int (dv7 S), .int (dv8 S), .int (dv9 S), .int (dv10 S), .int (dv11 S), .int (dv12 S), .int (dv13 S)])), (o1, .inl (cI, 18, .inl (dv0 S))), (o2, .inl (cI, 18, .inl (dv1 S))), (o3, .inl (cJ, 18, .inr (.inl (vp_updL (dv2 S) (0 : Int32).toNatClampNeg 0)))), (o4, .inl (cJ, 18, .inr (.inl (dv3 S)))), (o5, .inl (cJ, 18, .inr (.inl (dv4 S)))), (o6, .inl (cJ, 18, .inr (.inl (dv5 S))))] := hD
  refine lv_aload_n hx hb dX0_clear_7 rfl (lv_at hl 0 rfl) ?_
  refine va_get (D := (dC, dI)) (ci := 0) (v := .ref o4) (C := RX0) (T := TX0) (N := 14) hx hb hts inX0_X0_clear hown hK hP 0 rfl rfl 3 (by decide) (hts (.fieldLink RX0 22 "DigitDivider$Division" "carries" "[J") (by decide +kernel)) (fun _ h9 => h9) rfl dX0_clear_8 ?_
  refine lv_iconst (v := 0) hx hb dX0_clear_11 (by decide) ?_
  refine lv_lconst (v := 0) hx hb dX0_clear_12 (by decide) ?_
  refine va_last hx hb hK hP hD hS 4 1 rfl rfl (by unfold vp_in; decide) dX0_clear_13 (fun H locs hP hD hS => ?_)
  have hP : va_P (dC, dI) vwCl [(o0, .inr (0, [.ref o1, .ref o2, .ref o3, .ref o4, .ref o5, .ref o6, .int (dv6 S), .int (dv7 S), .int (dv8 S), .int (dv9 S), .int (dv10 S), .int (dv11 S), .int (dv12 S), .int (dv13 S)])), (o1, .inl (cI, 18, .inl (dv0 S))), (o2, .inl (cI, 18, .inl (dv1 S))), (o3, .inl (cJ, 18, .inr (.inl (vp_updL (dv2 S) (0 : Int32).toNatClampNeg 0)))), (o4, .inl (cJ, 18, .inr (.inl (vp_updL (dv3 S) (0 : Int32).toNatClampNeg 0)))), (o5, .inl (cJ, 18, .inr (.inl (dv4 S)))), (o6, .inl (cJ, 18, .inr (.inl (dv5 S))))] H := hP
  have hD : va_D A [(o0, .inr (0, [.ref o1, .ref o2, .ref o3, .ref o4, .ref o5, .ref o6, .int (dv6 S), .int (dv7 S), .int (dv8 S), .int (dv9 S), .int (dv10 S), .int (dv11 S), .int (dv12 S), .int (dv13 S)])), (o1, .inl (cI, 18, .inl (dv0 S))), (o2, .inl (cI, 18, .inl (dv1 S))), (o3, .inl (cJ, 18, .inr (.inl (vp_updL (dv2 S) (0 : Int32).toNatClampNeg 0)))), (o4, .inl (cJ, 18, .inr (.inl (vp_updL (dv3 S) (0 : Int32).toNatClampNeg 0)))), (o5, .inl (cJ, 18, .inr (.inl (dv4 S)))), (o6, .inl (cJ, 18, .inr (.inl (dv5 S))))] := hD
  refine lv_aload_n hx hb dX0_clear_14 rfl (lv_at hl 0 rfl) ?_
  refine va_get (D := (dC, dI)) (ci := 0) (v := .ref o5) (C := RX0) (T := TX0) (N := 14) hx hb hts inX0_X0_clear hown hK hP 0 rfl rfl 4 (by decide) (hts (.fieldLink RX0 25 "DigitDivider$Division" "qs" "[J") (by decide +kernel)) (fun _ h9 => h9) rfl dX0_clear_15 ?_
  refine lv_iconst (v := 0) hx hb dX0_clear_18 (by decide) ?_
  refine lv_lconst (v := 0) hx hb dX0_clear_19 (by decide) ?_
  refine va_last hx hb hK hP hD hS 5 1 rfl rfl (by unfold vp_in; decide) dX0_clear_20 (fun H locs hP hD hS => ?_)
  have hP : va_P (dC, dI) vwCl [(o0, .inr (0, [.ref o1, .ref o2, .ref o3, .ref o4, .ref o5, .ref o6, .int (dv6 S), .int (dv7 S), .int (dv8 S), .int (dv9 S), .int (dv10 S), .int (dv11 S), .int (dv12 S), .int (dv13 S)])), (o1, .inl (cI, 18, .inl (dv0 S))), (o2, .inl (cI, 18, .inl (dv1 S))), (o3, .inl (cJ, 18, .inr (.inl (vp_updL (dv2 S) (0 : Int32).toNatClampNeg 0)))), (o4, .inl (cJ, 18, .inr (.inl (vp_updL (dv3 S) (0 : Int32).toNatClampNeg 0)))), (o5, .inl (cJ, 18, .inr (.inl (vp_updL (dv4 S) (0 : Int32).toNatClampNeg 0)))), (o6, .inl (cJ, 18, .inr (.inl (dv5 S))))] H := hP
  have hD : va_D A [(o0, .inr (0, [.ref o1, .ref o2, .ref o3, .ref o4, .ref o5, .ref o6, .int (dv6 S), .int (dv7 S), .int (dv8 S), .int (dv9 S), .int (dv10 S), .int (dv11 S), .int (dv12 S), .int (dv13 S)])), (o1, .inl (cI, 18, .inl (dv0 S))), (o2, .inl (cI, 18, .inl (dv1 S))), (o3, .inl (cJ, 18, .inr (.inl (vp_updL (dv2 S) (0 : Int32).toNatClampNeg 0)))), (o4, .inl (cJ, 18, .inr (.inl (vp_updL (dv3 S) (0 : Int32).toNatClampNeg 0)))), (o5, .inl (cJ, 18, .inr (.inl (vp_updL (dv4 S) (0 : Int32).toNatClampNeg 0)))), (o6, .inl (cJ, 18, .inr (.inl (dv5 S))))] := hD
  refine lv_aload_n hx hb dX0_clear_21 rfl (lv_at hl 0 rfl) ?_
  refine va_get (D := (dC, dI)) (ci := 0) (v := .ref o6) (C := RX0) (T := TX0) (N := 14) hx hb hts inX0_X0_clear hown hK hP 0 rfl rfl 5 (by decide) (hts (.fieldLink RX0 28 "DigitDivider$Division" "rs" "[J") (by decide +kernel)) (fun _ h9 => h9) rfl dX0_clear_22 ?_
  refine lv_iconst (v := 0) hx hb dX0_clear_25 (by decide) ?_
  refine lv_ldc2 (v := (-1)) hx hb hown (hts (.constantLong RX0 77 (-1)) (by decide +kernel)) dX0_clear_26 ?_
  refine va_last hx hb hK hP hD hS 6 1 rfl rfl (by unfold vp_in; decide) dX0_clear_29 (fun H locs hP hD hS => ?_)
  have hP : va_P (dC, dI) vwCl [(o0, .inr (0, [.ref o1, .ref o2, .ref o3, .ref o4, .ref o5, .ref o6, .int (dv6 S), .int (dv7 S), .int (dv8 S), .int (dv9 S), .int (dv10 S), .int (dv11 S), .int (dv12 S), .int (dv13 S)])), (o1, .inl (cI, 18, .inl (dv0 S))), (o2, .inl (cI, 18, .inl (dv1 S))), (o3, .inl (cJ, 18, .inr (.inl (vp_updL (dv2 S) (0 : Int32).toNatClampNeg 0)))), (o4, .inl (cJ, 18, .inr (.inl (vp_updL (dv3 S) (0 : Int32).toNatClampNeg 0)))), (o5, .inl (cJ, 18, .inr (.inl (vp_updL (dv4 S) (0 : Int32).toNatClampNeg 0)))), (o6, .inl (cJ, 18, .inr (.inl (vp_updL (dv5 S) (0 : Int32).toNatClampNeg (-1)))))] H := hP
  have hD : va_D A [(o0, .inr (0, [.ref o1, .ref o2, .ref o3, .ref o4, .ref o5, .ref o6, .int (dv6 S), .int (dv7 S), .int (dv8 S), .int (dv9 S), .int (dv10 S), .int (dv11 S), .int (dv12 S), .int (dv13 S)])), (o1, .inl (cI, 18, .inl (dv0 S))), (o2, .inl (cI, 18, .inl (dv1 S))), (o3, .inl (cJ, 18, .inr (.inl (vp_updL (dv2 S) (0 : Int32).toNatClampNeg 0)))), (o4, .inl (cJ, 18, .inr (.inl (vp_updL (dv3 S) (0 : Int32).toNatClampNeg 0)))), (o5, .inl (cJ, 18, .inr (.inl (vp_updL (dv4 S) (0 : Int32).toNatClampNeg 0)))), (o6, .inl (cJ, 18, .inr (.inl (vp_updL (dv5 S) (0 : Int32).toNatClampNeg (-1)))))] := hD
  refine lv_aload_n hx hb dX0_clear_30 rfl (lv_at hl 0 rfl) ?_
  refine lv_iconst (v := 0) hx hb dX0_clear_31 (by decide) ?_
  refine va_put (D := (dC, dI)) (ci := 0) (v := .int 0) (ty := .int) (C := RX0) (T := TX0) (N := 14) hx hb hts inX0_X0_clear tyX0 tyX0_ok nmX0 hown hK hP hD hS 0 rfl rfl 6 (by decide) (hts (.fieldLink RX0 31 "DigitDivider$Division" "row" "I") (by decide +kernel)) (fun _ h9 => h9) rfl (by decide +kernel) rfl rfl (Nat.le_of_ble_eq_true rfl) dX0_clear_32 (fun H locs hP hD hS => ?_)
  have hP : va_P (dC, dI) vwCl [(o0, .inr (0, [.ref o1, .ref o2, .ref o3, .ref o4, .ref o5, .ref o6, .int 0, .int (dv7 S), .int (dv8 S), .int (dv9 S), .int (dv10 S), .int (dv11 S), .int (dv12 S), .int (dv13 S)])), (o1, .inl (cI, 18, .inl (dv0 S))), (o2, .inl (cI, 18, .inl (dv1 S))), (o3, .inl (cJ, 18, .inr (.inl (vp_updL (dv2 S) (0 : Int32).toNatClampNeg 0)))), (o4, .inl (cJ, 18, .inr (.inl (vp_updL (dv3 S) (0 : Int32).toNatClampNeg 0)))), (o5, .inl (cJ, 18, .inr (.inl (vp_updL (dv4 S) (0 : Int32).toNatClampNeg 0)))), (o6, .inl (cJ, 18, .inr (.inl (vp_updL (dv5 S) (0 : Int32).toNatClampNeg (-1)))))] H := hP
  have hD : va_D A [(o0, .inr (0, [.ref o1, .ref o2, .ref o3, .ref o4, .ref o5, .ref o6, .int 0, .int (dv7 S), .int (dv8 S), .int (dv9 S), .int (dv10 S), .int (dv11 S), .int (dv12 S), .int (dv13 S)])), (o1, .inl (cI, 18, .inl (dv0 S))), (o2, .inl (cI, 18, .inl (dv1 S))), (o3, .inl (cJ, 18, .inr (.inl (vp_updL (dv2 S) (0 : Int32).toNatClampNeg 0)))), (o4, .inl (cJ, 18, .inr (.inl (vp_updL (dv3 S) (0 : Int32).toNatClampNeg 0)))), (o5, .inl (cJ, 18, .inr (.inl (vp_updL (dv4 S) (0 : Int32).toNatClampNeg 0)))), (o6, .inl (cJ, 18, .inr (.inl (vp_updL (dv5 S) (0 : Int32).toNatClampNeg (-1)))))] := hD
  refine lv_aload_n hx hb dX0_clear_35 rfl (lv_at hl 0 rfl) ?_
  refine lv_iconst (v := 0) hx hb dX0_clear_36 (by decide) ?_
  refine va_put (D := (dC, dI)) (ci := 0) (v := .int 0) (ty := .int) (C := RX0) (T := TX0) (N := 14) hx hb hts inX0_X0_clear tyX0 tyX0_ok nmX0 hown hK hP hD hS 0 rfl rfl 7 (by decide) (hts (.fieldLink RX0 35 "DigitDivider$Division" "s" "I") (by decide +kernel)) (fun _ h9 => h9) rfl (by decide +kernel) rfl rfl (Nat.le_of_ble_eq_true rfl) dX0_clear_37 (fun H locs hP hD hS => ?_)
  have hP : va_P (dC, dI) vwCl [(o0, .inr (0, [.ref o1, .ref o2, .ref o3, .ref o4, .ref o5, .ref o6, .int 0, .int 0, .int (dv8 S), .int (dv9 S), .int (dv10 S), .int (dv11 S), .int (dv12 S), .int (dv13 S)])), (o1, .inl (cI, 18, .inl (dv0 S))), (o2, .inl (cI, 18, .inl (dv1 S))), (o3, .inl (cJ, 18, .inr (.inl (vp_updL (dv2 S) (0 : Int32).toNatClampNeg 0)))), (o4, .inl (cJ, 18, .inr (.inl (vp_updL (dv3 S) (0 : Int32).toNatClampNeg 0)))), (o5, .inl (cJ, 18, .inr (.inl (vp_updL (dv4 S) (0 : Int32).toNatClampNeg 0)))), (o6, .inl (cJ, 18, .inr (.inl (vp_updL (dv5 S) (0 : Int32).toNatClampNeg (-1)))))] H := hP
  have hD : va_D A [(o0, .inr (0, [.ref o1, .ref o2, .ref o3, .ref o4, .ref o5, .ref o6, .int 0, .int 0, .int (dv8 S), .int (dv9 S), .int (dv10 S), .int (dv11 S), .int (dv12 S), .int (dv13 S)])), (o1, .inl (cI, 18, .inl (dv0 S))), (o2, .inl (cI, 18, .inl (dv1 S))), (o3, .inl (cJ, 18, .inr (.inl (vp_updL (dv2 S) (0 : Int32).toNatClampNeg 0)))), (o4, .inl (cJ, 18, .inr (.inl (vp_updL (dv3 S) (0 : Int32).toNatClampNeg 0)))), (o5, .inl (cJ, 18, .inr (.inl (vp_updL (dv4 S) (0 : Int32).toNatClampNeg 0)))), (o6, .inl (cJ, 18, .inr (.inl (vp_updL (dv5 S) (0 : Int32).toNatClampNeg (-1)))))] := hD
  refine lv_aload_n hx hb dX0_clear_40 rfl (lv_at hl 0 rfl) ?_
  refine lv_iconst (v := 0) hx hb dX0_clear_41 (by decide) ?_
  refine va_put (D := (dC, dI)) (ci := 0) (v := .int 0) (ty := .int) (C := RX0) (T := TX0) (N := 14) hx hb hts inX0_X0_clear tyX0 tyX0_ok nmX0 hown hK hP hD hS 0 rfl rfl 8 (by decide) (hts (.fieldLink RX0 38 "DigitDivider$Division" "t" "I") (by decide +kernel)) (fun _ h9 => h9) rfl (by decide +kernel) rfl rfl (Nat.le_of_ble_eq_true rfl) dX0_clear_42 (fun H locs hP hD hS => ?_)
  have hP : va_P (dC, dI) vwCl [(o0, .inr (0, [.ref o1, .ref o2, .ref o3, .ref o4, .ref o5, .ref o6, .int 0, .int 0, .int 0, .int (dv9 S), .int (dv10 S), .int (dv11 S), .int (dv12 S), .int (dv13 S)])), (o1, .inl (cI, 18, .inl (dv0 S))), (o2, .inl (cI, 18, .inl (dv1 S))), (o3, .inl (cJ, 18, .inr (.inl (vp_updL (dv2 S) (0 : Int32).toNatClampNeg 0)))), (o4, .inl (cJ, 18, .inr (.inl (vp_updL (dv3 S) (0 : Int32).toNatClampNeg 0)))), (o5, .inl (cJ, 18, .inr (.inl (vp_updL (dv4 S) (0 : Int32).toNatClampNeg 0)))), (o6, .inl (cJ, 18, .inr (.inl (vp_updL (dv5 S) (0 : Int32).toNatClampNeg (-1)))))] H := hP
  have hD : va_D A [(o0, .inr (0, [.ref o1, .ref o2, .ref o3, .ref o4, .ref o5, .ref o6, .int 0, .int 0, .int 0, .int (dv9 S), .int (dv10 S), .int (dv11 S), .int (dv12 S), .int (dv13 S)])), (o1, .inl (cI, 18, .inl (dv0 S))), (o2, .inl (cI, 18, .inl (dv1 S))), (o3, .inl (cJ, 18, .inr (.inl (vp_updL (dv2 S) (0 : Int32).toNatClampNeg 0)))), (o4, .inl (cJ, 18, .inr (.inl (vp_updL (dv3 S) (0 : Int32).toNatClampNeg 0)))), (o5, .inl (cJ, 18, .inr (.inl (vp_updL (dv4 S) (0 : Int32).toNatClampNeg 0)))), (o6, .inl (cJ, 18, .inr (.inl (vp_updL (dv5 S) (0 : Int32).toNatClampNeg (-1)))))] := hD
  refine lv_aload_n hx hb dX0_clear_45 rfl (lv_at hl 0 rfl) ?_
  refine lv_iconst (v := 0) hx hb dX0_clear_46 (by decide) ?_
  refine va_put (D := (dC, dI)) (ci := 0) (v := .int 0) (ty := .int) (C := RX0) (T := TX0) (N := 14) hx hb hts inX0_X0_clear tyX0 tyX0_ok nmX0 hown hK hP hD hS 0 rfl rfl 9 (by decide) (hts (.fieldLink RX0 41 "DigitDivider$Division" "n" "I") (by decide +kernel)) (fun _ h9 => h9) rfl (by decide +kernel) rfl rfl (Nat.le_of_ble_eq_true rfl) dX0_clear_47 (fun H locs hP hD hS => ?_)
  have hP : va_P (dC, dI) vwCl [(o0, .inr (0, [.ref o1, .ref o2, .ref o3, .ref o4, .ref o5, .ref o6, .int 0, .int 0, .int 0, .int 0, .int (dv10 S), .int (dv11 S), .int (dv12 S), .int (dv13 S)])), (o1, .inl (cI, 18, .inl (dv0 S))), (o2, .inl (cI, 18, .inl (dv1 S))), (o3, .inl (cJ, 18, .inr (.inl (vp_updL (dv2 S) (0 : Int32).toNatClampNeg 0)))), (o4, .inl (cJ, 18, .inr (.inl (vp_updL (dv3 S) (0 : Int32).toNatClampNeg 0)))), (o5, .inl (cJ, 18, .inr (.inl (vp_updL (dv4 S) (0 : Int32).toNatClampNeg 0)))), (o6, .inl (cJ, 18, .inr (.inl (vp_updL (dv5 S) (0 : Int32).toNatClampNeg (-1)))))] H := hP
  have hD : va_D A [(o0, .inr (0, [.ref o1, .ref o2, .ref o3, .ref o4, .ref o5, .ref o6, .int 0, .int 0, .int 0, .int 0, .int (dv10 S), .int (dv11 S), .int (dv12 S), .int (dv13 S)])), (o1, .inl (cI, 18, .inl (dv0 S))), (o2, .inl (cI, 18, .inl (dv1 S))), (o3, .inl (cJ, 18, .inr (.inl (vp_updL (dv2 S) (0 : Int32).toNatClampNeg 0)))), (o4, .inl (cJ, 18, .inr (.inl (vp_updL (dv3 S) (0 : Int32).toNatClampNeg 0)))), (o5, .inl (cJ, 18, .inr (.inl (vp_updL (dv4 S) (0 : Int32).toNatClampNeg 0)))), (o6, .inl (cJ, 18, .inr (.inl (vp_updL (dv5 S) (0 : Int32).toNatClampNeg (-1)))))] := hD
  refine lv_aload_n hx hb dX0_clear_50 rfl (lv_at hl 0 rfl) ?_
  refine lv_iconst (v := 0) hx hb dX0_clear_51 (by decide) ?_
  refine va_put (D := (dC, dI)) (ci := 0) (v := .int 0) (ty := .int) (C := RX0) (T := TX0) (N := 14) hx hb hts inX0_X0_clear tyX0 tyX0_ok nmX0 hown hK hP hD hS 0 rfl rfl 10 (by decide) (hts (.fieldLink RX0 44 "DigitDivider$Division" "digitsNotZero" "I") (by decide +kernel)) (fun _ h9 => h9) rfl (by decide +kernel) rfl rfl (Nat.le_of_ble_eq_true rfl) dX0_clear_52 (fun H locs hP hD hS => ?_)
  have hP : va_P (dC, dI) vwCl [(o0, .inr (0, [.ref o1, .ref o2, .ref o3, .ref o4, .ref o5, .ref o6, .int 0, .int 0, .int 0, .int 0, .int 0, .int (dv11 S), .int (dv12 S), .int (dv13 S)])), (o1, .inl (cI, 18, .inl (dv0 S))), (o2, .inl (cI, 18, .inl (dv1 S))), (o3, .inl (cJ, 18, .inr (.inl (vp_updL (dv2 S) (0 : Int32).toNatClampNeg 0)))), (o4, .inl (cJ, 18, .inr (.inl (vp_updL (dv3 S) (0 : Int32).toNatClampNeg 0)))), (o5, .inl (cJ, 18, .inr (.inl (vp_updL (dv4 S) (0 : Int32).toNatClampNeg 0)))), (o6, .inl (cJ, 18, .inr (.inl (vp_updL (dv5 S) (0 : Int32).toNatClampNeg (-1)))))] H := hP
  have hD : va_D A [(o0, .inr (0, [.ref o1, .ref o2, .ref o3, .ref o4, .ref o5, .ref o6, .int 0, .int 0, .int 0, .int 0, .int 0, .int (dv11 S), .int (dv12 S), .int (dv13 S)])), (o1, .inl (cI, 18, .inl (dv0 S))), (o2, .inl (cI, 18, .inl (dv1 S))), (o3, .inl (cJ, 18, .inr (.inl (vp_updL (dv2 S) (0 : Int32).toNatClampNeg 0)))), (o4, .inl (cJ, 18, .inr (.inl (vp_updL (dv3 S) (0 : Int32).toNatClampNeg 0)))), (o5, .inl (cJ, 18, .inr (.inl (vp_updL (dv4 S) (0 : Int32).toNatClampNeg 0)))), (o6, .inl (cJ, 18, .inr (.inl (vp_updL (dv5 S) (0 : Int32).toNatClampNeg (-1)))))] := hD
  refine lv_aload_n hx hb dX0_clear_55 rfl (lv_at hl 0 rfl) ?_
  refine lv_iconst (v := 0) hx hb dX0_clear_56 (by decide) ?_
  refine va_put (D := (dC, dI)) (ci := 0) (v := .int 0) (ty := .int) (C := RX0) (T := TX0) (N := 14) hx hb hts inX0_X0_clear tyX0 tyX0_ok nmX0 hown hK hP hD hS 0 rfl rfl 11 (by decide) (hts (.fieldLink RX0 47 "DigitDivider$Division" "firstLeft" "I") (by decide +kernel)) (fun _ h9 => h9) rfl (by decide +kernel) rfl rfl (Nat.le_of_ble_eq_true rfl) dX0_clear_57 (fun H locs hP hD hS => ?_)
  have hP : va_P (dC, dI) vwCl [(o0, .inr (0, [.ref o1, .ref o2, .ref o3, .ref o4, .ref o5, .ref o6, .int 0, .int 0, .int 0, .int 0, .int 0, .int 0, .int (dv12 S), .int (dv13 S)])), (o1, .inl (cI, 18, .inl (dv0 S))), (o2, .inl (cI, 18, .inl (dv1 S))), (o3, .inl (cJ, 18, .inr (.inl (vp_updL (dv2 S) (0 : Int32).toNatClampNeg 0)))), (o4, .inl (cJ, 18, .inr (.inl (vp_updL (dv3 S) (0 : Int32).toNatClampNeg 0)))), (o5, .inl (cJ, 18, .inr (.inl (vp_updL (dv4 S) (0 : Int32).toNatClampNeg 0)))), (o6, .inl (cJ, 18, .inr (.inl (vp_updL (dv5 S) (0 : Int32).toNatClampNeg (-1)))))] H := hP
  have hD : va_D A [(o0, .inr (0, [.ref o1, .ref o2, .ref o3, .ref o4, .ref o5, .ref o6, .int 0, .int 0, .int 0, .int 0, .int 0, .int 0, .int (dv12 S), .int (dv13 S)])), (o1, .inl (cI, 18, .inl (dv0 S))), (o2, .inl (cI, 18, .inl (dv1 S))), (o3, .inl (cJ, 18, .inr (.inl (vp_updL (dv2 S) (0 : Int32).toNatClampNeg 0)))), (o4, .inl (cJ, 18, .inr (.inl (vp_updL (dv3 S) (0 : Int32).toNatClampNeg 0)))), (o5, .inl (cJ, 18, .inr (.inl (vp_updL (dv4 S) (0 : Int32).toNatClampNeg 0)))), (o6, .inl (cJ, 18, .inr (.inl (vp_updL (dv5 S) (0 : Int32).toNatClampNeg (-1)))))] := hD
  exact W.vret hx hb hr (fun t ht hW => ⟨⟨((dv0 S), (dv1 S), (vp_updL (dv2 S) (0 : Int32).toNatClampNeg 0), (vp_updL (dv3 S) (0 : Int32).toNatClampNeg 0), (vp_updL (dv4 S) (0 : Int32).toNatClampNeg 0), (vp_updL (dv5 S) (0 : Int32).toNatClampNeg (-1)), 0, 0, 0, 0, 0, 0, (dv12 S), (dv13 S)), rfl, rfl, by rw [ht]; exact hP, va_K.moved hW.alike hK, hD⟩, hS.F ht⟩) hS.2.2 dX0_clear_60

def fX0_writeQuotient_j52 (S : DV) (p0 : Int32) (p1 : Int32) : Int64 := (if p1 < 0 then ((4 * ((dv5 S) (p0 - 1).toNatClampNeg)) + 4) + p1.toInt64 else (4 * ((dv4 S) (p0 - 1).toNatClampNeg)) + p1.toInt64)
def fX0_writeQuotient_j88 (S : DV) (p0 : Int32) (p1 : Int32) : Int64 := (if p1 ≤ 0 then ((4 * ((dv5 S) (p0 - 1).toNatClampNeg)) + 3) + p1.toInt64 else ((4 * ((dv4 S) (p0 - 1).toNatClampNeg)) + p1.toInt64) - 1)
def gX0_writeQuotient (S : DV) (p0 : Int32) (p1 : Int32) : DV := ((dv0 S), (dv1 S), (dv2 S), (dv3 S), (vp_updL (dv4 S) p0.toNatClampNeg (fX0_writeQuotient_j52 S p0 p1)), (vp_updL (dv5 S) p0.toNatClampNeg (fX0_writeQuotient_j88 S p0 p1)), (dv6 S), (dv7 S), (dv8 S), (dv9 S), (dv10 S), (dv11 S), (dv12 S), (dv13 S))
theorem inX0_X0_writeQuotient : ∀ w ∈ wsX00, w ∈ wsX0_writeQuotient := by decide +kernel
set_option maxHeartbeats 4000000 in
set_option maxRecDepth 100000 in
theorem kX0_writeQuotient (l : Launch) (dC : Nat → ClassId) (dI : Nat → Nat → Nat) (o0 : Nat) (o1 : Nat) (o2 : Nat) (o3 : Nat) (o4 : Nat) (o5 : Nat) (o6 : Nat) (cI : ClassId) (cJ : ClassId) (sz : Nat) (S : DV) (p0 : Int32) (p1 : Int32) (hy0 : vp_in (p0 - 1) 18) (hy1 : vp_in p0 18) : Met l yX0_writeQuotient wsX0_writeQuotient ({ frames := 0, cells := 0, slots := 0, locals := 0 } : Room) (va_Pc [.ref o0, .int p0, .int p1] (fun U => U.heap.size = sz ∧ va_P (dC, dI) vwCl [(o0, .inr (0, [.ref o1, .ref o2, .ref o3, .ref o4, .ref o5, .ref o6, .int (dv6 S), .int (dv7 S), .int (dv8 S), .int (dv9 S), .int (dv10 S), .int (dv11 S), .int (dv12 S), .int (dv13 S)])), (o1, .inl (cI, 18, .inl (dv0 S))), (o2, .inl (cI, 18, .inl (dv1 S))), (o3, .inl (cJ, 18, .inr (.inl (dv2 S)))), (o4, .inl (cJ, 18, .inr (.inl (dv3 S)))), (o5, .inl (cJ, 18, .inr (.inl (dv4 S)))), (o6, .inl (cJ, 18, .inr (.inl (dv5 S))))] U.heap ∧ va_K (dC, dI) vwCl [(cI, .int), (cJ, .long)] U ∧ va_D (fun _ => True) [(o0, .inr (0, [.ref o1, .ref o2, .ref o3, .ref o4, .ref o5, .ref o6, .int (dv6 S), .int (dv7 S), .int (dv8 S), .int (dv9 S), .int (dv10 S), .int (dv11 S), .int (dv12 S), .int (dv13 S)])), (o1, .inl (cI, 18, .inl (dv0 S))), (o2, .inl (cI, 18, .inl (dv1 S))), (o3, .inl (cJ, 18, .inr (.inl (dv2 S)))), (o4, .inl (cJ, 18, .inr (.inl (dv3 S)))), (o5, .inl (cJ, 18, .inr (.inl (dv4 S)))), (o6, .inl (cJ, 18, .inr (.inl (dv5 S))))])) (va_Qv (fun u : DV => u = (gX0_writeQuotient S p0 p1)) (fun (u : DV) (t : State) => va_P (dC, dI) vwCl [(o0, .inr (0, [.ref o1, .ref o2, .ref o3, .ref o4, .ref o5, .ref o6, .int (dv6 u), .int (dv7 u), .int (dv8 u), .int (dv9 u), .int (dv10 u), .int (dv11 u), .int (dv12 u), .int (dv13 u)])), (o1, .inl (cI, 18, .inl (dv0 u))), (o2, .inl (cI, 18, .inl (dv1 u))), (o3, .inl (cJ, 18, .inr (.inl (dv2 u)))), (o4, .inl (cJ, 18, .inr (.inl (dv3 u)))), (o5, .inl (cJ, 18, .inr (.inl (dv4 u)))), (o6, .inl (cJ, 18, .inr (.inl (dv5 u))))] t.heap ∧ va_K (dC, dI) vwCl [(cI, .int), (cJ, .long)] t ∧ va_D (va_A [(o0, .inr (0, [.ref o1, .ref o2, .ref o3, .ref o4, .ref o5, .ref o6, .int (dv6 S), .int (dv7 S), .int (dv8 S), .int (dv9 S), .int (dv10 S), .int (dv11 S), .int (dv12 S), .int (dv13 S)])), (o1, .inl (cI, 18, .inl (dv0 S))), (o2, .inl (cI, 18, .inl (dv1 S))), (o3, .inl (cJ, 18, .inr (.inl (dv2 S)))), (o4, .inl (cJ, 18, .inr (.inl (dv3 S)))), (o5, .inl (cJ, 18, .inr (.inl (dv4 S)))), (o6, .inl (cJ, 18, .inr (.inl (dv5 S))))] sz) [(o0, .inr (0, [.ref o1, .ref o2, .ref o3, .ref o4, .ref o5, .ref o6, .int (dv6 u), .int (dv7 u), .int (dv8 u), .int (dv9 u), .int (dv10 u), .int (dv11 u), .int (dv12 u), .int (dv13 u)])), (o1, .inl (cI, 18, .inl (dv0 u))), (o2, .inl (cI, 18, .inl (dv1 u))), (o3, .inl (cJ, 18, .inr (.inl (dv2 u)))), (o4, .inl (cJ, 18, .inr (.inl (dv3 u)))), (o5, .inl (cJ, 18, .inr (.inl (dv4 u)))), (o6, .inl (cJ, 18, .inr (.inl (dv5 u))))]) (va_A [(o0, .inr (0, [.ref o1, .ref o2, .ref o3, .ref o4, .ref o5, .ref o6, .int (dv6 S), .int (dv7 S), .int (dv8 S), .int (dv9 S), .int (dv10 S), .int (dv11 S), .int (dv12 S), .int (dv13 S)])), (o1, .inl (cI, 18, .inl (dv0 S))), (o2, .inl (cI, 18, .inl (dv1 S))), (o3, .inl (cJ, 18, .inr (.inl (dv2 S)))), (o4, .inl (cJ, 18, .inr (.inl (dv3 S)))), (o5, .inl (cJ, 18, .inr (.inl (dv4 S)))), (o6, .inl (cJ, 18, .inr (.inl (dv5 S))))] sz)) 0 0 (va_A [(o0, .inr (0, [.ref o1, .ref o2, .ref o3, .ref o4, .ref o5, .ref o6, .int (dv6 S), .int (dv7 S), .int (dv8 S), .int (dv9 S), .int (dv10 S), .int (dv11 S), .int (dv12 S), .int (dv13 S)])), (o1, .inl (cI, 18, .inl (dv0 S))), (o2, .inl (cI, 18, .inl (dv1 S))), (o3, .inl (cJ, 18, .inr (.inl (dv2 S)))), (o4, .inl (cJ, 18, .inr (.inl (dv3 S)))), (o5, .inl (cJ, 18, .inr (.inl (dv4 S)))), (o6, .inl (cJ, 18, .inr (.inl (dv5 S))))] sz) := by
  refine Met.ofW (cc := cX0_writeQuotient) (maxL := 7) (ret := none) (by decide) rfl ?_
  intro p e s m args below meth c s₁ B hml hv
  obtain ⟨rfl, hsz, hP, hK, hD0⟩ := hv
  have hx := B.exec
  have hb := B.bytes
  have hr := B.returns
  have hts := atoms_spec (ws := wsX0_writeQuotient) B.pre
  have hown : s.vm.findClass RX0 = some m.cls := findClass_of_methodNamed B.named
  have hlocks := B.notSynchronized
  subst hsz
  have hD := hD0.self (sz := s.heap.size)
  generalize hAe : va_A [(o0, .inr (0, [.ref o1, .ref o2, .ref o3, .ref o4, .ref o5, .ref o6, .int (dv6 S), .int (dv7 S), .int (dv8 S), .int (dv9 S), .int (dv10 S), .int (dv11 S), .int (dv12 S), .int (dv13 S)])), (o1, .inl (cI, 18, .inl (dv0 S))), (o2, .inl (cI, 18, .inl (dv1 S))), (o3, .inl (cJ, 18, .inr (.inl (dv2 S)))), (o4, .inl (cJ, 18, .inr (.inl (dv3 S)))), (o5, .inl (cJ, 18, .inr (.inl (dv4 S)))), (o6, .inl (cJ, 18, .inr (.inl (dv5 S))))] s.heap.size = A at hD  ⊢
  have hA : ∀ q : Nat, s.heap.size ≤ q → A q := fun q h => by rw [← hAe]; exact Or.inr h
  have hS : va_S A s.heap s.heap [] := va_S.rf
  have hP : va_P (dC, dI) vwCl [(o0, .inr (0, [.ref o1, .ref o2, .ref o3, .ref o4, .ref o5, .ref o6, .int (dv6 S), .int (dv7 S), .int (dv8 S), .int (dv9 S), .int (dv10 S), .int (dv11 S), .int (dv12 S), .int (dv13 S)])), (o1, .inl (cI, 18, .inl (dv0 S))), (o2, .inl (cI, 18, .inl (dv1 S))), (o3, .inl (cJ, 18, .inr (.inl (dv2 S)))), (o4, .inl (cJ, 18, .inr (.inl (dv3 S)))), (o5, .inl (cJ, 18, .inr (.inl (dv4 S)))), (o6, .inl (cJ, 18, .inr (.inl (dv5 S))))] s.heap := hP
  have hl := lv_entry ([.ref o0, .int p0, .int p1]) (n := 7) (Nat.le_of_ble_eq_true rfl)
  rw [lg_entry_eq]
  generalize (lg_sl ([.ref o0, .int p0, .int p1]) ++ List.replicate (7 - (lg_sl ([.ref o0, .int p0, .int p1])).length) Slot.unset).toArray = ls at hl ⊢
  have hl : lv_has ls 7 [(0, .ref o0), (1, .int p0), (2, .int p1)] := hl
  refine lv_aload_n hx hb dX0_writeQuotient_0 rfl (lv_at hl 0 rfl) ?_
  refine va_get (D := (dC, dI)) (ci := 0) (v := .ref o5) (C := RX0) (T := TX0) (N := 14) hx hb hts inX0_X0_writeQuotient hown hK hP 0 rfl rfl 4 (by decide) (hts (.fieldLink RX0 25 "DigitDivider$Division" "qs" "[J") (by decide +kernel)) (fun _ h9 => h9) rfl dX0_writeQuotient_1 ?_
  refine lv_iload_n hx hb dX0_writeQuotient_4 rfl (lv_at hl 1 rfl) ?_
  refine lv_iconst (v := 1) hx hb dX0_writeQuotient_5 (by decide) ?_
  refine lv_isub hx hb dX0_writeQuotient_6 ?_
  refine va_lald hx hb hK hP 5 1 rfl rfl hy0 dX0_writeQuotient_7 ?_
  refine lv_lstore_n (lv' := [(3, .long ((dv4 S) (p0 - 1).toNatClampNeg)), (0, .ref o0), (1, .int p0), (2, .int p1)]) hx hb dX0_writeQuotient_8 rfl hl (by decide) rfl (fun ls hl => ?_)
  refine lv_aload_n hx hb dX0_writeQuotient_9 rfl (lv_at hl 1 rfl) ?_
  refine va_get (D := (dC, dI)) (ci := 0) (v := .ref o6) (C := RX0) (T := TX0) (N := 14) hx hb hts inX0_X0_writeQuotient hown hK hP 0 rfl rfl 5 (by decide) (hts (.fieldLink RX0 28 "DigitDivider$Division" "rs" "[J") (by decide +kernel)) (fun _ h9 => h9) rfl dX0_writeQuotient_10 ?_
  refine lv_iload_n hx hb dX0_writeQuotient_13 rfl (lv_at hl 2 rfl) ?_
  refine lv_iconst (v := 1) hx hb dX0_writeQuotient_14 (by decide) ?_
  refine lv_isub hx hb dX0_writeQuotient_15 ?_
  refine va_lald hx hb hK hP 6 1 rfl rfl hy0 dX0_writeQuotient_16 ?_
  refine lv_lstore (lv' := [(5, .long ((dv5 S) (p0 - 1).toNatClampNeg)), (3, .long ((dv4 S) (p0 - 1).toNatClampNeg)), (0, .ref o0), (1, .int p0), (2, .int p1)]) hx hb dX0_writeQuotient_17 hl (by decide) rfl (fun ls hl => ?_)
  refine lv_aload_n hx hb dX0_writeQuotient_19 rfl (lv_at hl 2 rfl) ?_
  refine va_get (D := (dC, dI)) (ci := 0) (v := .ref o5) (C := RX0) (T := TX0) (N := 14) hx hb hts inX0_X0_writeQuotient hown hK hP 0 rfl rfl 4 (by decide) (hts (.fieldLink RX0 25 "DigitDivider$Division" "qs" "[J") (by decide +kernel)) (fun _ h9 => h9) rfl dX0_writeQuotient_20 ?_
  refine lv_iload_n hx hb dX0_writeQuotient_23 rfl (lv_at hl 3 rfl) ?_
  refine lv_iload_n hx hb dX0_writeQuotient_24 rfl (lv_at hl 4 rfl) ?_
  refine ax_joinL (J := 52) (v := (fX0_writeQuotient_j52 S p0 p1)) (ls := ls) (rest := [.int p0, .ref o5]) ?_ (fun kj_4 => ?_)
  · refine va_last hx hb hK hP hD hS 5 1 rfl rfl hy1 dX0_writeQuotient_52 (fun H locs hP hD hS => ?_)
    have hP : va_P (dC, dI) vwCl [(o0, .inr (0, [.ref o1, .ref o2, .ref o3, .ref o4, .ref o5, .ref o6, .int (dv6 S), .int (dv7 S), .int (dv8 S), .int (dv9 S), .int (dv10 S), .int (dv11 S), .int (dv12 S), .int (dv13 S)])), (o1, .inl (cI, 18, .inl (dv0 S))), (o2, .inl (cI, 18, .inl (dv1 S))), (o3, .inl (cJ, 18, .inr (.inl (dv2 S)))), (o4, .inl (cJ, 18, .inr (.inl (dv3 S)))), (o5, .inl (cJ, 18, .inr (.inl (vp_updL (dv4 S) p0.toNatClampNeg (fX0_writeQuotient_j52 S p0 p1))))), (o6, .inl (cJ, 18, .inr (.inl (dv5 S))))] H := hP
    have hD : va_D A [(o0, .inr (0, [.ref o1, .ref o2, .ref o3, .ref o4, .ref o5, .ref o6, .int (dv6 S), .int (dv7 S), .int (dv8 S), .int (dv9 S), .int (dv10 S), .int (dv11 S), .int (dv12 S), .int (dv13 S)])), (o1, .inl (cI, 18, .inl (dv0 S))), (o2, .inl (cI, 18, .inl (dv1 S))), (o3, .inl (cJ, 18, .inr (.inl (dv2 S)))), (o4, .inl (cJ, 18, .inr (.inl (dv3 S)))), (o5, .inl (cJ, 18, .inr (.inl (vp_updL (dv4 S) p0.toNatClampNeg (fX0_writeQuotient_j52 S p0 p1))))), (o6, .inl (cJ, 18, .inr (.inl (dv5 S))))] := hD
    refine lv_aload_n hx hb dX0_writeQuotient_53 rfl (lv_at hl 2 rfl) ?_
    refine va_get (D := (dC, dI)) (ci := 0) (v := .ref o6) (C := RX0) (T := TX0) (N := 14) hx hb hts inX0_X0_writeQuotient hown hK hP 0 rfl rfl 5 (by decide) (hts (.fieldLink RX0 28 "DigitDivider$Division" "rs" "[J") (by decide +kernel)) (fun _ h9 => h9) rfl dX0_writeQuotient_54 ?_
    refine lv_iload_n hx hb dX0_writeQuotient_57 rfl (lv_at hl 3 rfl) ?_
    refine lv_iload_n hx hb dX0_writeQuotient_58 rfl (lv_at hl 4 rfl) ?_
    refine ax_joinL (J := 88) (v := (fX0_writeQuotient_j88 S p0 p1)) (ls := ls) (rest := [.int p0, .ref o6]) ?_ (fun kj_3 => ?_)
    · refine va_last hx hb hK hP hD hS 6 1 rfl rfl hy1 dX0_writeQuotient_88 (fun H locs hP hD hS => ?_)
      have hP : va_P (dC, dI) vwCl [(o0, .inr (0, [.ref o1, .ref o2, .ref o3, .ref o4, .ref o5, .ref o6, .int (dv6 S), .int (dv7 S), .int (dv8 S), .int (dv9 S), .int (dv10 S), .int (dv11 S), .int (dv12 S), .int (dv13 S)])), (o1, .inl (cI, 18, .inl (dv0 S))), (o2, .inl (cI, 18, .inl (dv1 S))), (o3, .inl (cJ, 18, .inr (.inl (dv2 S)))), (o4, .inl (cJ, 18, .inr (.inl (dv3 S)))), (o5, .inl (cJ, 18, .inr (.inl (vp_updL (dv4 S) p0.toNatClampNeg (fX0_writeQuotient_j52 S p0 p1))))), (o6, .inl (cJ, 18, .inr (.inl (vp_updL (dv5 S) p0.toNatClampNeg (fX0_writeQuotient_j88 S p0 p1)))))] H := hP
      have hD : va_D A [(o0, .inr (0, [.ref o1, .ref o2, .ref o3, .ref o4, .ref o5, .ref o6, .int (dv6 S), .int (dv7 S), .int (dv8 S), .int (dv9 S), .int (dv10 S), .int (dv11 S), .int (dv12 S), .int (dv13 S)])), (o1, .inl (cI, 18, .inl (dv0 S))), (o2, .inl (cI, 18, .inl (dv1 S))), (o3, .inl (cJ, 18, .inr (.inl (dv2 S)))), (o4, .inl (cJ, 18, .inr (.inl (dv3 S)))), (o5, .inl (cJ, 18, .inr (.inl (vp_updL (dv4 S) p0.toNatClampNeg (fX0_writeQuotient_j52 S p0 p1))))), (o6, .inl (cJ, 18, .inr (.inl (vp_updL (dv5 S) p0.toNatClampNeg (fX0_writeQuotient_j88 S p0 p1)))))] := hD
      exact W.vret hx hb hr (fun t ht hW => ⟨⟨((dv0 S), (dv1 S), (dv2 S), (dv3 S), (vp_updL (dv4 S) p0.toNatClampNeg (fX0_writeQuotient_j52 S p0 p1)), (vp_updL (dv5 S) p0.toNatClampNeg (fX0_writeQuotient_j88 S p0 p1)), (dv6 S), (dv7 S), (dv8 S), (dv9 S), (dv10 S), (dv11 S), (dv12 S), (dv13 S)), rfl, rfl, by rw [ht]; exact hP, va_K.moved hW.alike hK, hD⟩, hS.F ht⟩) hS.2.2 dX0_writeQuotient_89
    · refine lv_if_le (tgt := 75) hx hb dX0_writeQuotient_59 (by decide) (fun c_59_2 => ?_) (fun c_59_2 => ?_)
      · refine lv_ldc2 (v := 4) hx hb hown (hts (.constantLong RX0 105 (4)) (by decide +kernel)) dX0_writeQuotient_75 ?_
        refine lv_lload hx hb dX0_writeQuotient_78 (lv_at hl 0 rfl) ?_
        refine lv_lmul hx hb dX0_writeQuotient_80 ?_
        refine lv_ldc2 (v := 3) hx hb hown (hts (.constantLong RX0 101 (3)) (by decide +kernel)) dX0_writeQuotient_81 ?_
        refine lv_ladd hx hb dX0_writeQuotient_84 ?_
        refine lv_iload_n hx hb dX0_writeQuotient_85 rfl (lv_at hl 4 rfl) ?_
        refine lv_i2l (v := p1.toInt64) hx hb dX0_writeQuotient_86 rfl ?_
        refine lv_ladd hx hb dX0_writeQuotient_87 ?_
        exact kj_3 _ (by unfold fX0_writeQuotient_j88; rw [if_pos c_59_2])
      · refine lv_ldc2 (v := 4) hx hb hown (hts (.constantLong RX0 105 (4)) (by decide +kernel)) dX0_writeQuotient_62 ?_
        refine lv_lload_n hx hb dX0_writeQuotient_65 rfl (lv_at hl 1 rfl) ?_
        refine lv_lmul hx hb dX0_writeQuotient_66 ?_
        refine lv_iload_n hx hb dX0_writeQuotient_67 rfl (lv_at hl 4 rfl) ?_
        refine lv_i2l (v := p1.toInt64) hx hb dX0_writeQuotient_68 rfl ?_
        refine lv_ladd hx hb dX0_writeQuotient_69 ?_
        refine lv_lconst (v := 1) hx hb dX0_writeQuotient_70 (by decide) ?_
        refine lv_lsub hx hb dX0_writeQuotient_71 ?_
        refine lv_goto (tgt := 88) hx hb dX0_writeQuotient_72 (by decide) ?_
        exact kj_3 _ (by unfold fX0_writeQuotient_j88; rw [if_neg c_59_2])
  · refine lv_if_lt (tgt := 39) hx hb dX0_writeQuotient_25 (by decide) (fun c_25_1 => ?_) (fun c_25_1 => ?_)
    · refine lv_ldc2 (v := 4) hx hb hown (hts (.constantLong RX0 105 (4)) (by decide +kernel)) dX0_writeQuotient_39 ?_
      refine lv_lload hx hb dX0_writeQuotient_42 (lv_at hl 0 rfl) ?_
      refine lv_lmul hx hb dX0_writeQuotient_44 ?_
      refine lv_ldc2 (v := 4) hx hb hown (hts (.constantLong RX0 105 (4)) (by decide +kernel)) dX0_writeQuotient_45 ?_
      refine lv_ladd hx hb dX0_writeQuotient_48 ?_
      refine lv_iload_n hx hb dX0_writeQuotient_49 rfl (lv_at hl 4 rfl) ?_
      refine lv_i2l (v := p1.toInt64) hx hb dX0_writeQuotient_50 rfl ?_
      refine lv_ladd hx hb dX0_writeQuotient_51 ?_
      exact kj_4 _ (by unfold fX0_writeQuotient_j52; rw [if_pos c_25_1])
    · refine lv_ldc2 (v := 4) hx hb hown (hts (.constantLong RX0 105 (4)) (by decide +kernel)) dX0_writeQuotient_28 ?_
      refine lv_lload_n hx hb dX0_writeQuotient_31 rfl (lv_at hl 1 rfl) ?_
      refine lv_lmul hx hb dX0_writeQuotient_32 ?_
      refine lv_iload_n hx hb dX0_writeQuotient_33 rfl (lv_at hl 4 rfl) ?_
      refine lv_i2l (v := p1.toInt64) hx hb dX0_writeQuotient_34 rfl ?_
      refine lv_ladd hx hb dX0_writeQuotient_35 ?_
      refine lv_goto (tgt := 52) hx hb dX0_writeQuotient_36 (by decide) ?_
      exact kj_4 _ (by unfold fX0_writeQuotient_j52; rw [if_neg c_25_1])

def fX0_takeDigit_c36 (S : DV) (p0 : Int32) : Int32 := (((((dv2 S) (p0 - 1).toNatClampNeg) <<< (((2 : Int32)).toInt64 &&& 63)) >>> (((31 : Int32)).toInt64 &&& 63)) + ((((dv3 S) (p0 - 1).toNatClampNeg) <<< (((2 : Int32)).toInt64 &&& 63)) >>> (((31 : Int32)).toInt64 &&& 63))).toInt32
def fX0_takeDigit_m44 (S : DV) (p0 : Int32) : Int32 := (if (fX0_takeDigit_c36 S p0) < 63 then (fX0_takeDigit_c36 S p0) else 63)
def fX0_takeDigit_m47 (S : DV) (p0 : Int32) : Int32 := (if (-64) < (fX0_takeDigit_m44 S p0) then (fX0_takeDigit_m44 S p0) else (-64))
def fX0_takeDigit_c74 (S : DV) (tb : Nat → Int32) (p0 : Int32) (p1 : Int64) : Int64 := (((-8) * (tb (fX1_cellAt (dv6 S) (fX0_takeDigit_m47 S p0)).toNatClampNeg)).toInt64) * p1
def fX0_takeDigit_c105 (S : DV) (tb : Nat → Int32) (p0 : Int32) (p1 : Int64) : Int64 := ((((dv2 S) (p0 - 1).toNatClampNeg) <<< (((2 : Int32)).toInt64 &&& 63)) ^^^ (((dv3 S) (p0 - 1).toNatClampNeg) <<< (((2 : Int32)).toInt64 &&& 63))) ^^^ (fX0_takeDigit_c74 S tb p0 p1)
def fX0_takeDigit_c130 (S : DV) (tb : Nat → Int32) (p0 : Int32) (p1 : Int64) : Int64 := ((((((dv2 S) (p0 - 1).toNatClampNeg) <<< (((2 : Int32)).toInt64 &&& 63)) &&& (((dv3 S) (p0 - 1).toNatClampNeg) <<< (((2 : Int32)).toInt64 &&& 63))) ||| ((((dv2 S) (p0 - 1).toNatClampNeg) <<< (((2 : Int32)).toInt64 &&& 63)) &&& (fX0_takeDigit_c74 S tb p0 p1))) ||| ((((dv3 S) (p0 - 1).toNatClampNeg) <<< (((2 : Int32)).toInt64 &&& 63)) &&& (fX0_takeDigit_c74 S tb p0 p1))) <<< (((1 : Int32)).toInt64 &&& 63)
def fX0_takeDigit_s135 (S : DV) (tb : Nat → Int32) (p0 : Int32) (p1 : Int64) : DV := ((upd (dv0 S) p0.toNatClampNeg (tb (fX1_cellAt (dv6 S) (fX0_takeDigit_m47 S p0)).toNatClampNeg)), (upd (dv1 S) p0.toNatClampNeg (fX0_takeDigit_c36 S p0)), (vp_updL (dv2 S) p0.toNatClampNeg (fX0_takeDigit_c105 S tb p0 p1)), (vp_updL (dv3 S) p0.toNatClampNeg (fX0_takeDigit_c130 S tb p0 p1)), (dv4 S), (dv5 S), (dv6 S), (dv7 S), (dv8 S), (dv9 S), (dv10 S), (dv11 S), (dv12 S), (dv13 S))
def fX0_takeDigit_m176 (S : DV) (tb : Nat → Int32) (p0 : Int32) (p1 : Int64) : Int64 := (if 0 < (((dv2 (gX0_writeQuotient (fX0_takeDigit_s135 S tb p0 p1) p0 (tb (fX1_cellAt (dv6 S) (fX0_takeDigit_m47 S p0)).toNatClampNeg))) p0.toNatClampNeg) + ((dv3 (gX0_writeQuotient (fX0_takeDigit_s135 S tb p0 p1) p0 (tb (fX1_cellAt (dv6 S) (fX0_takeDigit_m47 S p0)).toNatClampNeg))) p0.toNatClampNeg)) then (((dv2 (gX0_writeQuotient (fX0_takeDigit_s135 S tb p0 p1) p0 (tb (fX1_cellAt (dv6 S) (fX0_takeDigit_m47 S p0)).toNatClampNeg))) p0.toNatClampNeg) + ((dv3 (gX0_writeQuotient (fX0_takeDigit_s135 S tb p0 p1) p0 (tb (fX1_cellAt (dv6 S) (fX0_takeDigit_m47 S p0)).toNatClampNeg))) p0.toNatClampNeg)) else -(((dv2 (gX0_writeQuotient (fX0_takeDigit_s135 S tb p0 p1) p0 (tb (fX1_cellAt (dv6 S) (fX0_takeDigit_m47 S p0)).toNatClampNeg))) p0.toNatClampNeg) + ((dv3 (gX0_writeQuotient (fX0_takeDigit_s135 S tb p0 p1) p0 (tb (fX1_cellAt (dv6 S) (fX0_takeDigit_m47 S p0)).toNatClampNeg))) p0.toNatClampNeg)))
def fX0_takeDigit_c150 (S : DV) (tb : Nat → Int32) (p0 : Int32) (p1 : Int64) : Int32 := (dv10 (gX0_writeQuotient (fX0_takeDigit_s135 S tb p0 p1) p0 (tb (fX1_cellAt (dv6 S) (fX0_takeDigit_m47 S p0)).toNatClampNeg))) + 1
def gX0_takeDigit (S : DV) (tb : Nat → Int32) (p0 : Int32) (p1 : Int64) : DV := (if (tb (fX1_cellAt (dv6 S) (fX0_takeDigit_m47 S p0)).toNatClampNeg) = 0 then (if (dv11 (gX0_writeQuotient (fX0_takeDigit_s135 S tb p0 p1) p0 (tb (fX1_cellAt (dv6 S) (fX0_takeDigit_m47 S p0)).toNatClampNeg))) = 0 then (if (3 * (fX0_takeDigit_m176 S tb p0 p1)) ≤ (16 * p1) then (gX0_writeQuotient (fX0_takeDigit_s135 S tb p0 p1) p0 (tb (fX1_cellAt (dv6 S) (fX0_takeDigit_m47 S p0)).toNatClampNeg)) else ((dv0 (gX0_writeQuotient (fX0_takeDigit_s135 S tb p0 p1) p0 (tb (fX1_cellAt (dv6 S) (fX0_takeDigit_m47 S p0)).toNatClampNeg))), (dv1 (gX0_writeQuotient (fX0_takeDigit_s135 S tb p0 p1) p0 (tb (fX1_cellAt (dv6 S) (fX0_takeDigit_m47 S p0)).toNatClampNeg))), (dv2 (gX0_writeQuotient (fX0_takeDigit_s135 S tb p0 p1) p0 (tb (fX1_cellAt (dv6 S) (fX0_takeDigit_m47 S p0)).toNatClampNeg))), (dv3 (gX0_writeQuotient (fX0_takeDigit_s135 S tb p0 p1) p0 (tb (fX1_cellAt (dv6 S) (fX0_takeDigit_m47 S p0)).toNatClampNeg))), (dv4 (gX0_writeQuotient (fX0_takeDigit_s135 S tb p0 p1) p0 (tb (fX1_cellAt (dv6 S) (fX0_takeDigit_m47 S p0)).toNatClampNeg))), (dv5 (gX0_writeQuotient (fX0_takeDigit_s135 S tb p0 p1) p0 (tb (fX1_cellAt (dv6 S) (fX0_takeDigit_m47 S p0)).toNatClampNeg))), (dv6 (gX0_writeQuotient (fX0_takeDigit_s135 S tb p0 p1) p0 (tb (fX1_cellAt (dv6 S) (fX0_takeDigit_m47 S p0)).toNatClampNeg))), (dv7 (gX0_writeQuotient (fX0_takeDigit_s135 S tb p0 p1) p0 (tb (fX1_cellAt (dv6 S) (fX0_takeDigit_m47 S p0)).toNatClampNeg))), (dv8 (gX0_writeQuotient (fX0_takeDigit_s135 S tb p0 p1) p0 (tb (fX1_cellAt (dv6 S) (fX0_takeDigit_m47 S p0)).toNatClampNeg))), (dv9 (gX0_writeQuotient (fX0_takeDigit_s135 S tb p0 p1) p0 (tb (fX1_cellAt (dv6 S) (fX0_takeDigit_m47 S p0)).toNatClampNeg))), (dv10 (gX0_writeQuotient (fX0_takeDigit_s135 S tb p0 p1) p0 (tb (fX1_cellAt (dv6 S) (fX0_takeDigit_m47 S p0)).toNatClampNeg))), p0, (dv12 (gX0_writeQuotient (fX0_takeDigit_s135 S tb p0 p1) p0 (tb (fX1_cellAt (dv6 S) (fX0_takeDigit_m47 S p0)).toNatClampNeg))), (dv13 (gX0_writeQuotient (fX0_takeDigit_s135 S tb p0 p1) p0 (tb (fX1_cellAt (dv6 S) (fX0_takeDigit_m47 S p0)).toNatClampNeg))))) else (gX0_writeQuotient (fX0_takeDigit_s135 S tb p0 p1) p0 (tb (fX1_cellAt (dv6 S) (fX0_takeDigit_m47 S p0)).toNatClampNeg))) else (if (dv11 (gX0_writeQuotient (fX0_takeDigit_s135 S tb p0 p1) p0 (tb (fX1_cellAt (dv6 S) (fX0_takeDigit_m47 S p0)).toNatClampNeg))) = 0 then (if (3 * (fX0_takeDigit_m176 S tb p0 p1)) ≤ (16 * p1) then ((dv0 (gX0_writeQuotient (fX0_takeDigit_s135 S tb p0 p1) p0 (tb (fX1_cellAt (dv6 S) (fX0_takeDigit_m47 S p0)).toNatClampNeg))), (dv1 (gX0_writeQuotient (fX0_takeDigit_s135 S tb p0 p1) p0 (tb (fX1_cellAt (dv6 S) (fX0_takeDigit_m47 S p0)).toNatClampNeg))), (dv2 (gX0_writeQuotient (fX0_takeDigit_s135 S tb p0 p1) p0 (tb (fX1_cellAt (dv6 S) (fX0_takeDigit_m47 S p0)).toNatClampNeg))), (dv3 (gX0_writeQuotient (fX0_takeDigit_s135 S tb p0 p1) p0 (tb (fX1_cellAt (dv6 S) (fX0_takeDigit_m47 S p0)).toNatClampNeg))), (dv4 (gX0_writeQuotient (fX0_takeDigit_s135 S tb p0 p1) p0 (tb (fX1_cellAt (dv6 S) (fX0_takeDigit_m47 S p0)).toNatClampNeg))), (dv5 (gX0_writeQuotient (fX0_takeDigit_s135 S tb p0 p1) p0 (tb (fX1_cellAt (dv6 S) (fX0_takeDigit_m47 S p0)).toNatClampNeg))), (dv6 (gX0_writeQuotient (fX0_takeDigit_s135 S tb p0 p1) p0 (tb (fX1_cellAt (dv6 S) (fX0_takeDigit_m47 S p0)).toNatClampNeg))), (dv7 (gX0_writeQuotient (fX0_takeDigit_s135 S tb p0 p1) p0 (tb (fX1_cellAt (dv6 S) (fX0_takeDigit_m47 S p0)).toNatClampNeg))), (dv8 (gX0_writeQuotient (fX0_takeDigit_s135 S tb p0 p1) p0 (tb (fX1_cellAt (dv6 S) (fX0_takeDigit_m47 S p0)).toNatClampNeg))), (dv9 (gX0_writeQuotient (fX0_takeDigit_s135 S tb p0 p1) p0 (tb (fX1_cellAt (dv6 S) (fX0_takeDigit_m47 S p0)).toNatClampNeg))), (fX0_takeDigit_c150 S tb p0 p1), (dv11 (gX0_writeQuotient (fX0_takeDigit_s135 S tb p0 p1) p0 (tb (fX1_cellAt (dv6 S) (fX0_takeDigit_m47 S p0)).toNatClampNeg))), (dv12 (gX0_writeQuotient (fX0_takeDigit_s135 S tb p0 p1) p0 (tb (fX1_cellAt (dv6 S) (fX0_takeDigit_m47 S p0)).toNatClampNeg))), (dv13 (gX0_writeQuotient (fX0_takeDigit_s135 S tb p0 p1) p0 (tb (fX1_cellAt (dv6 S) (fX0_takeDigit_m47 S p0)).toNatClampNeg)))) else ((dv0 (gX0_writeQuotient (fX0_takeDigit_s135 S tb p0 p1) p0 (tb (fX1_cellAt (dv6 S) (fX0_takeDigit_m47 S p0)).toNatClampNeg))), (dv1 (gX0_writeQuotient (fX0_takeDigit_s135 S tb p0 p1) p0 (tb (fX1_cellAt (dv6 S) (fX0_takeDigit_m47 S p0)).toNatClampNeg))), (dv2 (gX0_writeQuotient (fX0_takeDigit_s135 S tb p0 p1) p0 (tb (fX1_cellAt (dv6 S) (fX0_takeDigit_m47 S p0)).toNatClampNeg))), (dv3 (gX0_writeQuotient (fX0_takeDigit_s135 S tb p0 p1) p0 (tb (fX1_cellAt (dv6 S) (fX0_takeDigit_m47 S p0)).toNatClampNeg))), (dv4 (gX0_writeQuotient (fX0_takeDigit_s135 S tb p0 p1) p0 (tb (fX1_cellAt (dv6 S) (fX0_takeDigit_m47 S p0)).toNatClampNeg))), (dv5 (gX0_writeQuotient (fX0_takeDigit_s135 S tb p0 p1) p0 (tb (fX1_cellAt (dv6 S) (fX0_takeDigit_m47 S p0)).toNatClampNeg))), (dv6 (gX0_writeQuotient (fX0_takeDigit_s135 S tb p0 p1) p0 (tb (fX1_cellAt (dv6 S) (fX0_takeDigit_m47 S p0)).toNatClampNeg))), (dv7 (gX0_writeQuotient (fX0_takeDigit_s135 S tb p0 p1) p0 (tb (fX1_cellAt (dv6 S) (fX0_takeDigit_m47 S p0)).toNatClampNeg))), (dv8 (gX0_writeQuotient (fX0_takeDigit_s135 S tb p0 p1) p0 (tb (fX1_cellAt (dv6 S) (fX0_takeDigit_m47 S p0)).toNatClampNeg))), (dv9 (gX0_writeQuotient (fX0_takeDigit_s135 S tb p0 p1) p0 (tb (fX1_cellAt (dv6 S) (fX0_takeDigit_m47 S p0)).toNatClampNeg))), (fX0_takeDigit_c150 S tb p0 p1), p0, (dv12 (gX0_writeQuotient (fX0_takeDigit_s135 S tb p0 p1) p0 (tb (fX1_cellAt (dv6 S) (fX0_takeDigit_m47 S p0)).toNatClampNeg))), (dv13 (gX0_writeQuotient (fX0_takeDigit_s135 S tb p0 p1) p0 (tb (fX1_cellAt (dv6 S) (fX0_takeDigit_m47 S p0)).toNatClampNeg))))) else ((dv0 (gX0_writeQuotient (fX0_takeDigit_s135 S tb p0 p1) p0 (tb (fX1_cellAt (dv6 S) (fX0_takeDigit_m47 S p0)).toNatClampNeg))), (dv1 (gX0_writeQuotient (fX0_takeDigit_s135 S tb p0 p1) p0 (tb (fX1_cellAt (dv6 S) (fX0_takeDigit_m47 S p0)).toNatClampNeg))), (dv2 (gX0_writeQuotient (fX0_takeDigit_s135 S tb p0 p1) p0 (tb (fX1_cellAt (dv6 S) (fX0_takeDigit_m47 S p0)).toNatClampNeg))), (dv3 (gX0_writeQuotient (fX0_takeDigit_s135 S tb p0 p1) p0 (tb (fX1_cellAt (dv6 S) (fX0_takeDigit_m47 S p0)).toNatClampNeg))), (dv4 (gX0_writeQuotient (fX0_takeDigit_s135 S tb p0 p1) p0 (tb (fX1_cellAt (dv6 S) (fX0_takeDigit_m47 S p0)).toNatClampNeg))), (dv5 (gX0_writeQuotient (fX0_takeDigit_s135 S tb p0 p1) p0 (tb (fX1_cellAt (dv6 S) (fX0_takeDigit_m47 S p0)).toNatClampNeg))), (dv6 (gX0_writeQuotient (fX0_takeDigit_s135 S tb p0 p1) p0 (tb (fX1_cellAt (dv6 S) (fX0_takeDigit_m47 S p0)).toNatClampNeg))), (dv7 (gX0_writeQuotient (fX0_takeDigit_s135 S tb p0 p1) p0 (tb (fX1_cellAt (dv6 S) (fX0_takeDigit_m47 S p0)).toNatClampNeg))), (dv8 (gX0_writeQuotient (fX0_takeDigit_s135 S tb p0 p1) p0 (tb (fX1_cellAt (dv6 S) (fX0_takeDigit_m47 S p0)).toNatClampNeg))), (dv9 (gX0_writeQuotient (fX0_takeDigit_s135 S tb p0 p1) p0 (tb (fX1_cellAt (dv6 S) (fX0_takeDigit_m47 S p0)).toNatClampNeg))), (fX0_takeDigit_c150 S tb p0 p1), (dv11 (gX0_writeQuotient (fX0_takeDigit_s135 S tb p0 p1) p0 (tb (fX1_cellAt (dv6 S) (fX0_takeDigit_m47 S p0)).toNatClampNeg))), (dv12 (gX0_writeQuotient (fX0_takeDigit_s135 S tb p0 p1) p0 (tb (fX1_cellAt (dv6 S) (fX0_takeDigit_m47 S p0)).toNatClampNeg))), (dv13 (gX0_writeQuotient (fX0_takeDigit_s135 S tb p0 p1) p0 (tb (fX1_cellAt (dv6 S) (fX0_takeDigit_m47 S p0)).toNatClampNeg))))))
theorem inX0_X0_takeDigit : ∀ w ∈ wsX00, w ∈ wsX0_takeDigit := by decide +kernel
set_option maxHeartbeats 4000000 in
set_option maxRecDepth 100000 in
theorem kX0_takeDigit (l : Launch) (dC : Nat → ClassId) (dI : Nat → Nat → Nat) (o0 : Nat) (o1 : Nat) (o2 : Nat) (o3 : Nat) (o4 : Nat) (o5 : Nat) (o6 : Nat) (cI : ClassId) (cJ : ClassId) (sz : Nat) (S : DV) (tb : Nat → Int32) (p0 : Int32) (p1 : Int64) (p2 : Nat) (hy0 : vp_in (p0 - 1) 18) (hy1 : vp_in (fX1_cellAt (dv6 S) (fX0_takeDigit_m47 S p0)) 2048) (hy2 : vp_in p0 18) : Met l yX0_takeDigit wsX0_takeDigit ({ frames := 1, cells := 0, slots := 0, locals := 26 } : Room) (va_Pc [.ref o0, .int p0, .long p1, .ref p2] (fun U => U.heap.size = sz ∧ va_P (dC, dI) vwCl [(o0, .inr (0, [.ref o1, .ref o2, .ref o3, .ref o4, .ref o5, .ref o6, .int (dv6 S), .int (dv7 S), .int (dv8 S), .int (dv9 S), .int (dv10 S), .int (dv11 S), .int (dv12 S), .int (dv13 S)])), (o1, .inl (cI, 18, .inl (dv0 S))), (o2, .inl (cI, 18, .inl (dv1 S))), (o3, .inl (cJ, 18, .inr (.inl (dv2 S)))), (o4, .inl (cJ, 18, .inr (.inl (dv3 S)))), (o5, .inl (cJ, 18, .inr (.inl (dv4 S)))), (o6, .inl (cJ, 18, .inr (.inl (dv5 S))))] U.heap ∧ va_K (dC, dI) vwCl [(cI, .int), (cJ, .long)] U ∧ va_D (fun _ => True) [(o0, .inr (0, [.ref o1, .ref o2, .ref o3, .ref o4, .ref o5, .ref o6, .int (dv6 S), .int (dv7 S), .int (dv8 S), .int (dv9 S), .int (dv10 S), .int (dv11 S), .int (dv12 S), .int (dv13 S)])), (o1, .inl (cI, 18, .inl (dv0 S))), (o2, .inl (cI, 18, .inl (dv1 S))), (o3, .inl (cJ, 18, .inr (.inl (dv2 S)))), (o4, .inl (cJ, 18, .inr (.inl (dv3 S)))), (o5, .inl (cJ, 18, .inr (.inl (dv4 S)))), (o6, .inl (cJ, 18, .inr (.inl (dv5 S))))] ∧ nwX U ∧ va_T .int p2 2048 (fun j => .int (tb j)) (va_A [(o0, .inr (0, [.ref o1, .ref o2, .ref o3, .ref o4, .ref o5, .ref o6, .int (dv6 S), .int (dv7 S), .int (dv8 S), .int (dv9 S), .int (dv10 S), .int (dv11 S), .int (dv12 S), .int (dv13 S)])), (o1, .inl (cI, 18, .inl (dv0 S))), (o2, .inl (cI, 18, .inl (dv1 S))), (o3, .inl (cJ, 18, .inr (.inl (dv2 S)))), (o4, .inl (cJ, 18, .inr (.inl (dv3 S)))), (o5, .inl (cJ, 18, .inr (.inl (dv4 S)))), (o6, .inl (cJ, 18, .inr (.inl (dv5 S))))] sz) U U.heap)) (va_Qv (fun u : DV => u = (gX0_takeDigit S tb p0 p1)) (fun (u : DV) (t : State) => va_P (dC, dI) vwCl [(o0, .inr (0, [.ref o1, .ref o2, .ref o3, .ref o4, .ref o5, .ref o6, .int (dv6 u), .int (dv7 u), .int (dv8 u), .int (dv9 u), .int (dv10 u), .int (dv11 u), .int (dv12 u), .int (dv13 u)])), (o1, .inl (cI, 18, .inl (dv0 u))), (o2, .inl (cI, 18, .inl (dv1 u))), (o3, .inl (cJ, 18, .inr (.inl (dv2 u)))), (o4, .inl (cJ, 18, .inr (.inl (dv3 u)))), (o5, .inl (cJ, 18, .inr (.inl (dv4 u)))), (o6, .inl (cJ, 18, .inr (.inl (dv5 u))))] t.heap ∧ va_K (dC, dI) vwCl [(cI, .int), (cJ, .long)] t ∧ va_D (va_A [(o0, .inr (0, [.ref o1, .ref o2, .ref o3, .ref o4, .ref o5, .ref o6, .int (dv6 S), .int (dv7 S), .int (dv8 S), .int (dv9 S), .int (dv10 S), .int (dv11 S), .int (dv12 S), .int (dv13 S)])), (o1, .inl (cI, 18, .inl (dv0 S))), (o2, .inl (cI, 18, .inl (dv1 S))), (o3, .inl (cJ, 18, .inr (.inl (dv2 S)))), (o4, .inl (cJ, 18, .inr (.inl (dv3 S)))), (o5, .inl (cJ, 18, .inr (.inl (dv4 S)))), (o6, .inl (cJ, 18, .inr (.inl (dv5 S))))] sz) [(o0, .inr (0, [.ref o1, .ref o2, .ref o3, .ref o4, .ref o5, .ref o6, .int (dv6 u), .int (dv7 u), .int (dv8 u), .int (dv9 u), .int (dv10 u), .int (dv11 u), .int (dv12 u), .int (dv13 u)])), (o1, .inl (cI, 18, .inl (dv0 u))), (o2, .inl (cI, 18, .inl (dv1 u))), (o3, .inl (cJ, 18, .inr (.inl (dv2 u)))), (o4, .inl (cJ, 18, .inr (.inl (dv3 u)))), (o5, .inl (cJ, 18, .inr (.inl (dv4 u)))), (o6, .inl (cJ, 18, .inr (.inl (dv5 u))))]) (va_A [(o0, .inr (0, [.ref o1, .ref o2, .ref o3, .ref o4, .ref o5, .ref o6, .int (dv6 S), .int (dv7 S), .int (dv8 S), .int (dv9 S), .int (dv10 S), .int (dv11 S), .int (dv12 S), .int (dv13 S)])), (o1, .inl (cI, 18, .inl (dv0 S))), (o2, .inl (cI, 18, .inl (dv1 S))), (o3, .inl (cJ, 18, .inr (.inl (dv2 S)))), (o4, .inl (cJ, 18, .inr (.inl (dv3 S)))), (o5, .inl (cJ, 18, .inr (.inl (dv4 S)))), (o6, .inl (cJ, 18, .inr (.inl (dv5 S))))] sz)) 0 0 (va_A [(o0, .inr (0, [.ref o1, .ref o2, .ref o3, .ref o4, .ref o5, .ref o6, .int (dv6 S), .int (dv7 S), .int (dv8 S), .int (dv9 S), .int (dv10 S), .int (dv11 S), .int (dv12 S), .int (dv13 S)])), (o1, .inl (cI, 18, .inl (dv0 S))), (o2, .inl (cI, 18, .inl (dv1 S))), (o3, .inl (cJ, 18, .inr (.inl (dv2 S)))), (o4, .inl (cJ, 18, .inr (.inl (dv3 S)))), (o5, .inl (cJ, 18, .inr (.inl (dv4 S)))), (o6, .inl (cJ, 18, .inr (.inl (dv5 S))))] sz) := by
  refine Met.ofW (cc := cX0_takeDigit) (maxL := 14) (ret := none) (by decide) rfl ?_
  intro p e s m args below meth c s₁ B hml hv
  obtain ⟨rfl, hsz, hP, hK, hD0, hNw, hT⟩ := hv
  have hx := B.exec
  have hb := B.bytes
  have hr := B.returns
  have hts := atoms_spec (ws := wsX0_takeDigit) B.pre
  have hown : s.vm.findClass RX0 = some m.cls := findClass_of_methodNamed B.named
  have hlocks := B.notSynchronized
  subst hsz
  have hD := hD0.self (sz := s.heap.size)
  generalize hAe : va_A [(o0, .inr (0, [.ref o1, .ref o2, .ref o3, .ref o4, .ref o5, .ref o6, .int (dv6 S), .int (dv7 S), .int (dv8 S), .int (dv9 S), .int (dv10 S), .int (dv11 S), .int (dv12 S), .int (dv13 S)])), (o1, .inl (cI, 18, .inl (dv0 S))), (o2, .inl (cI, 18, .inl (dv1 S))), (o3, .inl (cJ, 18, .inr (.inl (dv2 S)))), (o4, .inl (cJ, 18, .inr (.inl (dv3 S)))), (o5, .inl (cJ, 18, .inr (.inl (dv4 S)))), (o6, .inl (cJ, 18, .inr (.inl (dv5 S))))] s.heap.size = A at hD hT ⊢
  have hA : ∀ q : Nat, s.heap.size ≤ q → A q := fun q h => by rw [← hAe]; exact Or.inr h
  have hS : va_S A s.heap s.heap [] := va_S.rf
  have hP : va_P (dC, dI) vwCl [(o0, .inr (0, [.ref o1, .ref o2, .ref o3, .ref o4, .ref o5, .ref o6, .int (dv6 S), .int (dv7 S), .int (dv8 S), .int (dv9 S), .int (dv10 S), .int (dv11 S), .int (dv12 S), .int (dv13 S)])), (o1, .inl (cI, 18, .inl (dv0 S))), (o2, .inl (cI, 18, .inl (dv1 S))), (o3, .inl (cJ, 18, .inr (.inl (dv2 S)))), (o4, .inl (cJ, 18, .inr (.inl (dv3 S)))), (o5, .inl (cJ, 18, .inr (.inl (dv4 S)))), (o6, .inl (cJ, 18, .inr (.inl (dv5 S))))] s.heap := hP
  have hl := lv_entry ([.ref o0, .int p0, .long p1, .ref p2]) (n := 14) (Nat.le_of_ble_eq_true rfl)
  rw [lg_entry_eq]
  generalize (lg_sl ([.ref o0, .int p0, .long p1, .ref p2]) ++ List.replicate (14 - (lg_sl ([.ref o0, .int p0, .long p1, .ref p2])).length) Slot.unset).toArray = ls at hl ⊢
  have hl : lv_has ls 14 [(0, .ref o0), (1, .int p0), (2, .long p1), (4, .ref p2)] := hl
  refine lv_aload_n hx hb dX0_takeDigit_0 rfl (lv_at hl 0 rfl) ?_
  refine va_get (D := (dC, dI)) (ci := 0) (v := .ref o3) (C := RX0) (T := TX0) (N := 14) hx hb hts inX0_X0_takeDigit hown hK hP 0 rfl rfl 2 (by decide) (hts (.fieldLink RX0 18 "DigitDivider$Division" "sums" "[J") (by decide +kernel)) (fun _ h9 => h9) rfl dX0_takeDigit_1 ?_
  refine lv_iload_n hx hb dX0_takeDigit_4 rfl (lv_at hl 1 rfl) ?_
  refine lv_iconst (v := 1) hx hb dX0_takeDigit_5 (by decide) ?_
  refine lv_isub hx hb dX0_takeDigit_6 ?_
  refine va_lald hx hb hK hP 3 1 rfl rfl hy0 dX0_takeDigit_7 ?_
  refine lv_iconst (v := 2) hx hb dX0_takeDigit_8 (by decide) ?_
  refine lv_lshl (v := ((dv2 S) (p0 - 1).toNatClampNeg) <<< (((2 : Int32)).toInt64 &&& 63)) hx hb dX0_takeDigit_9 rfl ?_
  refine lv_lstore (lv' := [(5, .long (((dv2 S) (p0 - 1).toNatClampNeg) <<< (((2 : Int32)).toInt64 &&& 63))), (0, .ref o0), (1, .int p0), (2, .long p1), (4, .ref p2)]) hx hb dX0_takeDigit_10 hl (by decide) rfl (fun ls hl => ?_)
  refine lv_aload_n hx hb dX0_takeDigit_12 rfl (lv_at hl 1 rfl) ?_
  refine va_get (D := (dC, dI)) (ci := 0) (v := .ref o4) (C := RX0) (T := TX0) (N := 14) hx hb hts inX0_X0_takeDigit hown hK hP 0 rfl rfl 3 (by decide) (hts (.fieldLink RX0 22 "DigitDivider$Division" "carries" "[J") (by decide +kernel)) (fun _ h9 => h9) rfl dX0_takeDigit_13 ?_
  refine lv_iload_n hx hb dX0_takeDigit_16 rfl (lv_at hl 2 rfl) ?_
  refine lv_iconst (v := 1) hx hb dX0_takeDigit_17 (by decide) ?_
  refine lv_isub hx hb dX0_takeDigit_18 ?_
  refine va_lald hx hb hK hP 4 1 rfl rfl hy0 dX0_takeDigit_19 ?_
  refine lv_iconst (v := 2) hx hb dX0_takeDigit_20 (by decide) ?_
  refine lv_lshl (v := ((dv3 S) (p0 - 1).toNatClampNeg) <<< (((2 : Int32)).toInt64 &&& 63)) hx hb dX0_takeDigit_21 rfl ?_
  refine lv_lstore (lv' := [(7, .long (((dv3 S) (p0 - 1).toNatClampNeg) <<< (((2 : Int32)).toInt64 &&& 63))), (5, .long (((dv2 S) (p0 - 1).toNatClampNeg) <<< (((2 : Int32)).toInt64 &&& 63))), (0, .ref o0), (1, .int p0), (2, .long p1), (4, .ref p2)]) hx hb dX0_takeDigit_22 hl (by decide) rfl (fun ls hl => ?_)
  refine lv_lload hx hb dX0_takeDigit_24 (lv_at hl 1 rfl) ?_
  refine lv_bipush (v := 31) hx hb dX0_takeDigit_26 (by decide) ?_
  refine lv_lshr (v := (((dv2 S) (p0 - 1).toNatClampNeg) <<< (((2 : Int32)).toInt64 &&& 63)) >>> (((31 : Int32)).toInt64 &&& 63)) hx hb dX0_takeDigit_28 rfl ?_
  refine lv_lload hx hb dX0_takeDigit_29 (lv_at hl 0 rfl) ?_
  refine lv_bipush (v := 31) hx hb dX0_takeDigit_31 (by decide) ?_
  refine lv_lshr (v := (((dv3 S) (p0 - 1).toNatClampNeg) <<< (((2 : Int32)).toInt64 &&& 63)) >>> (((31 : Int32)).toInt64 &&& 63)) hx hb dX0_takeDigit_33 rfl ?_
  refine lv_ladd hx hb dX0_takeDigit_34 ?_
  refine lv_l2i (v := (((((dv2 S) (p0 - 1).toNatClampNeg) <<< (((2 : Int32)).toInt64 &&& 63)) >>> (((31 : Int32)).toInt64 &&& 63)) + ((((dv3 S) (p0 - 1).toNatClampNeg) <<< (((2 : Int32)).toInt64 &&& 63)) >>> (((31 : Int32)).toInt64 &&& 63))).toInt32) hx hb dX0_takeDigit_35 rfl ?_
  refine ax_nmI (y := (fX0_takeDigit_c36 S p0)) rfl ?_
  refine lv_istore (lv' := [(9, .int (fX0_takeDigit_c36 S p0)), (7, .long (((dv3 S) (p0 - 1).toNatClampNeg) <<< (((2 : Int32)).toInt64 &&& 63))), (5, .long (((dv2 S) (p0 - 1).toNatClampNeg) <<< (((2 : Int32)).toInt64 &&& 63))), (0, .ref o0), (1, .int p0), (2, .long p1), (4, .ref p2)]) hx hb dX0_takeDigit_36 hl (by decide) rfl (fun ls hl => ?_)
  refine lv_bipush (v := (-64)) hx hb dX0_takeDigit_38 (by decide) ?_
  refine lv_bipush (v := 63) hx hb dX0_takeDigit_40 (by decide) ?_
  refine lv_iload hx hb dX0_takeDigit_42 (lv_at hl 0 rfl) ?_
  refine va_mmin hx hb (hml.trans hl.1.symm) hown (hts (.methodLink RX0 83 Lib.Math.min.name) (by decide +kernel)) (hts (.static Lib.Math.min.name) (by decide +kernel)) (hts (.initialized "java/lang/Math") (by decide +kernel)) (hts (.code Lib.Math.min.name Lib.Math.min.code 2 (some .int)) (by decide +kernel)) (Nat.le_of_ble_eq_true rfl) (Nat.le_of_ble_eq_true rfl) (Nat.zero_le _) (Nat.zero_le _) dX0_takeDigit_44 ?_
  refine ax_nmI (y := (fX0_takeDigit_m44 S p0)) rfl ?_
  refine va_mmax hx hb (hml.trans hl.1.symm) hown (hts (.methodLink RX0 91 Lib.Math.max.name) (by decide +kernel)) (hts (.static Lib.Math.max.name) (by decide +kernel)) (hts (.initialized "java/lang/Math") (by decide +kernel)) (hts (.code Lib.Math.max.name Lib.Math.max.code 2 (some .int)) (by decide +kernel)) (Nat.le_of_ble_eq_true rfl) (Nat.le_of_ble_eq_true rfl) (Nat.zero_le _) (Nat.zero_le _) dX0_takeDigit_47 ?_
  refine ax_nmI (y := (fX0_takeDigit_m47 S p0)) rfl ?_
  refine lv_istore (lv' := [(10, .int (fX0_takeDigit_m47 S p0)), (9, .int (fX0_takeDigit_c36 S p0)), (7, .long (((dv3 S) (p0 - 1).toNatClampNeg) <<< (((2 : Int32)).toInt64 &&& 63))), (5, .long (((dv2 S) (p0 - 1).toNatClampNeg) <<< (((2 : Int32)).toInt64 &&& 63))), (0, .ref o0), (1, .int p0), (2, .long p1), (4, .ref p2)]) hx hb dX0_takeDigit_50 hl (by decide) rfl (fun ls hl => ?_)
  refine lv_aload hx hb dX0_takeDigit_52 (lv_at hl 7 rfl) ?_
  refine lv_aload_n hx hb dX0_takeDigit_54 rfl (lv_at hl 4 rfl) ?_
  refine va_get (D := (dC, dI)) (ci := 0) (v := .int (dv6 S)) (C := RX0) (T := TX0) (N := 14) hx hb hts inX0_X0_takeDigit hown hK hP 0 rfl rfl 6 (by decide) (hts (.fieldLink RX0 31 "DigitDivider$Division" "row" "I") (by decide +kernel)) (fun _ h9 => h9) rfl dX0_takeDigit_55 ?_
  refine lv_iload hx hb dX0_takeDigit_58 (lv_at hl 0 rfl) ?_
  refine vp_callSi (va_Run.run (va_runSN (As := [.int (dv6 S), .int (fX0_takeDigit_m47 S p0)]) (rest := [.ref p2]) ⟨hx, hb, hml, hown, hts⟩ (kX1_cellAt l dC dI (dv6 S) (fX0_takeDigit_m47 S p0)) ⟨va_cnB 2 hts gX0_takeDigit_X1_cellAt_n94 rfl rfl rfl (nw_16 hNw) (hts (.initialized RX1) (by decide +kernel)) (by decide +kernel) ⟨Nat.le_of_ble_eq_true rfl, Nat.le_of_ble_eq_true rfl⟩, hts (.static yX1_cellAt) (by decide +kernel), trivial⟩ ⟨fun a U g mk q => by obtain ⟨q0, qt⟩ := q; exact ⟨q0, qt⟩, fun U hU hW => ⟨rfl, trivial⟩⟩ rfl rfl hl.1 rfl (lv_room (Nat.le_of_ble_eq_true rfl)) dX0_takeDigit_60 ⟨Nat.zero_le _, Nat.zero_le _⟩)) (fun r_1 hr_1 => ?_)
  subst hr_1
  refine ax_tld (f := tb) hx hb hT hS hy1 dX0_takeDigit_63 ?_
  refine lv_istore (lv' := [(11, .int (tb (fX1_cellAt (dv6 S) (fX0_takeDigit_m47 S p0)).toNatClampNeg)), (10, .int (fX0_takeDigit_m47 S p0)), (9, .int (fX0_takeDigit_c36 S p0)), (7, .long (((dv3 S) (p0 - 1).toNatClampNeg) <<< (((2 : Int32)).toInt64 &&& 63))), (5, .long (((dv2 S) (p0 - 1).toNatClampNeg) <<< (((2 : Int32)).toInt64 &&& 63))), (0, .ref o0), (1, .int p0), (2, .long p1), (4, .ref p2)]) hx hb dX0_takeDigit_64 hl (by decide) rfl (fun ls hl => ?_)
  refine lv_bipush (v := (-8)) hx hb dX0_takeDigit_66 (by decide) ?_
  refine lv_iload hx hb dX0_takeDigit_68 (lv_at hl 0 rfl) ?_
  refine lv_imul hx hb dX0_takeDigit_70 ?_
  refine lv_i2l (v := ((-8) * (tb (fX1_cellAt (dv6 S) (fX0_takeDigit_m47 S p0)).toNatClampNeg)).toInt64) hx hb dX0_takeDigit_71 rfl ?_
  refine lv_lload_n hx hb dX0_takeDigit_72 rfl (lv_at hl 7 rfl) ?_
  refine lv_lmul hx hb dX0_takeDigit_73 ?_
  refine ax_nmL (y := (fX0_takeDigit_c74 S tb p0 p1)) rfl ?_
  refine lv_lstore (lv' := [(12, .long (fX0_takeDigit_c74 S tb p0 p1)), (11, .int (tb (fX1_cellAt (dv6 S) (fX0_takeDigit_m47 S p0)).toNatClampNeg)), (10, .int (fX0_takeDigit_m47 S p0)), (9, .int (fX0_takeDigit_c36 S p0)), (7, .long (((dv3 S) (p0 - 1).toNatClampNeg) <<< (((2 : Int32)).toInt64 &&& 63))), (5, .long (((dv2 S) (p0 - 1).toNatClampNeg) <<< (((2 : Int32)).toInt64 &&& 63))), (0, .ref o0), (1, .int p0), (2, .long p1), (4, .ref p2)]) hx hb dX0_takeDigit_74 hl (by decide) rfl (fun ls hl => ?_)
  refine lv_aload_n hx hb dX0_takeDigit_76 rfl (lv_at hl 6 rfl) ?_
  refine va_get (D := (dC, dI)) (ci := 0) (v := .ref o2) (C := RX0) (T := TX0) (N := 14) hx hb hts inX0_X0_takeDigit hown hK hP 0 rfl rfl 1 (by decide) (hts (.fieldLink RX0 15 "DigitDivider$Division" "estimates" "[I") (by decide +kernel)) (fun _ h9 => h9) rfl dX0_takeDigit_77 ?_
  refine lv_iload_n hx hb dX0_takeDigit_80 rfl (lv_at hl 7 rfl) ?_
  refine lv_iload hx hb dX0_takeDigit_81 (lv_at hl 3 rfl) ?_
  refine va_iast hx hb hK hP hD hS 2 0 rfl rfl hy2 dX0_takeDigit_83 (fun H locs hP hD hS => ?_)
  have hP : va_P (dC, dI) vwCl [(o0, .inr (0, [.ref o1, .ref o2, .ref o3, .ref o4, .ref o5, .ref o6, .int (dv6 S), .int (dv7 S), .int (dv8 S), .int (dv9 S), .int (dv10 S), .int (dv11 S), .int (dv12 S), .int (dv13 S)])), (o1, .inl (cI, 18, .inl (dv0 S))), (o2, .inl (cI, 18, .inl (upd (dv1 S) p0.toNatClampNeg (fX0_takeDigit_c36 S p0)))), (o3, .inl (cJ, 18, .inr (.inl (dv2 S)))), (o4, .inl (cJ, 18, .inr (.inl (dv3 S)))), (o5, .inl (cJ, 18, .inr (.inl (dv4 S)))), (o6, .inl (cJ, 18, .inr (.inl (dv5 S))))] H := hP
  have hD : va_D A [(o0, .inr (0, [.ref o1, .ref o2, .ref o3, .ref o4, .ref o5, .ref o6, .int (dv6 S), .int (dv7 S), .int (dv8 S), .int (dv9 S), .int (dv10 S), .int (dv11 S), .int (dv12 S), .int (dv13 S)])), (o1, .inl (cI, 18, .inl (dv0 S))), (o2, .inl (cI, 18, .inl (upd (dv1 S) p0.toNatClampNeg (fX0_takeDigit_c36 S p0)))), (o3, .inl (cJ, 18, .inr (.inl (dv2 S)))), (o4, .inl (cJ, 18, .inr (.inl (dv3 S)))), (o5, .inl (cJ, 18, .inr (.inl (dv4 S)))), (o6, .inl (cJ, 18, .inr (.inl (dv5 S))))] := hD
  refine lv_aload_n hx hb dX0_takeDigit_84 rfl (lv_at hl 6 rfl) ?_
  refine va_get (D := (dC, dI)) (ci := 0) (v := .ref o1) (C := RX0) (T := TX0) (N := 14) hx hb hts inX0_X0_takeDigit hown hK hP 0 rfl rfl 0 (by decide) (hts (.fieldLink RX0 11 "DigitDivider$Division" "digits" "[I") (by decide +kernel)) (fun _ h9 => h9) rfl dX0_takeDigit_85 ?_
  refine lv_iload_n hx hb dX0_takeDigit_88 rfl (lv_at hl 7 rfl) ?_
  refine lv_iload hx hb dX0_takeDigit_89 (lv_at hl 1 rfl) ?_
  refine va_iast hx hb hK hP hD hS 1 0 rfl rfl hy2 dX0_takeDigit_91 (fun H locs hP hD hS => ?_)
  have hP : va_P (dC, dI) vwCl [(o0, .inr (0, [.ref o1, .ref o2, .ref o3, .ref o4, .ref o5, .ref o6, .int (dv6 S), .int (dv7 S), .int (dv8 S), .int (dv9 S), .int (dv10 S), .int (dv11 S), .int (dv12 S), .int (dv13 S)])), (o1, .inl (cI, 18, .inl (upd (dv0 S) p0.toNatClampNeg (tb (fX1_cellAt (dv6 S) (fX0_takeDigit_m47 S p0)).toNatClampNeg)))), (o2, .inl (cI, 18, .inl (upd (dv1 S) p0.toNatClampNeg (fX0_takeDigit_c36 S p0)))), (o3, .inl (cJ, 18, .inr (.inl (dv2 S)))), (o4, .inl (cJ, 18, .inr (.inl (dv3 S)))), (o5, .inl (cJ, 18, .inr (.inl (dv4 S)))), (o6, .inl (cJ, 18, .inr (.inl (dv5 S))))] H := hP
  have hD : va_D A [(o0, .inr (0, [.ref o1, .ref o2, .ref o3, .ref o4, .ref o5, .ref o6, .int (dv6 S), .int (dv7 S), .int (dv8 S), .int (dv9 S), .int (dv10 S), .int (dv11 S), .int (dv12 S), .int (dv13 S)])), (o1, .inl (cI, 18, .inl (upd (dv0 S) p0.toNatClampNeg (tb (fX1_cellAt (dv6 S) (fX0_takeDigit_m47 S p0)).toNatClampNeg)))), (o2, .inl (cI, 18, .inl (upd (dv1 S) p0.toNatClampNeg (fX0_takeDigit_c36 S p0)))), (o3, .inl (cJ, 18, .inr (.inl (dv2 S)))), (o4, .inl (cJ, 18, .inr (.inl (dv3 S)))), (o5, .inl (cJ, 18, .inr (.inl (dv4 S)))), (o6, .inl (cJ, 18, .inr (.inl (dv5 S))))] := hD
  refine lv_aload_n hx hb dX0_takeDigit_92 rfl (lv_at hl 6 rfl) ?_
  refine va_get (D := (dC, dI)) (ci := 0) (v := .ref o3) (C := RX0) (T := TX0) (N := 14) hx hb hts inX0_X0_takeDigit hown hK hP 0 rfl rfl 2 (by decide) (hts (.fieldLink RX0 18 "DigitDivider$Division" "sums" "[J") (by decide +kernel)) (fun _ h9 => h9) rfl dX0_takeDigit_93 ?_
  refine lv_iload_n hx hb dX0_takeDigit_96 rfl (lv_at hl 7 rfl) ?_
  refine lv_lload hx hb dX0_takeDigit_97 (lv_at hl 5 rfl) ?_
  refine lv_lload hx hb dX0_takeDigit_99 (lv_at hl 4 rfl) ?_
  refine lv_lxor hx hb dX0_takeDigit_101 ?_
  refine lv_lload hx hb dX0_takeDigit_102 (lv_at hl 0 rfl) ?_
  refine lv_lxor hx hb dX0_takeDigit_104 ?_
  refine ax_nmL (y := (fX0_takeDigit_c105 S tb p0 p1)) rfl ?_
  refine va_last hx hb hK hP hD hS 3 1 rfl rfl hy2 dX0_takeDigit_105 (fun H locs hP hD hS => ?_)
  have hP : va_P (dC, dI) vwCl [(o0, .inr (0, [.ref o1, .ref o2, .ref o3, .ref o4, .ref o5, .ref o6, .int (dv6 S), .int (dv7 S), .int (dv8 S), .int (dv9 S), .int (dv10 S), .int (dv11 S), .int (dv12 S), .int (dv13 S)])), (o1, .inl (cI, 18, .inl (upd (dv0 S) p0.toNatClampNeg (tb (fX1_cellAt (dv6 S) (fX0_takeDigit_m47 S p0)).toNatClampNeg)))), (o2, .inl (cI, 18, .inl (upd (dv1 S) p0.toNatClampNeg (fX0_takeDigit_c36 S p0)))), (o3, .inl (cJ, 18, .inr (.inl (vp_updL (dv2 S) p0.toNatClampNeg (fX0_takeDigit_c105 S tb p0 p1))))), (o4, .inl (cJ, 18, .inr (.inl (dv3 S)))), (o5, .inl (cJ, 18, .inr (.inl (dv4 S)))), (o6, .inl (cJ, 18, .inr (.inl (dv5 S))))] H := hP
  have hD : va_D A [(o0, .inr (0, [.ref o1, .ref o2, .ref o3, .ref o4, .ref o5, .ref o6, .int (dv6 S), .int (dv7 S), .int (dv8 S), .int (dv9 S), .int (dv10 S), .int (dv11 S), .int (dv12 S), .int (dv13 S)])), (o1, .inl (cI, 18, .inl (upd (dv0 S) p0.toNatClampNeg (tb (fX1_cellAt (dv6 S) (fX0_takeDigit_m47 S p0)).toNatClampNeg)))), (o2, .inl (cI, 18, .inl (upd (dv1 S) p0.toNatClampNeg (fX0_takeDigit_c36 S p0)))), (o3, .inl (cJ, 18, .inr (.inl (vp_updL (dv2 S) p0.toNatClampNeg (fX0_takeDigit_c105 S tb p0 p1))))), (o4, .inl (cJ, 18, .inr (.inl (dv3 S)))), (o5, .inl (cJ, 18, .inr (.inl (dv4 S)))), (o6, .inl (cJ, 18, .inr (.inl (dv5 S))))] := hD
  refine lv_aload_n hx hb dX0_takeDigit_106 rfl (lv_at hl 6 rfl) ?_
  refine va_get (D := (dC, dI)) (ci := 0) (v := .ref o4) (C := RX0) (T := TX0) (N := 14) hx hb hts inX0_X0_takeDigit hown hK hP 0 rfl rfl 3 (by decide) (hts (.fieldLink RX0 22 "DigitDivider$Division" "carries" "[J") (by decide +kernel)) (fun _ h9 => h9) rfl dX0_takeDigit_107 ?_
  refine lv_iload_n hx hb dX0_takeDigit_110 rfl (lv_at hl 7 rfl) ?_
  refine lv_lload hx hb dX0_takeDigit_111 (lv_at hl 5 rfl) ?_
  refine lv_lload hx hb dX0_takeDigit_113 (lv_at hl 4 rfl) ?_
  refine lv_land hx hb dX0_takeDigit_115 ?_
  refine lv_lload hx hb dX0_takeDigit_116 (lv_at hl 5 rfl) ?_
  refine lv_lload hx hb dX0_takeDigit_118 (lv_at hl 0 rfl) ?_
  refine lv_land hx hb dX0_takeDigit_120 ?_
  refine lv_lor hx hb dX0_takeDigit_121 ?_
  refine lv_lload hx hb dX0_takeDigit_122 (lv_at hl 4 rfl) ?_
  refine lv_lload hx hb dX0_takeDigit_124 (lv_at hl 0 rfl) ?_
  refine lv_land hx hb dX0_takeDigit_126 ?_
  refine lv_lor hx hb dX0_takeDigit_127 ?_
  refine lv_iconst (v := 1) hx hb dX0_takeDigit_128 (by decide) ?_
  refine lv_lshl (v := ((((((dv2 S) (p0 - 1).toNatClampNeg) <<< (((2 : Int32)).toInt64 &&& 63)) &&& (((dv3 S) (p0 - 1).toNatClampNeg) <<< (((2 : Int32)).toInt64 &&& 63))) ||| ((((dv2 S) (p0 - 1).toNatClampNeg) <<< (((2 : Int32)).toInt64 &&& 63)) &&& (fX0_takeDigit_c74 S tb p0 p1))) ||| ((((dv3 S) (p0 - 1).toNatClampNeg) <<< (((2 : Int32)).toInt64 &&& 63)) &&& (fX0_takeDigit_c74 S tb p0 p1))) <<< (((1 : Int32)).toInt64 &&& 63)) hx hb dX0_takeDigit_129 rfl ?_
  refine ax_nmL (y := (fX0_takeDigit_c130 S tb p0 p1)) rfl ?_
  refine va_last hx hb hK hP hD hS 4 1 rfl rfl hy2 dX0_takeDigit_130 (fun H locs hP hD hS => ?_)
  have hP : va_P (dC, dI) vwCl [(o0, .inr (0, [.ref o1, .ref o2, .ref o3, .ref o4, .ref o5, .ref o6, .int (dv6 S), .int (dv7 S), .int (dv8 S), .int (dv9 S), .int (dv10 S), .int (dv11 S), .int (dv12 S), .int (dv13 S)])), (o1, .inl (cI, 18, .inl (upd (dv0 S) p0.toNatClampNeg (tb (fX1_cellAt (dv6 S) (fX0_takeDigit_m47 S p0)).toNatClampNeg)))), (o2, .inl (cI, 18, .inl (upd (dv1 S) p0.toNatClampNeg (fX0_takeDigit_c36 S p0)))), (o3, .inl (cJ, 18, .inr (.inl (vp_updL (dv2 S) p0.toNatClampNeg (fX0_takeDigit_c105 S tb p0 p1))))), (o4, .inl (cJ, 18, .inr (.inl (vp_updL (dv3 S) p0.toNatClampNeg (fX0_takeDigit_c130 S tb p0 p1))))), (o5, .inl (cJ, 18, .inr (.inl (dv4 S)))), (o6, .inl (cJ, 18, .inr (.inl (dv5 S))))] H := hP
  have hD : va_D A [(o0, .inr (0, [.ref o1, .ref o2, .ref o3, .ref o4, .ref o5, .ref o6, .int (dv6 S), .int (dv7 S), .int (dv8 S), .int (dv9 S), .int (dv10 S), .int (dv11 S), .int (dv12 S), .int (dv13 S)])), (o1, .inl (cI, 18, .inl (upd (dv0 S) p0.toNatClampNeg (tb (fX1_cellAt (dv6 S) (fX0_takeDigit_m47 S p0)).toNatClampNeg)))), (o2, .inl (cI, 18, .inl (upd (dv1 S) p0.toNatClampNeg (fX0_takeDigit_c36 S p0)))), (o3, .inl (cJ, 18, .inr (.inl (vp_updL (dv2 S) p0.toNatClampNeg (fX0_takeDigit_c105 S tb p0 p1))))), (o4, .inl (cJ, 18, .inr (.inl (vp_updL (dv3 S) p0.toNatClampNeg (fX0_takeDigit_c130 S tb p0 p1))))), (o5, .inl (cJ, 18, .inr (.inl (dv4 S)))), (o6, .inl (cJ, 18, .inr (.inl (dv5 S))))] := hD
  refine lv_aload_n hx hb dX0_takeDigit_131 rfl (lv_at hl 6 rfl) ?_
  refine lv_iload_n hx hb dX0_takeDigit_132 rfl (lv_at hl 7 rfl) ?_
  refine lv_iload hx hb dX0_takeDigit_133 (lv_at hl 1 rfl) ?_
  have hP : va_P (dC, dI) vwCl [(o0, .inr (0, [.ref o1, .ref o2, .ref o3, .ref o4, .ref o5, .ref o6, .int (dv6 (fX0_takeDigit_s135 S tb p0 p1)), .int (dv7 (fX0_takeDigit_s135 S tb p0 p1)), .int (dv8 (fX0_takeDigit_s135 S tb p0 p1)), .int (dv9 (fX0_takeDigit_s135 S tb p0 p1)), .int (dv10 (fX0_takeDigit_s135 S tb p0 p1)), .int (dv11 (fX0_takeDigit_s135 S tb p0 p1)), .int (dv12 (fX0_takeDigit_s135 S tb p0 p1)), .int (dv13 (fX0_takeDigit_s135 S tb p0 p1))])), (o1, .inl (cI, 18, .inl (dv0 (fX0_takeDigit_s135 S tb p0 p1)))), (o2, .inl (cI, 18, .inl (dv1 (fX0_takeDigit_s135 S tb p0 p1)))), (o3, .inl (cJ, 18, .inr (.inl (dv2 (fX0_takeDigit_s135 S tb p0 p1))))), (o4, .inl (cJ, 18, .inr (.inl (dv3 (fX0_takeDigit_s135 S tb p0 p1))))), (o5, .inl (cJ, 18, .inr (.inl (dv4 (fX0_takeDigit_s135 S tb p0 p1))))), (o6, .inl (cJ, 18, .inr (.inl (dv5 (fX0_takeDigit_s135 S tb p0 p1)))))] H := hP
  have hD : va_D A [(o0, .inr (0, [.ref o1, .ref o2, .ref o3, .ref o4, .ref o5, .ref o6, .int (dv6 (fX0_takeDigit_s135 S tb p0 p1)), .int (dv7 (fX0_takeDigit_s135 S tb p0 p1)), .int (dv8 (fX0_takeDigit_s135 S tb p0 p1)), .int (dv9 (fX0_takeDigit_s135 S tb p0 p1)), .int (dv10 (fX0_takeDigit_s135 S tb p0 p1)), .int (dv11 (fX0_takeDigit_s135 S tb p0 p1)), .int (dv12 (fX0_takeDigit_s135 S tb p0 p1)), .int (dv13 (fX0_takeDigit_s135 S tb p0 p1))])), (o1, .inl (cI, 18, .inl (dv0 (fX0_takeDigit_s135 S tb p0 p1)))), (o2, .inl (cI, 18, .inl (dv1 (fX0_takeDigit_s135 S tb p0 p1)))), (o3, .inl (cJ, 18, .inr (.inl (dv2 (fX0_takeDigit_s135 S tb p0 p1))))), (o4, .inl (cJ, 18, .inr (.inl (dv3 (fX0_takeDigit_s135 S tb p0 p1))))), (o5, .inl (cJ, 18, .inr (.inl (dv4 (fX0_takeDigit_s135 S tb p0 p1))))), (o6, .inl (cJ, 18, .inr (.inl (dv5 (fX0_takeDigit_s135 S tb p0 p1)))))] := hD
  have hPc := hP.sub (ws' := [(o0, .inr (0, [.ref o1, .ref o2, .ref o3, .ref o4, .ref o5, .ref o6, .int (dv6 (fX0_takeDigit_s135 S tb p0 p1)), .int (dv7 (fX0_takeDigit_s135 S tb p0 p1)), .int (dv8 (fX0_takeDigit_s135 S tb p0 p1)), .int (dv9 (fX0_takeDigit_s135 S tb p0 p1)), .int (dv10 (fX0_takeDigit_s135 S tb p0 p1)), .int (dv11 (fX0_takeDigit_s135 S tb p0 p1)), .int (dv12 (fX0_takeDigit_s135 S tb p0 p1)), .int (dv13 (fX0_takeDigit_s135 S tb p0 p1))])), (o1, .inl (cI, 18, .inl (dv0 (fX0_takeDigit_s135 S tb p0 p1)))), (o2, .inl (cI, 18, .inl (dv1 (fX0_takeDigit_s135 S tb p0 p1)))), (o3, .inl (cJ, 18, .inr (.inl (dv2 (fX0_takeDigit_s135 S tb p0 p1))))), (o4, .inl (cJ, 18, .inr (.inl (dv3 (fX0_takeDigit_s135 S tb p0 p1))))), (o5, .inl (cJ, 18, .inr (.inl (dv4 (fX0_takeDigit_s135 S tb p0 p1))))), (o6, .inl (cJ, 18, .inr (.inl (dv5 (fX0_takeDigit_s135 S tb p0 p1)))))]) [0, 1, 2, 3, 4, 5, 6] rfl
  have hKc := hK.sub (tys' := [(cI, .int), (cJ, .long)]) [0, 1] rfl
  have hDc := hD.sub (ws' := [(o0, .inr (0, [.ref o1, .ref o2, .ref o3, .ref o4, .ref o5, .ref o6, .int (dv6 (fX0_takeDigit_s135 S tb p0 p1)), .int (dv7 (fX0_takeDigit_s135 S tb p0 p1)), .int (dv8 (fX0_takeDigit_s135 S tb p0 p1)), .int (dv9 (fX0_takeDigit_s135 S tb p0 p1)), .int (dv10 (fX0_takeDigit_s135 S tb p0 p1)), .int (dv11 (fX0_takeDigit_s135 S tb p0 p1)), .int (dv12 (fX0_takeDigit_s135 S tb p0 p1)), .int (dv13 (fX0_takeDigit_s135 S tb p0 p1))])), (o1, .inl (cI, 18, .inl (dv0 (fX0_takeDigit_s135 S tb p0 p1)))), (o2, .inl (cI, 18, .inl (dv1 (fX0_takeDigit_s135 S tb p0 p1)))), (o3, .inl (cJ, 18, .inr (.inl (dv2 (fX0_takeDigit_s135 S tb p0 p1))))), (o4, .inl (cJ, 18, .inr (.inl (dv3 (fX0_takeDigit_s135 S tb p0 p1))))), (o5, .inl (cJ, 18, .inr (.inl (dv4 (fX0_takeDigit_s135 S tb p0 p1))))), (o6, .inl (cJ, 18, .inr (.inl (dv5 (fX0_takeDigit_s135 S tb p0 p1)))))]) [0, 1, 2, 3, 4, 5, 6] (by decide) rfl
  have hFc := va_free (wc := [(o0, .inr (0, [.ref o1, .ref o2, .ref o3, .ref o4, .ref o5, .ref o6, .int (dv6 (fX0_takeDigit_s135 S tb p0 p1)), .int (dv7 (fX0_takeDigit_s135 S tb p0 p1)), .int (dv8 (fX0_takeDigit_s135 S tb p0 p1)), .int (dv9 (fX0_takeDigit_s135 S tb p0 p1)), .int (dv10 (fX0_takeDigit_s135 S tb p0 p1)), .int (dv11 (fX0_takeDigit_s135 S tb p0 p1)), .int (dv12 (fX0_takeDigit_s135 S tb p0 p1)), .int (dv13 (fX0_takeDigit_s135 S tb p0 p1))])), (o1, .inl (cI, 18, .inl (dv0 (fX0_takeDigit_s135 S tb p0 p1)))), (o2, .inl (cI, 18, .inl (dv1 (fX0_takeDigit_s135 S tb p0 p1)))), (o3, .inl (cJ, 18, .inr (.inl (dv2 (fX0_takeDigit_s135 S tb p0 p1))))), (o4, .inl (cJ, 18, .inr (.inl (dv3 (fX0_takeDigit_s135 S tb p0 p1))))), (o5, .inl (cJ, 18, .inr (.inl (dv4 (fX0_takeDigit_s135 S tb p0 p1))))), (o6, .inl (cJ, 18, .inr (.inl (dv5 (fX0_takeDigit_s135 S tb p0 p1)))))]) hD hS hA [0, 1, 2, 3, 4, 5, 6] rfl
  refine va_callv (va_runV (As := [.int p0, .int (tb (fX1_cellAt (dv6 S) (fX0_takeDigit_m47 S p0)).toNatClampNeg)]) (rest := []) ⟨hx, hb, hml, hown, hts⟩ (kX0_writeQuotient l dC dI o0 o1 o2 o3 o4 o5 o6 cI cJ H.size (fX0_takeDigit_s135 S tb p0 p1) p0 (tb (fX1_cellAt (dv6 S) (fX0_takeDigit_m47 S p0)).toNatClampNeg) hy0 hy2) (cwV 2 hts gX0_takeDigit_X0_writeQuotient rfl rfl rfl (by decide +kernel) ⟨Nat.le_of_ble_eq_true rfl, Nat.le_of_ble_eq_true rfl⟩) ⟨fun a U g mk q => by obtain ⟨q0, q1, qP, qK, qD⟩ := q; exact ⟨q0, q1, qP, va_K.moved (u := U) (U := U.calling g mk a) (Vm.Alike.refl U.vm) qK, qD⟩, va_recv hKc hPc (ci := 0) (q0 := 0) rfl rfl, fun U hU hW => ⟨rfl, by rw [hU], by rw [hU]; exact hPc, va_K.moved hW.alike hKc, hDc.weaken (fun _ _ _ _ => trivial)⟩⟩ rfl rfl hl.1 rfl (lv_room (Nat.le_of_ble_eq_true rfl)) dX0_takeDigit_135 ⟨Nat.zero_le _, Nat.zero_le _⟩) hS (fun q _ h => hFc q h) hFc (fun u_2 t H1 locs ht hvm hw hB hz1 hk1 hS => ?_)
  try dsimp only at hw
  subst hw
  obtain ⟨hP1, hK1, hD1⟩ := hB
  rw [ht] at hP1
  have hK1 := va_K.moved hvm.symm hK1
  obtain ⟨hP, hD⟩ := va_join (wr := []) (w1 := [(o0, .inr (0, [.ref o1, .ref o2, .ref o3, .ref o4, .ref o5, .ref o6, .int (dv6 (gX0_writeQuotient (fX0_takeDigit_s135 S tb p0 p1) p0 (tb (fX1_cellAt (dv6 S) (fX0_takeDigit_m47 S p0)).toNatClampNeg))), .int (dv7 (gX0_writeQuotient (fX0_takeDigit_s135 S tb p0 p1) p0 (tb (fX1_cellAt (dv6 S) (fX0_takeDigit_m47 S p0)).toNatClampNeg))), .int (dv8 (gX0_writeQuotient (fX0_takeDigit_s135 S tb p0 p1) p0 (tb (fX1_cellAt (dv6 S) (fX0_takeDigit_m47 S p0)).toNatClampNeg))), .int (dv9 (gX0_writeQuotient (fX0_takeDigit_s135 S tb p0 p1) p0 (tb (fX1_cellAt (dv6 S) (fX0_takeDigit_m47 S p0)).toNatClampNeg))), .int (dv10 (gX0_writeQuotient (fX0_takeDigit_s135 S tb p0 p1) p0 (tb (fX1_cellAt (dv6 S) (fX0_takeDigit_m47 S p0)).toNatClampNeg))), .int (dv11 (gX0_writeQuotient (fX0_takeDigit_s135 S tb p0 p1) p0 (tb (fX1_cellAt (dv6 S) (fX0_takeDigit_m47 S p0)).toNatClampNeg))), .int (dv12 (gX0_writeQuotient (fX0_takeDigit_s135 S tb p0 p1) p0 (tb (fX1_cellAt (dv6 S) (fX0_takeDigit_m47 S p0)).toNatClampNeg))), .int (dv13 (gX0_writeQuotient (fX0_takeDigit_s135 S tb p0 p1) p0 (tb (fX1_cellAt (dv6 S) (fX0_takeDigit_m47 S p0)).toNatClampNeg)))])), (o1, .inl (cI, 18, .inl (dv0 (gX0_writeQuotient (fX0_takeDigit_s135 S tb p0 p1) p0 (tb (fX1_cellAt (dv6 S) (fX0_takeDigit_m47 S p0)).toNatClampNeg))))), (o2, .inl (cI, 18, .inl (dv1 (gX0_writeQuotient (fX0_takeDigit_s135 S tb p0 p1) p0 (tb (fX1_cellAt (dv6 S) (fX0_takeDigit_m47 S p0)).toNatClampNeg))))), (o3, .inl (cJ, 18, .inr (.inl (dv2 (gX0_writeQuotient (fX0_takeDigit_s135 S tb p0 p1) p0 (tb (fX1_cellAt (dv6 S) (fX0_takeDigit_m47 S p0)).toNatClampNeg)))))), (o4, .inl (cJ, 18, .inr (.inl (dv3 (gX0_writeQuotient (fX0_takeDigit_s135 S tb p0 p1) p0 (tb (fX1_cellAt (dv6 S) (fX0_takeDigit_m47 S p0)).toNatClampNeg)))))), (o5, .inl (cJ, 18, .inr (.inl (dv4 (gX0_writeQuotient (fX0_takeDigit_s135 S tb p0 p1) p0 (tb (fX1_cellAt (dv6 S) (fX0_takeDigit_m47 S p0)).toNatClampNeg)))))), (o6, .inl (cJ, 18, .inr (.inl (dv5 (gX0_writeQuotient (fX0_takeDigit_s135 S tb p0 p1) p0 (tb (fX1_cellAt (dv6 S) (fX0_takeDigit_m47 S p0)).toNatClampNeg))))))]) hP hD [0, 1, 2, 3, 4, 5, 6] [] rfl rfl (by decide) (by decide) hk1 hFc hP1 hD1
  generalize H1 = H at hP hS ⊢
  have hP : va_P (dC, dI) vwCl [(o0, .inr (0, [.ref o1, .ref o2, .ref o3, .ref o4, .ref o5, .ref o6, .int (dv6 (gX0_writeQuotient (fX0_takeDigit_s135 S tb p0 p1) p0 (tb (fX1_cellAt (dv6 S) (fX0_takeDigit_m47 S p0)).toNatClampNeg))), .int (dv7 (gX0_writeQuotient (fX0_takeDigit_s135 S tb p0 p1) p0 (tb (fX1_cellAt (dv6 S) (fX0_takeDigit_m47 S p0)).toNatClampNeg))), .int (dv8 (gX0_writeQuotient (fX0_takeDigit_s135 S tb p0 p1) p0 (tb (fX1_cellAt (dv6 S) (fX0_takeDigit_m47 S p0)).toNatClampNeg))), .int (dv9 (gX0_writeQuotient (fX0_takeDigit_s135 S tb p0 p1) p0 (tb (fX1_cellAt (dv6 S) (fX0_takeDigit_m47 S p0)).toNatClampNeg))), .int (dv10 (gX0_writeQuotient (fX0_takeDigit_s135 S tb p0 p1) p0 (tb (fX1_cellAt (dv6 S) (fX0_takeDigit_m47 S p0)).toNatClampNeg))), .int (dv11 (gX0_writeQuotient (fX0_takeDigit_s135 S tb p0 p1) p0 (tb (fX1_cellAt (dv6 S) (fX0_takeDigit_m47 S p0)).toNatClampNeg))), .int (dv12 (gX0_writeQuotient (fX0_takeDigit_s135 S tb p0 p1) p0 (tb (fX1_cellAt (dv6 S) (fX0_takeDigit_m47 S p0)).toNatClampNeg))), .int (dv13 (gX0_writeQuotient (fX0_takeDigit_s135 S tb p0 p1) p0 (tb (fX1_cellAt (dv6 S) (fX0_takeDigit_m47 S p0)).toNatClampNeg)))])), (o1, .inl (cI, 18, .inl (dv0 (gX0_writeQuotient (fX0_takeDigit_s135 S tb p0 p1) p0 (tb (fX1_cellAt (dv6 S) (fX0_takeDigit_m47 S p0)).toNatClampNeg))))), (o2, .inl (cI, 18, .inl (dv1 (gX0_writeQuotient (fX0_takeDigit_s135 S tb p0 p1) p0 (tb (fX1_cellAt (dv6 S) (fX0_takeDigit_m47 S p0)).toNatClampNeg))))), (o3, .inl (cJ, 18, .inr (.inl (dv2 (gX0_writeQuotient (fX0_takeDigit_s135 S tb p0 p1) p0 (tb (fX1_cellAt (dv6 S) (fX0_takeDigit_m47 S p0)).toNatClampNeg)))))), (o4, .inl (cJ, 18, .inr (.inl (dv3 (gX0_writeQuotient (fX0_takeDigit_s135 S tb p0 p1) p0 (tb (fX1_cellAt (dv6 S) (fX0_takeDigit_m47 S p0)).toNatClampNeg)))))), (o5, .inl (cJ, 18, .inr (.inl (dv4 (gX0_writeQuotient (fX0_takeDigit_s135 S tb p0 p1) p0 (tb (fX1_cellAt (dv6 S) (fX0_takeDigit_m47 S p0)).toNatClampNeg)))))), (o6, .inl (cJ, 18, .inr (.inl (dv5 (gX0_writeQuotient (fX0_takeDigit_s135 S tb p0 p1) p0 (tb (fX1_cellAt (dv6 S) (fX0_takeDigit_m47 S p0)).toNatClampNeg))))))] H := hP.sub [0, 1, 2, 3, 4, 5, 6] rfl
  have hD : va_D A [(o0, .inr (0, [.ref o1, .ref o2, .ref o3, .ref o4, .ref o5, .ref o6, .int (dv6 (gX0_writeQuotient (fX0_takeDigit_s135 S tb p0 p1) p0 (tb (fX1_cellAt (dv6 S) (fX0_takeDigit_m47 S p0)).toNatClampNeg))), .int (dv7 (gX0_writeQuotient (fX0_takeDigit_s135 S tb p0 p1) p0 (tb (fX1_cellAt (dv6 S) (fX0_takeDigit_m47 S p0)).toNatClampNeg))), .int (dv8 (gX0_writeQuotient (fX0_takeDigit_s135 S tb p0 p1) p0 (tb (fX1_cellAt (dv6 S) (fX0_takeDigit_m47 S p0)).toNatClampNeg))), .int (dv9 (gX0_writeQuotient (fX0_takeDigit_s135 S tb p0 p1) p0 (tb (fX1_cellAt (dv6 S) (fX0_takeDigit_m47 S p0)).toNatClampNeg))), .int (dv10 (gX0_writeQuotient (fX0_takeDigit_s135 S tb p0 p1) p0 (tb (fX1_cellAt (dv6 S) (fX0_takeDigit_m47 S p0)).toNatClampNeg))), .int (dv11 (gX0_writeQuotient (fX0_takeDigit_s135 S tb p0 p1) p0 (tb (fX1_cellAt (dv6 S) (fX0_takeDigit_m47 S p0)).toNatClampNeg))), .int (dv12 (gX0_writeQuotient (fX0_takeDigit_s135 S tb p0 p1) p0 (tb (fX1_cellAt (dv6 S) (fX0_takeDigit_m47 S p0)).toNatClampNeg))), .int (dv13 (gX0_writeQuotient (fX0_takeDigit_s135 S tb p0 p1) p0 (tb (fX1_cellAt (dv6 S) (fX0_takeDigit_m47 S p0)).toNatClampNeg)))])), (o1, .inl (cI, 18, .inl (dv0 (gX0_writeQuotient (fX0_takeDigit_s135 S tb p0 p1) p0 (tb (fX1_cellAt (dv6 S) (fX0_takeDigit_m47 S p0)).toNatClampNeg))))), (o2, .inl (cI, 18, .inl (dv1 (gX0_writeQuotient (fX0_takeDigit_s135 S tb p0 p1) p0 (tb (fX1_cellAt (dv6 S) (fX0_takeDigit_m47 S p0)).toNatClampNeg))))), (o3, .inl (cJ, 18, .inr (.inl (dv2 (gX0_writeQuotient (fX0_takeDigit_s135 S tb p0 p1) p0 (tb (fX1_cellAt (dv6 S) (fX0_takeDigit_m47 S p0)).toNatClampNeg)))))), (o4, .inl (cJ, 18, .inr (.inl (dv3 (gX0_writeQuotient (fX0_takeDigit_s135 S tb p0 p1) p0 (tb (fX1_cellAt (dv6 S) (fX0_takeDigit_m47 S p0)).toNatClampNeg)))))), (o5, .inl (cJ, 18, .inr (.inl (dv4 (gX0_writeQuotient (fX0_takeDigit_s135 S tb p0 p1) p0 (tb (fX1_cellAt (dv6 S) (fX0_takeDigit_m47 S p0)).toNatClampNeg)))))), (o6, .inl (cJ, 18, .inr (.inl (dv5 (gX0_writeQuotient (fX0_takeDigit_s135 S tb p0 p1) p0 (tb (fX1_cellAt (dv6 S) (fX0_takeDigit_m47 S p0)).toNatClampNeg))))))] := hD.sub [0, 1, 2, 3, 4, 5, 6] (by decide) rfl
  refine lv_iload hx hb dX0_takeDigit_138 (lv_at hl 1 rfl) ?_
  refine lv_if_eq (tgt := 153) hx hb dX0_takeDigit_140 (by decide) (fun c_140_3 => ?_) (fun c_140_3 => ?_)
  · refine lv_aload_n hx hb dX0_takeDigit_153 rfl (lv_at hl 6 rfl) ?_
    refine va_get (D := (dC, dI)) (ci := 0) (v := .int (dv11 (gX0_writeQuotient (fX0_takeDigit_s135 S tb p0 p1) p0 (tb (fX1_cellAt (dv6 S) (fX0_takeDigit_m47 S p0)).toNatClampNeg)))) (C := RX0) (T := TX0) (N := 14) hx hb hts inX0_X0_takeDigit hown hK hP 0 rfl rfl 11 (by decide) (hts (.fieldLink RX0 47 "DigitDivider$Division" "firstLeft" "I") (by decide +kernel)) (fun _ h9 => h9) rfl dX0_takeDigit_154 ?_
    refine lv_if_ne (tgt := 194) hx hb dX0_takeDigit_157 (by decide) (fun c_157_4 => ?_) (fun c_157_4 => ?_)
    · exact W.vret hx hb hr (fun t ht hW => ⟨⟨(gX0_writeQuotient (fX0_takeDigit_s135 S tb p0 p1) p0 (tb (fX1_cellAt (dv6 S) (fX0_takeDigit_m47 S p0)).toNatClampNeg)), rfl, (by unfold gX0_takeDigit; rw [if_pos c_140_3, if_neg c_157_4]), by rw [ht]; exact hP, va_K.moved hW.alike hK, hD⟩, hS.F ht⟩) hS.2.2 dX0_takeDigit_194
    · refine lv_ldc2 (v := 3) hx hb hown (hts (.constantLong RX0 101 (3)) (by decide +kernel)) dX0_takeDigit_160 ?_
      refine lv_aload_n hx hb dX0_takeDigit_163 rfl (lv_at hl 6 rfl) ?_
      refine va_get (D := (dC, dI)) (ci := 0) (v := .ref o3) (C := RX0) (T := TX0) (N := 14) hx hb hts inX0_X0_takeDigit hown hK hP 0 rfl rfl 2 (by decide) (hts (.fieldLink RX0 18 "DigitDivider$Division" "sums" "[J") (by decide +kernel)) (fun _ h9 => h9) rfl dX0_takeDigit_164 ?_
      refine lv_iload_n hx hb dX0_takeDigit_167 rfl (lv_at hl 7 rfl) ?_
      refine va_lald hx hb hK hP 3 1 rfl rfl hy2 dX0_takeDigit_168 ?_
      refine lv_aload_n hx hb dX0_takeDigit_169 rfl (lv_at hl 6 rfl) ?_
      refine va_get (D := (dC, dI)) (ci := 0) (v := .ref o4) (C := RX0) (T := TX0) (N := 14) hx hb hts inX0_X0_takeDigit hown hK hP 0 rfl rfl 3 (by decide) (hts (.fieldLink RX0 22 "DigitDivider$Division" "carries" "[J") (by decide +kernel)) (fun _ h9 => h9) rfl dX0_takeDigit_170 ?_
      refine lv_iload_n hx hb dX0_takeDigit_173 rfl (lv_at hl 7 rfl) ?_
      refine va_lald hx hb hK hP 4 1 rfl rfl hy2 dX0_takeDigit_174 ?_
      refine lv_ladd hx hb dX0_takeDigit_175 ?_
      refine va_mabs_long hx hb (hml.trans hl.1.symm) hown (hts (.methodLink RX0 56 Lib.MathLoose.abs_long.x) (by decide +kernel)) (hts (.static Lib.MathLoose.abs_long.x) (by decide +kernel)) (hts (.initialized "java/lang/Math") (by decide +kernel)) (hts (.code Lib.MathLoose.abs_long.x Lib.MathLoose.abs_long.code 2 (some .long)) (by decide +kernel)) (Nat.le_of_ble_eq_true rfl) (Nat.le_of_ble_eq_true rfl) (Nat.zero_le _) (Nat.zero_le _) dX0_takeDigit_176 ?_
      refine ax_nmL (y := (fX0_takeDigit_m176 S tb p0 p1)) rfl ?_
      refine lv_lmul hx hb dX0_takeDigit_179 ?_
      refine lv_ldc2 (v := 16) hx hb hown (hts (.constantLong RX0 103 (16)) (by decide +kernel)) dX0_takeDigit_180 ?_
      refine lv_lload_n hx hb dX0_takeDigit_183 rfl (lv_at hl 8 rfl) ?_
      refine lv_lmul hx hb dX0_takeDigit_184 ?_
      refine W.lcmp hx hb dX0_takeDigit_185 ?_
      refine lv_if_le (tgt := 194) hx hb dX0_takeDigit_186 (by decide) (fun c_186_5 => ?_) (fun c_186_5 => ?_)
      · have c_186_5 := (lg_cmp_le _ _).mp c_186_5
        exact W.vret hx hb hr (fun t ht hW => ⟨⟨(gX0_writeQuotient (fX0_takeDigit_s135 S tb p0 p1) p0 (tb (fX1_cellAt (dv6 S) (fX0_takeDigit_m47 S p0)).toNatClampNeg)), rfl, (by unfold gX0_takeDigit; rw [if_pos c_140_3, if_pos c_157_4, if_pos c_186_5]), by rw [ht]; exact hP, va_K.moved hW.alike hK, hD⟩, hS.F ht⟩) hS.2.2 dX0_takeDigit_194
      · have c_186_5 := (not_congr (lg_cmp_le _ _)).mp c_186_5
        refine lv_aload_n hx hb dX0_takeDigit_189 rfl (lv_at hl 6 rfl) ?_
        refine lv_iload_n hx hb dX0_takeDigit_190 rfl (lv_at hl 7 rfl) ?_
        refine va_put (D := (dC, dI)) (ci := 0) (v := .int p0) (ty := .int) (C := RX0) (T := TX0) (N := 14) hx hb hts inX0_X0_takeDigit tyX0 tyX0_ok nmX0 hown hK hP hD hS 0 rfl rfl 11 (by decide) (hts (.fieldLink RX0 47 "DigitDivider$Division" "firstLeft" "I") (by decide +kernel)) (fun _ h9 => h9) rfl (by decide +kernel) rfl rfl (Nat.le_of_ble_eq_true rfl) dX0_takeDigit_191 (fun H locs hP hD hS => ?_)
        have hP : va_P (dC, dI) vwCl [(o0, .inr (0, [.ref o1, .ref o2, .ref o3, .ref o4, .ref o5, .ref o6, .int (dv6 (gX0_writeQuotient (fX0_takeDigit_s135 S tb p0 p1) p0 (tb (fX1_cellAt (dv6 S) (fX0_takeDigit_m47 S p0)).toNatClampNeg))), .int (dv7 (gX0_writeQuotient (fX0_takeDigit_s135 S tb p0 p1) p0 (tb (fX1_cellAt (dv6 S) (fX0_takeDigit_m47 S p0)).toNatClampNeg))), .int (dv8 (gX0_writeQuotient (fX0_takeDigit_s135 S tb p0 p1) p0 (tb (fX1_cellAt (dv6 S) (fX0_takeDigit_m47 S p0)).toNatClampNeg))), .int (dv9 (gX0_writeQuotient (fX0_takeDigit_s135 S tb p0 p1) p0 (tb (fX1_cellAt (dv6 S) (fX0_takeDigit_m47 S p0)).toNatClampNeg))), .int (dv10 (gX0_writeQuotient (fX0_takeDigit_s135 S tb p0 p1) p0 (tb (fX1_cellAt (dv6 S) (fX0_takeDigit_m47 S p0)).toNatClampNeg))), .int p0, .int (dv12 (gX0_writeQuotient (fX0_takeDigit_s135 S tb p0 p1) p0 (tb (fX1_cellAt (dv6 S) (fX0_takeDigit_m47 S p0)).toNatClampNeg))), .int (dv13 (gX0_writeQuotient (fX0_takeDigit_s135 S tb p0 p1) p0 (tb (fX1_cellAt (dv6 S) (fX0_takeDigit_m47 S p0)).toNatClampNeg)))])), (o1, .inl (cI, 18, .inl (dv0 (gX0_writeQuotient (fX0_takeDigit_s135 S tb p0 p1) p0 (tb (fX1_cellAt (dv6 S) (fX0_takeDigit_m47 S p0)).toNatClampNeg))))), (o2, .inl (cI, 18, .inl (dv1 (gX0_writeQuotient (fX0_takeDigit_s135 S tb p0 p1) p0 (tb (fX1_cellAt (dv6 S) (fX0_takeDigit_m47 S p0)).toNatClampNeg))))), (o3, .inl (cJ, 18, .inr (.inl (dv2 (gX0_writeQuotient (fX0_takeDigit_s135 S tb p0 p1) p0 (tb (fX1_cellAt (dv6 S) (fX0_takeDigit_m47 S p0)).toNatClampNeg)))))), (o4, .inl (cJ, 18, .inr (.inl (dv3 (gX0_writeQuotient (fX0_takeDigit_s135 S tb p0 p1) p0 (tb (fX1_cellAt (dv6 S) (fX0_takeDigit_m47 S p0)).toNatClampNeg)))))), (o5, .inl (cJ, 18, .inr (.inl (dv4 (gX0_writeQuotient (fX0_takeDigit_s135 S tb p0 p1) p0 (tb (fX1_cellAt (dv6 S) (fX0_takeDigit_m47 S p0)).toNatClampNeg)))))), (o6, .inl (cJ, 18, .inr (.inl (dv5 (gX0_writeQuotient (fX0_takeDigit_s135 S tb p0 p1) p0 (tb (fX1_cellAt (dv6 S) (fX0_takeDigit_m47 S p0)).toNatClampNeg))))))] H := hP
        have hD : va_D A [(o0, .inr (0, [.ref o1, .ref o2, .ref o3, .ref o4, .ref o5, .ref o6, .int (dv6 (gX0_writeQuotient (fX0_takeDigit_s135 S tb p0 p1) p0 (tb (fX1_cellAt (dv6 S) (fX0_takeDigit_m47 S p0)).toNatClampNeg))), .int (dv7 (gX0_writeQuotient (fX0_takeDigit_s135 S tb p0 p1) p0 (tb (fX1_cellAt (dv6 S) (fX0_takeDigit_m47 S p0)).toNatClampNeg))), .int (dv8 (gX0_writeQuotient (fX0_takeDigit_s135 S tb p0 p1) p0 (tb (fX1_cellAt (dv6 S) (fX0_takeDigit_m47 S p0)).toNatClampNeg))), .int (dv9 (gX0_writeQuotient (fX0_takeDigit_s135 S tb p0 p1) p0 (tb (fX1_cellAt (dv6 S) (fX0_takeDigit_m47 S p0)).toNatClampNeg))), .int (dv10 (gX0_writeQuotient (fX0_takeDigit_s135 S tb p0 p1) p0 (tb (fX1_cellAt (dv6 S) (fX0_takeDigit_m47 S p0)).toNatClampNeg))), .int p0, .int (dv12 (gX0_writeQuotient (fX0_takeDigit_s135 S tb p0 p1) p0 (tb (fX1_cellAt (dv6 S) (fX0_takeDigit_m47 S p0)).toNatClampNeg))), .int (dv13 (gX0_writeQuotient (fX0_takeDigit_s135 S tb p0 p1) p0 (tb (fX1_cellAt (dv6 S) (fX0_takeDigit_m47 S p0)).toNatClampNeg)))])), (o1, .inl (cI, 18, .inl (dv0 (gX0_writeQuotient (fX0_takeDigit_s135 S tb p0 p1) p0 (tb (fX1_cellAt (dv6 S) (fX0_takeDigit_m47 S p0)).toNatClampNeg))))), (o2, .inl (cI, 18, .inl (dv1 (gX0_writeQuotient (fX0_takeDigit_s135 S tb p0 p1) p0 (tb (fX1_cellAt (dv6 S) (fX0_takeDigit_m47 S p0)).toNatClampNeg))))), (o3, .inl (cJ, 18, .inr (.inl (dv2 (gX0_writeQuotient (fX0_takeDigit_s135 S tb p0 p1) p0 (tb (fX1_cellAt (dv6 S) (fX0_takeDigit_m47 S p0)).toNatClampNeg)))))), (o4, .inl (cJ, 18, .inr (.inl (dv3 (gX0_writeQuotient (fX0_takeDigit_s135 S tb p0 p1) p0 (tb (fX1_cellAt (dv6 S) (fX0_takeDigit_m47 S p0)).toNatClampNeg)))))), (o5, .inl (cJ, 18, .inr (.inl (dv4 (gX0_writeQuotient (fX0_takeDigit_s135 S tb p0 p1) p0 (tb (fX1_cellAt (dv6 S) (fX0_takeDigit_m47 S p0)).toNatClampNeg)))))), (o6, .inl (cJ, 18, .inr (.inl (dv5 (gX0_writeQuotient (fX0_takeDigit_s135 S tb p0 p1) p0 (tb (fX1_cellAt (dv6 S) (fX0_takeDigit_m47 S p0)).toNatClampNeg))))))] := hD
        exact W.vret hx hb hr (fun t ht hW => ⟨⟨((dv0 (gX0_writeQuotient (fX0_takeDigit_s135 S tb p0 p1) p0 (tb (fX1_cellAt (dv6 S) (fX0_takeDigit_m47 S p0)).toNatClampNeg))), (dv1 (gX0_writeQuotient (fX0_takeDigit_s135 S tb p0 p1) p0 (tb (fX1_cellAt (dv6 S) (fX0_takeDigit_m47 S p0)).toNatClampNeg))), (dv2 (gX0_writeQuotient (fX0_takeDigit_s135 S tb p0 p1) p0 (tb (fX1_cellAt (dv6 S) (fX0_takeDigit_m47 S p0)).toNatClampNeg))), (dv3 (gX0_writeQuotient (fX0_takeDigit_s135 S tb p0 p1) p0 (tb (fX1_cellAt (dv6 S) (fX0_takeDigit_m47 S p0)).toNatClampNeg))), (dv4 (gX0_writeQuotient (fX0_takeDigit_s135 S tb p0 p1) p0 (tb (fX1_cellAt (dv6 S) (fX0_takeDigit_m47 S p0)).toNatClampNeg))), (dv5 (gX0_writeQuotient (fX0_takeDigit_s135 S tb p0 p1) p0 (tb (fX1_cellAt (dv6 S) (fX0_takeDigit_m47 S p0)).toNatClampNeg))), (dv6 (gX0_writeQuotient (fX0_takeDigit_s135 S tb p0 p1) p0 (tb (fX1_cellAt (dv6 S) (fX0_takeDigit_m47 S p0)).toNatClampNeg))), (dv7 (gX0_writeQuotient (fX0_takeDigit_s135 S tb p0 p1) p0 (tb (fX1_cellAt (dv6 S) (fX0_takeDigit_m47 S p0)).toNatClampNeg))), (dv8 (gX0_writeQuotient (fX0_takeDigit_s135 S tb p0 p1) p0 (tb (fX1_cellAt (dv6 S) (fX0_takeDigit_m47 S p0)).toNatClampNeg))), (dv9 (gX0_writeQuotient (fX0_takeDigit_s135 S tb p0 p1) p0 (tb (fX1_cellAt (dv6 S) (fX0_takeDigit_m47 S p0)).toNatClampNeg))), (dv10 (gX0_writeQuotient (fX0_takeDigit_s135 S tb p0 p1) p0 (tb (fX1_cellAt (dv6 S) (fX0_takeDigit_m47 S p0)).toNatClampNeg))), p0, (dv12 (gX0_writeQuotient (fX0_takeDigit_s135 S tb p0 p1) p0 (tb (fX1_cellAt (dv6 S) (fX0_takeDigit_m47 S p0)).toNatClampNeg))), (dv13 (gX0_writeQuotient (fX0_takeDigit_s135 S tb p0 p1) p0 (tb (fX1_cellAt (dv6 S) (fX0_takeDigit_m47 S p0)).toNatClampNeg)))), rfl, (by unfold gX0_takeDigit; rw [if_pos c_140_3, if_pos c_157_4, if_neg c_186_5]), by rw [ht]; exact hP, va_K.moved hW.alike hK, hD⟩, hS.F ht⟩) hS.2.2 dX0_takeDigit_194
  · refine lv_aload_n hx hb dX0_takeDigit_143 rfl (lv_at hl 6 rfl) ?_
    refine lv_dup hx hb dX0_takeDigit_144 rfl ?_
    refine va_get (D := (dC, dI)) (ci := 0) (v := .int (dv10 (gX0_writeQuotient (fX0_takeDigit_s135 S tb p0 p1) p0 (tb (fX1_cellAt (dv6 S) (fX0_takeDigit_m47 S p0)).toNatClampNeg)))) (C := RX0) (T := TX0) (N := 14) hx hb hts inX0_X0_takeDigit hown hK hP 0 rfl rfl 10 (by decide) (hts (.fieldLink RX0 44 "DigitDivider$Division" "digitsNotZero" "I") (by decide +kernel)) (fun _ h9 => h9) rfl dX0_takeDigit_145 ?_
    refine lv_iconst (v := 1) hx hb dX0_takeDigit_148 (by decide) ?_
    refine lv_iadd hx hb dX0_takeDigit_149 ?_
    refine ax_nmI (y := (fX0_takeDigit_c150 S tb p0 p1)) rfl ?_
    refine va_put (D := (dC, dI)) (ci := 0) (v := .int (fX0_takeDigit_c150 S tb p0 p1)) (ty := .int) (C := RX0) (T := TX0) (N := 14) hx hb hts inX0_X0_takeDigit tyX0 tyX0_ok nmX0 hown hK hP hD hS 0 rfl rfl 10 (by decide) (hts (.fieldLink RX0 44 "DigitDivider$Division" "digitsNotZero" "I") (by decide +kernel)) (fun _ h9 => h9) rfl (by decide +kernel) rfl rfl (Nat.le_of_ble_eq_true rfl) dX0_takeDigit_150 (fun H locs hP hD hS => ?_)
    have hP : va_P (dC, dI) vwCl [(o0, .inr (0, [.ref o1, .ref o2, .ref o3, .ref o4, .ref o5, .ref o6, .int (dv6 (gX0_writeQuotient (fX0_takeDigit_s135 S tb p0 p1) p0 (tb (fX1_cellAt (dv6 S) (fX0_takeDigit_m47 S p0)).toNatClampNeg))), .int (dv7 (gX0_writeQuotient (fX0_takeDigit_s135 S tb p0 p1) p0 (tb (fX1_cellAt (dv6 S) (fX0_takeDigit_m47 S p0)).toNatClampNeg))), .int (dv8 (gX0_writeQuotient (fX0_takeDigit_s135 S tb p0 p1) p0 (tb (fX1_cellAt (dv6 S) (fX0_takeDigit_m47 S p0)).toNatClampNeg))), .int (dv9 (gX0_writeQuotient (fX0_takeDigit_s135 S tb p0 p1) p0 (tb (fX1_cellAt (dv6 S) (fX0_takeDigit_m47 S p0)).toNatClampNeg))), .int (fX0_takeDigit_c150 S tb p0 p1), .int (dv11 (gX0_writeQuotient (fX0_takeDigit_s135 S tb p0 p1) p0 (tb (fX1_cellAt (dv6 S) (fX0_takeDigit_m47 S p0)).toNatClampNeg))), .int (dv12 (gX0_writeQuotient (fX0_takeDigit_s135 S tb p0 p1) p0 (tb (fX1_cellAt (dv6 S) (fX0_takeDigit_m47 S p0)).toNatClampNeg))), .int (dv13 (gX0_writeQuotient (fX0_takeDigit_s135 S tb p0 p1) p0 (tb (fX1_cellAt (dv6 S) (fX0_takeDigit_m47 S p0)).toNatClampNeg)))])), (o1, .inl (cI, 18, .inl (dv0 (gX0_writeQuotient (fX0_takeDigit_s135 S tb p0 p1) p0 (tb (fX1_cellAt (dv6 S) (fX0_takeDigit_m47 S p0)).toNatClampNeg))))), (o2, .inl (cI, 18, .inl (dv1 (gX0_writeQuotient (fX0_takeDigit_s135 S tb p0 p1) p0 (tb (fX1_cellAt (dv6 S) (fX0_takeDigit_m47 S p0)).toNatClampNeg))))), (o3, .inl (cJ, 18, .inr (.inl (dv2 (gX0_writeQuotient (fX0_takeDigit_s135 S tb p0 p1) p0 (tb (fX1_cellAt (dv6 S) (fX0_takeDigit_m47 S p0)).toNatClampNeg)))))), (o4, .inl (cJ, 18, .inr (.inl (dv3 (gX0_writeQuotient (fX0_takeDigit_s135 S tb p0 p1) p0 (tb (fX1_cellAt (dv6 S) (fX0_takeDigit_m47 S p0)).toNatClampNeg)))))), (o5, .inl (cJ, 18, .inr (.inl (dv4 (gX0_writeQuotient (fX0_takeDigit_s135 S tb p0 p1) p0 (tb (fX1_cellAt (dv6 S) (fX0_takeDigit_m47 S p0)).toNatClampNeg)))))), (o6, .inl (cJ, 18, .inr (.inl (dv5 (gX0_writeQuotient (fX0_takeDigit_s135 S tb p0 p1) p0 (tb (fX1_cellAt (dv6 S) (fX0_takeDigit_m47 S p0)).toNatClampNeg))))))] H := hP
    have hD : va_D A [(o0, .inr (0, [.ref o1, .ref o2, .ref o3, .ref o4, .ref o5, .ref o6, .int (dv6 (gX0_writeQuotient (fX0_takeDigit_s135 S tb p0 p1) p0 (tb (fX1_cellAt (dv6 S) (fX0_takeDigit_m47 S p0)).toNatClampNeg))), .int (dv7 (gX0_writeQuotient (fX0_takeDigit_s135 S tb p0 p1) p0 (tb (fX1_cellAt (dv6 S) (fX0_takeDigit_m47 S p0)).toNatClampNeg))), .int (dv8 (gX0_writeQuotient (fX0_takeDigit_s135 S tb p0 p1) p0 (tb (fX1_cellAt (dv6 S) (fX0_takeDigit_m47 S p0)).toNatClampNeg))), .int (dv9 (gX0_writeQuotient (fX0_takeDigit_s135 S tb p0 p1) p0 (tb (fX1_cellAt (dv6 S) (fX0_takeDigit_m47 S p0)).toNatClampNeg))), .int (fX0_takeDigit_c150 S tb p0 p1), .int (dv11 (gX0_writeQuotient (fX0_takeDigit_s135 S tb p0 p1) p0 (tb (fX1_cellAt (dv6 S) (fX0_takeDigit_m47 S p0)).toNatClampNeg))), .int (dv12 (gX0_writeQuotient (fX0_takeDigit_s135 S tb p0 p1) p0 (tb (fX1_cellAt (dv6 S) (fX0_takeDigit_m47 S p0)).toNatClampNeg))), .int (dv13 (gX0_writeQuotient (fX0_takeDigit_s135 S tb p0 p1) p0 (tb (fX1_cellAt (dv6 S) (fX0_takeDigit_m47 S p0)).toNatClampNeg)))])), (o1, .inl (cI, 18, .inl (dv0 (gX0_writeQuotient (fX0_takeDigit_s135 S tb p0 p1) p0 (tb (fX1_cellAt (dv6 S) (fX0_takeDigit_m47 S p0)).toNatClampNeg))))), (o2, .inl (cI, 18, .inl (dv1 (gX0_writeQuotient (fX0_takeDigit_s135 S tb p0 p1) p0 (tb (fX1_cellAt (dv6 S) (fX0_takeDigit_m47 S p0)).toNatClampNeg))))), (o3, .inl (cJ, 18, .inr (.inl (dv2 (gX0_writeQuotient (fX0_takeDigit_s135 S tb p0 p1) p0 (tb (fX1_cellAt (dv6 S) (fX0_takeDigit_m47 S p0)).toNatClampNeg)))))), (o4, .inl (cJ, 18, .inr (.inl (dv3 (gX0_writeQuotient (fX0_takeDigit_s135 S tb p0 p1) p0 (tb (fX1_cellAt (dv6 S) (fX0_takeDigit_m47 S p0)).toNatClampNeg)))))), (o5, .inl (cJ, 18, .inr (.inl (dv4 (gX0_writeQuotient (fX0_takeDigit_s135 S tb p0 p1) p0 (tb (fX1_cellAt (dv6 S) (fX0_takeDigit_m47 S p0)).toNatClampNeg)))))), (o6, .inl (cJ, 18, .inr (.inl (dv5 (gX0_writeQuotient (fX0_takeDigit_s135 S tb p0 p1) p0 (tb (fX1_cellAt (dv6 S) (fX0_takeDigit_m47 S p0)).toNatClampNeg))))))] := hD
    refine lv_aload_n hx hb dX0_takeDigit_153 rfl (lv_at hl 6 rfl) ?_
    refine va_get (D := (dC, dI)) (ci := 0) (v := .int (dv11 (gX0_writeQuotient (fX0_takeDigit_s135 S tb p0 p1) p0 (tb (fX1_cellAt (dv6 S) (fX0_takeDigit_m47 S p0)).toNatClampNeg)))) (C := RX0) (T := TX0) (N := 14) hx hb hts inX0_X0_takeDigit hown hK hP 0 rfl rfl 11 (by decide) (hts (.fieldLink RX0 47 "DigitDivider$Division" "firstLeft" "I") (by decide +kernel)) (fun _ h9 => h9) rfl dX0_takeDigit_154 ?_
    refine lv_if_ne (tgt := 194) hx hb dX0_takeDigit_157 (by decide) (fun c_157_6 => ?_) (fun c_157_6 => ?_)
    · exact W.vret hx hb hr (fun t ht hW => ⟨⟨((dv0 (gX0_writeQuotient (fX0_takeDigit_s135 S tb p0 p1) p0 (tb (fX1_cellAt (dv6 S) (fX0_takeDigit_m47 S p0)).toNatClampNeg))), (dv1 (gX0_writeQuotient (fX0_takeDigit_s135 S tb p0 p1) p0 (tb (fX1_cellAt (dv6 S) (fX0_takeDigit_m47 S p0)).toNatClampNeg))), (dv2 (gX0_writeQuotient (fX0_takeDigit_s135 S tb p0 p1) p0 (tb (fX1_cellAt (dv6 S) (fX0_takeDigit_m47 S p0)).toNatClampNeg))), (dv3 (gX0_writeQuotient (fX0_takeDigit_s135 S tb p0 p1) p0 (tb (fX1_cellAt (dv6 S) (fX0_takeDigit_m47 S p0)).toNatClampNeg))), (dv4 (gX0_writeQuotient (fX0_takeDigit_s135 S tb p0 p1) p0 (tb (fX1_cellAt (dv6 S) (fX0_takeDigit_m47 S p0)).toNatClampNeg))), (dv5 (gX0_writeQuotient (fX0_takeDigit_s135 S tb p0 p1) p0 (tb (fX1_cellAt (dv6 S) (fX0_takeDigit_m47 S p0)).toNatClampNeg))), (dv6 (gX0_writeQuotient (fX0_takeDigit_s135 S tb p0 p1) p0 (tb (fX1_cellAt (dv6 S) (fX0_takeDigit_m47 S p0)).toNatClampNeg))), (dv7 (gX0_writeQuotient (fX0_takeDigit_s135 S tb p0 p1) p0 (tb (fX1_cellAt (dv6 S) (fX0_takeDigit_m47 S p0)).toNatClampNeg))), (dv8 (gX0_writeQuotient (fX0_takeDigit_s135 S tb p0 p1) p0 (tb (fX1_cellAt (dv6 S) (fX0_takeDigit_m47 S p0)).toNatClampNeg))), (dv9 (gX0_writeQuotient (fX0_takeDigit_s135 S tb p0 p1) p0 (tb (fX1_cellAt (dv6 S) (fX0_takeDigit_m47 S p0)).toNatClampNeg))), (fX0_takeDigit_c150 S tb p0 p1), (dv11 (gX0_writeQuotient (fX0_takeDigit_s135 S tb p0 p1) p0 (tb (fX1_cellAt (dv6 S) (fX0_takeDigit_m47 S p0)).toNatClampNeg))), (dv12 (gX0_writeQuotient (fX0_takeDigit_s135 S tb p0 p1) p0 (tb (fX1_cellAt (dv6 S) (fX0_takeDigit_m47 S p0)).toNatClampNeg))), (dv13 (gX0_writeQuotient (fX0_takeDigit_s135 S tb p0 p1) p0 (tb (fX1_cellAt (dv6 S) (fX0_takeDigit_m47 S p0)).toNatClampNeg)))), rfl, (by unfold gX0_takeDigit; rw [if_neg c_140_3, if_neg c_157_6]), by rw [ht]; exact hP, va_K.moved hW.alike hK, hD⟩, hS.F ht⟩) hS.2.2 dX0_takeDigit_194
    · refine lv_ldc2 (v := 3) hx hb hown (hts (.constantLong RX0 101 (3)) (by decide +kernel)) dX0_takeDigit_160 ?_
      refine lv_aload_n hx hb dX0_takeDigit_163 rfl (lv_at hl 6 rfl) ?_
      refine va_get (D := (dC, dI)) (ci := 0) (v := .ref o3) (C := RX0) (T := TX0) (N := 14) hx hb hts inX0_X0_takeDigit hown hK hP 0 rfl rfl 2 (by decide) (hts (.fieldLink RX0 18 "DigitDivider$Division" "sums" "[J") (by decide +kernel)) (fun _ h9 => h9) rfl dX0_takeDigit_164 ?_
      refine lv_iload_n hx hb dX0_takeDigit_167 rfl (lv_at hl 7 rfl) ?_
      refine va_lald hx hb hK hP 3 1 rfl rfl hy2 dX0_takeDigit_168 ?_
      refine lv_aload_n hx hb dX0_takeDigit_169 rfl (lv_at hl 6 rfl) ?_
      refine va_get (D := (dC, dI)) (ci := 0) (v := .ref o4) (C := RX0) (T := TX0) (N := 14) hx hb hts inX0_X0_takeDigit hown hK hP 0 rfl rfl 3 (by decide) (hts (.fieldLink RX0 22 "DigitDivider$Division" "carries" "[J") (by decide +kernel)) (fun _ h9 => h9) rfl dX0_takeDigit_170 ?_
      refine lv_iload_n hx hb dX0_takeDigit_173 rfl (lv_at hl 7 rfl) ?_
      refine va_lald hx hb hK hP 4 1 rfl rfl hy2 dX0_takeDigit_174 ?_
      refine lv_ladd hx hb dX0_takeDigit_175 ?_
      refine va_mabs_long hx hb (hml.trans hl.1.symm) hown (hts (.methodLink RX0 56 Lib.MathLoose.abs_long.x) (by decide +kernel)) (hts (.static Lib.MathLoose.abs_long.x) (by decide +kernel)) (hts (.initialized "java/lang/Math") (by decide +kernel)) (hts (.code Lib.MathLoose.abs_long.x Lib.MathLoose.abs_long.code 2 (some .long)) (by decide +kernel)) (Nat.le_of_ble_eq_true rfl) (Nat.le_of_ble_eq_true rfl) (Nat.zero_le _) (Nat.zero_le _) dX0_takeDigit_176 ?_
      refine ax_nmL (y := (fX0_takeDigit_m176 S tb p0 p1)) rfl ?_
      refine lv_lmul hx hb dX0_takeDigit_179 ?_
      refine lv_ldc2 (v := 16) hx hb hown (hts (.constantLong RX0 103 (16)) (by decide +kernel)) dX0_takeDigit_180 ?_
      refine lv_lload_n hx hb dX0_takeDigit_183 rfl (lv_at hl 8 rfl) ?_
      refine lv_lmul hx hb dX0_takeDigit_184 ?_
      refine W.lcmp hx hb dX0_takeDigit_185 ?_
      refine lv_if_le (tgt := 194) hx hb dX0_takeDigit_186 (by decide) (fun c_186_7 => ?_) (fun c_186_7 => ?_)
      · have c_186_7 := (lg_cmp_le _ _).mp c_186_7
        exact W.vret hx hb hr (fun t ht hW => ⟨⟨((dv0 (gX0_writeQuotient (fX0_takeDigit_s135 S tb p0 p1) p0 (tb (fX1_cellAt (dv6 S) (fX0_takeDigit_m47 S p0)).toNatClampNeg))), (dv1 (gX0_writeQuotient (fX0_takeDigit_s135 S tb p0 p1) p0 (tb (fX1_cellAt (dv6 S) (fX0_takeDigit_m47 S p0)).toNatClampNeg))), (dv2 (gX0_writeQuotient (fX0_takeDigit_s135 S tb p0 p1) p0 (tb (fX1_cellAt (dv6 S) (fX0_takeDigit_m47 S p0)).toNatClampNeg))), (dv3 (gX0_writeQuotient (fX0_takeDigit_s135 S tb p0 p1) p0 (tb (fX1_cellAt (dv6 S) (fX0_takeDigit_m47 S p0)).toNatClampNeg))), (dv4 (gX0_writeQuotient (fX0_takeDigit_s135 S tb p0 p1) p0 (tb (fX1_cellAt (dv6 S) (fX0_takeDigit_m47 S p0)).toNatClampNeg))), (dv5 (gX0_writeQuotient (fX0_takeDigit_s135 S tb p0 p1) p0 (tb (fX1_cellAt (dv6 S) (fX0_takeDigit_m47 S p0)).toNatClampNeg))), (dv6 (gX0_writeQuotient (fX0_takeDigit_s135 S tb p0 p1) p0 (tb (fX1_cellAt (dv6 S) (fX0_takeDigit_m47 S p0)).toNatClampNeg))), (dv7 (gX0_writeQuotient (fX0_takeDigit_s135 S tb p0 p1) p0 (tb (fX1_cellAt (dv6 S) (fX0_takeDigit_m47 S p0)).toNatClampNeg))), (dv8 (gX0_writeQuotient (fX0_takeDigit_s135 S tb p0 p1) p0 (tb (fX1_cellAt (dv6 S) (fX0_takeDigit_m47 S p0)).toNatClampNeg))), (dv9 (gX0_writeQuotient (fX0_takeDigit_s135 S tb p0 p1) p0 (tb (fX1_cellAt (dv6 S) (fX0_takeDigit_m47 S p0)).toNatClampNeg))), (fX0_takeDigit_c150 S tb p0 p1), (dv11 (gX0_writeQuotient (fX0_takeDigit_s135 S tb p0 p1) p0 (tb (fX1_cellAt (dv6 S) (fX0_takeDigit_m47 S p0)).toNatClampNeg))), (dv12 (gX0_writeQuotient (fX0_takeDigit_s135 S tb p0 p1) p0 (tb (fX1_cellAt (dv6 S) (fX0_takeDigit_m47 S p0)).toNatClampNeg))), (dv13 (gX0_writeQuotient (fX0_takeDigit_s135 S tb p0 p1) p0 (tb (fX1_cellAt (dv6 S) (fX0_takeDigit_m47 S p0)).toNatClampNeg)))), rfl, (by unfold gX0_takeDigit; rw [if_neg c_140_3, if_pos c_157_6, if_pos c_186_7]), by rw [ht]; exact hP, va_K.moved hW.alike hK, hD⟩, hS.F ht⟩) hS.2.2 dX0_takeDigit_194
      · have c_186_7 := (not_congr (lg_cmp_le _ _)).mp c_186_7
        refine lv_aload_n hx hb dX0_takeDigit_189 rfl (lv_at hl 6 rfl) ?_
        refine lv_iload_n hx hb dX0_takeDigit_190 rfl (lv_at hl 7 rfl) ?_
        refine va_put (D := (dC, dI)) (ci := 0) (v := .int p0) (ty := .int) (C := RX0) (T := TX0) (N := 14) hx hb hts inX0_X0_takeDigit tyX0 tyX0_ok nmX0 hown hK hP hD hS 0 rfl rfl 11 (by decide) (hts (.fieldLink RX0 47 "DigitDivider$Division" "firstLeft" "I") (by decide +kernel)) (fun _ h9 => h9) rfl (by decide +kernel) rfl rfl (Nat.le_of_ble_eq_true rfl) dX0_takeDigit_191 (fun H locs hP hD hS => ?_)
        have hP : va_P (dC, dI) vwCl [(o0, .inr (0, [.ref o1, .ref o2, .ref o3, .ref o4, .ref o5, .ref o6, .int (dv6 (gX0_writeQuotient (fX0_takeDigit_s135 S tb p0 p1) p0 (tb (fX1_cellAt (dv6 S) (fX0_takeDigit_m47 S p0)).toNatClampNeg))), .int (dv7 (gX0_writeQuotient (fX0_takeDigit_s135 S tb p0 p1) p0 (tb (fX1_cellAt (dv6 S) (fX0_takeDigit_m47 S p0)).toNatClampNeg))), .int (dv8 (gX0_writeQuotient (fX0_takeDigit_s135 S tb p0 p1) p0 (tb (fX1_cellAt (dv6 S) (fX0_takeDigit_m47 S p0)).toNatClampNeg))), .int (dv9 (gX0_writeQuotient (fX0_takeDigit_s135 S tb p0 p1) p0 (tb (fX1_cellAt (dv6 S) (fX0_takeDigit_m47 S p0)).toNatClampNeg))), .int (fX0_takeDigit_c150 S tb p0 p1), .int p0, .int (dv12 (gX0_writeQuotient (fX0_takeDigit_s135 S tb p0 p1) p0 (tb (fX1_cellAt (dv6 S) (fX0_takeDigit_m47 S p0)).toNatClampNeg))), .int (dv13 (gX0_writeQuotient (fX0_takeDigit_s135 S tb p0 p1) p0 (tb (fX1_cellAt (dv6 S) (fX0_takeDigit_m47 S p0)).toNatClampNeg)))])), (o1, .inl (cI, 18, .inl (dv0 (gX0_writeQuotient (fX0_takeDigit_s135 S tb p0 p1) p0 (tb (fX1_cellAt (dv6 S) (fX0_takeDigit_m47 S p0)).toNatClampNeg))))), (o2, .inl (cI, 18, .inl (dv1 (gX0_writeQuotient (fX0_takeDigit_s135 S tb p0 p1) p0 (tb (fX1_cellAt (dv6 S) (fX0_takeDigit_m47 S p0)).toNatClampNeg))))), (o3, .inl (cJ, 18, .inr (.inl (dv2 (gX0_writeQuotient (fX0_takeDigit_s135 S tb p0 p1) p0 (tb (fX1_cellAt (dv6 S) (fX0_takeDigit_m47 S p0)).toNatClampNeg)))))), (o4, .inl (cJ, 18, .inr (.inl (dv3 (gX0_writeQuotient (fX0_takeDigit_s135 S tb p0 p1) p0 (tb (fX1_cellAt (dv6 S) (fX0_takeDigit_m47 S p0)).toNatClampNeg)))))), (o5, .inl (cJ, 18, .inr (.inl (dv4 (gX0_writeQuotient (fX0_takeDigit_s135 S tb p0 p1) p0 (tb (fX1_cellAt (dv6 S) (fX0_takeDigit_m47 S p0)).toNatClampNeg)))))), (o6, .inl (cJ, 18, .inr (.inl (dv5 (gX0_writeQuotient (fX0_takeDigit_s135 S tb p0 p1) p0 (tb (fX1_cellAt (dv6 S) (fX0_takeDigit_m47 S p0)).toNatClampNeg))))))] H := hP
        have hD : va_D A [(o0, .inr (0, [.ref o1, .ref o2, .ref o3, .ref o4, .ref o5, .ref o6, .int (dv6 (gX0_writeQuotient (fX0_takeDigit_s135 S tb p0 p1) p0 (tb (fX1_cellAt (dv6 S) (fX0_takeDigit_m47 S p0)).toNatClampNeg))), .int (dv7 (gX0_writeQuotient (fX0_takeDigit_s135 S tb p0 p1) p0 (tb (fX1_cellAt (dv6 S) (fX0_takeDigit_m47 S p0)).toNatClampNeg))), .int (dv8 (gX0_writeQuotient (fX0_takeDigit_s135 S tb p0 p1) p0 (tb (fX1_cellAt (dv6 S) (fX0_takeDigit_m47 S p0)).toNatClampNeg))), .int (dv9 (gX0_writeQuotient (fX0_takeDigit_s135 S tb p0 p1) p0 (tb (fX1_cellAt (dv6 S) (fX0_takeDigit_m47 S p0)).toNatClampNeg))), .int (fX0_takeDigit_c150 S tb p0 p1), .int p0, .int (dv12 (gX0_writeQuotient (fX0_takeDigit_s135 S tb p0 p1) p0 (tb (fX1_cellAt (dv6 S) (fX0_takeDigit_m47 S p0)).toNatClampNeg))), .int (dv13 (gX0_writeQuotient (fX0_takeDigit_s135 S tb p0 p1) p0 (tb (fX1_cellAt (dv6 S) (fX0_takeDigit_m47 S p0)).toNatClampNeg)))])), (o1, .inl (cI, 18, .inl (dv0 (gX0_writeQuotient (fX0_takeDigit_s135 S tb p0 p1) p0 (tb (fX1_cellAt (dv6 S) (fX0_takeDigit_m47 S p0)).toNatClampNeg))))), (o2, .inl (cI, 18, .inl (dv1 (gX0_writeQuotient (fX0_takeDigit_s135 S tb p0 p1) p0 (tb (fX1_cellAt (dv6 S) (fX0_takeDigit_m47 S p0)).toNatClampNeg))))), (o3, .inl (cJ, 18, .inr (.inl (dv2 (gX0_writeQuotient (fX0_takeDigit_s135 S tb p0 p1) p0 (tb (fX1_cellAt (dv6 S) (fX0_takeDigit_m47 S p0)).toNatClampNeg)))))), (o4, .inl (cJ, 18, .inr (.inl (dv3 (gX0_writeQuotient (fX0_takeDigit_s135 S tb p0 p1) p0 (tb (fX1_cellAt (dv6 S) (fX0_takeDigit_m47 S p0)).toNatClampNeg)))))), (o5, .inl (cJ, 18, .inr (.inl (dv4 (gX0_writeQuotient (fX0_takeDigit_s135 S tb p0 p1) p0 (tb (fX1_cellAt (dv6 S) (fX0_takeDigit_m47 S p0)).toNatClampNeg)))))), (o6, .inl (cJ, 18, .inr (.inl (dv5 (gX0_writeQuotient (fX0_takeDigit_s135 S tb p0 p1) p0 (tb (fX1_cellAt (dv6 S) (fX0_takeDigit_m47 S p0)).toNatClampNeg))))))] := hD
        exact W.vret hx hb hr (fun t ht hW => ⟨⟨((dv0 (gX0_writeQuotient (fX0_takeDigit_s135 S tb p0 p1) p0 (tb (fX1_cellAt (dv6 S) (fX0_takeDigit_m47 S p0)).toNatClampNeg))), (dv1 (gX0_writeQuotient (fX0_takeDigit_s135 S tb p0 p1) p0 (tb (fX1_cellAt (dv6 S) (fX0_takeDigit_m47 S p0)).toNatClampNeg))), (dv2 (gX0_writeQuotient (fX0_takeDigit_s135 S tb p0 p1) p0 (tb (fX1_cellAt (dv6 S) (fX0_takeDigit_m47 S p0)).toNatClampNeg))), (dv3 (gX0_writeQuotient (fX0_takeDigit_s135 S tb p0 p1) p0 (tb (fX1_cellAt (dv6 S) (fX0_takeDigit_m47 S p0)).toNatClampNeg))), (dv4 (gX0_writeQuotient (fX0_takeDigit_s135 S tb p0 p1) p0 (tb (fX1_cellAt (dv6 S) (fX0_takeDigit_m47 S p0)).toNatClampNeg))), (dv5 (gX0_writeQuotient (fX0_takeDigit_s135 S tb p0 p1) p0 (tb (fX1_cellAt (dv6 S) (fX0_takeDigit_m47 S p0)).toNatClampNeg))), (dv6 (gX0_writeQuotient (fX0_takeDigit_s135 S tb p0 p1) p0 (tb (fX1_cellAt (dv6 S) (fX0_takeDigit_m47 S p0)).toNatClampNeg))), (dv7 (gX0_writeQuotient (fX0_takeDigit_s135 S tb p0 p1) p0 (tb (fX1_cellAt (dv6 S) (fX0_takeDigit_m47 S p0)).toNatClampNeg))), (dv8 (gX0_writeQuotient (fX0_takeDigit_s135 S tb p0 p1) p0 (tb (fX1_cellAt (dv6 S) (fX0_takeDigit_m47 S p0)).toNatClampNeg))), (dv9 (gX0_writeQuotient (fX0_takeDigit_s135 S tb p0 p1) p0 (tb (fX1_cellAt (dv6 S) (fX0_takeDigit_m47 S p0)).toNatClampNeg))), (fX0_takeDigit_c150 S tb p0 p1), p0, (dv12 (gX0_writeQuotient (fX0_takeDigit_s135 S tb p0 p1) p0 (tb (fX1_cellAt (dv6 S) (fX0_takeDigit_m47 S p0)).toNatClampNeg))), (dv13 (gX0_writeQuotient (fX0_takeDigit_s135 S tb p0 p1) p0 (tb (fX1_cellAt (dv6 S) (fX0_takeDigit_m47 S p0)).toNatClampNeg)))), rfl, (by unfold gX0_takeDigit; rw [if_neg c_140_3, if_pos c_157_6, if_neg c_186_7]), by rw [ht]; exact hP, va_K.moved hW.alike hK, hD⟩, hS.F ht⟩) hS.2.2 dX0_takeDigit_194

def fX0_finish_j49 (S : DV) : Int64 := (if 0 ≤ (((dv2 S) (dv9 S).toNatClampNeg) + ((dv3 S) (dv9 S).toNatClampNeg)) then (dv4 S) (dv9 S).toNatClampNeg else (dv5 S) (dv9 S).toNatClampNeg)
def fX0_finish_j71 (S : DV) (p0 : Int64) : Int64 := (if 0 ≤ (((dv2 S) (dv9 S).toNatClampNeg) + ((dv3 S) (dv9 S).toNatClampNeg)) then ((dv2 S) (dv9 S).toNatClampNeg) + ((dv3 S) (dv9 S).toNatClampNeg) else (((dv2 S) (dv9 S).toNatClampNeg) + ((dv3 S) (dv9 S).toNatClampNeg)) + (8 * p0))
def fX0_finish_j95 (S : DV) (p1 : Int32) : Int64 := (if p1 = 0 then (fX0_finish_j49 S) else -(fX0_finish_j49 S))
def fX0_finish_j113 (S : DV) (p0 : Int64) (p2 : Int32) : Int64 := (if p2 = 0 then (fX0_finish_j71 S p0) / (8 <<< ((dv8 S).toInt64 &&& 63)) else -((fX0_finish_j71 S p0) / (8 <<< ((dv8 S).toInt64 &&& 63))))
def gX0_finish (S : DV) (p0 : Int64) (p1 : Int32) (p2 : Int32) : DV := ((dv0 S), (dv1 S), (dv2 S), (dv3 S), (dv4 S), (dv5 S), (dv6 S), (dv7 S), (dv8 S), (dv9 S), (dv10 S), (dv11 S), (fX0_finish_j95 S p1).toInt32, (fX0_finish_j113 S p0 p2).toInt32)
theorem inX0_X0_finish : ∀ w ∈ wsX00, w ∈ wsX0_finish := by decide +kernel
set_option maxHeartbeats 4000000 in
set_option maxRecDepth 100000 in
theorem kX0_finish (l : Launch) (dC : Nat → ClassId) (dI : Nat → Nat → Nat) (o0 : Nat) (o1 : Nat) (o2 : Nat) (o3 : Nat) (o4 : Nat) (o5 : Nat) (o6 : Nat) (cI : ClassId) (cJ : ClassId) (sz : Nat) (S : DV) (p0 : Int64) (p1 : Int32) (p2 : Int32) (hy0 : vp_in (dv9 S) 18) (hy1 : ¬ (8 <<< ((dv8 S).toInt64 &&& 63)) = 0) : Met l yX0_finish wsX0_finish ({ frames := 0, cells := 0, slots := 0, locals := 0 } : Room) (va_Pc [.ref o0, .long p0, .int p1, .int p2] (fun U => U.heap.size = sz ∧ va_P (dC, dI) vwCl [(o0, .inr (0, [.ref o1, .ref o2, .ref o3, .ref o4, .ref o5, .ref o6, .int (dv6 S), .int (dv7 S), .int (dv8 S), .int (dv9 S), .int (dv10 S), .int (dv11 S), .int (dv12 S), .int (dv13 S)])), (o1, .inl (cI, 18, .inl (dv0 S))), (o2, .inl (cI, 18, .inl (dv1 S))), (o3, .inl (cJ, 18, .inr (.inl (dv2 S)))), (o4, .inl (cJ, 18, .inr (.inl (dv3 S)))), (o5, .inl (cJ, 18, .inr (.inl (dv4 S)))), (o6, .inl (cJ, 18, .inr (.inl (dv5 S))))] U.heap ∧ va_K (dC, dI) vwCl [(cI, .int), (cJ, .long)] U ∧ va_D (fun _ => True) [(o0, .inr (0, [.ref o1, .ref o2, .ref o3, .ref o4, .ref o5, .ref o6, .int (dv6 S), .int (dv7 S), .int (dv8 S), .int (dv9 S), .int (dv10 S), .int (dv11 S), .int (dv12 S), .int (dv13 S)])), (o1, .inl (cI, 18, .inl (dv0 S))), (o2, .inl (cI, 18, .inl (dv1 S))), (o3, .inl (cJ, 18, .inr (.inl (dv2 S)))), (o4, .inl (cJ, 18, .inr (.inl (dv3 S)))), (o5, .inl (cJ, 18, .inr (.inl (dv4 S)))), (o6, .inl (cJ, 18, .inr (.inl (dv5 S))))])) (va_Qv (fun u : DV => u = (gX0_finish S p0 p1 p2)) (fun (u : DV) (t : State) => va_P (dC, dI) vwCl [(o0, .inr (0, [.ref o1, .ref o2, .ref o3, .ref o4, .ref o5, .ref o6, .int (dv6 u), .int (dv7 u), .int (dv8 u), .int (dv9 u), .int (dv10 u), .int (dv11 u), .int (dv12 u), .int (dv13 u)])), (o1, .inl (cI, 18, .inl (dv0 u))), (o2, .inl (cI, 18, .inl (dv1 u))), (o3, .inl (cJ, 18, .inr (.inl (dv2 u)))), (o4, .inl (cJ, 18, .inr (.inl (dv3 u)))), (o5, .inl (cJ, 18, .inr (.inl (dv4 u)))), (o6, .inl (cJ, 18, .inr (.inl (dv5 u))))] t.heap ∧ va_K (dC, dI) vwCl [(cI, .int), (cJ, .long)] t ∧ va_D (va_A [(o0, .inr (0, [.ref o1, .ref o2, .ref o3, .ref o4, .ref o5, .ref o6, .int (dv6 S), .int (dv7 S), .int (dv8 S), .int (dv9 S), .int (dv10 S), .int (dv11 S), .int (dv12 S), .int (dv13 S)])), (o1, .inl (cI, 18, .inl (dv0 S))), (o2, .inl (cI, 18, .inl (dv1 S))), (o3, .inl (cJ, 18, .inr (.inl (dv2 S)))), (o4, .inl (cJ, 18, .inr (.inl (dv3 S)))), (o5, .inl (cJ, 18, .inr (.inl (dv4 S)))), (o6, .inl (cJ, 18, .inr (.inl (dv5 S))))] sz) [(o0, .inr (0, [.ref o1, .ref o2, .ref o3, .ref o4, .ref o5, .ref o6, .int (dv6 u), .int (dv7 u), .int (dv8 u), .int (dv9 u), .int (dv10 u), .int (dv11 u), .int (dv12 u), .int (dv13 u)])), (o1, .inl (cI, 18, .inl (dv0 u))), (o2, .inl (cI, 18, .inl (dv1 u))), (o3, .inl (cJ, 18, .inr (.inl (dv2 u)))), (o4, .inl (cJ, 18, .inr (.inl (dv3 u)))), (o5, .inl (cJ, 18, .inr (.inl (dv4 u)))), (o6, .inl (cJ, 18, .inr (.inl (dv5 u))))]) (va_A [(o0, .inr (0, [.ref o1, .ref o2, .ref o3, .ref o4, .ref o5, .ref o6, .int (dv6 S), .int (dv7 S), .int (dv8 S), .int (dv9 S), .int (dv10 S), .int (dv11 S), .int (dv12 S), .int (dv13 S)])), (o1, .inl (cI, 18, .inl (dv0 S))), (o2, .inl (cI, 18, .inl (dv1 S))), (o3, .inl (cJ, 18, .inr (.inl (dv2 S)))), (o4, .inl (cJ, 18, .inr (.inl (dv3 S)))), (o5, .inl (cJ, 18, .inr (.inl (dv4 S)))), (o6, .inl (cJ, 18, .inr (.inl (dv5 S))))] sz)) 0 0 (va_A [(o0, .inr (0, [.ref o1, .ref o2, .ref o3, .ref o4, .ref o5, .ref o6, .int (dv6 S), .int (dv7 S), .int (dv8 S), .int (dv9 S), .int (dv10 S), .int (dv11 S), .int (dv12 S), .int (dv13 S)])), (o1, .inl (cI, 18, .inl (dv0 S))), (o2, .inl (cI, 18, .inl (dv1 S))), (o3, .inl (cJ, 18, .inr (.inl (dv2 S)))), (o4, .inl (cJ, 18, .inr (.inl (dv3 S)))), (o5, .inl (cJ, 18, .inr (.inl (dv4 S)))), (o6, .inl (cJ, 18, .inr (.inl (dv5 S))))] sz) := by
  refine Met.ofW (cc := cX0_finish) (maxL := 11) (ret := none) (by decide) rfl ?_
  intro p e s m args below meth c s₁ B hml hv
  obtain ⟨rfl, hsz, hP, hK, hD0⟩ := hv
  have hx := B.exec
  have hb := B.bytes
  have hr := B.returns
  have hts := atoms_spec (ws := wsX0_finish) B.pre
  have hown : s.vm.findClass RX0 = some m.cls := findClass_of_methodNamed B.named
  have hlocks := B.notSynchronized
  subst hsz
  have hD := hD0.self (sz := s.heap.size)
  generalize hAe : va_A [(o0, .inr (0, [.ref o1, .ref o2, .ref o3, .ref o4, .ref o5, .ref o6, .int (dv6 S), .int (dv7 S), .int (dv8 S), .int (dv9 S), .int (dv10 S), .int (dv11 S), .int (dv12 S), .int (dv13 S)])), (o1, .inl (cI, 18, .inl (dv0 S))), (o2, .inl (cI, 18, .inl (dv1 S))), (o3, .inl (cJ, 18, .inr (.inl (dv2 S)))), (o4, .inl (cJ, 18, .inr (.inl (dv3 S)))), (o5, .inl (cJ, 18, .inr (.inl (dv4 S)))), (o6, .inl (cJ, 18, .inr (.inl (dv5 S))))] s.heap.size = A at hD  ⊢
  have hA : ∀ q : Nat, s.heap.size ≤ q → A q := fun q h => by rw [← hAe]; exact Or.inr h
  have hS : va_S A s.heap s.heap [] := va_S.rf
  have hP : va_P (dC, dI) vwCl [(o0, .inr (0, [.ref o1, .ref o2, .ref o3, .ref o4, .ref o5, .ref o6, .int (dv6 S), .int (dv7 S), .int (dv8 S), .int (dv9 S), .int (dv10 S), .int (dv11 S), .int (dv12 S), .int (dv13 S)])), (o1, .inl (cI, 18, .inl (dv0 S))), (o2, .inl (cI, 18, .inl (dv1 S))), (o3, .inl (cJ, 18, .inr (.inl (dv2 S)))), (o4, .inl (cJ, 18, .inr (.inl (dv3 S)))), (o5, .inl (cJ, 18, .inr (.inl (dv4 S)))), (o6, .inl (cJ, 18, .inr (.inl (dv5 S))))] s.heap := hP
  have hl := lv_entry ([.ref o0, .long p0, .int p1, .int p2]) (n := 11) (Nat.le_of_ble_eq_true rfl)
  rw [lg_entry_eq]
  generalize (lg_sl ([.ref o0, .long p0, .int p1, .int p2]) ++ List.replicate (11 - (lg_sl ([.ref o0, .long p0, .int p1, .int p2])).length) Slot.unset).toArray = ls at hl ⊢
  have hl : lv_has ls 11 [(0, .ref o0), (1, .long p0), (3, .int p1), (4, .int p2)] := hl
  refine lv_aload_n hx hb dX0_finish_0 rfl (lv_at hl 0 rfl) ?_
  refine va_get (D := (dC, dI)) (ci := 0) (v := .ref o3) (C := RX0) (T := TX0) (N := 14) hx hb hts inX0_X0_finish hown hK hP 0 rfl rfl 2 (by decide) (hts (.fieldLink RX0 18 "DigitDivider$Division" "sums" "[J") (by decide +kernel)) (fun _ h9 => h9) rfl dX0_finish_1 ?_
  refine lv_aload_n hx hb dX0_finish_4 rfl (lv_at hl 0 rfl) ?_
  refine va_get (D := (dC, dI)) (ci := 0) (v := .int (dv9 S)) (C := RX0) (T := TX0) (N := 14) hx hb hts inX0_X0_finish hown hK hP 0 rfl rfl 9 (by decide) (hts (.fieldLink RX0 41 "DigitDivider$Division" "n" "I") (by decide +kernel)) (fun _ h9 => h9) rfl dX0_finish_5 ?_
  refine va_lald hx hb hK hP 3 1 rfl rfl hy0 dX0_finish_8 ?_
  refine lv_aload_n hx hb dX0_finish_9 rfl (lv_at hl 0 rfl) ?_
  refine va_get (D := (dC, dI)) (ci := 0) (v := .ref o4) (C := RX0) (T := TX0) (N := 14) hx hb hts inX0_X0_finish hown hK hP 0 rfl rfl 3 (by decide) (hts (.fieldLink RX0 22 "DigitDivider$Division" "carries" "[J") (by decide +kernel)) (fun _ h9 => h9) rfl dX0_finish_10 ?_
  refine lv_aload_n hx hb dX0_finish_13 rfl (lv_at hl 0 rfl) ?_
  refine va_get (D := (dC, dI)) (ci := 0) (v := .int (dv9 S)) (C := RX0) (T := TX0) (N := 14) hx hb hts inX0_X0_finish hown hK hP 0 rfl rfl 9 (by decide) (hts (.fieldLink RX0 41 "DigitDivider$Division" "n" "I") (by decide +kernel)) (fun _ h9 => h9) rfl dX0_finish_14 ?_
  refine va_lald hx hb hK hP 4 1 rfl rfl hy0 dX0_finish_17 ?_
  refine lv_ladd hx hb dX0_finish_18 ?_
  refine lv_lstore (lv' := [(5, .long (((dv2 S) (dv9 S).toNatClampNeg) + ((dv3 S) (dv9 S).toNatClampNeg))), (0, .ref o0), (1, .long p0), (3, .int p1), (4, .int p2)]) hx hb dX0_finish_19 hl (by decide) rfl (fun ls hl => ?_)
  refine lv_lload hx hb dX0_finish_21 (lv_at hl 0 rfl) ?_
  refine lv_lconst (v := 0) hx hb dX0_finish_23 (by decide) ?_
  refine W.lcmp hx hb dX0_finish_24 ?_
  refine ax_joinL (J := 49) (v := (fX0_finish_j49 S)) (ls := ls) (rest := []) ?_ (fun kj_8 => ?_)
  · refine lv_lstore (lv' := [(7, .long (fX0_finish_j49 S)), (5, .long (((dv2 S) (dv9 S).toNatClampNeg) + ((dv3 S) (dv9 S).toNatClampNeg))), (0, .ref o0), (1, .long p0), (3, .int p1), (4, .int p2)]) hx hb dX0_finish_49 hl (by decide) rfl (fun ls hl => ?_)
    refine lv_lload hx hb dX0_finish_51 (lv_at hl 1 rfl) ?_
    refine lv_lconst (v := 0) hx hb dX0_finish_53 (by decide) ?_
    refine W.lcmp hx hb dX0_finish_54 ?_
    refine ax_joinL (J := 71) (v := (fX0_finish_j71 S p0)) (ls := ls) (rest := []) ?_ (fun kj_7 => ?_)
    · refine lv_ldc2 (v := 8) hx hb hown (hts (.constantLong RX0 87 (8)) (by decide +kernel)) dX0_finish_71 ?_
      refine lv_aload_n hx hb dX0_finish_74 rfl (lv_at hl 2 rfl) ?_
      refine va_get (D := (dC, dI)) (ci := 0) (v := .int (dv8 S)) (C := RX0) (T := TX0) (N := 14) hx hb hts inX0_X0_finish hown hK hP 0 rfl rfl 8 (by decide) (hts (.fieldLink RX0 38 "DigitDivider$Division" "t" "I") (by decide +kernel)) (fun _ h9 => h9) rfl dX0_finish_75 ?_
      refine lv_lshl (v := 8 <<< ((dv8 S).toInt64 &&& 63)) hx hb dX0_finish_78 rfl ?_
      refine lv_ldiv hx hb dX0_finish_79 hy1 ?_
      refine lv_lstore (lv' := [(9, .long ((fX0_finish_j71 S p0) / (8 <<< ((dv8 S).toInt64 &&& 63)))), (7, .long (fX0_finish_j49 S)), (5, .long (((dv2 S) (dv9 S).toNatClampNeg) + ((dv3 S) (dv9 S).toNatClampNeg))), (0, .ref o0), (1, .long p0), (3, .int p1), (4, .int p2)]) hx hb dX0_finish_80 hl (by decide) rfl (fun ls hl => ?_)
      refine lv_aload_n hx hb dX0_finish_82 rfl (lv_at hl 3 rfl) ?_
      refine lv_iload_n hx hb dX0_finish_83 rfl (lv_at hl 5 rfl) ?_
      refine ax_joinL (J := 95) (v := (fX0_finish_j95 S p1)) (ls := ls) (rest := [.ref o0]) ?_ (fun kj_6 => ?_)
      · refine lv_l2i (v := (fX0_finish_j95 S p1).toInt32) hx hb dX0_finish_95 rfl ?_
        refine va_put (D := (dC, dI)) (ci := 0) (v := .int ((fX0_finish_j95 S p1).toInt32)) (ty := .int) (C := RX0) (T := TX0) (N := 14) hx hb hts inX0_X0_finish tyX0 tyX0_ok nmX0 hown hK hP hD hS 0 rfl rfl 12 (by decide) (hts (.fieldLink RX0 50 "DigitDivider$Division" "quotient" "I") (by decide +kernel)) (fun _ h9 => h9) rfl (by decide +kernel) rfl rfl (Nat.le_of_ble_eq_true rfl) dX0_finish_96 (fun H locs hP hD hS => ?_)
        have hP : va_P (dC, dI) vwCl [(o0, .inr (0, [.ref o1, .ref o2, .ref o3, .ref o4, .ref o5, .ref o6, .int (dv6 S), .int (dv7 S), .int (dv8 S), .int (dv9 S), .int (dv10 S), .int (dv11 S), .int ((fX0_finish_j95 S p1).toInt32), .int (dv13 S)])), (o1, .inl (cI, 18, .inl (dv0 S))), (o2, .inl (cI, 18, .inl (dv1 S))), (o3, .inl (cJ, 18, .inr (.inl (dv2 S)))), (o4, .inl (cJ, 18, .inr (.inl (dv3 S)))), (o5, .inl (cJ, 18, .inr (.inl (dv4 S)))), (o6, .inl (cJ, 18, .inr (.inl (dv5 S))))] H := hP
        have hD : va_D A [(o0, .inr (0, [.ref o1, .ref o2, .ref o3, .ref o4, .ref o5, .ref o6, .int (dv6 S), .int (dv7 S), .int (dv8 S), .int (dv9 S), .int (dv10 S), .int (dv11 S), .int ((fX0_finish_j95 S p1).toInt32), .int (dv13 S)])), (o1, .inl (cI, 18, .inl (dv0 S))), (o2, .inl (cI, 18, .inl (dv1 S))), (o3, .inl (cJ, 18, .inr (.inl (dv2 S)))), (o4, .inl (cJ, 18, .inr (.inl (dv3 S)))), (o5, .inl (cJ, 18, .inr (.inl (dv4 S)))), (o6, .inl (cJ, 18, .inr (.inl (dv5 S))))] := hD
        refine lv_aload_n hx hb dX0_finish_99 rfl (lv_at hl 3 rfl) ?_
        refine lv_iload hx hb dX0_finish_100 (lv_at hl 6 rfl) ?_
        refine ax_joinL (J := 113) (v := (fX0_finish_j113 S p0 p2)) (ls := ls) (rest := [.ref o0]) ?_ (fun kj_5 => ?_)
        · refine lv_l2i (v := (fX0_finish_j113 S p0 p2).toInt32) hx hb dX0_finish_113 rfl ?_
          refine va_put (D := (dC, dI)) (ci := 0) (v := .int ((fX0_finish_j113 S p0 p2).toInt32)) (ty := .int) (C := RX0) (T := TX0) (N := 14) hx hb hts inX0_X0_finish tyX0 tyX0_ok nmX0 hown hK hP hD hS 0 rfl rfl 13 (by decide) (hts (.fieldLink RX0 53 "DigitDivider$Division" "rest" "I") (by decide +kernel)) (fun _ h9 => h9) rfl (by decide +kernel) rfl rfl (Nat.le_of_ble_eq_true rfl) dX0_finish_114 (fun H locs hP hD hS => ?_)
          have hP : va_P (dC, dI) vwCl [(o0, .inr (0, [.ref o1, .ref o2, .ref o3, .ref o4, .ref o5, .ref o6, .int (dv6 S), .int (dv7 S), .int (dv8 S), .int (dv9 S), .int (dv10 S), .int (dv11 S), .int ((fX0_finish_j95 S p1).toInt32), .int ((fX0_finish_j113 S p0 p2).toInt32)])), (o1, .inl (cI, 18, .inl (dv0 S))), (o2, .inl (cI, 18, .inl (dv1 S))), (o3, .inl (cJ, 18, .inr (.inl (dv2 S)))), (o4, .inl (cJ, 18, .inr (.inl (dv3 S)))), (o5, .inl (cJ, 18, .inr (.inl (dv4 S)))), (o6, .inl (cJ, 18, .inr (.inl (dv5 S))))] H := hP
          have hD : va_D A [(o0, .inr (0, [.ref o1, .ref o2, .ref o3, .ref o4, .ref o5, .ref o6, .int (dv6 S), .int (dv7 S), .int (dv8 S), .int (dv9 S), .int (dv10 S), .int (dv11 S), .int ((fX0_finish_j95 S p1).toInt32), .int ((fX0_finish_j113 S p0 p2).toInt32)])), (o1, .inl (cI, 18, .inl (dv0 S))), (o2, .inl (cI, 18, .inl (dv1 S))), (o3, .inl (cJ, 18, .inr (.inl (dv2 S)))), (o4, .inl (cJ, 18, .inr (.inl (dv3 S)))), (o5, .inl (cJ, 18, .inr (.inl (dv4 S)))), (o6, .inl (cJ, 18, .inr (.inl (dv5 S))))] := hD
          exact W.vret hx hb hr (fun t ht hW => ⟨⟨((dv0 S), (dv1 S), (dv2 S), (dv3 S), (dv4 S), (dv5 S), (dv6 S), (dv7 S), (dv8 S), (dv9 S), (dv10 S), (dv11 S), (fX0_finish_j95 S p1).toInt32, (fX0_finish_j113 S p0 p2).toInt32), rfl, rfl, by rw [ht]; exact hP, va_K.moved hW.alike hK, hD⟩, hS.F ht⟩) hS.2.2 dX0_finish_117
        · refine lv_if_eq (tgt := 111) hx hb dX0_finish_102 (by decide) (fun c_102_4 => ?_) (fun c_102_4 => ?_)
          · refine lv_lload hx hb dX0_finish_111 (lv_at hl 0 rfl) ?_
            exact kj_5 _ (by unfold fX0_finish_j113; rw [if_pos c_102_4])
          · refine lv_lload hx hb dX0_finish_105 (lv_at hl 0 rfl) ?_
            refine lv_lneg hx hb dX0_finish_107 ?_
            refine lv_goto (tgt := 113) hx hb dX0_finish_108 (by decide) ?_
            exact kj_5 _ (by unfold fX0_finish_j113; rw [if_neg c_102_4])
      · refine lv_if_eq (tgt := 93) hx hb dX0_finish_84 (by decide) (fun c_84_3 => ?_) (fun c_84_3 => ?_)
        · refine lv_lload hx hb dX0_finish_93 (lv_at hl 1 rfl) ?_
          exact kj_6 _ (by unfold fX0_finish_j95; rw [if_pos c_84_3])
        · refine lv_lload hx hb dX0_finish_87 (lv_at hl 1 rfl) ?_
          refine lv_lneg hx hb dX0_finish_89 ?_
          refine lv_goto (tgt := 95) hx hb dX0_finish_90 (by decide) ?_
          exact kj_6 _ (by unfold fX0_finish_j95; rw [if_neg c_84_3])
    · refine lv_if_ge (tgt := 69) hx hb dX0_finish_55 (by decide) (fun c_55_2 => ?_) (fun c_55_2 => ?_)
      · have c_55_2 := (lg_cmp_ge _ _).mp c_55_2
        refine lv_lload hx hb dX0_finish_69 (lv_at hl 1 rfl) ?_
        exact kj_7 _ (by unfold fX0_finish_j71; rw [if_pos c_55_2])
      · have c_55_2 := (not_congr (lg_cmp_ge _ _)).mp c_55_2
        refine lv_lload hx hb dX0_finish_58 (lv_at hl 1 rfl) ?_
        refine lv_ldc2 (v := 8) hx hb hown (hts (.constantLong RX0 87 (8)) (by decide +kernel)) dX0_finish_60 ?_
        refine lv_lload_n hx hb dX0_finish_63 rfl (lv_at hl 3 rfl) ?_
        refine lv_lmul hx hb dX0_finish_64 ?_
        refine lv_ladd hx hb dX0_finish_65 ?_
        refine lv_goto (tgt := 71) hx hb dX0_finish_66 (by decide) ?_
        exact kj_7 _ (by unfold fX0_finish_j71; rw [if_neg c_55_2])
  · refine lv_if_ge (tgt := 40) hx hb dX0_finish_25 (by decide) (fun c_25_1 => ?_) (fun c_25_1 => ?_)
    · have c_25_1 := (lg_cmp_ge _ _).mp c_25_1
      refine lv_aload_n hx hb dX0_finish_40 rfl (lv_at hl 1 rfl) ?_
      refine va_get (D := (dC, dI)) (ci := 0) (v := .ref o5) (C := RX0) (T := TX0) (N := 14) hx hb hts inX0_X0_finish hown hK hP 0 rfl rfl 4 (by decide) (hts (.fieldLink RX0 25 "DigitDivider$Division" "qs" "[J") (by decide +kernel)) (fun _ h9 => h9) rfl dX0_finish_41 ?_
      refine lv_aload_n hx hb dX0_finish_44 rfl (lv_at hl 1 rfl) ?_
      refine va_get (D := (dC, dI)) (ci := 0) (v := .int (dv9 S)) (C := RX0) (T := TX0) (N := 14) hx hb hts inX0_X0_finish hown hK hP 0 rfl rfl 9 (by decide) (hts (.fieldLink RX0 41 "DigitDivider$Division" "n" "I") (by decide +kernel)) (fun _ h9 => h9) rfl dX0_finish_45 ?_
      refine va_lald hx hb hK hP 5 1 rfl rfl hy0 dX0_finish_48 ?_
      exact kj_8 _ (by unfold fX0_finish_j49; rw [if_pos c_25_1])
    · have c_25_1 := (not_congr (lg_cmp_ge _ _)).mp c_25_1
      refine lv_aload_n hx hb dX0_finish_28 rfl (lv_at hl 1 rfl) ?_
      refine va_get (D := (dC, dI)) (ci := 0) (v := .ref o6) (C := RX0) (T := TX0) (N := 14) hx hb hts inX0_X0_finish hown hK hP 0 rfl rfl 5 (by decide) (hts (.fieldLink RX0 28 "DigitDivider$Division" "rs" "[J") (by decide +kernel)) (fun _ h9 => h9) rfl dX0_finish_29 ?_
      refine lv_aload_n hx hb dX0_finish_32 rfl (lv_at hl 1 rfl) ?_
      refine va_get (D := (dC, dI)) (ci := 0) (v := .int (dv9 S)) (C := RX0) (T := TX0) (N := 14) hx hb hts inX0_X0_finish hown hK hP 0 rfl rfl 9 (by decide) (hts (.fieldLink RX0 41 "DigitDivider$Division" "n" "I") (by decide +kernel)) (fun _ h9 => h9) rfl dX0_finish_33 ?_
      refine va_lald hx hb hK hP 6 1 rfl rfl hy0 dX0_finish_36 ?_
      refine lv_goto (tgt := 49) hx hb dX0_finish_37 (by decide) ?_
      exact kj_8 _ (by unfold fX0_finish_j49; rw [if_neg c_25_1])

def fX0_begin_j39 (P : Nat) (M : Nat) : Int32 := (if (((nI (dbl M)) - (nI (dbl P))) - ((nI (dbl M)) - (nI (dbl P))) / 2 * 2) = 0 then 2 else 3)
def fX0_begin_m51 (P : Nat) (M : Nat) : Int32 := (if 17 < ((((nI (dbl M)) - (nI (dbl P))) + (fX0_begin_j39 P M)) / 2) then 17 else ((((nI (dbl M)) - (nI (dbl P))) + (fX0_begin_j39 P M)) / 2))
def fX0_begin_c75 (M : Nat) (p1 : Int64) : Int32 := (((p1 <<< ((nI (dbl M)).toInt64 &&& 63)) >>> (((27 : Int32)).toInt64 &&& 63)).toInt32) &&& 15
def fX0_begin_c96 (P : Nat) (M : Nat) (p0 : Int64) : Int64 := ((p0 <<< ((nI (dbl P)).toInt64 &&& 63)) * 8) >>> ((fX0_begin_j39 P M).toInt64 &&& 63)
def gX0_begin (S : DV) (P : Nat) (M : Nat) (p0 : Int64) (p1 : Int64) : Int64 × DV := (p1 <<< ((nI (dbl M)).toInt64 &&& 63), ((dv0 S), (dv1 S), (vp_updL (dv2 S) (0 : Int32).toNatClampNeg (fX0_begin_c96 P M p0)), (dv3 S), (dv4 S), (dv5 S), (fX0_begin_c75 M p1), (nI (dbl P)), (nI (dbl M)), (fX0_begin_m51 P M), (dv10 S), (dv11 S), (dv12 S), (dv13 S)))
theorem inX0_X0_begin : ∀ w ∈ wsX00, w ∈ wsX0_begin := by decide +kernel
set_option maxHeartbeats 4000000 in
set_option maxRecDepth 100000 in
theorem kX0_begin (l : Launch) (dC : Nat → ClassId) (dI : Nat → Nat → Nat) (o0 : Nat) (o1 : Nat) (o2 : Nat) (o3 : Nat) (o4 : Nat) (o5 : Nat) (o6 : Nat) (cI : ClassId) (cJ : ClassId) (sz : Nat) (S : DV) (P : Nat) (M : Nat) (p0 : Int64) (p1 : Int64) (hp : p0 = lN P) (hP1 : P ≤ 2147483648) (hm : p1 = lN M) (hM1 : M ≤ 2147483648) : Met l yX0_begin wsX0_begin ({ frames := 1, cells := 0, slots := 0, locals := 22 } : Room) (va_Pc [.ref o0, .long p0, .long p1] (fun U => U.heap.size = sz ∧ va_P (dC, dI) vwCl [(o0, .inr (0, [.ref o1, .ref o2, .ref o3, .ref o4, .ref o5, .ref o6, .int (dv6 S), .int (dv7 S), .int (dv8 S), .int (dv9 S), .int (dv10 S), .int (dv11 S), .int (dv12 S), .int (dv13 S)])), (o1, .inl (cI, 18, .inl (dv0 S))), (o2, .inl (cI, 18, .inl (dv1 S))), (o3, .inl (cJ, 18, .inr (.inl (dv2 S)))), (o4, .inl (cJ, 18, .inr (.inl (dv3 S)))), (o5, .inl (cJ, 18, .inr (.inl (dv4 S)))), (o6, .inl (cJ, 18, .inr (.inl (dv5 S))))] U.heap ∧ va_K (dC, dI) vwCl [(cI, .int), (cJ, .long)] U ∧ va_D (fun _ => True) [(o0, .inr (0, [.ref o1, .ref o2, .ref o3, .ref o4, .ref o5, .ref o6, .int (dv6 S), .int (dv7 S), .int (dv8 S), .int (dv9 S), .int (dv10 S), .int (dv11 S), .int (dv12 S), .int (dv13 S)])), (o1, .inl (cI, 18, .inl (dv0 S))), (o2, .inl (cI, 18, .inl (dv1 S))), (o3, .inl (cJ, 18, .inr (.inl (dv2 S)))), (o4, .inl (cJ, 18, .inr (.inl (dv3 S)))), (o5, .inl (cJ, 18, .inr (.inl (dv4 S)))), (o6, .inl (cJ, 18, .inr (.inl (dv5 S))))])) (va_Ql (fun (r : Int64) (u : DV) => r = (gX0_begin S P M p0 p1).1 ∧ u = (gX0_begin S P M p0 p1).2) (fun (u : DV) (t : State) => va_P (dC, dI) vwCl [(o0, .inr (0, [.ref o1, .ref o2, .ref o3, .ref o4, .ref o5, .ref o6, .int (dv6 u), .int (dv7 u), .int (dv8 u), .int (dv9 u), .int (dv10 u), .int (dv11 u), .int (dv12 u), .int (dv13 u)])), (o1, .inl (cI, 18, .inl (dv0 u))), (o2, .inl (cI, 18, .inl (dv1 u))), (o3, .inl (cJ, 18, .inr (.inl (dv2 u)))), (o4, .inl (cJ, 18, .inr (.inl (dv3 u)))), (o5, .inl (cJ, 18, .inr (.inl (dv4 u)))), (o6, .inl (cJ, 18, .inr (.inl (dv5 u))))] t.heap ∧ va_K (dC, dI) vwCl [(cI, .int), (cJ, .long)] t ∧ va_D (va_A [(o0, .inr (0, [.ref o1, .ref o2, .ref o3, .ref o4, .ref o5, .ref o6, .int (dv6 S), .int (dv7 S), .int (dv8 S), .int (dv9 S), .int (dv10 S), .int (dv11 S), .int (dv12 S), .int (dv13 S)])), (o1, .inl (cI, 18, .inl (dv0 S))), (o2, .inl (cI, 18, .inl (dv1 S))), (o3, .inl (cJ, 18, .inr (.inl (dv2 S)))), (o4, .inl (cJ, 18, .inr (.inl (dv3 S)))), (o5, .inl (cJ, 18, .inr (.inl (dv4 S)))), (o6, .inl (cJ, 18, .inr (.inl (dv5 S))))] sz) [(o0, .inr (0, [.ref o1, .ref o2, .ref o3, .ref o4, .ref o5, .ref o6, .int (dv6 u), .int (dv7 u), .int (dv8 u), .int (dv9 u), .int (dv10 u), .int (dv11 u), .int (dv12 u), .int (dv13 u)])), (o1, .inl (cI, 18, .inl (dv0 u))), (o2, .inl (cI, 18, .inl (dv1 u))), (o3, .inl (cJ, 18, .inr (.inl (dv2 u)))), (o4, .inl (cJ, 18, .inr (.inl (dv3 u)))), (o5, .inl (cJ, 18, .inr (.inl (dv4 u)))), (o6, .inl (cJ, 18, .inr (.inl (dv5 u))))]) (va_A [(o0, .inr (0, [.ref o1, .ref o2, .ref o3, .ref o4, .ref o5, .ref o6, .int (dv6 S), .int (dv7 S), .int (dv8 S), .int (dv9 S), .int (dv10 S), .int (dv11 S), .int (dv12 S), .int (dv13 S)])), (o1, .inl (cI, 18, .inl (dv0 S))), (o2, .inl (cI, 18, .inl (dv1 S))), (o3, .inl (cJ, 18, .inr (.inl (dv2 S)))), (o4, .inl (cJ, 18, .inr (.inl (dv3 S)))), (o5, .inl (cJ, 18, .inr (.inl (dv4 S)))), (o6, .inl (cJ, 18, .inr (.inl (dv5 S))))] sz)) 0 0 (va_A [(o0, .inr (0, [.ref o1, .ref o2, .ref o3, .ref o4, .ref o5, .ref o6, .int (dv6 S), .int (dv7 S), .int (dv8 S), .int (dv9 S), .int (dv10 S), .int (dv11 S), .int (dv12 S), .int (dv13 S)])), (o1, .inl (cI, 18, .inl (dv0 S))), (o2, .inl (cI, 18, .inl (dv1 S))), (o3, .inl (cJ, 18, .inr (.inl (dv2 S)))), (o4, .inl (cJ, 18, .inr (.inl (dv3 S)))), (o5, .inl (cJ, 18, .inr (.inl (dv4 S)))), (o6, .inl (cJ, 18, .inr (.inl (dv5 S))))] sz) := by
  refine Met.ofW (cc := cX0_begin) (maxL := 9) (ret := (some .long)) (by decide) rfl ?_
  intro p e s m args below meth c s₁ B hml hv
  obtain ⟨rfl, hsz, hP, hK, hD0⟩ := hv
  have hx := B.exec
  have hb := B.bytes
  have hr := B.returns
  have hts := atoms_spec (ws := wsX0_begin) B.pre
  have hown : s.vm.findClass RX0 = some m.cls := findClass_of_methodNamed B.named
  have hlocks := B.notSynchronized
  subst hsz
  have hD := hD0.self (sz := s.heap.size)
  generalize hAe : va_A [(o0, .inr (0, [.ref o1, .ref o2, .ref o3, .ref o4, .ref o5, .ref o6, .int (dv6 S), .int (dv7 S), .int (dv8 S), .int (dv9 S), .int (dv10 S), .int (dv11 S), .int (dv12 S), .int (dv13 S)])), (o1, .inl (cI, 18, .inl (dv0 S))), (o2, .inl (cI, 18, .inl (dv1 S))), (o3, .inl (cJ, 18, .inr (.inl (dv2 S)))), (o4, .inl (cJ, 18, .inr (.inl (dv3 S)))), (o5, .inl (cJ, 18, .inr (.inl (dv4 S)))), (o6, .inl (cJ, 18, .inr (.inl (dv5 S))))] s.heap.size = A at hD  ⊢
  have hA : ∀ q : Nat, s.heap.size ≤ q → A q := fun q h => by rw [← hAe]; exact Or.inr h
  have hS : va_S A s.heap s.heap [] := va_S.rf
  have hP : va_P (dC, dI) vwCl [(o0, .inr (0, [.ref o1, .ref o2, .ref o3, .ref o4, .ref o5, .ref o6, .int (dv6 S), .int (dv7 S), .int (dv8 S), .int (dv9 S), .int (dv10 S), .int (dv11 S), .int (dv12 S), .int (dv13 S)])), (o1, .inl (cI, 18, .inl (dv0 S))), (o2, .inl (cI, 18, .inl (dv1 S))), (o3, .inl (cJ, 18, .inr (.inl (dv2 S)))), (o4, .inl (cJ, 18, .inr (.inl (dv3 S)))), (o5, .inl (cJ, 18, .inr (.inl (dv4 S)))), (o6, .inl (cJ, 18, .inr (.inl (dv5 S))))] s.heap := hP
  have hl := lv_entry ([.ref o0, .long p0, .long p1]) (n := 9) (Nat.le_of_ble_eq_true rfl)
  rw [lg_entry_eq]
  generalize (lg_sl ([.ref o0, .long p0, .long p1]) ++ List.replicate (9 - (lg_sl ([.ref o0, .long p0, .long p1])).length) Slot.unset).toArray = ls at hl ⊢
  have hl : lv_has ls 9 [(0, .ref o0), (1, .long p0), (3, .long p1)] := hl
  refine lv_aload_n hx hb dX0_begin_0 rfl (lv_at hl 0 rfl) ?_
  refine lv_lload_n hx hb dX0_begin_1 rfl (lv_at hl 1 rfl) ?_
  refine vp_callSi (W.runS (As := [.long p0]) (rest := [.ref o0]) ⟨hx, hb, hml, hown, hts⟩ (kX0_doublings l dC dI P p0 hp hP1) (va_cwS 1 hts gX0_begin_X0_doublings rfl rfl rfl (by decide +kernel) ⟨Nat.le_of_ble_eq_true rfl, Nat.le_of_ble_eq_true rfl⟩) ⟨fun a U g mk q => by obtain ⟨q0, qt⟩ := q; exact ⟨q0, qt⟩, fun U hU hW => ⟨rfl, trivial⟩⟩ rfl rfl hl.1 rfl (lv_room (Nat.le_of_ble_eq_true rfl)) dX0_begin_2 ⟨Nat.zero_le _, Nat.zero_le _⟩) (fun r_1 hr_1 => ?_)
  subst hr_1
  refine va_put (D := (dC, dI)) (ci := 0) (v := .int (nI (dbl P))) (ty := .int) (C := RX0) (T := TX0) (N := 14) hx hb hts inX0_X0_begin tyX0 tyX0_ok nmX0 hown hK hP hD hS 0 rfl rfl 7 (by decide) (hts (.fieldLink RX0 35 "DigitDivider$Division" "s" "I") (by decide +kernel)) (fun _ h9 => h9) rfl (by decide +kernel) rfl rfl (Nat.le_of_ble_eq_true rfl) dX0_begin_5 (fun H locs hP hD hS => ?_)
  have hP : va_P (dC, dI) vwCl [(o0, .inr (0, [.ref o1, .ref o2, .ref o3, .ref o4, .ref o5, .ref o6, .int (dv6 S), .int (nI (dbl P)), .int (dv8 S), .int (dv9 S), .int (dv10 S), .int (dv11 S), .int (dv12 S), .int (dv13 S)])), (o1, .inl (cI, 18, .inl (dv0 S))), (o2, .inl (cI, 18, .inl (dv1 S))), (o3, .inl (cJ, 18, .inr (.inl (dv2 S)))), (o4, .inl (cJ, 18, .inr (.inl (dv3 S)))), (o5, .inl (cJ, 18, .inr (.inl (dv4 S)))), (o6, .inl (cJ, 18, .inr (.inl (dv5 S))))] H := hP
  have hD : va_D A [(o0, .inr (0, [.ref o1, .ref o2, .ref o3, .ref o4, .ref o5, .ref o6, .int (dv6 S), .int (nI (dbl P)), .int (dv8 S), .int (dv9 S), .int (dv10 S), .int (dv11 S), .int (dv12 S), .int (dv13 S)])), (o1, .inl (cI, 18, .inl (dv0 S))), (o2, .inl (cI, 18, .inl (dv1 S))), (o3, .inl (cJ, 18, .inr (.inl (dv2 S)))), (o4, .inl (cJ, 18, .inr (.inl (dv3 S)))), (o5, .inl (cJ, 18, .inr (.inl (dv4 S)))), (o6, .inl (cJ, 18, .inr (.inl (dv5 S))))] := hD
  refine lv_aload_n hx hb dX0_begin_8 rfl (lv_at hl 0 rfl) ?_
  refine lv_lload_n hx hb dX0_begin_9 rfl (lv_at hl 2 rfl) ?_
  refine vp_callSi (W.runS (As := [.long p1]) (rest := [.ref o0]) ⟨hx, hb, hml, hown, hts⟩ (kX0_doublings l dC dI M p1 hm hM1) (va_cwS 1 hts gX0_begin_X0_doublings rfl rfl rfl (by decide +kernel) ⟨Nat.le_of_ble_eq_true rfl, Nat.le_of_ble_eq_true rfl⟩) ⟨fun a U g mk q => by obtain ⟨q0, qt⟩ := q; exact ⟨q0, qt⟩, fun U hU hW => ⟨rfl, trivial⟩⟩ rfl rfl hl.1 rfl (lv_room (Nat.le_of_ble_eq_true rfl)) dX0_begin_10 ⟨Nat.zero_le _, Nat.zero_le _⟩) (fun r_2 hr_2 => ?_)
  subst hr_2
  refine va_put (D := (dC, dI)) (ci := 0) (v := .int (nI (dbl M))) (ty := .int) (C := RX0) (T := TX0) (N := 14) hx hb hts inX0_X0_begin tyX0 tyX0_ok nmX0 hown hK hP hD hS 0 rfl rfl 8 (by decide) (hts (.fieldLink RX0 38 "DigitDivider$Division" "t" "I") (by decide +kernel)) (fun _ h9 => h9) rfl (by decide +kernel) rfl rfl (Nat.le_of_ble_eq_true rfl) dX0_begin_13 (fun H locs hP hD hS => ?_)
  have hP : va_P (dC, dI) vwCl [(o0, .inr (0, [.ref o1, .ref o2, .ref o3, .ref o4, .ref o5, .ref o6, .int (dv6 S), .int (nI (dbl P)), .int (nI (dbl M)), .int (dv9 S), .int (dv10 S), .int (dv11 S), .int (dv12 S), .int (dv13 S)])), (o1, .inl (cI, 18, .inl (dv0 S))), (o2, .inl (cI, 18, .inl (dv1 S))), (o3, .inl (cJ, 18, .inr (.inl (dv2 S)))), (o4, .inl (cJ, 18, .inr (.inl (dv3 S)))), (o5, .inl (cJ, 18, .inr (.inl (dv4 S)))), (o6, .inl (cJ, 18, .inr (.inl (dv5 S))))] H := hP
  have hD : va_D A [(o0, .inr (0, [.ref o1, .ref o2, .ref o3, .ref o4, .ref o5, .ref o6, .int (dv6 S), .int (nI (dbl P)), .int (nI (dbl M)), .int (dv9 S), .int (dv10 S), .int (dv11 S), .int (dv12 S), .int (dv13 S)])), (o1, .inl (cI, 18, .inl (dv0 S))), (o2, .inl (cI, 18, .inl (dv1 S))), (o3, .inl (cJ, 18, .inr (.inl (dv2 S)))), (o4, .inl (cJ, 18, .inr (.inl (dv3 S)))), (o5, .inl (cJ, 18, .inr (.inl (dv4 S)))), (o6, .inl (cJ, 18, .inr (.inl (dv5 S))))] := hD
  refine lv_aload_n hx hb dX0_begin_16 rfl (lv_at hl 0 rfl) ?_
  refine va_get (D := (dC, dI)) (ci := 0) (v := .int (nI (dbl M))) (C := RX0) (T := TX0) (N := 14) hx hb hts inX0_X0_begin hown hK hP 0 rfl rfl 8 (by decide) (hts (.fieldLink RX0 38 "DigitDivider$Division" "t" "I") (by decide +kernel)) (fun _ h9 => h9) rfl dX0_begin_17 ?_
  refine lv_aload_n hx hb dX0_begin_20 rfl (lv_at hl 0 rfl) ?_
  refine va_get (D := (dC, dI)) (ci := 0) (v := .int (nI (dbl P))) (C := RX0) (T := TX0) (N := 14) hx hb hts inX0_X0_begin hown hK hP 0 rfl rfl 7 (by decide) (hts (.fieldLink RX0 35 "DigitDivider$Division" "s" "I") (by decide +kernel)) (fun _ h9 => h9) rfl dX0_begin_21 ?_
  refine lv_isub hx hb dX0_begin_24 ?_
  refine lv_istore (lv' := [(5, .int ((nI (dbl M)) - (nI (dbl P)))), (0, .ref o0), (1, .long p0), (3, .long p1)]) hx hb dX0_begin_25 hl (by decide) rfl (fun ls hl => ?_)
  refine lv_iload hx hb dX0_begin_27 (lv_at hl 0 rfl) ?_
  refine lv_iconst (v := 2) hx hb dX0_begin_29 (by decide) ?_
  refine lv_irem hx hb dX0_begin_30 (by decide) ?_
  refine ax_joinI (J := 39) (v := (fX0_begin_j39 P M)) (ls := ls) (rest := []) ?_ (fun kj_4 => ?_)
  · refine lv_istore (lv' := [(6, .int (fX0_begin_j39 P M)), (5, .int ((nI (dbl M)) - (nI (dbl P)))), (0, .ref o0), (1, .long p0), (3, .long p1)]) hx hb dX0_begin_39 hl (by decide) rfl (fun ls hl => ?_)
    refine lv_aload_n hx hb dX0_begin_41 rfl (lv_at hl 2 rfl) ?_
    refine lv_iload hx hb dX0_begin_42 (lv_at hl 1 rfl) ?_
    refine lv_iload hx hb dX0_begin_44 (lv_at hl 0 rfl) ?_
    refine lv_iadd hx hb dX0_begin_46 ?_
    refine lv_iconst (v := 2) hx hb dX0_begin_47 (by decide) ?_
    refine lv_idiv hx hb dX0_begin_48 (by decide) ?_
    refine lv_bipush (v := 17) hx hb dX0_begin_49 (by decide) ?_
    refine va_mmin hx hb (hml.trans hl.1.symm) hown (hts (.methodLink RX0 83 Lib.Math.min.name) (by decide +kernel)) (hts (.static Lib.Math.min.name) (by decide +kernel)) (hts (.initialized "java/lang/Math") (by decide +kernel)) (hts (.code Lib.Math.min.name Lib.Math.min.code 2 (some .int)) (by decide +kernel)) (Nat.le_of_ble_eq_true rfl) (Nat.le_of_ble_eq_true rfl) (Nat.zero_le _) (Nat.zero_le _) dX0_begin_51 ?_
    refine ax_nmI (y := (fX0_begin_m51 P M)) rfl ?_
    refine va_put (D := (dC, dI)) (ci := 0) (v := .int (fX0_begin_m51 P M)) (ty := .int) (C := RX0) (T := TX0) (N := 14) hx hb hts inX0_X0_begin tyX0 tyX0_ok nmX0 hown hK hP hD hS 0 rfl rfl 9 (by decide) (hts (.fieldLink RX0 41 "DigitDivider$Division" "n" "I") (by decide +kernel)) (fun _ h9 => h9) rfl (by decide +kernel) rfl rfl (Nat.le_of_ble_eq_true rfl) dX0_begin_54 (fun H locs hP hD hS => ?_)
    have hP : va_P (dC, dI) vwCl [(o0, .inr (0, [.ref o1, .ref o2, .ref o3, .ref o4, .ref o5, .ref o6, .int (dv6 S), .int (nI (dbl P)), .int (nI (dbl M)), .int (fX0_begin_m51 P M), .int (dv10 S), .int (dv11 S), .int (dv12 S), .int (dv13 S)])), (o1, .inl (cI, 18, .inl (dv0 S))), (o2, .inl (cI, 18, .inl (dv1 S))), (o3, .inl (cJ, 18, .inr (.inl (dv2 S)))), (o4, .inl (cJ, 18, .inr (.inl (dv3 S)))), (o5, .inl (cJ, 18, .inr (.inl (dv4 S)))), (o6, .inl (cJ, 18, .inr (.inl (dv5 S))))] H := hP
    have hD : va_D A [(o0, .inr (0, [.ref o1, .ref o2, .ref o3, .ref o4, .ref o5, .ref o6, .int (dv6 S), .int (nI (dbl P)), .int (nI (dbl M)), .int (fX0_begin_m51 P M), .int (dv10 S), .int (dv11 S), .int (dv12 S), .int (dv13 S)])), (o1, .inl (cI, 18, .inl (dv0 S))), (o2, .inl (cI, 18, .inl (dv1 S))), (o3, .inl (cJ, 18, .inr (.inl (dv2 S)))), (o4, .inl (cJ, 18, .inr (.inl (dv3 S)))), (o5, .inl (cJ, 18, .inr (.inl (dv4 S)))), (o6, .inl (cJ, 18, .inr (.inl (dv5 S))))] := hD
    refine lv_lload_n hx hb dX0_begin_57 rfl (lv_at hl 4 rfl) ?_
    refine lv_aload_n hx hb dX0_begin_58 rfl (lv_at hl 2 rfl) ?_
    refine va_get (D := (dC, dI)) (ci := 0) (v := .int (nI (dbl M))) (C := RX0) (T := TX0) (N := 14) hx hb hts inX0_X0_begin hown hK hP 0 rfl rfl 8 (by decide) (hts (.fieldLink RX0 38 "DigitDivider$Division" "t" "I") (by decide +kernel)) (fun _ h9 => h9) rfl dX0_begin_59 ?_
    refine lv_lshl (v := p1 <<< ((nI (dbl M)).toInt64 &&& 63)) hx hb dX0_begin_62 rfl ?_
    refine lv_lstore (lv' := [(7, .long (p1 <<< ((nI (dbl M)).toInt64 &&& 63))), (6, .int (fX0_begin_j39 P M)), (5, .int ((nI (dbl M)) - (nI (dbl P)))), (0, .ref o0), (1, .long p0), (3, .long p1)]) hx hb dX0_begin_63 hl (by decide) rfl (fun ls hl => ?_)
    refine lv_aload_n hx hb dX0_begin_65 rfl (lv_at hl 3 rfl) ?_
    refine lv_lload hx hb dX0_begin_66 (lv_at hl 0 rfl) ?_
    refine lv_bipush (v := 27) hx hb dX0_begin_68 (by decide) ?_
    refine lv_lshr (v := (p1 <<< ((nI (dbl M)).toInt64 &&& 63)) >>> (((27 : Int32)).toInt64 &&& 63)) hx hb dX0_begin_70 rfl ?_
    refine lv_l2i (v := ((p1 <<< ((nI (dbl M)).toInt64 &&& 63)) >>> (((27 : Int32)).toInt64 &&& 63)).toInt32) hx hb dX0_begin_71 rfl ?_
    refine lv_bipush (v := 15) hx hb dX0_begin_72 (by decide) ?_
    refine lv_iand hx hb dX0_begin_74 ?_
    refine ax_nmI (y := (fX0_begin_c75 M p1)) rfl ?_
    refine va_put (D := (dC, dI)) (ci := 0) (v := .int (fX0_begin_c75 M p1)) (ty := .int) (C := RX0) (T := TX0) (N := 14) hx hb hts inX0_X0_begin tyX0 tyX0_ok nmX0 hown hK hP hD hS 0 rfl rfl 6 (by decide) (hts (.fieldLink RX0 31 "DigitDivider$Division" "row" "I") (by decide +kernel)) (fun _ h9 => h9) rfl (by decide +kernel) rfl rfl (Nat.le_of_ble_eq_true rfl) dX0_begin_75 (fun H locs hP hD hS => ?_)
    have hP : va_P (dC, dI) vwCl [(o0, .inr (0, [.ref o1, .ref o2, .ref o3, .ref o4, .ref o5, .ref o6, .int (fX0_begin_c75 M p1), .int (nI (dbl P)), .int (nI (dbl M)), .int (fX0_begin_m51 P M), .int (dv10 S), .int (dv11 S), .int (dv12 S), .int (dv13 S)])), (o1, .inl (cI, 18, .inl (dv0 S))), (o2, .inl (cI, 18, .inl (dv1 S))), (o3, .inl (cJ, 18, .inr (.inl (dv2 S)))), (o4, .inl (cJ, 18, .inr (.inl (dv3 S)))), (o5, .inl (cJ, 18, .inr (.inl (dv4 S)))), (o6, .inl (cJ, 18, .inr (.inl (dv5 S))))] H := hP
    have hD : va_D A [(o0, .inr (0, [.ref o1, .ref o2, .ref o3, .ref o4, .ref o5, .ref o6, .int (fX0_begin_c75 M p1), .int (nI (dbl P)), .int (nI (dbl M)), .int (fX0_begin_m51 P M), .int (dv10 S), .int (dv11 S), .int (dv12 S), .int (dv13 S)])), (o1, .inl (cI, 18, .inl (dv0 S))), (o2, .inl (cI, 18, .inl (dv1 S))), (o3, .inl (cJ, 18, .inr (.inl (dv2 S)))), (o4, .inl (cJ, 18, .inr (.inl (dv3 S)))), (o5, .inl (cJ, 18, .inr (.inl (dv4 S)))), (o6, .inl (cJ, 18, .inr (.inl (dv5 S))))] := hD
    refine lv_aload_n hx hb dX0_begin_78 rfl (lv_at hl 3 rfl) ?_
    refine va_get (D := (dC, dI)) (ci := 0) (v := .ref o3) (C := RX0) (T := TX0) (N := 14) hx hb hts inX0_X0_begin hown hK hP 0 rfl rfl 2 (by decide) (hts (.fieldLink RX0 18 "DigitDivider$Division" "sums" "[J") (by decide +kernel)) (fun _ h9 => h9) rfl dX0_begin_79 ?_
    refine lv_iconst (v := 0) hx hb dX0_begin_82 (by decide) ?_
    refine lv_lload_n hx hb dX0_begin_83 rfl (lv_at hl 4 rfl) ?_
    refine lv_aload_n hx hb dX0_begin_84 rfl (lv_at hl 3 rfl) ?_
    refine va_get (D := (dC, dI)) (ci := 0) (v := .int (nI (dbl P))) (C := RX0) (T := TX0) (N := 14) hx hb hts inX0_X0_begin hown hK hP 0 rfl rfl 7 (by decide) (hts (.fieldLink RX0 35 "DigitDivider$Division" "s" "I") (by decide +kernel)) (fun _ h9 => h9) rfl dX0_begin_85 ?_
    refine lv_lshl (v := p0 <<< ((nI (dbl P)).toInt64 &&& 63)) hx hb dX0_begin_88 rfl ?_
    refine lv_ldc2 (v := 8) hx hb hown (hts (.constantLong RX0 87 (8)) (by decide +kernel)) dX0_begin_89 ?_
    refine lv_lmul hx hb dX0_begin_92 ?_
    refine lv_iload hx hb dX0_begin_93 (lv_at hl 1 rfl) ?_
    refine lv_lshr (v := ((p0 <<< ((nI (dbl P)).toInt64 &&& 63)) * 8) >>> ((fX0_begin_j39 P M).toInt64 &&& 63)) hx hb dX0_begin_95 rfl ?_
    refine ax_nmL (y := (fX0_begin_c96 P M p0)) rfl ?_
    refine va_last hx hb hK hP hD hS 3 1 rfl rfl (by unfold vp_in; decide) dX0_begin_96 (fun H locs hP hD hS => ?_)
    have hP : va_P (dC, dI) vwCl [(o0, .inr (0, [.ref o1, .ref o2, .ref o3, .ref o4, .ref o5, .ref o6, .int (fX0_begin_c75 M p1), .int (nI (dbl P)), .int (nI (dbl M)), .int (fX0_begin_m51 P M), .int (dv10 S), .int (dv11 S), .int (dv12 S), .int (dv13 S)])), (o1, .inl (cI, 18, .inl (dv0 S))), (o2, .inl (cI, 18, .inl (dv1 S))), (o3, .inl (cJ, 18, .inr (.inl (vp_updL (dv2 S) (0 : Int32).toNatClampNeg (fX0_begin_c96 P M p0))))), (o4, .inl (cJ, 18, .inr (.inl (dv3 S)))), (o5, .inl (cJ, 18, .inr (.inl (dv4 S)))), (o6, .inl (cJ, 18, .inr (.inl (dv5 S))))] H := hP
    have hD : va_D A [(o0, .inr (0, [.ref o1, .ref o2, .ref o3, .ref o4, .ref o5, .ref o6, .int (fX0_begin_c75 M p1), .int (nI (dbl P)), .int (nI (dbl M)), .int (fX0_begin_m51 P M), .int (dv10 S), .int (dv11 S), .int (dv12 S), .int (dv13 S)])), (o1, .inl (cI, 18, .inl (dv0 S))), (o2, .inl (cI, 18, .inl (dv1 S))), (o3, .inl (cJ, 18, .inr (.inl (vp_updL (dv2 S) (0 : Int32).toNatClampNeg (fX0_begin_c96 P M p0))))), (o4, .inl (cJ, 18, .inr (.inl (dv3 S)))), (o5, .inl (cJ, 18, .inr (.inl (dv4 S)))), (o6, .inl (cJ, 18, .inr (.inl (dv5 S))))] := hD
    refine lv_lload hx hb dX0_begin_97 (lv_at hl 0 rfl) ?_
    have hg : (gX0_begin S P M p0 p1) = (p1 <<< ((nI (dbl M)).toInt64 &&& 63), ((dv0 S), (dv1 S), (vp_updL (dv2 S) (0 : Int32).toNatClampNeg (fX0_begin_c96 P M p0)), (dv3 S), (dv4 S), (dv5 S), (fX0_begin_c75 M p1), (nI (dbl P)), (nI (dbl M)), (fX0_begin_m51 P M), (dv10 S), (dv11 S), (dv12 S), (dv13 S))) := rfl
    exact W.lret (v := p1 <<< ((nI (dbl M)).toInt64 &&& 63)) hx hb hr (fun t ht hW => ⟨⟨p1 <<< ((nI (dbl M)).toInt64 &&& 63), ((dv0 S), (dv1 S), (vp_updL (dv2 S) (0 : Int32).toNatClampNeg (fX0_begin_c96 P M p0)), (dv3 S), (dv4 S), (dv5 S), (fX0_begin_c75 M p1), (nI (dbl P)), (nI (dbl M)), (fX0_begin_m51 P M), (dv10 S), (dv11 S), (dv12 S), (dv13 S)), rfl, ⟨(congrArg Prod.fst hg).symm, (congrArg Prod.snd hg).symm⟩, by rw [ht]; exact hP, va_K.moved hW.alike hK, hD⟩, hS.F ht⟩) hS.2.2 dX0_begin_99
  · refine lv_if_ne (tgt := 38) hx hb dX0_begin_31 (by decide) (fun c_31_3 => ?_) (fun c_31_3 => ?_)
    · refine lv_iconst (v := 3) hx hb dX0_begin_38 (by decide) ?_
      exact kj_4 _ (by unfold fX0_begin_j39; rw [if_neg c_31_3])
    · refine lv_iconst (v := 2) hx hb dX0_begin_34 (by decide) ?_
      refine lv_goto (tgt := 39) hx hb dX0_begin_35 (by decide) ?_
      exact kj_4 _ (by unfold fX0_begin_j39; rw [if_pos c_31_3])
end
section
/-! numbers: ranges of cells, of tables, of doublings -/
theorem i_lt {x y : Int32} (h : x < y) : x.toInt < y.toInt := Int32.lt_iff_toInt_lt.mp h
theorem i_le {x y : Int32} (h : x ≤ y) : x.toInt ≤ y.toInt := Int32.le_iff_toInt_le.mp h
theorem i_nlt {x y : Int32} (h : ¬ x < y) : y.toInt ≤ x.toInt := by
  have : ¬ x.toInt < y.toInt := fun q => h (Int32.lt_iff_toInt_lt.mpr q)
  omega
theorem i_nle {x y : Int32} (h : ¬ x ≤ y) : y.toInt < x.toInt := by
  have : ¬ x.toInt ≤ y.toInt := fun q => h (Int32.le_iff_toInt_le.mpr q)
  omega
theorem i_rng (x : Int32) : -2147483648 ≤ x.toInt ∧ x.toInt < 2147483648 := ⟨Int32.le_toInt x, Int32.toInt_lt x⟩
theorem mt_vp {x : Int32} (h : ¬ fX2_isTable x = 0) : vp_in x 4 := by
  rw [vp_in_iff]
  unfold fX2_isTable fX2_in at h
  split at h
  · exact absurd rfl h
  · split at h
    · exact absurd rfl h
    · rename_i h1 h2
      have h1 := i_nlt h1
      have h2 := i_nlt h2
      have e0 : (0 : Int32).toInt = 0 := rfl
      have e3 : (3 : Int32).toInt = 3 := rfl
      omega
theorem mt_no {x : Int32} (h : fX2_isTable x = 0) : ¬ vp_in x 4 := by
  rw [vp_in_iff]
  intro ⟨q1, q2⟩
  unfold fX2_isTable fX2_in at h
  have e0 : (0 : Int32).toInt = 0 := rfl
  have e3 : (3 : Int32).toInt = 3 := rfl
  rw [if_neg (fun q => by have := i_lt q; omega), if_neg (fun q => by have := i_lt q; omega)] at h
  exact absurd h (by decide)
theorem ct_vp {x : Int32} (h : ¬ fX1_isTable x = 0) : vp_in x 4 := by
  rw [vp_in_iff]
  unfold fX1_isTable at h
  split at h
  · exact absurd rfl h
  · split at h
    · exact absurd rfl h
    · rename_i h1 h2
      have h1 := i_nlt h1
      have h2 := i_nle h2
      have e0 : (0 : Int32).toInt = 0 := rfl
      have e3 : (4 : Int32).toInt = 4 := rfl
      omega
theorem ct_no {x : Int32} (h : fX1_isTable x = 0) : ¬ vp_in x 4 := by
  rw [vp_in_iff]
  intro ⟨q1, q2⟩
  unfold fX1_isTable at h
  have e0 : (0 : Int32).toInt = 0 := rfl
  have e3 : (4 : Int32).toInt = 4 := rfl
  rw [if_neg (fun q => by have := i_lt q; omega), if_neg (fun q => by have := i_le q; omega)] at h
  exact absurd h (by decide)
theorem tb_eq (x : Int32) : fX1_isTable x = fX2_isTable x := by
  rcases fX1_isTable_01 x with h | h <;> rcases fX2_isTable_01 x with h' | h' <;> rw [h, h']
  · exact absurd (mt_vp (by rw [h']; decide)) (ct_no h)
  · exact absurd (ct_vp (by rw [h]; decide)) (mt_no h')
theorem mul_nI {a : Nat} {K : Int32} (k : Nat) (hK : K = nI k) : K * nI a = nI (k * a) := by rw [hK, pk_mul]
theorem mt_in {x : Int32} {i : Nat} (h : vp_in x 4) (hi : i < 2048) : vp_in ((2048 * x) + nI i) 8192 := by
  obtain ⟨j, hj, rfl⟩ := vp_in_of h (by decide)
  rw [mul_nI (K := 2048) 2048 rfl, nI_add]
  exact vp_in_nI (by omega) (by decide)
theorem fl_in {x : Int32} {i j : Nat} (h : vp_in x 4) (hi : i < 16) (hj : j < 128) : vp_in (((2048 * x) + (128 * (nI i))) + (nI j)) 8192 := by
  obtain ⟨k, hk, rfl⟩ := vp_in_of h (by decide)
  rw [mul_nI (K := 2048) 2048 rfl, mul_nI (K := 128) 128 rfl, nI_add, nI_add]
  exact vp_in_nI (by omega) (by decide)
theorem col_of {c : Int32} (h1 : -64 ≤ c.toInt) (h2 : c.toInt ≤ 63) : ∃ k : Nat, k < 128 ∧ c = nI k - 64 := by
  refine ⟨(c.toInt + 64).toNat, by omega, ?_⟩
  apply Int32.toInt_inj.mp
  have e : (64 : Int32) = nI 64 := rfl
  rw [e, pk_sub_toInt (by omega) (by omega)]
  omega
theorem col_sub {k : Nat} (hk : k < 128) : (nI k - 64).toInt = (k : Int) - 64 := by
  have e : (64 : Int32) = nI 64 := rfl
  rw [e, pk_sub_toInt (by omega) (by omega)]
  rfl
theorem col_inj {k j : Nat} (hk : k < 128) (hj : j < 128) (h : nI k - 64 = nI j - 64) : k = j := by
  have := congrArg Int32.toInt h
  rw [col_sub hk, col_sub hj] at this
  omega
theorem cC (ρ k : Nat) : fX1_cellAt (nI ρ) (nI k - 64) = nI (128 * ρ + k) := by
  unfold fX1_cellAt
  have e : (128 : Int32) = nI 128 := rfl
  rw [Int32.sub_neg, Int32.add_assoc, Int32.sub_add_cancel, e, pk_mul, nI_add, Nat.mul_comm]
theorem cM (t ρ k : Nat) : fX2_cellAt (nI t) (nI ρ) (nI k - 64) = nI (2048 * t + 128 * ρ + k) := by
  unfold fX2_cellAt
  rw [Int32.add_assoc _ (nI k - 64) 64, Int32.sub_add_cancel, mul_nI (K := 2048) 2048 rfl, mul_nI (K := 128) 128 rfl, nI_add, nI_add]
theorem cell_C {r c : Int32} (h : ¬ fX1_isCell r c = 0) : ∃ ρ k : Nat, ρ < 16 ∧ k < 128 ∧ r = nI ρ ∧ c = nI k - 64 := by
  unfold fX1_isCell at h
  split at h
  · exact absurd rfl h
  split at h
  · exact absurd rfl h
  split at h
  · exact absurd rfl h
  split at h
  · exact absurd rfl h
  rename_i h1 h2 h3 h4
  have h1' := i_nlt h1
  have h2' := i_nle h2
  have h3' := i_nlt h3
  have h4' := i_nlt h4
  have e0 : (0 : Int32).toInt = 0 := rfl
  have e1 : (16 : Int32).toInt = 16 := rfl
  have e2 : (-64 : Int32).toInt = -64 := rfl
  have e3 : (63 : Int32).toInt = 63 := rfl
  obtain ⟨k, hk, rfl⟩ := col_of (c := c) (by omega) (by omega)
  obtain ⟨ρ, hρ, rfl⟩ := vp_in_of (x := r) (n := 16) (vp_in_iff.mpr (by omega)) (by decide)
  exact ⟨ρ, k, hρ, hk, rfl, rfl⟩
theorem cell_Cn {ρ k : Nat} (hρ : ρ < 16) (hk : k < 128) : fX1_isCell (nI ρ) (nI k - 64) = 1 := by
  unfold fX1_isCell
  have e0 : (0 : Int32).toInt = 0 := rfl
  have e1 : (16 : Int32).toInt = 16 := rfl
  have e2 : (-64 : Int32).toInt = -64 := rfl
  have e3 : (63 : Int32).toInt = 63 := rfl
  have hr := nI_toInt (n := ρ) (by omega)
  have hc := col_sub hk
  rw [if_neg (fun q => by have := i_lt q; omega), if_neg (fun q => by have := i_le q; omega), if_neg (fun q => by have := i_lt q; omega), if_neg (fun q => by have := i_lt q; omega)]
theorem cell_Mn {ρ k : Nat} (hρ : ρ < 16) (hk : k < 128) : fX2_isCell (nI ρ) (nI k - 64) = 1 := by
  unfold fX2_isCell fX2_in
  have e0 : (0 : Int32).toInt = 0 := rfl
  have e1 : (15 : Int32).toInt = 15 := rfl
  have e2 : (-64 : Int32).toInt = -64 := rfl
  have e3 : (63 : Int32).toInt = 63 := rfl
  have hr := nI_toInt (n := ρ) (by omega)
  have hc := col_sub hk
  rw [if_neg (c := nI ρ < 0) (fun q => by have := i_lt q; omega), if_neg (c := (15 : Int32) < nI ρ) (fun q => by have := i_lt q; omega), if_neg (c := (1 : Int32) = 0) (by decide), if_neg (c := nI k - 64 < (-64)) (fun q => by have := i_lt q; omega), if_neg (c := (63 : Int32) < nI k - 64) (fun q => by have := i_lt q; omega), if_neg (c := (1 : Int32) = 0) (by decide)]
theorem cell_M {r c : Int32} (h : ¬ fX2_isCell r c = 0) : ∃ ρ k : Nat, ρ < 16 ∧ k < 128 ∧ r = nI ρ ∧ c = nI k - 64 := by
  unfold fX2_isCell fX2_in at h
  have e0 : (0 : Int32).toInt = 0 := rfl
  have e1 : (15 : Int32).toInt = 15 := rfl
  have e2 : (-64 : Int32).toInt = -64 := rfl
  have e3 : (63 : Int32).toInt = 63 := rfl
  by_cases h1 : r < 0
  · rw [if_pos h1] at h; exact absurd rfl h
  by_cases h2 : 15 < r
  · rw [if_neg h1, if_pos h2] at h; exact absurd rfl h
  rw [if_neg h1, if_neg h2, if_neg (c := (1 : Int32) = 0) (by decide)] at h
  by_cases h3 : c < (-64)
  · rw [if_pos h3] at h; exact absurd rfl h
  by_cases h4 : 63 < c
  · rw [if_neg h3, if_pos h4] at h; exact absurd rfl h
  have h1' := i_nlt h1
  have h2' := i_nlt h2
  have h3' := i_nlt h3
  have h4' := i_nlt h4
  obtain ⟨k, hk, rfl⟩ := col_of (c := c) (by omega) (by omega)
  obtain ⟨ρ, hρ, rfl⟩ := vp_in_of (x := r) (n := 16) (vp_in_iff.mpr (by omega)) (by decide)
  exact ⟨ρ, k, hρ, hk, rfl, rfl⟩
theorem cell_eq (r c : Int32) : fX1_isCell r c = fX2_isCell r c := by
  rcases fX1_isCell_01 r c with h | h <;> rcases fX2_isCell_01 r c with h' | h' <;> rw [h, h']
  · obtain ⟨ρ, k, h1, h2, rfl, rfl⟩ := cell_M (r := r) (c := c) (by rw [h']; decide)
    rw [cell_Cn h1 h2] at h; exact absurd h (by decide)
  · obtain ⟨ρ, k, h1, h2, rfl, rfl⟩ := cell_C (r := r) (c := c) (by rw [h]; decide)
    rw [cell_Mn h1 h2] at h'; exact absurd h' (by decide)
theorem mc_in {t r c : Int32} (ht : vp_in t 4) (h : ¬ fX2_isCell r c = 0) : vp_in (fX2_cellAt t r c) 8192 := by
  obtain ⟨ρ, k, h1, h2, rfl, rfl⟩ := cell_M h
  obtain ⟨j, hj, rfl⟩ := vp_in_of ht (by decide)
  rw [cM]
  exact vp_in_nI (by omega) (by decide)
theorem cc_in {r c : Int32} (h : ¬ fX1_isCell r c = 0) : vp_in (fX1_cellAt r c) 2048 := by
  obtain ⟨ρ, k, h1, h2, rfl, rfl⟩ := cell_C h
  rw [cC]
  exact vp_in_nI (by omega) (by decide)
theorem ax_off {c i n N : Nat} {K : Int32} (hK : K = nI c) (hi : i < n) (h : c + n ≤ N) (hN : N < 2 ^ 31) : vp_in (K + nI i) N := by
  rw [hK, nI_add]
  exact vp_in_nI (by omega) hN
theorem dblF_le (V : Nat) : ∀ n t, dblF V n t ≤ t + n := by
  intro n
  induction n with
  | zero => intro t; exact Nat.le_refl _
  | succ n ih =>
    intro t
    by_cases h : V * 2 ^ (t + 1) < 4294967296
    · rw [dblF_go h]; have := ih (t + 1); omega
    · rw [dblF_stop h]; omega
theorem dblF_spec (V : Nat) : ∀ n t, V * 2 ^ t < 4294967296 → V * 2 ^ (dblF V n t) < 4294967296 ∧ (dblF V n t = t + n ∨ ¬ V * 2 ^ (dblF V n t + 1) < 4294967296) := by
  intro n
  induction n with
  | zero => intro t h; exact ⟨h, Or.inl rfl⟩
  | succ n ih =>
    intro t h0
    by_cases h : V * 2 ^ (t + 1) < 4294967296
    · rw [dblF_go h]
      obtain ⟨a, b⟩ := ih (t + 1) h
      exact ⟨a, b.elim (fun q => Or.inl (by omega)) Or.inr⟩
    · rw [dblF_stop h]; exact ⟨h0, Or.inr h⟩
theorem dbl_le (V : Nat) : dbl V ≤ 31 := by have := dblF_le V 31 0; unfold dbl; omega
theorem dbl_lt {V : Nat} (h2 : V ≤ 2147483648) : V * 2 ^ dbl V < 4294967296 := (dblF_spec V 31 0 (by omega)).1
theorem dbl_stop {V : Nat} (h2 : V ≤ 2147483648) (h : dbl V < 31) : ¬ V * 2 ^ (dbl V + 1) < 4294967296 := by
  rcases (dblF_spec V 31 0 (by omega)).2 with q | q
  · have : dbl V = 0 + 31 := q
    omega
  · exact q
theorem dbl_ge {V : Nat} (h1 : 1 ≤ V) (h2 : V ≤ 2147483648) : 2147483648 ≤ V * 2 ^ dbl V := by
  rcases Nat.lt_or_ge (dbl V) 31 with h | h
  · have := dbl_stop h2 h
    rw [Nat.pow_succ, ← Nat.mul_assoc] at this
    omega
  · have e : dbl V = 31 := by have := dbl_le V; omega
    rw [e]
    omega
theorem dbl_mono {P M : Nat} (hP : P ≤ 2147483648) (h : M ≤ P) : dbl P ≤ dbl M := by
  rcases Nat.lt_or_ge (dbl M) (dbl P) with q | q
  · have hM : M ≤ 2147483648 := by omega
    have h1 := dbl_stop hM (by have := dbl_le P; omega)
    have h2 := dbl_lt hP
    have h3 : 2 ^ (dbl M + 1) ≤ 2 ^ dbl P := Nat.pow_le_pow_right (by decide) q
    have h4 : M * 2 ^ (dbl M + 1) ≤ P * 2 ^ dbl P := Nat.mul_le_mul h h3
    omega
  · exact q
theorem nabs_le (x : Int32) : x.toInt.natAbs ≤ 2147483648 := by have := i_rng x; omega
theorem ax_neg64 (x : Int32) : (-x.toInt64).toInt = -x.toInt := by
  rw [Int64.toInt_neg, Int32.toInt_toInt64]
  have := i_rng x
  rw [Int.bmod_eq_of_le (by omega) (by omega)]
theorem ax_abs (x : Int32) : (if 0 < x.toInt64 then x.toInt64 else -x.toInt64) = lN x.toInt.natAbs := by
  apply Int64.toInt_inj.mp
  have hr := i_rng x
  rw [pk_lT (by omega)]
  split
  · rename_i h
    have h := Int64.lt_iff_toInt_lt.mp h
    rw [Int32.toInt_toInt64] at h ⊢
    have e : (0 : Int64).toInt = 0 := rfl
    omega
  · rename_i h
    have h : ¬ (0 : Int64).toInt < x.toInt64.toInt := fun q => h (Int64.lt_iff_toInt_lt.mpr q)
    rw [ax_neg64]
    rw [Int32.toInt_toInt64] at h
    have e : (0 : Int64).toInt = 0 := rfl
    omega
theorem ax_size (x : Int32) : fX2_sizeOf x = lN x.toInt.natAbs := by
  unfold fX2_sizeOf fX2_sizeOf_j12
  apply Int64.toInt_inj.mp
  have hr := i_rng x
  have e : (0 : Int32).toInt = 0 := rfl
  rw [pk_lT (by omega)]
  split
  · rename_i h
    have h := i_le h
    rw [Int32.toInt_toInt64]
    omega
  · rename_i h
    have h := i_nle h
    rw [ax_neg64]
    omega
def nN (P M : Nat) : Nat := (dbl M - dbl P + (if (dbl M - dbl P) % 2 = 0 then 2 else 3)) / 2
theorem nN_le (P M : Nat) : nN P M ≤ 17 := by
  unfold nN
  have := dbl_le M
  split <;> omega
theorem begin_n {P M : Nat} (h : dbl P ≤ dbl M) : fX0_begin_m51 P M = nI (nN P M) := by
  have h2 := dbl_le M
  unfold fX0_begin_m51 fX0_begin_j39 nN
  generalize dbl M = b at h h2 ⊢
  generalize dbl P = a at h ⊢
  revert a
  have : b < 32 := by omega
  revert b
  have key : ∀ b, b < 32 → ∀ a, a < 32 → a ≤ b → (if (17 : Int32) < ((((nI b) - (nI a)) + (if (((nI b) - (nI a)) - ((nI b) - (nI a)) / 2 * 2) = 0 then 2 else 3)) / 2) then 17 else ((((nI b) - (nI a)) + (if (((nI b) - (nI a)) - ((nI b) - (nI a)) / 2 * 2) = 0 then 2 else 3)) / 2)) = nI ((b - a + (if (b - a) % 2 = 0 then 2 else 3)) / 2) := by decide +kernel
  intro b h2 h3 a h
  exact key b h3 a (by omega) h
theorem begin_row (M : Nat) (p1 : Int64) : ∃ ρ : Nat, ρ < 16 ∧ fX0_begin_c75 M p1 = nI ρ := by
  obtain ⟨j, h1, h2⟩ := pk_andE ((((p1 <<< ((nI (dbl M)).toInt64 &&& 63)) >>> (((27 : Int32)).toInt64 &&& 63)).toInt32)) (m := 15) 4 (by decide)
  exact ⟨j, h1, h2⟩
theorem ne_shl8 {x : Int32} {t : Nat} (hx : x = nI t) (ht : t ≤ 31) : ¬ ((8 : Int64) <<< (x.toInt64 &&& 63)) = 0 := by
  rw [hx]
  have key : ∀ t, t < 32 → ¬ ((8 : Int64) <<< ((nI t).toInt64 &&& 63)) = 0 := by decide +kernel
  exact key t (by omega)
theorem clampC (x : Int32) : ∃ k : Nat, k < 128 ∧ (if (-64) < (if x < 63 then x else 63) then (if x < 63 then x else 63) else (-64)) = nI k - 64 := by
  have e2 : (-64 : Int32).toInt = -64 := rfl
  have e3 : (63 : Int32).toInt = 63 := rfl
  obtain ⟨y, hy, ey⟩ : ∃ y : Int32, y.toInt ≤ 63 ∧ (if x < 63 then x else 63) = y := by
    by_cases h : x < 63
    · exact ⟨x, by have := i_lt h; omega, if_pos h⟩
    · exact ⟨63, by omega, if_neg h⟩
  rw [ey]
  by_cases h : (-64) < y
  · rw [if_pos h]; exact col_of (by have := i_lt h; omega) hy
  · rw [if_neg h]; exact col_of (by omega) (by omega)
theorem take_in {S : DV} {x : Int32} {ρ : Nat} (h : ρ < 16) (e : dv6 S = nI ρ) : vp_in (fX1_cellAt (dv6 S) (fX0_takeDigit_m47 S x)) 2048 := by
  obtain ⟨k, hk, ek⟩ := clampC (fX0_takeDigit_c36 S x)
  have e2 : fX0_takeDigit_m47 S x = nI k - 64 := ek
  rw [e, e2, cC]
  exact vp_in_nI (by omega) (by decide)
theorem lpred (i : Nat) : nI (i + 1) - 1 = nI i := nI_pred i
theorem vp_pred {i N : Nat} (h : i < N) (hN : N < 2 ^ 31) : vp_in (nI (i + 1) - 1) N := by rw [lpred]; exact vp_in_nI h hN
theorem take_9 (S : DV) (tb : Nat → Int32) (x : Int32) (d : Int64) : dv9 (gX0_takeDigit S tb x d) = dv9 S := by unfold gX0_takeDigit; (repeat' split) <;> rfl
theorem take_6 (S : DV) (tb : Nat → Int32) (x : Int32) (d : Int64) : dv6 (gX0_takeDigit S tb x d) = dv6 S := by unfold gX0_takeDigit; (repeat' split) <;> rfl
theorem take_8 (S : DV) (tb : Nat → Int32) (x : Int32) (d : Int64) : dv8 (gX0_takeDigit S tb x d) = dv8 S := by unfold gX0_takeDigit; (repeat' split) <;> rfl
theorem ne_64 {x : Int32} (h : ¬ x = 0) : ¬ x.toInt64 = 0 := fun q => h (by
  apply Int32.toInt_inj.mp
  have := congrArg Int64.toInt q
  rw [Int32.toInt_toInt64] at this
  exact this)
theorem nabs_pos {x : Int32} (h : ¬ x = 0) : 1 ≤ x.toInt.natAbs := by
  have : x.toInt ≠ 0 := fun q => h (Int32.toInt_inj.mp q)
  omega
theorem le_of_64 {P M : Nat} {p m : Int64} (hp : p = lN P) (hm : m = lN M) (hP : P ≤ 2147483648) (hM : M ≤ 2147483648) (h : m ≤ p) : M ≤ P := by
  rw [hp, hm, pk_lLE (by omega) (by omega)] at h
  exact h
/-- the row that a divisor stands at -/
noncomputable def rowX (b : Int32) : Nat := (begin_row b.toInt.natAbs (if 0 < b.toInt64 then b.toInt64 else -b.toInt64)).choose
theorem rowX_lt (b : Int32) : rowX b < 16 := (begin_row b.toInt.natAbs (if 0 < b.toInt64 then b.toInt64 else -b.toInt64)).choose_spec.1
theorem rowX_eq (b : Int32) : fX0_begin_c75 b.toInt.natAbs (if 0 < b.toInt64 then b.toInt64 else -b.toInt64) = nI (rowX b) := (begin_row b.toInt.natAbs (if 0 < b.toInt64 then b.toInt64 else -b.toInt64)).choose_spec.2
end
section
def fX0_run_m2 (p0 : Int32) : Int64 := (if 0 < p0.toInt64 then p0.toInt64 else -p0.toInt64)
def fX0_run_m9 (p1 : Int32) : Int64 := (if 0 < p1.toInt64 then p1.toInt64 else -p1.toInt64)
def fX0_run_c45 (S : DV) (p0 : Int32) (p1 : Int32) : Int64 := ((gX0_begin (gX0_clear S) (p0.toInt.natAbs) (p1.toInt.natAbs) (fX0_run_m2 p0) (fX0_run_m9 p1)).1)
def st_runX0 (S : DV) (tb : Nat → Int32) (p0 : Int32) (p1 : Int32) (i : Nat) (w0 : DV) : DV := (gX0_takeDigit w0 tb (nI (i + 1)) (fX0_run_c45 S p0 p1))
def it_runX0 (S : DV) (tb : Nat → Int32) (p0 : Int32) (p1 : Int32) : Nat → DV
  | 0 => ((gX0_begin (gX0_clear S) (p0.toInt.natAbs) (p1.toInt.natAbs) (fX0_run_m2 p0) (fX0_run_m9 p1)).2)
  | i + 1 => st_runX0 S tb p0 p1 i (it_runX0 S tb p0 p1 i)
def fX0_run_j86 (p0 : Int32) : Int32 := (if 0 ≤ p0 then 0 else 1)
def fX0_run_j95 (p1 : Int32) : Int32 := (if 0 ≤ p1 then 0 else 1)
def fX0_run_j103 (p0 : Int32) (p1 : Int32) : Int32 := (if (fX0_run_j86 p0) = (fX0_run_j95 p1) then 0 else 1)
def fX0_run_j112 (p0 : Int32) : Int32 := (if 0 ≤ p0 then 0 else 1)
def gX0_run (S : DV) (tb : Nat → Int32) (p0 : Int32) (p1 : Int32) : DV := (if (fX0_run_m9 p1) ≤ (fX0_run_m2 p0) then (gX0_finish (it_runX0 S tb p0 p1 (nN (p0.toInt.natAbs) (p1.toInt.natAbs))) (fX0_run_c45 S p0 p1) (fX0_run_j103 p0 p1) (fX0_run_j112 p0)) else ((dv0 (gX0_clear S)), (dv1 (gX0_clear S)), (dv2 (gX0_clear S)), (dv3 (gX0_clear S)), (dv4 (gX0_clear S)), (dv5 (gX0_clear S)), (dv6 (gX0_clear S)), (dv7 (gX0_clear S)), (dv8 (gX0_clear S)), (dv9 (gX0_clear S)), (dv10 (gX0_clear S)), (dv11 (gX0_clear S)), 0, p0))
theorem inX0_X0_run : ∀ w ∈ wsX00, w ∈ wsX0_run := by decide +kernel
set_option maxHeartbeats 4000000 in
set_option maxRecDepth 100000 in
theorem kX0_run (l : Launch) (dC : Nat → ClassId) (dI : Nat → Nat → Nat) (o0 : Nat) (o1 : Nat) (o2 : Nat) (o3 : Nat) (o4 : Nat) (o5 : Nat) (o6 : Nat) (cI : ClassId) (cJ : ClassId) (sz : Nat) (S : DV) (tb : Nat → Int32) (p0 : Int32) (p1 : Int32) (p2 : Nat) (hb0 : ¬ p1 = 0) : Met l yX0_run wsX0_run ({ frames := 2, cells := 0, slots := 0, locals := 59 } : Room) (va_Pc [.ref o0, .int p0, .int p1, .ref p2] (fun U => U.heap.size = sz ∧ va_P (dC, dI) vwCl [(o0, .inr (0, [.ref o1, .ref o2, .ref o3, .ref o4, .ref o5, .ref o6, .int (dv6 S), .int (dv7 S), .int (dv8 S), .int (dv9 S), .int (dv10 S), .int (dv11 S), .int (dv12 S), .int (dv13 S)])), (o1, .inl (cI, 18, .inl (dv0 S))), (o2, .inl (cI, 18, .inl (dv1 S))), (o3, .inl (cJ, 18, .inr (.inl (dv2 S)))), (o4, .inl (cJ, 18, .inr (.inl (dv3 S)))), (o5, .inl (cJ, 18, .inr (.inl (dv4 S)))), (o6, .inl (cJ, 18, .inr (.inl (dv5 S))))] U.heap ∧ va_K (dC, dI) vwCl [(cI, .int), (cJ, .long)] U ∧ va_D (fun _ => True) [(o0, .inr (0, [.ref o1, .ref o2, .ref o3, .ref o4, .ref o5, .ref o6, .int (dv6 S), .int (dv7 S), .int (dv8 S), .int (dv9 S), .int (dv10 S), .int (dv11 S), .int (dv12 S), .int (dv13 S)])), (o1, .inl (cI, 18, .inl (dv0 S))), (o2, .inl (cI, 18, .inl (dv1 S))), (o3, .inl (cJ, 18, .inr (.inl (dv2 S)))), (o4, .inl (cJ, 18, .inr (.inl (dv3 S)))), (o5, .inl (cJ, 18, .inr (.inl (dv4 S)))), (o6, .inl (cJ, 18, .inr (.inl (dv5 S))))] ∧ nwX U ∧ va_T .int p2 2048 (fun j => .int (tb j)) (va_A [(o0, .inr (0, [.ref o1, .ref o2, .ref o3, .ref o4, .ref o5, .ref o6, .int (dv6 S), .int (dv7 S), .int (dv8 S), .int (dv9 S), .int (dv10 S), .int (dv11 S), .int (dv12 S), .int (dv13 S)])), (o1, .inl (cI, 18, .inl (dv0 S))), (o2, .inl (cI, 18, .inl (dv1 S))), (o3, .inl (cJ, 18, .inr (.inl (dv2 S)))), (o4, .inl (cJ, 18, .inr (.inl (dv3 S)))), (o5, .inl (cJ, 18, .inr (.inl (dv4 S)))), (o6, .inl (cJ, 18, .inr (.inl (dv5 S))))] sz) U U.heap)) (va_Qv (fun u : DV => u = (gX0_run S tb p0 p1)) (fun (u : DV) (t : State) => va_P (dC, dI) vwCl [(o0, .inr (0, [.ref o1, .ref o2, .ref o3, .ref o4, .ref o5, .ref o6, .int (dv6 u), .int (dv7 u), .int (dv8 u), .int (dv9 u), .int (dv10 u), .int (dv11 u), .int (dv12 u), .int (dv13 u)])), (o1, .inl (cI, 18, .inl (dv0 u))), (o2, .inl (cI, 18, .inl (dv1 u))), (o3, .inl (cJ, 18, .inr (.inl (dv2 u)))), (o4, .inl (cJ, 18, .inr (.inl (dv3 u)))), (o5, .inl (cJ, 18, .inr (.inl (dv4 u)))), (o6, .inl (cJ, 18, .inr (.inl (dv5 u))))] t.heap ∧ va_K (dC, dI) vwCl [(cI, .int), (cJ, .long)] t ∧ va_D (va_A [(o0, .inr (0, [.ref o1, .ref o2, .ref o3, .ref o4, .ref o5, .ref o6, .int (dv6 S), .int (dv7 S), .int (dv8 S), .int (dv9 S), .int (dv10 S), .int (dv11 S), .int (dv12 S), .int (dv13 S)])), (o1, .inl (cI, 18, .inl (dv0 S))), (o2, .inl (cI, 18, .inl (dv1 S))), (o3, .inl (cJ, 18, .inr (.inl (dv2 S)))), (o4, .inl (cJ, 18, .inr (.inl (dv3 S)))), (o5, .inl (cJ, 18, .inr (.inl (dv4 S)))), (o6, .inl (cJ, 18, .inr (.inl (dv5 S))))] sz) [(o0, .inr (0, [.ref o1, .ref o2, .ref o3, .ref o4, .ref o5, .ref o6, .int (dv6 u), .int (dv7 u), .int (dv8 u), .int (dv9 u), .int (dv10 u), .int (dv11 u), .int (dv12 u), .int (dv13 u)])), (o1, .inl (cI, 18, .inl (dv0 u))), (o2, .inl (cI, 18, .inl (dv1 u))), (o3, .inl (cJ, 18, .inr (.inl (dv2 u)))), (o4, .inl (cJ, 18, .inr (.inl (dv3 u)))), (o5, .inl (cJ, 18, .inr (.inl (dv4 u)))), (o6, .inl (cJ, 18, .inr (.inl (dv5 u))))]) (va_A [(o0, .inr (0, [.ref o1, .ref o2, .ref o3, .ref o4, .ref o5, .ref o6, .int (dv6 S), .int (dv7 S), .int (dv8 S), .int (dv9 S), .int (dv10 S), .int (dv11 S), .int (dv12 S), .int (dv13 S)])), (o1, .inl (cI, 18, .inl (dv0 S))), (o2, .inl (cI, 18, .inl (dv1 S))), (o3, .inl (cJ, 18, .inr (.inl (dv2 S)))), (o4, .inl (cJ, 18, .inr (.inl (dv3 S)))), (o5, .inl (cJ, 18, .inr (.inl (dv4 S)))), (o6, .inl (cJ, 18, .inr (.inl (dv5 S))))] sz)) 0 0 (va_A [(o0, .inr (0, [.ref o1, .ref o2, .ref o3, .ref o4, .ref o5, .ref o6, .int (dv6 S), .int (dv7 S), .int (dv8 S), .int (dv9 S), .int (dv10 S), .int (dv11 S), .int (dv12 S), .int (dv13 S)])), (o1, .inl (cI, 18, .inl (dv0 S))), (o2, .inl (cI, 18, .inl (dv1 S))), (o3, .inl (cJ, 18, .inr (.inl (dv2 S)))), (o4, .inl (cJ, 18, .inr (.inl (dv3 S)))), (o5, .inl (cJ, 18, .inr (.inl (dv4 S)))), (o6, .inl (cJ, 18, .inr (.inl (dv5 S))))] sz) := by
  refine Met.ofW (cc := cX0_run) (maxL := 11) (ret := none) (by decide) rfl ?_
  intro p e s m args below meth c s₁ B hml hv
  obtain ⟨rfl, hsz, hP, hK, hD0, hNw, hT⟩ := hv
  have hx := B.exec
  have hb := B.bytes
  have hr := B.returns
  have hts := atoms_spec (ws := wsX0_run) B.pre
  have hown : s.vm.findClass RX0 = some m.cls := findClass_of_methodNamed B.named
  have hlocks := B.notSynchronized
  subst hsz
  have hD := hD0.self (sz := s.heap.size)
  generalize hAe : va_A [(o0, .inr (0, [.ref o1, .ref o2, .ref o3, .ref o4, .ref o5, .ref o6, .int (dv6 S), .int (dv7 S), .int (dv8 S), .int (dv9 S), .int (dv10 S), .int (dv11 S), .int (dv12 S), .int (dv13 S)])), (o1, .inl (cI, 18, .inl (dv0 S))), (o2, .inl (cI, 18, .inl (dv1 S))), (o3, .inl (cJ, 18, .inr (.inl (dv2 S)))), (o4, .inl (cJ, 18, .inr (.inl (dv3 S)))), (o5, .inl (cJ, 18, .inr (.inl (dv4 S)))), (o6, .inl (cJ, 18, .inr (.inl (dv5 S))))] s.heap.size = A at hD hT ⊢
  have hA : ∀ q : Nat, s.heap.size ≤ q → A q := fun q h => by rw [← hAe]; exact Or.inr h
  have hS : va_S A s.heap s.heap [] := va_S.rf
  have hP : va_P (dC, dI) vwCl [(o0, .inr (0, [.ref o1, .ref o2, .ref o3, .ref o4, .ref o5, .ref o6, .int (dv6 S), .int (dv7 S), .int (dv8 S), .int (dv9 S), .int (dv10 S), .int (dv11 S), .int (dv12 S), .int (dv13 S)])), (o1, .inl (cI, 18, .inl (dv0 S))), (o2, .inl (cI, 18, .inl (dv1 S))), (o3, .inl (cJ, 18, .inr (.inl (dv2 S)))), (o4, .inl (cJ, 18, .inr (.inl (dv3 S)))), (o5, .inl (cJ, 18, .inr (.inl (dv4 S)))), (o6, .inl (cJ, 18, .inr (.inl (dv5 S))))] s.heap := hP
  have hl := lv_entry ([.ref o0, .int p0, .int p1, .ref p2]) (n := 11) (Nat.le_of_ble_eq_true rfl)
  rw [lg_entry_eq]
  generalize (lg_sl ([.ref o0, .int p0, .int p1, .ref p2]) ++ List.replicate (11 - (lg_sl ([.ref o0, .int p0, .int p1, .ref p2])).length) Slot.unset).toArray = ls at hl ⊢
  have hl : lv_has ls 11 [(0, .ref o0), (1, .int p0), (2, .int p1), (3, .ref p2)] := hl
  refine lv_iload_n hx hb dX0_run_0 rfl (lv_at hl 1 rfl) ?_
  refine lv_i2l (v := p0.toInt64) hx hb dX0_run_1 rfl ?_
  refine va_mabs_long hx hb (hml.trans hl.1.symm) hown (hts (.methodLink RX0 56 Lib.MathLoose.abs_long.x) (by decide +kernel)) (hts (.static Lib.MathLoose.abs_long.x) (by decide +kernel)) (hts (.initialized "java/lang/Math") (by decide +kernel)) (hts (.code Lib.MathLoose.abs_long.x Lib.MathLoose.abs_long.code 2 (some .long)) (by decide +kernel)) (Nat.le_of_ble_eq_true rfl) (Nat.le_of_ble_eq_true rfl) (Nat.zero_le _) (Nat.zero_le _) dX0_run_2 ?_
  refine ax_nmL (y := (fX0_run_m2 p0)) rfl ?_
  refine lv_lstore (lv' := [(4, .long (fX0_run_m2 p0)), (0, .ref o0), (1, .int p0), (2, .int p1), (3, .ref p2)]) hx hb dX0_run_5 hl (by decide) rfl (fun ls hl => ?_)
  refine lv_iload_n hx hb dX0_run_7 rfl (lv_at hl 3 rfl) ?_
  refine lv_i2l (v := p1.toInt64) hx hb dX0_run_8 rfl ?_
  refine va_mabs_long hx hb (hml.trans hl.1.symm) hown (hts (.methodLink RX0 56 Lib.MathLoose.abs_long.x) (by decide +kernel)) (hts (.static Lib.MathLoose.abs_long.x) (by decide +kernel)) (hts (.initialized "java/lang/Math") (by decide +kernel)) (hts (.code Lib.MathLoose.abs_long.x Lib.MathLoose.abs_long.code 2 (some .long)) (by decide +kernel)) (Nat.le_of_ble_eq_true rfl) (Nat.le_of_ble_eq_true rfl) (Nat.zero_le _) (Nat.zero_le _) dX0_run_9 ?_
  refine ax_nmL (y := (fX0_run_m9 p1)) rfl ?_
  refine lv_lstore (lv' := [(6, .long (fX0_run_m9 p1)), (4, .long (fX0_run_m2 p0)), (0, .ref o0), (1, .int p0), (2, .int p1), (3, .ref p2)]) hx hb dX0_run_12 hl (by decide) rfl (fun ls hl => ?_)
  refine lv_aload_n hx hb dX0_run_14 rfl (lv_at hl 2 rfl) ?_
  have hPc := hP.sub (ws' := [(o0, .inr (0, [.ref o1, .ref o2, .ref o3, .ref o4, .ref o5, .ref o6, .int (dv6 S), .int (dv7 S), .int (dv8 S), .int (dv9 S), .int (dv10 S), .int (dv11 S), .int (dv12 S), .int (dv13 S)])), (o1, .inl (cI, 18, .inl (dv0 S))), (o2, .inl (cI, 18, .inl (dv1 S))), (o3, .inl (cJ, 18, .inr (.inl (dv2 S)))), (o4, .inl (cJ, 18, .inr (.inl (dv3 S)))), (o5, .inl (cJ, 18, .inr (.inl (dv4 S)))), (o6, .inl (cJ, 18, .inr (.inl (dv5 S))))]) [0, 1, 2, 3, 4, 5, 6] rfl
  have hKc := hK.sub (tys' := [(cI, .int), (cJ, .long)]) [0, 1] rfl
  have hDc := hD.sub (ws' := [(o0, .inr (0, [.ref o1, .ref o2, .ref o3, .ref o4, .ref o5, .ref o6, .int (dv6 S), .int (dv7 S), .int (dv8 S), .int (dv9 S), .int (dv10 S), .int (dv11 S), .int (dv12 S), .int (dv13 S)])), (o1, .inl (cI, 18, .inl (dv0 S))), (o2, .inl (cI, 18, .inl (dv1 S))), (o3, .inl (cJ, 18, .inr (.inl (dv2 S)))), (o4, .inl (cJ, 18, .inr (.inl (dv3 S)))), (o5, .inl (cJ, 18, .inr (.inl (dv4 S)))), (o6, .inl (cJ, 18, .inr (.inl (dv5 S))))]) [0, 1, 2, 3, 4, 5, 6] (by decide) rfl
  have hFc := va_free (wc := [(o0, .inr (0, [.ref o1, .ref o2, .ref o3, .ref o4, .ref o5, .ref o6, .int (dv6 S), .int (dv7 S), .int (dv8 S), .int (dv9 S), .int (dv10 S), .int (dv11 S), .int (dv12 S), .int (dv13 S)])), (o1, .inl (cI, 18, .inl (dv0 S))), (o2, .inl (cI, 18, .inl (dv1 S))), (o3, .inl (cJ, 18, .inr (.inl (dv2 S)))), (o4, .inl (cJ, 18, .inr (.inl (dv3 S)))), (o5, .inl (cJ, 18, .inr (.inl (dv4 S)))), (o6, .inl (cJ, 18, .inr (.inl (dv5 S))))]) hD hS hA [0, 1, 2, 3, 4, 5, 6] rfl
  refine va_callv (va_runV (As := []) (rest := []) ⟨hx, hb, hml, hown, hts⟩ (kX0_clear l dC dI o0 o1 o2 o3 o4 o5 o6 cI cJ s.heap.size S) (cwV 0 hts gX0_run_X0_clear rfl rfl rfl (by decide +kernel) ⟨Nat.le_of_ble_eq_true rfl, Nat.le_of_ble_eq_true rfl⟩) ⟨fun a U g mk q => by obtain ⟨q0, q1, qP, qK, qD⟩ := q; exact ⟨q0, q1, qP, va_K.moved (u := U) (U := U.calling g mk a) (Vm.Alike.refl U.vm) qK, qD⟩, va_recv hKc hPc (ci := 0) (q0 := 0) rfl rfl, fun U hU hW => ⟨rfl, by rw [hU], by rw [hU]; exact hPc, va_K.moved hW.alike hKc, hDc.weaken (fun _ _ _ _ => trivial)⟩⟩ rfl rfl hl.1 rfl (lv_room (Nat.le_of_ble_eq_true rfl)) dX0_run_15 ⟨Nat.zero_le _, Nat.zero_le _⟩) hS (fun q _ h => hFc q h) hFc (fun u_1 t H1 locs ht hvm hw hB hz1 hk1 hS => ?_)
  try dsimp only at hw
  subst hw
  obtain ⟨hP1, hK1, hD1⟩ := hB
  rw [ht] at hP1
  have hK1 := va_K.moved hvm.symm hK1
  obtain ⟨hP, hD⟩ := va_join (wr := []) (w1 := [(o0, .inr (0, [.ref o1, .ref o2, .ref o3, .ref o4, .ref o5, .ref o6, .int (dv6 (gX0_clear S)), .int (dv7 (gX0_clear S)), .int (dv8 (gX0_clear S)), .int (dv9 (gX0_clear S)), .int (dv10 (gX0_clear S)), .int (dv11 (gX0_clear S)), .int (dv12 (gX0_clear S)), .int (dv13 (gX0_clear S))])), (o1, .inl (cI, 18, .inl (dv0 (gX0_clear S)))), (o2, .inl (cI, 18, .inl (dv1 (gX0_clear S)))), (o3, .inl (cJ, 18, .inr (.inl (dv2 (gX0_clear S))))), (o4, .inl (cJ, 18, .inr (.inl (dv3 (gX0_clear S))))), (o5, .inl (cJ, 18, .inr (.inl (dv4 (gX0_clear S))))), (o6, .inl (cJ, 18, .inr (.inl (dv5 (gX0_clear S)))))]) hP hD [0, 1, 2, 3, 4, 5, 6] [] rfl rfl (by decide) (by decide) hk1 hFc hP1 hD1
  generalize H1 = H at hP hS ⊢
  have hP : va_P (dC, dI) vwCl [(o0, .inr (0, [.ref o1, .ref o2, .ref o3, .ref o4, .ref o5, .ref o6, .int (dv6 (gX0_clear S)), .int (dv7 (gX0_clear S)), .int (dv8 (gX0_clear S)), .int (dv9 (gX0_clear S)), .int (dv10 (gX0_clear S)), .int (dv11 (gX0_clear S)), .int (dv12 (gX0_clear S)), .int (dv13 (gX0_clear S))])), (o1, .inl (cI, 18, .inl (dv0 (gX0_clear S)))), (o2, .inl (cI, 18, .inl (dv1 (gX0_clear S)))), (o3, .inl (cJ, 18, .inr (.inl (dv2 (gX0_clear S))))), (o4, .inl (cJ, 18, .inr (.inl (dv3 (gX0_clear S))))), (o5, .inl (cJ, 18, .inr (.inl (dv4 (gX0_clear S))))), (o6, .inl (cJ, 18, .inr (.inl (dv5 (gX0_clear S)))))] H := hP.sub [0, 1, 2, 3, 4, 5, 6] rfl
  have hD : va_D A [(o0, .inr (0, [.ref o1, .ref o2, .ref o3, .ref o4, .ref o5, .ref o6, .int (dv6 (gX0_clear S)), .int (dv7 (gX0_clear S)), .int (dv8 (gX0_clear S)), .int (dv9 (gX0_clear S)), .int (dv10 (gX0_clear S)), .int (dv11 (gX0_clear S)), .int (dv12 (gX0_clear S)), .int (dv13 (gX0_clear S))])), (o1, .inl (cI, 18, .inl (dv0 (gX0_clear S)))), (o2, .inl (cI, 18, .inl (dv1 (gX0_clear S)))), (o3, .inl (cJ, 18, .inr (.inl (dv2 (gX0_clear S))))), (o4, .inl (cJ, 18, .inr (.inl (dv3 (gX0_clear S))))), (o5, .inl (cJ, 18, .inr (.inl (dv4 (gX0_clear S))))), (o6, .inl (cJ, 18, .inr (.inl (dv5 (gX0_clear S)))))] := hD.sub [0, 1, 2, 3, 4, 5, 6] (by decide) rfl
  refine lv_lload hx hb dX0_run_18 (lv_at hl 1 rfl) ?_
  refine lv_lload hx hb dX0_run_20 (lv_at hl 0 rfl) ?_
  refine W.lcmp hx hb dX0_run_22 ?_
  refine lv_if_ge (tgt := 37) hx hb dX0_run_23 (by decide) (fun c_23_2 => ?_) (fun c_23_2 => ?_)
  · have c_23_2 := (lg_cmp_ge _ _).mp c_23_2
    refine lv_aload_n hx hb dX0_run_37 rfl (lv_at hl 2 rfl) ?_
    refine lv_lload hx hb dX0_run_38 (lv_at hl 1 rfl) ?_
    refine lv_lload hx hb dX0_run_40 (lv_at hl 0 rfl) ?_
    have hMP : (p1.toInt.natAbs) ≤ (p0.toInt.natAbs) := le_of_64 (ax_abs p0) (ax_abs p1) (nabs_le p0) (nabs_le p1) c_23_2
    have hPc := hP.sub (ws' := [(o0, .inr (0, [.ref o1, .ref o2, .ref o3, .ref o4, .ref o5, .ref o6, .int (dv6 (gX0_clear S)), .int (dv7 (gX0_clear S)), .int (dv8 (gX0_clear S)), .int (dv9 (gX0_clear S)), .int (dv10 (gX0_clear S)), .int (dv11 (gX0_clear S)), .int (dv12 (gX0_clear S)), .int (dv13 (gX0_clear S))])), (o1, .inl (cI, 18, .inl (dv0 (gX0_clear S)))), (o2, .inl (cI, 18, .inl (dv1 (gX0_clear S)))), (o3, .inl (cJ, 18, .inr (.inl (dv2 (gX0_clear S))))), (o4, .inl (cJ, 18, .inr (.inl (dv3 (gX0_clear S))))), (o5, .inl (cJ, 18, .inr (.inl (dv4 (gX0_clear S))))), (o6, .inl (cJ, 18, .inr (.inl (dv5 (gX0_clear S)))))]) [0, 1, 2, 3, 4, 5, 6] rfl
    have hKc := hK.sub (tys' := [(cI, .int), (cJ, .long)]) [0, 1] rfl
    have hDc := hD.sub (ws' := [(o0, .inr (0, [.ref o1, .ref o2, .ref o3, .ref o4, .ref o5, .ref o6, .int (dv6 (gX0_clear S)), .int (dv7 (gX0_clear S)), .int (dv8 (gX0_clear S)), .int (dv9 (gX0_clear S)), .int (dv10 (gX0_clear S)), .int (dv11 (gX0_clear S)), .int (dv12 (gX0_clear S)), .int (dv13 (gX0_clear S))])), (o1, .inl (cI, 18, .inl (dv0 (gX0_clear S)))), (o2, .inl (cI, 18, .inl (dv1 (gX0_clear S)))), (o3, .inl (cJ, 18, .inr (.inl (dv2 (gX0_clear S))))), (o4, .inl (cJ, 18, .inr (.inl (dv3 (gX0_clear S))))), (o5, .inl (cJ, 18, .inr (.inl (dv4 (gX0_clear S))))), (o6, .inl (cJ, 18, .inr (.inl (dv5 (gX0_clear S)))))]) [0, 1, 2, 3, 4, 5, 6] (by decide) rfl
    have hFc := va_free (wc := [(o0, .inr (0, [.ref o1, .ref o2, .ref o3, .ref o4, .ref o5, .ref o6, .int (dv6 (gX0_clear S)), .int (dv7 (gX0_clear S)), .int (dv8 (gX0_clear S)), .int (dv9 (gX0_clear S)), .int (dv10 (gX0_clear S)), .int (dv11 (gX0_clear S)), .int (dv12 (gX0_clear S)), .int (dv13 (gX0_clear S))])), (o1, .inl (cI, 18, .inl (dv0 (gX0_clear S)))), (o2, .inl (cI, 18, .inl (dv1 (gX0_clear S)))), (o3, .inl (cJ, 18, .inr (.inl (dv2 (gX0_clear S))))), (o4, .inl (cJ, 18, .inr (.inl (dv3 (gX0_clear S))))), (o5, .inl (cJ, 18, .inr (.inl (dv4 (gX0_clear S))))), (o6, .inl (cJ, 18, .inr (.inl (dv5 (gX0_clear S)))))]) hD hS hA [0, 1, 2, 3, 4, 5, 6] rfl
    refine va_calll (va_runV (As := [.long (fX0_run_m2 p0), .long (fX0_run_m9 p1)]) (rest := []) ⟨hx, hb, hml, hown, hts⟩ (kX0_begin l dC dI o0 o1 o2 o3 o4 o5 o6 cI cJ H.size (gX0_clear S) (p0.toInt.natAbs) (p1.toInt.natAbs) (fX0_run_m2 p0) (fX0_run_m9 p1) (ax_abs p0) (nabs_le p0) (ax_abs p1) (nabs_le p1)) (cwV 2 hts gX0_run_X0_begin rfl rfl rfl (by decide +kernel) ⟨Nat.le_of_ble_eq_true rfl, Nat.le_of_ble_eq_true rfl⟩) ⟨fun a U g mk q => by obtain ⟨q0, q1, qP, qK, qD⟩ := q; exact ⟨q0, q1, qP, va_K.moved (u := U) (U := U.calling g mk a) (Vm.Alike.refl U.vm) qK, qD⟩, va_recv hKc hPc (ci := 0) (q0 := 0) rfl rfl, fun U hU hW => ⟨rfl, by rw [hU], by rw [hU]; exact hPc, va_K.moved hW.alike hKc, hDc.weaken (fun _ _ _ _ => trivial)⟩⟩ rfl rfl hl.1 rfl (lv_room (Nat.le_of_ble_eq_true rfl)) dX0_run_42 ⟨Nat.zero_le _, Nat.zero_le _⟩) hS (fun q _ h => hFc q h) hFc (fun r_3 u_3 t H1 locs ht hvm hw hB hz1 hk1 hS => ?_)
    try dsimp only at hw
    obtain ⟨hw1, hw2⟩ := hw
    subst hw1
    subst hw2
    obtain ⟨hP1, hK1, hD1⟩ := hB
    rw [ht] at hP1
    have hK1 := va_K.moved hvm.symm hK1
    obtain ⟨hP, hD⟩ := va_join (wr := []) (w1 := [(o0, .inr (0, [.ref o1, .ref o2, .ref o3, .ref o4, .ref o5, .ref o6, .int (dv6 ((gX0_begin (gX0_clear S) (p0.toInt.natAbs) (p1.toInt.natAbs) (fX0_run_m2 p0) (fX0_run_m9 p1)).2)), .int (dv7 ((gX0_begin (gX0_clear S) (p0.toInt.natAbs) (p1.toInt.natAbs) (fX0_run_m2 p0) (fX0_run_m9 p1)).2)), .int (dv8 ((gX0_begin (gX0_clear S) (p0.toInt.natAbs) (p1.toInt.natAbs) (fX0_run_m2 p0) (fX0_run_m9 p1)).2)), .int (dv9 ((gX0_begin (gX0_clear S) (p0.toInt.natAbs) (p1.toInt.natAbs) (fX0_run_m2 p0) (fX0_run_m9 p1)).2)), .int (dv10 ((gX0_begin (gX0_clear S) (p0.toInt.natAbs) (p1.toInt.natAbs) (fX0_run_m2 p0) (fX0_run_m9 p1)).2)), .int (dv11 ((gX0_begin (gX0_clear S) (p0.toInt.natAbs) (p1.toInt.natAbs) (fX0_run_m2 p0) (fX0_run_m9 p1)).2)), .int (dv12 ((gX0_begin (gX0_clear S) (p0.toInt.natAbs) (p1.toInt.natAbs) (fX0_run_m2 p0) (fX0_run_m9 p1)).2)), .int (dv13 ((gX0_begin (gX0_clear S) (p0.toInt.natAbs) (p1.toInt.natAbs) (fX0_run_m2 p0) (fX0_run_m9 p1)).2))])), (o1, .inl (cI, 18, .inl (dv0 ((gX0_begin (gX0_clear S) (p0.toInt.natAbs) (p1.toInt.natAbs) (fX0_run_m2 p0) (fX0_run_m9 p1)).2)))), (o2, .inl (cI, 18, .inl (dv1 ((gX0_begin (gX0_clear S) (p0.toInt.natAbs) (p1.toInt.natAbs) (fX0_run_m2 p0) (fX0_run_m9 p1)).2)))), (o3, .inl (cJ, 18, .inr (.inl (dv2 ((gX0_begin (gX0_clear S) (p0.toInt.natAbs) (p1.toInt.natAbs) (fX0_run_m2 p0) (fX0_run_m9 p1)).2))))), (o4, .inl (cJ, 18, .inr (.inl (dv3 ((gX0_begin (gX0_clear S) (p0.toInt.natAbs) (p1.toInt.natAbs) (fX0_run_m2 p0) (fX0_run_m9 p1)).2))))), (o5, .inl (cJ, 18, .inr (.inl (dv4 ((gX0_begin (gX0_clear S) (p0.toInt.natAbs) (p1.toInt.natAbs) (fX0_run_m2 p0) (fX0_run_m9 p1)).2))))), (o6, .inl (cJ, 18, .inr (.inl (dv5 ((gX0_begin (gX0_clear S) (p0.toInt.natAbs) (p1.toInt.natAbs) (fX0_run_m2 p0) (fX0_run_m9 p1)).2)))))]) hP hD [0, 1, 2, 3, 4, 5, 6] [] rfl rfl (by decide) (by decide) hk1 hFc hP1 hD1
    generalize H1 = H at hP hS ⊢
    have hP : va_P (dC, dI) vwCl [(o0, .inr (0, [.ref o1, .ref o2, .ref o3, .ref o4, .ref o5, .ref o6, .int (dv6 ((gX0_begin (gX0_clear S) (p0.toInt.natAbs) (p1.toInt.natAbs) (fX0_run_m2 p0) (fX0_run_m9 p1)).2)), .int (dv7 ((gX0_begin (gX0_clear S) (p0.toInt.natAbs) (p1.toInt.natAbs) (fX0_run_m2 p0) (fX0_run_m9 p1)).2)), .int (dv8 ((gX0_begin (gX0_clear S) (p0.toInt.natAbs) (p1.toInt.natAbs) (fX0_run_m2 p0) (fX0_run_m9 p1)).2)), .int (dv9 ((gX0_begin (gX0_clear S) (p0.toInt.natAbs) (p1.toInt.natAbs) (fX0_run_m2 p0) (fX0_run_m9 p1)).2)), .int (dv10 ((gX0_begin (gX0_clear S) (p0.toInt.natAbs) (p1.toInt.natAbs) (fX0_run_m2 p0) (fX0_run_m9 p1)).2)), .int (dv11 ((gX0_begin (gX0_clear S) (p0.toInt.natAbs) (p1.toInt.natAbs) (fX0_run_m2 p0) (fX0_run_m9 p1)).2)), .int (dv12 ((gX0_begin (gX0_clear S) (p0.toInt.natAbs) (p1.toInt.natAbs) (fX0_run_m2 p0) (fX0_run_m9 p1)).2)), .int (dv13 ((gX0_begin (gX0_clear S) (p0.toInt.natAbs) (p1.toInt.natAbs) (fX0_run_m2 p0) (fX0_run_m9 p1)).2))])), (o1, .inl (cI, 18, .inl (dv0 ((gX0_begin (gX0_clear S) (p0.toInt.natAbs) (p1.toInt.natAbs) (fX0_run_m2 p0) (fX0_run_m9 p1)).2)))), (o2, .inl (cI, 18, .inl (dv1 ((gX0_begin (gX0_clear S) (p0.toInt.natAbs) (p1.toInt.natAbs) (fX0_run_m2 p0) (fX0_run_m9 p1)).2)))), (o3, .inl (cJ, 18, .inr (.inl (dv2 ((gX0_begin (gX0_clear S) (p0.toInt.natAbs) (p1.toInt.natAbs) (fX0_run_m2 p0) (fX0_run_m9 p1)).2))))), (o4, .inl (cJ, 18, .inr (.inl (dv3 ((gX0_begin (gX0_clear S) (p0.toInt.natAbs) (p1.toInt.natAbs) (fX0_run_m2 p0) (fX0_run_m9 p1)).2))))), (o5, .inl (cJ, 18, .inr (.inl (dv4 ((gX0_begin (gX0_clear S) (p0.toInt.natAbs) (p1.toInt.natAbs) (fX0_run_m2 p0) (fX0_run_m9 p1)).2))))), (o6, .inl (cJ, 18, .inr (.inl (dv5 ((gX0_begin (gX0_clear S) (p0.toInt.natAbs) (p1.toInt.natAbs) (fX0_run_m2 p0) (fX0_run_m9 p1)).2)))))] H := hP.sub [0, 1, 2, 3, 4, 5, 6] rfl
    have hD : va_D A [(o0, .inr (0, [.ref o1, .ref o2, .ref o3, .ref o4, .ref o5, .ref o6, .int (dv6 ((gX0_begin (gX0_clear S) (p0.toInt.natAbs) (p1.toInt.natAbs) (fX0_run_m2 p0) (fX0_run_m9 p1)).2)), .int (dv7 ((gX0_begin (gX0_clear S) (p0.toInt.natAbs) (p1.toInt.natAbs) (fX0_run_m2 p0) (fX0_run_m9 p1)).2)), .int (dv8 ((gX0_begin (gX0_clear S) (p0.toInt.natAbs) (p1.toInt.natAbs) (fX0_run_m2 p0) (fX0_run_m9 p1)).2)), .int (dv9 ((gX0_begin (gX0_clear S) (p0.toInt.natAbs) (p1.toInt.natAbs) (fX0_run_m2 p0) (fX0_run_m9 p1)).2)), .int (dv10 ((gX0_begin (gX0_clear S) (p0.toInt.natAbs) (p1.toInt.natAbs) (fX0_run_m2 p0) (fX0_run_m9 p1)).2)), .int (dv11 ((gX0_begin (gX0_clear S) (p0.toInt.natAbs) (p1.toInt.natAbs) (fX0_run_m2 p0) (fX0_run_m9 p1)).2)), .int (dv12 ((gX0_begin (gX0_clear S) (p0.toInt.natAbs) (p1.toInt.natAbs) (fX0_run_m2 p0) (fX0_run_m9 p1)).2)), .int (dv13 ((gX0_begin (gX0_clear S) (p0.toInt.natAbs) (p1.toInt.natAbs) (fX0_run_m2 p0) (fX0_run_m9 p1)).2))])), (o1, .inl (cI, 18, .inl (dv0 ((gX0_begin (gX0_clear S) (p0.toInt.natAbs) (p1.toInt.natAbs) (fX0_run_m2 p0) (fX0_run_m9 p1)).2)))), (o2, .inl (cI, 18, .inl (dv1 ((gX0_begin (gX0_clear S) (p0.toInt.natAbs) (p1.toInt.natAbs) (fX0_run_m2 p0) (fX0_run_m9 p1)).2)))), (o3, .inl (cJ, 18, .inr (.inl (dv2 ((gX0_begin (gX0_clear S) (p0.toInt.natAbs) (p1.toInt.natAbs) (fX0_run_m2 p0) (fX0_run_m9 p1)).2))))), (o4, .inl (cJ, 18, .inr (.inl (dv3 ((gX0_begin (gX0_clear S) (p0.toInt.natAbs) (p1.toInt.natAbs) (fX0_run_m2 p0) (fX0_run_m9 p1)).2))))), (o5, .inl (cJ, 18, .inr (.inl (dv4 ((gX0_begin (gX0_clear S) (p0.toInt.natAbs) (p1.toInt.natAbs) (fX0_run_m2 p0) (fX0_run_m9 p1)).2))))), (o6, .inl (cJ, 18, .inr (.inl (dv5 ((gX0_begin (gX0_clear S) (p0.toInt.natAbs) (p1.toInt.natAbs) (fX0_run_m2 p0) (fX0_run_m9 p1)).2)))))] := hD.sub [0, 1, 2, 3, 4, 5, 6] (by decide) rfl
    refine ax_nmL (y := (fX0_run_c45 S p0 p1)) rfl ?_
    refine lv_lstore (lv' := [(8, .long (fX0_run_c45 S p0 p1)), (6, .long (fX0_run_m9 p1)), (4, .long (fX0_run_m2 p0)), (0, .ref o0), (1, .int p0), (2, .int p1), (3, .ref p2)]) hx hb dX0_run_45 hl (by decide) rfl (fun ls hl => ?_)
    refine lv_iconst (v := 1) hx hb dX0_run_47 (by decide) ?_
    refine lv_istore (lv' := [(10, .int 1), (8, .long (fX0_run_c45 S p0 p1)), (6, .long (fX0_run_m9 p1)), (4, .long (fX0_run_m2 p0)), (0, .ref o0), (1, .int p0), (2, .int p1), (3, .ref p2)]) hx hb dX0_run_48 hl (by decide) rfl (fun ls hl => ?_)
    refine ax_loopS (pc := 50) (fun i H locs ls => ∃ w0 : DV, w0 = (it_runX0 S tb p0 p1 i) ∧ dv9 w0 = nI (nN (p0.toInt.natAbs) (p1.toInt.natAbs)) ∧ (rowX p1 < 16 ∧ dv6 w0 = nI (rowX p1)) ∧ dv8 w0 = nI (dbl (p1.toInt.natAbs)) ∧ va_P (dC, dI) vwCl [(o0, .inr (0, [.ref o1, .ref o2, .ref o3, .ref o4, .ref o5, .ref o6, .int (dv6 w0), .int (dv7 w0), .int (dv8 w0), .int (dv9 w0), .int (dv10 w0), .int (dv11 w0), .int (dv12 w0), .int (dv13 w0)])), (o1, .inl (cI, 18, .inl (dv0 w0))), (o2, .inl (cI, 18, .inl (dv1 w0))), (o3, .inl (cJ, 18, .inr (.inl (dv2 w0)))), (o4, .inl (cJ, 18, .inr (.inl (dv3 w0)))), (o5, .inl (cJ, 18, .inr (.inl (dv4 w0)))), (o6, .inl (cJ, 18, .inr (.inl (dv5 w0))))] H ∧ va_D A [(o0, .inr (0, [.ref o1, .ref o2, .ref o3, .ref o4, .ref o5, .ref o6, .int (dv6 w0), .int (dv7 w0), .int (dv8 w0), .int (dv9 w0), .int (dv10 w0), .int (dv11 w0), .int (dv12 w0), .int (dv13 w0)])), (o1, .inl (cI, 18, .inl (dv0 w0))), (o2, .inl (cI, 18, .inl (dv1 w0))), (o3, .inl (cJ, 18, .inr (.inl (dv2 w0)))), (o4, .inl (cJ, 18, .inr (.inl (dv3 w0)))), (o5, .inl (cJ, 18, .inr (.inl (dv4 w0)))), (o6, .inl (cJ, 18, .inr (.inl (dv5 w0))))] ∧ va_S A s.heap H locs ∧ lv_has ls 11 [(10, .int (nI (i + 1))), (8, .long (fX0_run_c45 S p0 p1)), (6, .long (fX0_run_m9 p1)), (4, .long (fX0_run_m2 p0)), (0, .ref o0), (1, .int p0), (2, .int p1), (3, .ref p2)]) (nN (p0.toInt.natAbs) (p1.toInt.natAbs)) (fun i hii ihi H locs ls hIi => ?_) ⟨((gX0_begin (gX0_clear S) (p0.toInt.natAbs) (p1.toInt.natAbs) (fX0_run_m2 p0) (fX0_run_m9 p1)).2), rfl, begin_n (dbl_mono (nabs_le p0) hMP), ⟨rowX_lt p1, rowX_eq p1⟩, rfl, hP, hD, hS, lv_sub hl [0, 1, 2, 3, 4, 5, 6, 7] rfl⟩
    obtain ⟨w0, ew0, hn, hrow, iv_t, hP, hD, hS, hl⟩ := hIi
    have hP : va_P (dC, dI) vwCl [(o0, .inr (0, [.ref o1, .ref o2, .ref o3, .ref o4, .ref o5, .ref o6, .int (dv6 w0), .int (dv7 w0), .int (dv8 w0), .int (dv9 w0), .int (dv10 w0), .int (dv11 w0), .int (dv12 w0), .int (dv13 w0)])), (o1, .inl (cI, 18, .inl (dv0 w0))), (o2, .inl (cI, 18, .inl (dv1 w0))), (o3, .inl (cJ, 18, .inr (.inl (dv2 w0)))), (o4, .inl (cJ, 18, .inr (.inl (dv3 w0)))), (o5, .inl (cJ, 18, .inr (.inl (dv4 w0)))), (o6, .inl (cJ, 18, .inr (.inl (dv5 w0))))] H := hP
    have hD : va_D A [(o0, .inr (0, [.ref o1, .ref o2, .ref o3, .ref o4, .ref o5, .ref o6, .int (dv6 w0), .int (dv7 w0), .int (dv8 w0), .int (dv9 w0), .int (dv10 w0), .int (dv11 w0), .int (dv12 w0), .int (dv13 w0)])), (o1, .inl (cI, 18, .inl (dv0 w0))), (o2, .inl (cI, 18, .inl (dv1 w0))), (o3, .inl (cJ, 18, .inr (.inl (dv2 w0)))), (o4, .inl (cJ, 18, .inr (.inl (dv3 w0)))), (o5, .inl (cJ, 18, .inr (.inl (dv4 w0)))), (o6, .inl (cJ, 18, .inr (.inl (dv5 w0))))] := hD
    refine lv_iload hx hb dX0_run_50 (lv_at hl 0 rfl) ?_
    refine lv_aload_n hx hb dX0_run_52 rfl (lv_at hl 4 rfl) ?_
    refine va_get (D := (dC, dI)) (ci := 0) (v := .int (dv9 w0)) (C := RX0) (T := TX0) (N := 14) hx hb hts inX0_X0_run hown hK hP 0 rfl rfl 9 (by decide) (hts (.fieldLink RX0 41 "DigitDivider$Division" "n" "I") (by decide +kernel)) (fun _ h9 => h9) rfl dX0_run_53 ?_
    refine lv_icmp_gt (tgt := 74) hx hb dX0_run_56 (by decide) (fun c_56_4 => ?_) (fun c_56_4 => ?_)
    · obtain rfl : i = (nN (p0.toInt.natAbs) (p1.toInt.natAbs)) := ax_endL hn (by have := nN_le (p0.toInt.natAbs) (p1.toInt.natAbs); omega) hii c_56_4
      subst ew0
      refine lv_aload_n hx hb dX0_run_74 rfl (lv_at hl 4 rfl) ?_
      refine lv_lload hx hb dX0_run_75 (lv_at hl 1 rfl) ?_
      refine lv_iload_n hx hb dX0_run_77 rfl (lv_at hl 5 rfl) ?_
      refine ax_joinI (J := 86) (v := (fX0_run_j86 p0)) (ls := ls) (rest := [.long (fX0_run_c45 S p0 p1), .ref o0]) ?_ (fun kj_14 => ?_)
      · refine lv_iload_n hx hb dX0_run_86 rfl (lv_at hl 6 rfl) ?_
        refine ax_joinI (J := 95) (v := (fX0_run_j95 p1)) (ls := ls) (rest := [.int (fX0_run_j86 p0), .long (fX0_run_c45 S p0 p1), .ref o0]) ?_ (fun kj_13 => ?_)
        · refine ax_joinI (J := 103) (v := (fX0_run_j103 p0 p1)) (ls := ls) (rest := [.long (fX0_run_c45 S p0 p1), .ref o0]) ?_ (fun kj_12 => ?_)
          · refine lv_iload_n hx hb dX0_run_103 rfl (lv_at hl 5 rfl) ?_
            refine ax_joinI (J := 112) (v := (fX0_run_j112 p0)) (ls := ls) (rest := [.int (fX0_run_j103 p0 p1), .long (fX0_run_c45 S p0 p1), .ref o0]) ?_ (fun kj_11 => ?_)
            · have hPc := hP.sub (ws' := [(o0, .inr (0, [.ref o1, .ref o2, .ref o3, .ref o4, .ref o5, .ref o6, .int (dv6 (it_runX0 S tb p0 p1 (nN (p0.toInt.natAbs) (p1.toInt.natAbs)))), .int (dv7 (it_runX0 S tb p0 p1 (nN (p0.toInt.natAbs) (p1.toInt.natAbs)))), .int (dv8 (it_runX0 S tb p0 p1 (nN (p0.toInt.natAbs) (p1.toInt.natAbs)))), .int (dv9 (it_runX0 S tb p0 p1 (nN (p0.toInt.natAbs) (p1.toInt.natAbs)))), .int (dv10 (it_runX0 S tb p0 p1 (nN (p0.toInt.natAbs) (p1.toInt.natAbs)))), .int (dv11 (it_runX0 S tb p0 p1 (nN (p0.toInt.natAbs) (p1.toInt.natAbs)))), .int (dv12 (it_runX0 S tb p0 p1 (nN (p0.toInt.natAbs) (p1.toInt.natAbs)))), .int (dv13 (it_runX0 S tb p0 p1 (nN (p0.toInt.natAbs) (p1.toInt.natAbs))))])), (o1, .inl (cI, 18, .inl (dv0 (it_runX0 S tb p0 p1 (nN (p0.toInt.natAbs) (p1.toInt.natAbs)))))), (o2, .inl (cI, 18, .inl (dv1 (it_runX0 S tb p0 p1 (nN (p0.toInt.natAbs) (p1.toInt.natAbs)))))), (o3, .inl (cJ, 18, .inr (.inl (dv2 (it_runX0 S tb p0 p1 (nN (p0.toInt.natAbs) (p1.toInt.natAbs))))))), (o4, .inl (cJ, 18, .inr (.inl (dv3 (it_runX0 S tb p0 p1 (nN (p0.toInt.natAbs) (p1.toInt.natAbs))))))), (o5, .inl (cJ, 18, .inr (.inl (dv4 (it_runX0 S tb p0 p1 (nN (p0.toInt.natAbs) (p1.toInt.natAbs))))))), (o6, .inl (cJ, 18, .inr (.inl (dv5 (it_runX0 S tb p0 p1 (nN (p0.toInt.natAbs) (p1.toInt.natAbs)))))))]) [0, 1, 2, 3, 4, 5, 6] rfl
              have hKc := hK.sub (tys' := [(cI, .int), (cJ, .long)]) [0, 1] rfl
              have hDc := hD.sub (ws' := [(o0, .inr (0, [.ref o1, .ref o2, .ref o3, .ref o4, .ref o5, .ref o6, .int (dv6 (it_runX0 S tb p0 p1 (nN (p0.toInt.natAbs) (p1.toInt.natAbs)))), .int (dv7 (it_runX0 S tb p0 p1 (nN (p0.toInt.natAbs) (p1.toInt.natAbs)))), .int (dv8 (it_runX0 S tb p0 p1 (nN (p0.toInt.natAbs) (p1.toInt.natAbs)))), .int (dv9 (it_runX0 S tb p0 p1 (nN (p0.toInt.natAbs) (p1.toInt.natAbs)))), .int (dv10 (it_runX0 S tb p0 p1 (nN (p0.toInt.natAbs) (p1.toInt.natAbs)))), .int (dv11 (it_runX0 S tb p0 p1 (nN (p0.toInt.natAbs) (p1.toInt.natAbs)))), .int (dv12 (it_runX0 S tb p0 p1 (nN (p0.toInt.natAbs) (p1.toInt.natAbs)))), .int (dv13 (it_runX0 S tb p0 p1 (nN (p0.toInt.natAbs) (p1.toInt.natAbs))))])), (o1, .inl (cI, 18, .inl (dv0 (it_runX0 S tb p0 p1 (nN (p0.toInt.natAbs) (p1.toInt.natAbs)))))), (o2, .inl (cI, 18, .inl (dv1 (it_runX0 S tb p0 p1 (nN (p0.toInt.natAbs) (p1.toInt.natAbs)))))), (o3, .inl (cJ, 18, .inr (.inl (dv2 (it_runX0 S tb p0 p1 (nN (p0.toInt.natAbs) (p1.toInt.natAbs))))))), (o4, .inl (cJ, 18, .inr (.inl (dv3 (it_runX0 S tb p0 p1 (nN (p0.toInt.natAbs) (p1.toInt.natAbs))))))), (o5, .inl (cJ, 18, .inr (.inl (dv4 (it_runX0 S tb p0 p1 (nN (p0.toInt.natAbs) (p1.toInt.natAbs))))))), (o6, .inl (cJ, 18, .inr (.inl (dv5 (it_runX0 S tb p0 p1 (nN (p0.toInt.natAbs) (p1.toInt.natAbs)))))))]) [0, 1, 2, 3, 4, 5, 6] (by decide) rfl
              have hFc := va_free (wc := [(o0, .inr (0, [.ref o1, .ref o2, .ref o3, .ref o4, .ref o5, .ref o6, .int (dv6 (it_runX0 S tb p0 p1 (nN (p0.toInt.natAbs) (p1.toInt.natAbs)))), .int (dv7 (it_runX0 S tb p0 p1 (nN (p0.toInt.natAbs) (p1.toInt.natAbs)))), .int (dv8 (it_runX0 S tb p0 p1 (nN (p0.toInt.natAbs) (p1.toInt.natAbs)))), .int (dv9 (it_runX0 S tb p0 p1 (nN (p0.toInt.natAbs) (p1.toInt.natAbs)))), .int (dv10 (it_runX0 S tb p0 p1 (nN (p0.toInt.natAbs) (p1.toInt.natAbs)))), .int (dv11 (it_runX0 S tb p0 p1 (nN (p0.toInt.natAbs) (p1.toInt.natAbs)))), .int (dv12 (it_runX0 S tb p0 p1 (nN (p0.toInt.natAbs) (p1.toInt.natAbs)))), .int (dv13 (it_runX0 S tb p0 p1 (nN (p0.toInt.natAbs) (p1.toInt.natAbs))))])), (o1, .inl (cI, 18, .inl (dv0 (it_runX0 S tb p0 p1 (nN (p0.toInt.natAbs) (p1.toInt.natAbs)))))), (o2, .inl (cI, 18, .inl (dv1 (it_runX0 S tb p0 p1 (nN (p0.toInt.natAbs) (p1.toInt.natAbs)))))), (o3, .inl (cJ, 18, .inr (.inl (dv2 (it_runX0 S tb p0 p1 (nN (p0.toInt.natAbs) (p1.toInt.natAbs))))))), (o4, .inl (cJ, 18, .inr (.inl (dv3 (it_runX0 S tb p0 p1 (nN (p0.toInt.natAbs) (p1.toInt.natAbs))))))), (o5, .inl (cJ, 18, .inr (.inl (dv4 (it_runX0 S tb p0 p1 (nN (p0.toInt.natAbs) (p1.toInt.natAbs))))))), (o6, .inl (cJ, 18, .inr (.inl (dv5 (it_runX0 S tb p0 p1 (nN (p0.toInt.natAbs) (p1.toInt.natAbs)))))))]) hD hS hA [0, 1, 2, 3, 4, 5, 6] rfl
              refine va_callv (va_runV (As := [.long (fX0_run_c45 S p0 p1), .int (fX0_run_j103 p0 p1), .int (fX0_run_j112 p0)]) (rest := []) ⟨hx, hb, hml, hown, hts⟩ (kX0_finish l dC dI o0 o1 o2 o3 o4 o5 o6 cI cJ H.size (it_runX0 S tb p0 p1 (nN (p0.toInt.natAbs) (p1.toInt.natAbs))) (fX0_run_c45 S p0 p1) (fX0_run_j103 p0 p1) (fX0_run_j112 p0) (by rw [hn]; exact vp_in_nI (by have := nN_le (p0.toInt.natAbs) (p1.toInt.natAbs); omega) (by decide)) (ne_shl8 iv_t (dbl_le _))) (cwV 3 hts gX0_run_X0_finish rfl rfl rfl (by decide +kernel) ⟨Nat.le_of_ble_eq_true rfl, Nat.le_of_ble_eq_true rfl⟩) ⟨fun a U g mk q => by obtain ⟨q0, q1, qP, qK, qD⟩ := q; exact ⟨q0, q1, qP, va_K.moved (u := U) (U := U.calling g mk a) (Vm.Alike.refl U.vm) qK, qD⟩, va_recv hKc hPc (ci := 0) (q0 := 0) rfl rfl, fun U hU hW => ⟨rfl, by rw [hU], by rw [hU]; exact hPc, va_K.moved hW.alike hKc, hDc.weaken (fun _ _ _ _ => trivial)⟩⟩ rfl rfl hl.1 rfl (lv_room (Nat.le_of_ble_eq_true rfl)) dX0_run_112 ⟨Nat.zero_le _, Nat.zero_le _⟩) hS (fun q _ h => hFc q h) hFc (fun u_10 t H1 locs ht hvm hw hB hz1 hk1 hS => ?_)
              try dsimp only at hw
              subst hw
              obtain ⟨hP1, hK1, hD1⟩ := hB
              rw [ht] at hP1
              have hK1 := va_K.moved hvm.symm hK1
              obtain ⟨hP, hD⟩ := va_join (wr := []) (w1 := [(o0, .inr (0, [.ref o1, .ref o2, .ref o3, .ref o4, .ref o5, .ref o6, .int (dv6 (gX0_finish (it_runX0 S tb p0 p1 (nN (p0.toInt.natAbs) (p1.toInt.natAbs))) (fX0_run_c45 S p0 p1) (fX0_run_j103 p0 p1) (fX0_run_j112 p0))), .int (dv7 (gX0_finish (it_runX0 S tb p0 p1 (nN (p0.toInt.natAbs) (p1.toInt.natAbs))) (fX0_run_c45 S p0 p1) (fX0_run_j103 p0 p1) (fX0_run_j112 p0))), .int (dv8 (gX0_finish (it_runX0 S tb p0 p1 (nN (p0.toInt.natAbs) (p1.toInt.natAbs))) (fX0_run_c45 S p0 p1) (fX0_run_j103 p0 p1) (fX0_run_j112 p0))), .int (dv9 (gX0_finish (it_runX0 S tb p0 p1 (nN (p0.toInt.natAbs) (p1.toInt.natAbs))) (fX0_run_c45 S p0 p1) (fX0_run_j103 p0 p1) (fX0_run_j112 p0))), .int (dv10 (gX0_finish (it_runX0 S tb p0 p1 (nN (p0.toInt.natAbs) (p1.toInt.natAbs))) (fX0_run_c45 S p0 p1) (fX0_run_j103 p0 p1) (fX0_run_j112 p0))), .int (dv11 (gX0_finish (it_runX0 S tb p0 p1 (nN (p0.toInt.natAbs) (p1.toInt.natAbs))) (fX0_run_c45 S p0 p1) (fX0_run_j103 p0 p1) (fX0_run_j112 p0))), .int (dv12 (gX0_finish (it_runX0 S tb p0 p1 (nN (p0.toInt.natAbs) (p1.toInt.natAbs))) (fX0_run_c45 S p0 p1) (fX0_run_j103 p0 p1) (fX0_run_j112 p0))), .int (dv13 (gX0_finish (it_runX0 S tb p0 p1 (nN (p0.toInt.natAbs) (p1.toInt.natAbs))) (fX0_run_c45 S p0 p1) (fX0_run_j103 p0 p1) (fX0_run_j112 p0)))])), (o1, .inl (cI, 18, .inl (dv0 (gX0_finish (it_runX0 S tb p0 p1 (nN (p0.toInt.natAbs) (p1.toInt.natAbs))) (fX0_run_c45 S p0 p1) (fX0_run_j103 p0 p1) (fX0_run_j112 p0))))), (o2, .inl (cI, 18, .inl (dv1 (gX0_finish (it_runX0 S tb p0 p1 (nN (p0.toInt.natAbs) (p1.toInt.natAbs))) (fX0_run_c45 S p0 p1) (fX0_run_j103 p0 p1) (fX0_run_j112 p0))))), (o3, .inl (cJ, 18, .inr (.inl (dv2 (gX0_finish (it_runX0 S tb p0 p1 (nN (p0.toInt.natAbs) (p1.toInt.natAbs))) (fX0_run_c45 S p0 p1) (fX0_run_j103 p0 p1) (fX0_run_j112 p0)))))), (o4, .inl (cJ, 18, .inr (.inl (dv3 (gX0_finish (it_runX0 S tb p0 p1 (nN (p0.toInt.natAbs) (p1.toInt.natAbs))) (fX0_run_c45 S p0 p1) (fX0_run_j103 p0 p1) (fX0_run_j112 p0)))))), (o5, .inl (cJ, 18, .inr (.inl (dv4 (gX0_finish (it_runX0 S tb p0 p1 (nN (p0.toInt.natAbs) (p1.toInt.natAbs))) (fX0_run_c45 S p0 p1) (fX0_run_j103 p0 p1) (fX0_run_j112 p0)))))), (o6, .inl (cJ, 18, .inr (.inl (dv5 (gX0_finish (it_runX0 S tb p0 p1 (nN (p0.toInt.natAbs) (p1.toInt.natAbs))) (fX0_run_c45 S p0 p1) (fX0_run_j103 p0 p1) (fX0_run_j112 p0))))))]) hP hD [0, 1, 2, 3, 4, 5, 6] [] rfl rfl (by decide) (by decide) hk1 hFc hP1 hD1
              generalize H1 = H at hP hS ⊢
              have hP : va_P (dC, dI) vwCl [(o0, .inr (0, [.ref o1, .ref o2, .ref o3, .ref o4, .ref o5, .ref o6, .int (dv6 (gX0_finish (it_runX0 S tb p0 p1 (nN (p0.toInt.natAbs) (p1.toInt.natAbs))) (fX0_run_c45 S p0 p1) (fX0_run_j103 p0 p1) (fX0_run_j112 p0))), .int (dv7 (gX0_finish (it_runX0 S tb p0 p1 (nN (p0.toInt.natAbs) (p1.toInt.natAbs))) (fX0_run_c45 S p0 p1) (fX0_run_j103 p0 p1) (fX0_run_j112 p0))), .int (dv8 (gX0_finish (it_runX0 S tb p0 p1 (nN (p0.toInt.natAbs) (p1.toInt.natAbs))) (fX0_run_c45 S p0 p1) (fX0_run_j103 p0 p1) (fX0_run_j112 p0))), .int (dv9 (gX0_finish (it_runX0 S tb p0 p1 (nN (p0.toInt.natAbs) (p1.toInt.natAbs))) (fX0_run_c45 S p0 p1) (fX0_run_j103 p0 p1) (fX0_run_j112 p0))), .int (dv10 (gX0_finish (it_runX0 S tb p0 p1 (nN (p0.toInt.natAbs) (p1.toInt.natAbs))) (fX0_run_c45 S p0 p1) (fX0_run_j103 p0 p1) (fX0_run_j112 p0))), .int (dv11 (gX0_finish (it_runX0 S tb p0 p1 (nN (p0.toInt.natAbs) (p1.toInt.natAbs))) (fX0_run_c45 S p0 p1) (fX0_run_j103 p0 p1) (fX0_run_j112 p0))), .int (dv12 (gX0_finish (it_runX0 S tb p0 p1 (nN (p0.toInt.natAbs) (p1.toInt.natAbs))) (fX0_run_c45 S p0 p1) (fX0_run_j103 p0 p1) (fX0_run_j112 p0))), .int (dv13 (gX0_finish (it_runX0 S tb p0 p1 (nN (p0.toInt.natAbs) (p1.toInt.natAbs))) (fX0_run_c45 S p0 p1) (fX0_run_j103 p0 p1) (fX0_run_j112 p0)))])), (o1, .inl (cI, 18, .inl (dv0 (gX0_finish (it_runX0 S tb p0 p1 (nN (p0.toInt.natAbs) (p1.toInt.natAbs))) (fX0_run_c45 S p0 p1) (fX0_run_j103 p0 p1) (fX0_run_j112 p0))))), (o2, .inl (cI, 18, .inl (dv1 (gX0_finish (it_runX0 S tb p0 p1 (nN (p0.toInt.natAbs) (p1.toInt.natAbs))) (fX0_run_c45 S p0 p1) (fX0_run_j103 p0 p1) (fX0_run_j112 p0))))), (o3, .inl (cJ, 18, .inr (.inl (dv2 (gX0_finish (it_runX0 S tb p0 p1 (nN (p0.toInt.natAbs) (p1.toInt.natAbs))) (fX0_run_c45 S p0 p1) (fX0_run_j103 p0 p1) (fX0_run_j112 p0)))))), (o4, .inl (cJ, 18, .inr (.inl (dv3 (gX0_finish (it_runX0 S tb p0 p1 (nN (p0.toInt.natAbs) (p1.toInt.natAbs))) (fX0_run_c45 S p0 p1) (fX0_run_j103 p0 p1) (fX0_run_j112 p0)))))), (o5, .inl (cJ, 18, .inr (.inl (dv4 (gX0_finish (it_runX0 S tb p0 p1 (nN (p0.toInt.natAbs) (p1.toInt.natAbs))) (fX0_run_c45 S p0 p1) (fX0_run_j103 p0 p1) (fX0_run_j112 p0)))))), (o6, .inl (cJ, 18, .inr (.inl (dv5 (gX0_finish (it_runX0 S tb p0 p1 (nN (p0.toInt.natAbs) (p1.toInt.natAbs))) (fX0_run_c45 S p0 p1) (fX0_run_j103 p0 p1) (fX0_run_j112 p0))))))] H := hP.sub [0, 1, 2, 3, 4, 5, 6] rfl
              have hD : va_D A [(o0, .inr (0, [.ref o1, .ref o2, .ref o3, .ref o4, .ref o5, .ref o6, .int (dv6 (gX0_finish (it_runX0 S tb p0 p1 (nN (p0.toInt.natAbs) (p1.toInt.natAbs))) (fX0_run_c45 S p0 p1) (fX0_run_j103 p0 p1) (fX0_run_j112 p0))), .int (dv7 (gX0_finish (it_runX0 S tb p0 p1 (nN (p0.toInt.natAbs) (p1.toInt.natAbs))) (fX0_run_c45 S p0 p1) (fX0_run_j103 p0 p1) (fX0_run_j112 p0))), .int (dv8 (gX0_finish (it_runX0 S tb p0 p1 (nN (p0.toInt.natAbs) (p1.toInt.natAbs))) (fX0_run_c45 S p0 p1) (fX0_run_j103 p0 p1) (fX0_run_j112 p0))), .int (dv9 (gX0_finish (it_runX0 S tb p0 p1 (nN (p0.toInt.natAbs) (p1.toInt.natAbs))) (fX0_run_c45 S p0 p1) (fX0_run_j103 p0 p1) (fX0_run_j112 p0))), .int (dv10 (gX0_finish (it_runX0 S tb p0 p1 (nN (p0.toInt.natAbs) (p1.toInt.natAbs))) (fX0_run_c45 S p0 p1) (fX0_run_j103 p0 p1) (fX0_run_j112 p0))), .int (dv11 (gX0_finish (it_runX0 S tb p0 p1 (nN (p0.toInt.natAbs) (p1.toInt.natAbs))) (fX0_run_c45 S p0 p1) (fX0_run_j103 p0 p1) (fX0_run_j112 p0))), .int (dv12 (gX0_finish (it_runX0 S tb p0 p1 (nN (p0.toInt.natAbs) (p1.toInt.natAbs))) (fX0_run_c45 S p0 p1) (fX0_run_j103 p0 p1) (fX0_run_j112 p0))), .int (dv13 (gX0_finish (it_runX0 S tb p0 p1 (nN (p0.toInt.natAbs) (p1.toInt.natAbs))) (fX0_run_c45 S p0 p1) (fX0_run_j103 p0 p1) (fX0_run_j112 p0)))])), (o1, .inl (cI, 18, .inl (dv0 (gX0_finish (it_runX0 S tb p0 p1 (nN (p0.toInt.natAbs) (p1.toInt.natAbs))) (fX0_run_c45 S p0 p1) (fX0_run_j103 p0 p1) (fX0_run_j112 p0))))), (o2, .inl (cI, 18, .inl (dv1 (gX0_finish (it_runX0 S tb p0 p1 (nN (p0.toInt.natAbs) (p1.toInt.natAbs))) (fX0_run_c45 S p0 p1) (fX0_run_j103 p0 p1) (fX0_run_j112 p0))))), (o3, .inl (cJ, 18, .inr (.inl (dv2 (gX0_finish (it_runX0 S tb p0 p1 (nN (p0.toInt.natAbs) (p1.toInt.natAbs))) (fX0_run_c45 S p0 p1) (fX0_run_j103 p0 p1) (fX0_run_j112 p0)))))), (o4, .inl (cJ, 18, .inr (.inl (dv3 (gX0_finish (it_runX0 S tb p0 p1 (nN (p0.toInt.natAbs) (p1.toInt.natAbs))) (fX0_run_c45 S p0 p1) (fX0_run_j103 p0 p1) (fX0_run_j112 p0)))))), (o5, .inl (cJ, 18, .inr (.inl (dv4 (gX0_finish (it_runX0 S tb p0 p1 (nN (p0.toInt.natAbs) (p1.toInt.natAbs))) (fX0_run_c45 S p0 p1) (fX0_run_j103 p0 p1) (fX0_run_j112 p0)))))), (o6, .inl (cJ, 18, .inr (.inl (dv5 (gX0_finish (it_runX0 S tb p0 p1 (nN (p0.toInt.natAbs) (p1.toInt.natAbs))) (fX0_run_c45 S p0 p1) (fX0_run_j103 p0 p1) (fX0_run_j112 p0))))))] := hD.sub [0, 1, 2, 3, 4, 5, 6] (by decide) rfl
              exact W.vret hx hb hr (fun t ht hW => ⟨⟨(gX0_finish (it_runX0 S tb p0 p1 (nN (p0.toInt.natAbs) (p1.toInt.natAbs))) (fX0_run_c45 S p0 p1) (fX0_run_j103 p0 p1) (fX0_run_j112 p0)), rfl, (by unfold gX0_run; rw [if_pos c_23_2]), by rw [ht]; exact hP, va_K.moved hW.alike hK, hD⟩, hS.F ht⟩) hS.2.2 dX0_run_115
            · refine lv_if_ge (tgt := 111) hx hb dX0_run_104 (by decide) (fun c_104_9 => ?_) (fun c_104_9 => ?_)
              · refine lv_iconst (v := 0) hx hb dX0_run_111 (by decide) ?_
                exact kj_11 _ (by unfold fX0_run_j112; rw [if_pos c_104_9])
              · refine lv_iconst (v := 1) hx hb dX0_run_107 (by decide) ?_
                refine lv_goto (tgt := 112) hx hb dX0_run_108 (by decide) ?_
                exact kj_11 _ (by unfold fX0_run_j112; rw [if_neg c_104_9])
          · refine lv_icmp_eq (tgt := 102) hx hb dX0_run_95 (by decide) (fun c_95_8 => ?_) (fun c_95_8 => ?_)
            · refine lv_iconst (v := 0) hx hb dX0_run_102 (by decide) ?_
              exact kj_12 _ (by unfold fX0_run_j103; rw [if_pos c_95_8])
            · refine lv_iconst (v := 1) hx hb dX0_run_98 (by decide) ?_
              refine lv_goto (tgt := 103) hx hb dX0_run_99 (by decide) ?_
              exact kj_12 _ (by unfold fX0_run_j103; rw [if_neg c_95_8])
        · refine lv_if_ge (tgt := 94) hx hb dX0_run_87 (by decide) (fun c_87_7 => ?_) (fun c_87_7 => ?_)
          · refine lv_iconst (v := 0) hx hb dX0_run_94 (by decide) ?_
            exact kj_13 _ (by unfold fX0_run_j95; rw [if_pos c_87_7])
          · refine lv_iconst (v := 1) hx hb dX0_run_90 (by decide) ?_
            refine lv_goto (tgt := 95) hx hb dX0_run_91 (by decide) ?_
            exact kj_13 _ (by unfold fX0_run_j95; rw [if_neg c_87_7])
      · refine lv_if_ge (tgt := 85) hx hb dX0_run_78 (by decide) (fun c_78_6 => ?_) (fun c_78_6 => ?_)
        · refine lv_iconst (v := 0) hx hb dX0_run_85 (by decide) ?_
          exact kj_14 _ (by unfold fX0_run_j86; rw [if_pos c_78_6])
        · refine lv_iconst (v := 1) hx hb dX0_run_81 (by decide) ?_
          refine lv_goto (tgt := 86) hx hb dX0_run_82 (by decide) ?_
          exact kj_14 _ (by unfold fX0_run_j86; rw [if_neg c_78_6])
    · have hlti : i < (nN (p0.toInt.natAbs) (p1.toInt.natAbs)) := ax_moreL hn (by have := nN_le (p0.toInt.natAbs) (p1.toInt.natAbs); omega) hii c_56_4
      refine lv_aload_n hx hb dX0_run_59 rfl (lv_at hl 4 rfl) ?_
      refine lv_iload hx hb dX0_run_60 (lv_at hl 0 rfl) ?_
      refine lv_lload hx hb dX0_run_62 (lv_at hl 1 rfl) ?_
      refine lv_aload_n hx hb dX0_run_64 rfl (lv_at hl 7 rfl) ?_
      have hPc := hP.sub (ws' := [(o0, .inr (0, [.ref o1, .ref o2, .ref o3, .ref o4, .ref o5, .ref o6, .int (dv6 w0), .int (dv7 w0), .int (dv8 w0), .int (dv9 w0), .int (dv10 w0), .int (dv11 w0), .int (dv12 w0), .int (dv13 w0)])), (o1, .inl (cI, 18, .inl (dv0 w0))), (o2, .inl (cI, 18, .inl (dv1 w0))), (o3, .inl (cJ, 18, .inr (.inl (dv2 w0)))), (o4, .inl (cJ, 18, .inr (.inl (dv3 w0)))), (o5, .inl (cJ, 18, .inr (.inl (dv4 w0)))), (o6, .inl (cJ, 18, .inr (.inl (dv5 w0))))]) [0, 1, 2, 3, 4, 5, 6] rfl
      have hKc := hK.sub (tys' := [(cI, .int), (cJ, .long)]) [0, 1] rfl
      have hDc := hD.sub (ws' := [(o0, .inr (0, [.ref o1, .ref o2, .ref o3, .ref o4, .ref o5, .ref o6, .int (dv6 w0), .int (dv7 w0), .int (dv8 w0), .int (dv9 w0), .int (dv10 w0), .int (dv11 w0), .int (dv12 w0), .int (dv13 w0)])), (o1, .inl (cI, 18, .inl (dv0 w0))), (o2, .inl (cI, 18, .inl (dv1 w0))), (o3, .inl (cJ, 18, .inr (.inl (dv2 w0)))), (o4, .inl (cJ, 18, .inr (.inl (dv3 w0)))), (o5, .inl (cJ, 18, .inr (.inl (dv4 w0)))), (o6, .inl (cJ, 18, .inr (.inl (dv5 w0))))]) [0, 1, 2, 3, 4, 5, 6] (by decide) rfl
      have hFc := va_free (wc := [(o0, .inr (0, [.ref o1, .ref o2, .ref o3, .ref o4, .ref o5, .ref o6, .int (dv6 w0), .int (dv7 w0), .int (dv8 w0), .int (dv9 w0), .int (dv10 w0), .int (dv11 w0), .int (dv12 w0), .int (dv13 w0)])), (o1, .inl (cI, 18, .inl (dv0 w0))), (o2, .inl (cI, 18, .inl (dv1 w0))), (o3, .inl (cJ, 18, .inr (.inl (dv2 w0)))), (o4, .inl (cJ, 18, .inr (.inl (dv3 w0)))), (o5, .inl (cJ, 18, .inr (.inl (dv4 w0)))), (o6, .inl (cJ, 18, .inr (.inl (dv5 w0))))]) hD hS hA [0, 1, 2, 3, 4, 5, 6] rfl
      refine va_callv (va_runV (As := [.int (nI (i + 1)), .long (fX0_run_c45 S p0 p1), .ref p2]) (rest := []) ⟨hx, hb, hml, hown, hts⟩ (kX0_takeDigit l dC dI o0 o1 o2 o3 o4 o5 o6 cI cJ H.size w0 tb (nI (i + 1)) (fX0_run_c45 S p0 p1) p2 (vp_pred (by have := nN_le (p0.toInt.natAbs) (p1.toInt.natAbs); omega) (by decide)) (take_in hrow.1 hrow.2) (vp_in_nI (by have := nN_le (p0.toInt.natAbs) (p1.toInt.natAbs); omega) (by decide))) (cwV 3 hts gX0_run_X0_takeDigit rfl rfl rfl (by decide +kernel) ⟨Nat.le_of_ble_eq_true rfl, Nat.le_of_ble_eq_true rfl⟩) ⟨fun a U g mk q => by obtain ⟨q0, q1, qP, qK, qD, e5, e6⟩ := q; exact ⟨q0, q1, qP, va_K.moved (u := U) (U := U.calling g mk a) (Vm.Alike.refl U.vm) qK, qD, nw_same (u := U) (U := U.calling g mk a) rfl e5, e6⟩, va_recv hKc hPc (ci := 0) (q0 := 0) rfl rfl, fun U hU hW => ⟨rfl, by rw [hU], by rw [hU]; exact hPc, va_K.moved hW.alike hKc, hDc.weaken (fun _ _ _ _ => trivial), nw_warm hW hNw, by rw [hU]; exact va_T.moved hW.alike ((va_T.kept hT (fun a h1 h2 => hS.2.1 a h1 h2)).narrow hFc)⟩⟩ rfl rfl hl.1 rfl (lv_room (Nat.le_of_ble_eq_true rfl)) dX0_run_65 ⟨Nat.zero_le _, Nat.zero_le _⟩) hS (fun q _ h => hFc q h) hFc (fun u_5 t H1 locs ht hvm hw hB hz1 hk1 hS => ?_)
      try dsimp only at hw
      subst hw
      obtain ⟨hP1, hK1, hD1⟩ := hB
      rw [ht] at hP1
      have hK1 := va_K.moved hvm.symm hK1
      obtain ⟨hP, hD⟩ := va_join (wr := []) (w1 := [(o0, .inr (0, [.ref o1, .ref o2, .ref o3, .ref o4, .ref o5, .ref o6, .int (dv6 (gX0_takeDigit w0 tb (nI (i + 1)) (fX0_run_c45 S p0 p1))), .int (dv7 (gX0_takeDigit w0 tb (nI (i + 1)) (fX0_run_c45 S p0 p1))), .int (dv8 (gX0_takeDigit w0 tb (nI (i + 1)) (fX0_run_c45 S p0 p1))), .int (dv9 (gX0_takeDigit w0 tb (nI (i + 1)) (fX0_run_c45 S p0 p1))), .int (dv10 (gX0_takeDigit w0 tb (nI (i + 1)) (fX0_run_c45 S p0 p1))), .int (dv11 (gX0_takeDigit w0 tb (nI (i + 1)) (fX0_run_c45 S p0 p1))), .int (dv12 (gX0_takeDigit w0 tb (nI (i + 1)) (fX0_run_c45 S p0 p1))), .int (dv13 (gX0_takeDigit w0 tb (nI (i + 1)) (fX0_run_c45 S p0 p1)))])), (o1, .inl (cI, 18, .inl (dv0 (gX0_takeDigit w0 tb (nI (i + 1)) (fX0_run_c45 S p0 p1))))), (o2, .inl (cI, 18, .inl (dv1 (gX0_takeDigit w0 tb (nI (i + 1)) (fX0_run_c45 S p0 p1))))), (o3, .inl (cJ, 18, .inr (.inl (dv2 (gX0_takeDigit w0 tb (nI (i + 1)) (fX0_run_c45 S p0 p1)))))), (o4, .inl (cJ, 18, .inr (.inl (dv3 (gX0_takeDigit w0 tb (nI (i + 1)) (fX0_run_c45 S p0 p1)))))), (o5, .inl (cJ, 18, .inr (.inl (dv4 (gX0_takeDigit w0 tb (nI (i + 1)) (fX0_run_c45 S p0 p1)))))), (o6, .inl (cJ, 18, .inr (.inl (dv5 (gX0_takeDigit w0 tb (nI (i + 1)) (fX0_run_c45 S p0 p1))))))]) hP hD [0, 1, 2, 3, 4, 5, 6] [] rfl rfl (by decide) (by decide) hk1 hFc hP1 hD1
      generalize H1 = H at hP hS ⊢
      have hP : va_P (dC, dI) vwCl [(o0, .inr (0, [.ref o1, .ref o2, .ref o3, .ref o4, .ref o5, .ref o6, .int (dv6 (gX0_takeDigit w0 tb (nI (i + 1)) (fX0_run_c45 S p0 p1))), .int (dv7 (gX0_takeDigit w0 tb (nI (i + 1)) (fX0_run_c45 S p0 p1))), .int (dv8 (gX0_takeDigit w0 tb (nI (i + 1)) (fX0_run_c45 S p0 p1))), .int (dv9 (gX0_takeDigit w0 tb (nI (i + 1)) (fX0_run_c45 S p0 p1))), .int (dv10 (gX0_takeDigit w0 tb (nI (i + 1)) (fX0_run_c45 S p0 p1))), .int (dv11 (gX0_takeDigit w0 tb (nI (i + 1)) (fX0_run_c45 S p0 p1))), .int (dv12 (gX0_takeDigit w0 tb (nI (i + 1)) (fX0_run_c45 S p0 p1))), .int (dv13 (gX0_takeDigit w0 tb (nI (i + 1)) (fX0_run_c45 S p0 p1)))])), (o1, .inl (cI, 18, .inl (dv0 (gX0_takeDigit w0 tb (nI (i + 1)) (fX0_run_c45 S p0 p1))))), (o2, .inl (cI, 18, .inl (dv1 (gX0_takeDigit w0 tb (nI (i + 1)) (fX0_run_c45 S p0 p1))))), (o3, .inl (cJ, 18, .inr (.inl (dv2 (gX0_takeDigit w0 tb (nI (i + 1)) (fX0_run_c45 S p0 p1)))))), (o4, .inl (cJ, 18, .inr (.inl (dv3 (gX0_takeDigit w0 tb (nI (i + 1)) (fX0_run_c45 S p0 p1)))))), (o5, .inl (cJ, 18, .inr (.inl (dv4 (gX0_takeDigit w0 tb (nI (i + 1)) (fX0_run_c45 S p0 p1)))))), (o6, .inl (cJ, 18, .inr (.inl (dv5 (gX0_takeDigit w0 tb (nI (i + 1)) (fX0_run_c45 S p0 p1))))))] H := hP.sub [0, 1, 2, 3, 4, 5, 6] rfl
      have hD : va_D A [(o0, .inr (0, [.ref o1, .ref o2, .ref o3, .ref o4, .ref o5, .ref o6, .int (dv6 (gX0_takeDigit w0 tb (nI (i + 1)) (fX0_run_c45 S p0 p1))), .int (dv7 (gX0_takeDigit w0 tb (nI (i + 1)) (fX0_run_c45 S p0 p1))), .int (dv8 (gX0_takeDigit w0 tb (nI (i + 1)) (fX0_run_c45 S p0 p1))), .int (dv9 (gX0_takeDigit w0 tb (nI (i + 1)) (fX0_run_c45 S p0 p1))), .int (dv10 (gX0_takeDigit w0 tb (nI (i + 1)) (fX0_run_c45 S p0 p1))), .int (dv11 (gX0_takeDigit w0 tb (nI (i + 1)) (fX0_run_c45 S p0 p1))), .int (dv12 (gX0_takeDigit w0 tb (nI (i + 1)) (fX0_run_c45 S p0 p1))), .int (dv13 (gX0_takeDigit w0 tb (nI (i + 1)) (fX0_run_c45 S p0 p1)))])), (o1, .inl (cI, 18, .inl (dv0 (gX0_takeDigit w0 tb (nI (i + 1)) (fX0_run_c45 S p0 p1))))), (o2, .inl (cI, 18, .inl (dv1 (gX0_takeDigit w0 tb (nI (i + 1)) (fX0_run_c45 S p0 p1))))), (o3, .inl (cJ, 18, .inr (.inl (dv2 (gX0_takeDigit w0 tb (nI (i + 1)) (fX0_run_c45 S p0 p1)))))), (o4, .inl (cJ, 18, .inr (.inl (dv3 (gX0_takeDigit w0 tb (nI (i + 1)) (fX0_run_c45 S p0 p1)))))), (o5, .inl (cJ, 18, .inr (.inl (dv4 (gX0_takeDigit w0 tb (nI (i + 1)) (fX0_run_c45 S p0 p1)))))), (o6, .inl (cJ, 18, .inr (.inl (dv5 (gX0_takeDigit w0 tb (nI (i + 1)) (fX0_run_c45 S p0 p1))))))] := hD.sub [0, 1, 2, 3, 4, 5, 6] (by decide) rfl
      refine lv_iinc (v := nI (i + 1 + 1)) (lv' := [(10, .int (nI (i + 1 + 1))), (8, .long (fX0_run_c45 S p0 p1)), (6, .long (fX0_run_m9 p1)), (4, .long (fX0_run_m2 p0)), (0, .ref o0), (1, .int p0), (2, .int p1), (3, .ref p2)]) hx hb dX0_run_68 hl (k := 0) rfl (nI_1 _) (by decide) rfl (fun ls hl => ?_)
      refine lv_goto (tgt := 50) hx hb dX0_run_71 (by decide) ?_
      have eb : st_runX0 S tb p0 p1 i w0 = (gX0_takeDigit w0 tb (nI (i + 1)) (fX0_run_c45 S p0 p1)) := rfl
      have ebb : (it_runX0 S tb p0 p1 (i + 1)) = (gX0_takeDigit w0 tb (nI (i + 1)) (fX0_run_c45 S p0 p1)) := by show st_runX0 S tb p0 p1 i (it_runX0 S tb p0 p1 i) = _; rw [← ew0]; exact eb
      exact ihi hlti _ _ _ ⟨(gX0_takeDigit w0 tb (nI (i + 1)) (fX0_run_c45 S p0 p1)), ebb.symm, (by rw [take_9]; exact hn), (by rw [take_6]; exact hrow), (by rw [take_8]; exact iv_t), hP, hD, hS, lv_sub hl [0, 1, 2, 3, 4, 5, 6, 7] rfl⟩
  · have c_23_2 := (not_congr (lg_cmp_ge _ _)).mp c_23_2
    refine lv_aload_n hx hb dX0_run_26 rfl (lv_at hl 2 rfl) ?_
    refine lv_iconst (v := 0) hx hb dX0_run_27 (by decide) ?_
    refine va_put (D := (dC, dI)) (ci := 0) (v := .int 0) (ty := .int) (C := RX0) (T := TX0) (N := 14) hx hb hts inX0_X0_run tyX0 tyX0_ok nmX0 hown hK hP hD hS 0 rfl rfl 12 (by decide) (hts (.fieldLink RX0 50 "DigitDivider$Division" "quotient" "I") (by decide +kernel)) (fun _ h9 => h9) rfl (by decide +kernel) rfl rfl (Nat.le_of_ble_eq_true rfl) dX0_run_28 (fun H locs hP hD hS => ?_)
    have hP : va_P (dC, dI) vwCl [(o0, .inr (0, [.ref o1, .ref o2, .ref o3, .ref o4, .ref o5, .ref o6, .int (dv6 (gX0_clear S)), .int (dv7 (gX0_clear S)), .int (dv8 (gX0_clear S)), .int (dv9 (gX0_clear S)), .int (dv10 (gX0_clear S)), .int (dv11 (gX0_clear S)), .int 0, .int (dv13 (gX0_clear S))])), (o1, .inl (cI, 18, .inl (dv0 (gX0_clear S)))), (o2, .inl (cI, 18, .inl (dv1 (gX0_clear S)))), (o3, .inl (cJ, 18, .inr (.inl (dv2 (gX0_clear S))))), (o4, .inl (cJ, 18, .inr (.inl (dv3 (gX0_clear S))))), (o5, .inl (cJ, 18, .inr (.inl (dv4 (gX0_clear S))))), (o6, .inl (cJ, 18, .inr (.inl (dv5 (gX0_clear S)))))] H := hP
    have hD : va_D A [(o0, .inr (0, [.ref o1, .ref o2, .ref o3, .ref o4, .ref o5, .ref o6, .int (dv6 (gX0_clear S)), .int (dv7 (gX0_clear S)), .int (dv8 (gX0_clear S)), .int (dv9 (gX0_clear S)), .int (dv10 (gX0_clear S)), .int (dv11 (gX0_clear S)), .int 0, .int (dv13 (gX0_clear S))])), (o1, .inl (cI, 18, .inl (dv0 (gX0_clear S)))), (o2, .inl (cI, 18, .inl (dv1 (gX0_clear S)))), (o3, .inl (cJ, 18, .inr (.inl (dv2 (gX0_clear S))))), (o4, .inl (cJ, 18, .inr (.inl (dv3 (gX0_clear S))))), (o5, .inl (cJ, 18, .inr (.inl (dv4 (gX0_clear S))))), (o6, .inl (cJ, 18, .inr (.inl (dv5 (gX0_clear S)))))] := hD
    refine lv_aload_n hx hb dX0_run_31 rfl (lv_at hl 2 rfl) ?_
    refine lv_iload_n hx hb dX0_run_32 rfl (lv_at hl 3 rfl) ?_
    refine va_put (D := (dC, dI)) (ci := 0) (v := .int p0) (ty := .int) (C := RX0) (T := TX0) (N := 14) hx hb hts inX0_X0_run tyX0 tyX0_ok nmX0 hown hK hP hD hS 0 rfl rfl 13 (by decide) (hts (.fieldLink RX0 53 "DigitDivider$Division" "rest" "I") (by decide +kernel)) (fun _ h9 => h9) rfl (by decide +kernel) rfl rfl (Nat.le_of_ble_eq_true rfl) dX0_run_33 (fun H locs hP hD hS => ?_)
    have hP : va_P (dC, dI) vwCl [(o0, .inr (0, [.ref o1, .ref o2, .ref o3, .ref o4, .ref o5, .ref o6, .int (dv6 (gX0_clear S)), .int (dv7 (gX0_clear S)), .int (dv8 (gX0_clear S)), .int (dv9 (gX0_clear S)), .int (dv10 (gX0_clear S)), .int (dv11 (gX0_clear S)), .int 0, .int p0])), (o1, .inl (cI, 18, .inl (dv0 (gX0_clear S)))), (o2, .inl (cI, 18, .inl (dv1 (gX0_clear S)))), (o3, .inl (cJ, 18, .inr (.inl (dv2 (gX0_clear S))))), (o4, .inl (cJ, 18, .inr (.inl (dv3 (gX0_clear S))))), (o5, .inl (cJ, 18, .inr (.inl (dv4 (gX0_clear S))))), (o6, .inl (cJ, 18, .inr (.inl (dv5 (gX0_clear S)))))] H := hP
    have hD : va_D A [(o0, .inr (0, [.ref o1, .ref o2, .ref o3, .ref o4, .ref o5, .ref o6, .int (dv6 (gX0_clear S)), .int (dv7 (gX0_clear S)), .int (dv8 (gX0_clear S)), .int (dv9 (gX0_clear S)), .int (dv10 (gX0_clear S)), .int (dv11 (gX0_clear S)), .int 0, .int p0])), (o1, .inl (cI, 18, .inl (dv0 (gX0_clear S)))), (o2, .inl (cI, 18, .inl (dv1 (gX0_clear S)))), (o3, .inl (cJ, 18, .inr (.inl (dv2 (gX0_clear S))))), (o4, .inl (cJ, 18, .inr (.inl (dv3 (gX0_clear S))))), (o5, .inl (cJ, 18, .inr (.inl (dv4 (gX0_clear S))))), (o6, .inl (cJ, 18, .inr (.inl (dv5 (gX0_clear S)))))] := hD
    exact W.vret hx hb hr (fun t ht hW => ⟨⟨((dv0 (gX0_clear S)), (dv1 (gX0_clear S)), (dv2 (gX0_clear S)), (dv3 (gX0_clear S)), (dv4 (gX0_clear S)), (dv5 (gX0_clear S)), (dv6 (gX0_clear S)), (dv7 (gX0_clear S)), (dv8 (gX0_clear S)), (dv9 (gX0_clear S)), (dv10 (gX0_clear S)), (dv11 (gX0_clear S)), 0, p0), rfl, (by unfold gX0_run; rw [if_neg c_23_2]), by rw [ht]; exact hP, va_K.moved hW.alike hK, hD⟩, hS.F ht⟩) hS.2.2 dX0_run_36
end
