/-! helpers of my own: names for computed values, joins, loops, a table of four rows, read-only arrays -/
section AX
variable {p : Program} {l : Launch} {e : Env} {R : Room} {s : State} {m : MethodId} {args : Array Value} {below : List Frame} {meth : Method} {c : Code} {H : Heap} {locs : List Loc} {cells slots : Nat} {Q : State → Prop}
variable {cc : ByteArray} {pc : Nat} {ls : Array Slot} {rest : List Value} {D : va_G} {cl : List vw_C} {A : Nat → Prop} {a : Nat} {tys : List (ClassId × FieldType)} {ws : va_W} {H0 : Heap}
theorem ax_nmI {x : Int32} (y : Int32) (h : x = y) (k : W p l e R s m args below meth c H locs cells slots Q (F0 m pc ls (.int y :: rest))) : W p l e R s m args below meth c H locs cells slots Q (F0 m pc ls (.int x :: rest)) := by rw [h]; exact k
theorem ax_nmL {x : Int64} (y : Int64) (h : x = y) (k : W p l e R s m args below meth c H locs cells slots Q (F0 m pc ls (.long y :: rest))) : W p l e R s m args below meth c H locs cells slots Q (F0 m pc ls (.long x :: rest)) := by rw [h]; exact k
theorem ax_joinI {g : JFrame} (J : Nat) (v : Int32) (ls : Array Slot) (rest : List Value) (k : W p l e R s m args below meth c H locs cells slots Q (F0 m J ls (.int v :: rest))) (br : (∀ u : Int32, u = v → W p l e R s m args below meth c H locs cells slots Q (F0 m J ls (.int u :: rest))) → W p l e R s m args below meth c H locs cells slots Q g) : W p l e R s m args below meth c H locs cells slots Q g := br (fun u h => by rw [h]; exact k)
theorem ax_joinL {g : JFrame} (J : Nat) (v : Int64) (ls : Array Slot) (rest : List Value) (k : W p l e R s m args below meth c H locs cells slots Q (F0 m J ls (.long v :: rest))) (br : (∀ u : Int64, u = v → W p l e R s m args below meth c H locs cells slots Q (F0 m J ls (.long u :: rest))) → W p l e R s m args below meth c H locs cells slots Q g) : W p l e R s m args below meth c H locs cells slots Q g := br (fun u h => by rw [h]; exact k)
theorem ax_loopS {pc : Nat} (I : Nat → Heap → List Loc → Array Slot → Prop) (N : Nat)
    (hs : ∀ i, i ≤ N → (i < N → ∀ H locs ls, I (i + 1) H locs ls → W p l e R s m args below meth c H locs cells slots Q (F0 m pc ls [])) → ∀ H locs ls, I i H locs ls → W p l e R s m args below meth c H locs cells slots Q (F0 m pc ls []))
    (h0 : I 0 H locs ls) : W p l e R s m args below meth c H locs cells slots Q (F0 m pc ls []) := by
  have key : ∀ n i, i ≤ N → N ≤ i + n → ∀ H locs ls, I i H locs ls → W p l e R s m args below meth c H locs cells slots Q (F0 m pc ls []) := by
    intro n
    induction n with
    | zero => intro i h1 h2; exact hs i h1 (fun h => absurd h (by omega))
    | succ n ih => intro i h1 h2; exact hs i h1 (fun h => ih (i + 1) (by omega) (by omega))
  exact key N 0 (Nat.zero_le _) (by omega) H locs ls h0
theorem ax_loopP {pc : Nat} (I : Nat → Array Slot → Prop) (N : Nat)
    (hs : ∀ i, i ≤ N → (i < N → ∀ ls, I (i + 1) ls → W p l e R s m args below meth c H locs cells slots Q (F0 m pc ls [])) → ∀ ls, I i ls → W p l e R s m args below meth c H locs cells slots Q (F0 m pc ls []))
    (h0 : I 0 ls) : W p l e R s m args below meth c H locs cells slots Q (F0 m pc ls []) := by
  have key : ∀ n i, i ≤ N → N ≤ i + n → ∀ ls, I i ls → W p l e R s m args below meth c H locs cells slots Q (F0 m pc ls []) := by
    intro n
    induction n with
    | zero => intro i h1 h2; exact hs i h1 (fun h => absurd h (by omega))
    | succ n ih => intro i h1 h2; exact hs i h1 (fun h => ih (i + 1) (by omega) (by omega))
  exact key N 0 (Nat.zero_le _) (by omega) ls h0
theorem ax_nb {v : Int32} (h : v = 0 ∨ v = 1) : narrow .boolean (.int v) = .int v := by rcases h with rfl | rfl <;> rfl
theorem ax_lt4 {i : Int32} {n : Nat} (h : vp_in i n) : i.toNatClampNeg < n := Nat.not_le.mp fun q => h (Or.inr q)
def ax_rows (r : Nat → Nat) : Nat → Option Nat := fun i => if i < 4 then some (r i) else none
theorem ax_aald (hexec : p.tables.exec = Jvm.exec) (hb : c.code = cc) (hK : va_K D cl tys s) (hP : va_P D cl ws H) (q0 t0 : Nat) {cA : ClassId} {r : Nat → Nat} (ha : ws[q0]? = some (a, .inl (cA, 4, .inr (.inr (.inr (.inr (ax_rows r))))))) (ht : tys[t0]? = some (cA, .array .int)) {i : Int32} (hin : vp_in i 4) (hdg : decode cc pc = .ok (.aaload, 1))
    (kk : W p l e R s m args below meth c H locs cells slots Q (F0 m (pc + 1) ls (.ref (r i.toNatClampNeg) :: rest))) : W p l e R s m args below meth c H locs cells slots Q (F0 m pc ls (.int i :: .ref a :: rest)) := by
  have hlt : i.toNatClampNeg < 4 := ax_lt4 hin
  have hv : va_rf (ax_rows r i.toNatClampNeg) = .ref (r i.toNatClampNeg) := by unfold ax_rows; rw [if_pos hlt]; rfl
  exact W.aald (v := .ref (r i.toNatClampNeg)) (ty := .array .int) hexec hb (hP q0 _ ha) ((hK.2 t0 _ ht).1 4 (fun j => va_rf (ax_rows r j))) rfl (fun q => by cases q) (by show ¬ (i < 0 ∨ (arrV _ _ _).slots.size ≤ _); rw [arrV_size]; exact hin) (by show (arrV _ _ _).slots[_]? = _; rw [arrV_read _ _ hlt]; exact congrArg some hv) rfl rfl hdg kk
theorem ax_get {c0 c1 : Nat × va_E} {r : Nat → Nat} {cI : ClassId} {n : Nat} {M : Nat → Nat → Int32} {rs : va_W} {i : Nat} (h : i < 4) : (c0 :: c1 :: (r 0, .inl (cI, n, .inl (M 0))) :: (r 1, .inl (cI, n, .inl (M 1))) :: (r 2, .inl (cI, n, .inl (M 2))) :: (r 3, .inl (cI, n, .inl (M 3))) :: rs : va_W)[2 + i]? = some (r i, .inl (cI, n, .inl (M i))) := by
  match i, h with
  | 0, _ => rfl
  | 1, _ => rfl
  | 2, _ => rfl
  | 3, _ => rfl
theorem ax_set {c0 c1 : Nat × va_E} {r : Nat → Nat} {cI : ClassId} {n : Nat} {M : Nat → Nat → Int32} {f : Nat → Int32} {rs : va_W} {i : Nat} (h : i < 4) : (c0 :: c1 :: (r 0, .inl (cI, n, .inl (M 0))) :: (r 1, .inl (cI, n, .inl (M 1))) :: (r 2, .inl (cI, n, .inl (M 2))) :: (r 3, .inl (cI, n, .inl (M 3))) :: rs : va_W).set (2 + i) (r i, .inl (cI, n, .inl f)) = c0 :: c1 :: (r 0, .inl (cI, n, .inl (va_up M i f 0))) :: (r 1, .inl (cI, n, .inl (va_up M i f 1))) :: (r 2, .inl (cI, n, .inl (va_up M i f 2))) :: (r 3, .inl (cI, n, .inl (va_up M i f 3))) :: rs := by
  match i, h with
  | 0, _ => rfl
  | 1, _ => rfl
  | 2, _ => rfl
  | 3, _ => rfl
theorem ax_tld {t N : Nat} {f : Nat → Int32} (hexec : p.tables.exec = Jvm.exec) (hb : c.code = cc) (hT : va_T .int t N (fun j => .int (f j)) A s s.heap) (hS : va_S A s.heap H locs) {i : Int32} (hin : vp_in i N) (hdg : decode cc pc = .ok (.iaload, 1))
    (kk : W p l e R s m args below meth c H locs cells slots Q (F0 m (pc + 1) ls (.int (f i.toNatClampNeg) :: rest))) : W p l e R s m args below meth c H locs cells slots Q (F0 m pc ls (.int i :: .ref t :: rest)) := va_ti hexec hb hT hS hin rfl hdg kk
/-- a cell of the world that a callee doesn't get, as an array that it may only read -/
theorem ax_ro (hK : va_K D cl tys s) (t0 : Nat) {cA : ClassId} (ht : tys[t0]? = some (cA, .int)) {wc : va_W} (hP : va_P D cl ws H) (hD : va_D A ws) (k : Nat) {n : Nat} {f : Nat → Int32} (ha : ws[k]? = some (a, .inl (cA, n, .inl f))) (isC : List Nat) (hC : isC.map (fun i => ws[i]?) = wc.map some) (hk : k ∉ isC) (hn : n < 2 ^ 31) : va_T .int a n (fun j => .int (f j)) (va_A wc H.size) s H := by
  have hcell : H[a]? = some (vp_cell cA (n, .inl f)) := hP k _ ha
  refine ⟨vp_cell cA (n, .inl f), hcell, (hK.2 t0 _ ht).1 n (fun j => .int (f j)), fun q => (by cases q), ?_, ?_, ?_, ?_⟩
  · show n ≤ (arrV cA n (fun j => .int (f j))).slots.size
    rw [arrV_size]; exact Nat.le_refl _
  · show (arrV cA n (fun j => .int (f j))).slots.size.toInt32 = _
    rw [arrV_size]
  · intro j hj
    show (arrV cA n (fun j => .int (f j))).slots[j]? = _
    rw [arrV_read _ _ hj]
  · rintro (⟨q, e9, hq⟩ | h9)
    · have h1 : (wc.map some)[q]? = some (some (a, e9)) := by rw [List.getElem?_map, hq]; rfl
      rw [← hC, List.getElem?_map] at h1
      cases hi : isC[q]? with
      | none => rw [hi] at h1; cases h1
      | some i =>
        rw [hi] at h1
        have h2 : ws[i]? = some (a, e9) := Option.some.inj h1
        have h3 : i = k := hD.1 i k _ _ h2 ha rfl
        exact hk (h3 ▸ List.mem_of_getElem? hi)
    · exact absurd ((Array.getElem?_eq_some_iff.mp hcell).1) (Nat.not_lt.mpr h9)
end AX
theorem ax_ne {x k : Int32} {z : Int} (h : ¬ x = k) (hz : k.toInt = z) : x.toInt ≠ z := fun q => h (Int32.toInt_inj.mp (q.trans hz.symm))
theorem ax_end {i N : Nat} {K : Int32} (hK : K = nI N) (hN : N < 2 ^ 31) (hi : i ≤ N) (c : K ≤ nI i) : i = N := by
  rw [hK] at c
  have := (nI_leI hN (by omega)).mp c
  omega
theorem ax_more {i N : Nat} {K : Int32} (hK : K = nI N) (hN : N < 2 ^ 31) (hi : i ≤ N) (c : ¬ K ≤ nI i) : i < N := by
  rw [hK] at c
  have h : ¬ N ≤ i := fun q => c ((nI_leI hN (by omega)).mpr q)
  omega
theorem ax_endL {i N : Nat} {K : Int32} (hK : K = nI N) (hN : N + 1 < 2 ^ 31) (hi : i ≤ N) (c : K < nI (i + 1)) : i = N := by
  rw [hK] at c
  have := (nI_ltI (by omega) (by omega)).mp c
  omega
theorem ax_moreL {i N : Nat} {K : Int32} (hK : K = nI N) (hN : N + 1 < 2 ^ 31) (hi : i ≤ N) (c : ¬ K < nI (i + 1)) : i < N := by
  rw [hK] at c
  have h : ¬ N < i + 1 := fun q => c ((nI_ltI (by omega) (by omega)).mpr q)
  omega
theorem ax_look2 {d o1 o2 : Int} {x : Int32} (h0 : x.toInt ≠ 0) (h1 : x.toInt ≠ 1) : Op.lookupswitch.offset [(0, o1), (1, o2)] d x.toInt = d := by
  simp [Op.lookupswitch.offset, h0, h1, Ne.symm h0, Ne.symm h1]
