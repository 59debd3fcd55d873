section XJ
variable {p : Program} {l : Launch} {e : Env} {R : Room} {s : State} {m : MethodId} {args : Array Value} {below : List Frame} {meth : Method} {c : Code} {G : xw_G} {nL cells slots : Nat} {Q : State → Prop}
variable {cc : ByteArray} {own : String} {pc : Nat} {h : xw_M} {lv : List (Option Value)} {st : List Value}
/-- what stays in a method's walk: the machine, the code, the words, the tables -/
def xj_C (p : Program) (s : State) (m : MethodId) (args : Array Value) (meth : Method) (c : Code) (G : xw_G) (own : String) (cc : ByteArray) (nL : Nat) : Prop :=
  p.tables.exec = Jvm.exec ∧ c.code = cc ∧ c.maxLocals = nL ∧ s.vm.findClass own = some m.cls ∧ (∀ w ∈ lw_g, w.before args s = true) ∧ va_K (xg_D G) vwCl (xw_tys G) s ∧ xw_ok G ∧ xw_X (xg_A G) s s.heap ∧ meth.locks = false
/-- from the place pc, with this memory, these locals, this stack, a state with Q is reached -/
def xj_X (p : Program) (l : Launch) (e : Env) (R : Room) (s : State) (m : MethodId) (args : Array Value) (below : List Frame) (meth : Method) (c : Code) (G : xw_G) (nL cells slots : Nat) (Q : State → Prop) (h : xw_M) (lv : List (Option Value)) (pc : Nat) (st : List Value) : Prop :=
  ∀ (H : Heap) (locs : List Loc) (ls : Array Slot), xw_P G h H → va_S (xg_A G) s.heap H locs → xj_L ls nL lv → W p l e R s m args below meth c H locs cells slots Q (F0 m pc ls st)
def xj_p (lv : List (Option Value)) : List (Nat × Value) := (List.range lv.length).filterMap (fun i => (lv[i]?.join).map (fun v => (i, v)))
theorem xj_p_in {i : Nat} {v : Value} : (i, v) ∈ xj_p lv ↔ lv[i]? = some (some v) := by
  unfold xj_p
  rw [List.mem_filterMap]
  constructor
  · rintro ⟨j, hj, hv⟩
    cases hl : lv[j]? with
    | none => rw [hl] at hv; cases hv
    | some x =>
      cases x with
      | none => rw [hl] at hv; cases hv
      | some y => rw [hl] at hv; cases hv; exact hl
  · intro hv
    refine ⟨i, List.mem_range.mpr (List.getElem?_eq_some_iff.mp hv).1, ?_⟩
    rw [hv]; rfl
theorem xj_L.has {ls : Array Slot} (hL : xj_L ls nL lv) : lv_has ls nL (xj_p lv) := ⟨hL.1, hL.2.1, fun q hq => hL.2.2 q.1 q.2 (xj_p_in.mp hq)⟩
/-- no long or double lies just below the place i -/
def xj_c (lv : List (Option Value)) (i : Nat) : Bool := match i with
  | 0 => true
  | j + 1 => match lv[j]? with
    | some (some v) => !(v.category == 2)
    | _ => true
theorem xj_c_no {i j : Nat} {v : Value} (hc : xj_c lv i = true) (hj : lv[j]? = some (some v)) (e : j + 1 = i) : (v.category == 2) = false := by
  subst e
  simp only [xj_c, hj] at hc
  simpa using hc
theorem xj_L.set1 {ls : Array Slot} {i : Nat} {v : Value} {L : List (Nat × Value)} (hc : xj_c lv i = true) (hL : L = (i, v) :: (xj_p lv).filter (fun q => !(q.1 == i) && !(q.1 + 1 == i && q.2.category == 2))) (hls : lv_has ls nL L) : xj_L ls nL (lv.set i (some v)) := by
  refine ⟨hls.1, hls.2.1, fun j u hj => hls.2.2 (j, u) ?_⟩
  rw [hL]
  by_cases hji : j = i
  · subst hji
    have hlt : j < lv.length := by
      have := (List.getElem?_eq_some_iff.mp hj).1
      rwa [List.length_set] at this
    rw [List.getElem?_set_self hlt] at hj
    cases hj
    exact List.mem_cons_self
  · rw [List.getElem?_set_ne (Ne.symm hji)] at hj
    refine List.mem_cons_of_mem _ (List.mem_filter.mpr ⟨xj_p_in.mpr hj, ?_⟩)
    by_cases e : j + 1 = i
    · simp [hji, e, xj_c_no hc hj e]
    · simp [hji, e]
theorem xj_L.set2 {ls : Array Slot} {i : Nat} {v : Value} {L : List (Nat × Value)} (hc : xj_c lv i = true) (hL : L = (i, v) :: (xj_p lv).filter (fun q => !(q.1 == i) && (!(q.1 == i + 1) && !(q.1 + 1 == i && q.2.category == 2)))) (hls : lv_has ls nL L) : xj_L ls nL ((lv.set i (some v)).set (i + 1) none) := by
  refine ⟨hls.1, hls.2.1, fun j u hj => hls.2.2 (j, u) ?_⟩
  rw [hL]
  by_cases hj1 : j = i + 1
  · subst hj1
    have hlt : i + 1 < (lv.set i (some v)).length := by
      have := (List.getElem?_eq_some_iff.mp hj).1
      rwa [List.length_set] at this
    rw [List.getElem?_set_self hlt] at hj
    cases hj
  rw [List.getElem?_set_ne (Ne.symm hj1)] at hj
  by_cases hji : j = i
  · subst hji
    have hlt : j < lv.length := by
      have := (List.getElem?_eq_some_iff.mp hj).1
      rwa [List.length_set] at this
    rw [List.getElem?_set_self hlt] at hj
    cases hj
    exact List.mem_cons_self
  · rw [List.getElem?_set_ne (Ne.symm hji)] at hj
    refine List.mem_cons_of_mem _ (List.mem_filter.mpr ⟨xj_p_in.mpr hj, ?_⟩)
    by_cases e : j + 1 = i
    · simp [hji, hj1, e, xj_c_no hc hj e]
    · simp [hji, hj1, e]
theorem xr_iconst (C : xj_C p s m args meth c G own cc nL) {n : Int} {v : Int32} (d : decode cc pc = .ok (.iconst n, 1)) (hv : Int32.ofInt n = v) (K : xj_X p l e R s m args below meth c G nL cells slots Q h lv (pc + 1) (.int v :: st)) : xj_X p l e R s m args below meth c G nL cells slots Q h lv pc st := fun H locs ls hP hS hL => lv_iconst C.1 C.2.1 d hv (K H locs ls hP hS hL)
theorem xr_bipush (C : xj_C p s m args meth c G own cc nL) {n : Int} {v : Int32} (d : decode cc pc = .ok (.bipush n, 2)) (hv : (Int8.ofInt n).toInt32 = v) (K : xj_X p l e R s m args below meth c G nL cells slots Q h lv (pc + 2) (.int v :: st)) : xj_X p l e R s m args below meth c G nL cells slots Q h lv pc st := fun H locs ls hP hS hL => lv_bipush C.1 C.2.1 d hv (K H locs ls hP hS hL)
theorem xr_sipush (C : xj_C p s m args meth c G own cc nL) {n : Int} {v : Int32} (d : decode cc pc = .ok (.sipush n, 3)) (hv : (Int16.ofInt n).toInt32 = v) (K : xj_X p l e R s m args below meth c G nL cells slots Q h lv (pc + 3) (.int v :: st)) : xj_X p l e R s m args below meth c G nL cells slots Q h lv pc st := fun H locs ls hP hS hL => lv_sipush C.1 C.2.1 d hv (K H locs ls hP hS hL)
theorem xr_iload_n (C : xj_C p s m args meth c G own cc nL) {k : Fin 4} {x : Int32} (d : decode cc pc = .ok (.iload_n k, 1)) (hl : lv[(k : Nat)]? = some (some (.int x))) (K : xj_X p l e R s m args below meth c G nL cells slots Q h lv (pc + 1) (.int x :: st)) : xj_X p l e R s m args below meth c G nL cells slots Q h lv pc st := fun H locs ls hP hS hL => lv_iload_n C.1 C.2.1 d rfl (hL.2.2 _ _ hl) (K H locs ls hP hS hL)
theorem xr_aload_n (C : xj_C p s m args meth c G own cc nL) {k : Fin 4} {x : Nat} (d : decode cc pc = .ok (.aload_n k, 1)) (hl : lv[(k : Nat)]? = some (some (.ref x))) (K : xj_X p l e R s m args below meth c G nL cells slots Q h lv (pc + 1) (.ref x :: st)) : xj_X p l e R s m args below meth c G nL cells slots Q h lv pc st := fun H locs ls hP hS hL => lv_aload_n C.1 C.2.1 d rfl (hL.2.2 _ _ hl) (K H locs ls hP hS hL)
theorem xr_lload_n (C : xj_C p s m args meth c G own cc nL) {k : Fin 4} {x : Int64} (d : decode cc pc = .ok (.lload_n k, 1)) (hl : lv[(k : Nat)]? = some (some (.long x))) (K : xj_X p l e R s m args below meth c G nL cells slots Q h lv (pc + 1) (.long x :: st)) : xj_X p l e R s m args below meth c G nL cells slots Q h lv pc st := fun H locs ls hP hS hL => lv_lload_n C.1 C.2.1 d rfl (hL.2.2 _ _ hl) (K H locs ls hP hS hL)
theorem xr_iload (C : xj_C p s m args meth c G own cc nL) {i : Nat} {x : Int32} (d : decode cc pc = .ok (.iload i, 2)) (hl : lv[i]? = some (some (.int x))) (K : xj_X p l e R s m args below meth c G nL cells slots Q h lv (pc + 2) (.int x :: st)) : xj_X p l e R s m args below meth c G nL cells slots Q h lv pc st := fun H locs ls hP hS hL => lv_iload C.1 C.2.1 d (hL.2.2 _ _ hl) (K H locs ls hP hS hL)
theorem xr_aload (C : xj_C p s m args meth c G own cc nL) {i : Nat} {x : Nat} (d : decode cc pc = .ok (.aload i, 2)) (hl : lv[i]? = some (some (.ref x))) (K : xj_X p l e R s m args below meth c G nL cells slots Q h lv (pc + 2) (.ref x :: st)) : xj_X p l e R s m args below meth c G nL cells slots Q h lv pc st := fun H locs ls hP hS hL => lv_aload C.1 C.2.1 d (hL.2.2 _ _ hl) (K H locs ls hP hS hL)
theorem xr_lload (C : xj_C p s m args meth c G own cc nL) {i : Nat} {x : Int64} (d : decode cc pc = .ok (.lload i, 2)) (hl : lv[i]? = some (some (.long x))) (K : xj_X p l e R s m args below meth c G nL cells slots Q h lv (pc + 2) (.long x :: st)) : xj_X p l e R s m args below meth c G nL cells slots Q h lv pc st := fun H locs ls hP hS hL => lv_lload C.1 C.2.1 d (hL.2.2 _ _ hl) (K H locs ls hP hS hL)
theorem xr_dload (C : xj_C p s m args meth c G own cc nL) {i : Nat} {x : UInt64} (d : decode cc pc = .ok (.dload i, 2)) (hl : lv[i]? = some (some (.double x))) (K : xj_X p l e R s m args below meth c G nL cells slots Q h lv (pc + 2) (.double x :: st)) : xj_X p l e R s m args below meth c G nL cells slots Q h lv pc st := fun H locs ls hP hS hL => lv_dload C.1 C.2.1 d (hL.2.2 _ _ hl) (K H locs ls hP hS hL)
theorem xr_istore_n (C : xj_C p s m args meth c G own cc nL) {k : Fin 4} {x : Int32} (d : decode cc pc = .ok (.istore_n k, 1)) (hc : xj_c lv (k : Nat) = true) (hn : (k : Nat) < nL) (K : xj_X p l e R s m args below meth c G nL cells slots Q h (lv.set (k : Nat) (some (.int x))) (pc + 1) st) : xj_X p l e R s m args below meth c G nL cells slots Q h lv pc (.int x :: st) := fun H locs ls hP hS hL => lv_istore_n C.1 C.2.1 d rfl hL.has hn rfl (fun ls hl => K H locs ls hP hS (xj_L.set1 hc rfl hl))
theorem xr_istore (C : xj_C p s m args meth c G own cc nL) {i : Nat} {x : Int32} (d : decode cc pc = .ok (.istore i, 2)) (hc : xj_c lv i = true) (hn : i < nL) (K : xj_X p l e R s m args below meth c G nL cells slots Q h (lv.set i (some (.int x))) (pc + 2) st) : xj_X p l e R s m args below meth c G nL cells slots Q h lv pc (.int x :: st) := fun H locs ls hP hS hL => lv_istore C.1 C.2.1 d hL.has hn rfl (fun ls hl => K H locs ls hP hS (xj_L.set1 hc rfl hl))
theorem xr_astore_n (C : xj_C p s m args meth c G own cc nL) {k : Fin 4} {x : Nat} (d : decode cc pc = .ok (.astore_n k, 1)) (hc : xj_c lv (k : Nat) = true) (hn : (k : Nat) < nL) (K : xj_X p l e R s m args below meth c G nL cells slots Q h (lv.set (k : Nat) (some (.ref x))) (pc + 1) st) : xj_X p l e R s m args below meth c G nL cells slots Q h lv pc (.ref x :: st) := fun H locs ls hP hS hL => lv_astore_n C.1 C.2.1 d rfl hL.has hn rfl (fun ls hl => K H locs ls hP hS (xj_L.set1 hc rfl hl))
theorem xr_astore (C : xj_C p s m args meth c G own cc nL) {i : Nat} {x : Nat} (d : decode cc pc = .ok (.astore i, 2)) (hc : xj_c lv i = true) (hn : i < nL) (K : xj_X p l e R s m args below meth c G nL cells slots Q h (lv.set i (some (.ref x))) (pc + 2) st) : xj_X p l e R s m args below meth c G nL cells slots Q h lv pc (.ref x :: st) := fun H locs ls hP hS hL => lv_astore C.1 C.2.1 d hL.has hn rfl (fun ls hl => K H locs ls hP hS (xj_L.set1 hc rfl hl))
theorem xr_lstore_n (C : xj_C p s m args meth c G own cc nL) {k : Fin 4} {x : Int64} (d : decode cc pc = .ok (.lstore_n k, 1)) (hc : xj_c lv (k : Nat) = true) (hn : (k : Nat) + 1 < nL) (K : xj_X p l e R s m args below meth c G nL cells slots Q h ((lv.set (k : Nat) (some (.long x))).set ((k : Nat) + 1) none) (pc + 1) st) : xj_X p l e R s m args below meth c G nL cells slots Q h lv pc (.long x :: st) := fun H locs ls hP hS hL => lv_lstore_n C.1 C.2.1 d rfl hL.has hn rfl (fun ls hl => K H locs ls hP hS (xj_L.set2 hc rfl hl))
theorem xr_lstore (C : xj_C p s m args meth c G own cc nL) {i : Nat} {x : Int64} (d : decode cc pc = .ok (.lstore i, 2)) (hc : xj_c lv i = true) (hn : i + 1 < nL) (K : xj_X p l e R s m args below meth c G nL cells slots Q h ((lv.set i (some (.long x))).set (i + 1) none) (pc + 2) st) : xj_X p l e R s m args below meth c G nL cells slots Q h lv pc (.long x :: st) := fun H locs ls hP hS hL => lv_lstore C.1 C.2.1 d hL.has hn rfl (fun ls hl => K H locs ls hP hS (xj_L.set2 hc rfl hl))
theorem xr_dstore (C : xj_C p s m args meth c G own cc nL) {i : Nat} {x : UInt64} (d : decode cc pc = .ok (.dstore i, 2)) (hc : xj_c lv i = true) (hn : i + 1 < nL) (K : xj_X p l e R s m args below meth c G nL cells slots Q h ((lv.set i (some (.double x))).set (i + 1) none) (pc + 2) st) : xj_X p l e R s m args below meth c G nL cells slots Q h lv pc (.double x :: st) := fun H locs ls hP hS hL => lv_dstore C.1 C.2.1 d hL.has hn rfl (fun ls hl => K H locs ls hP hS (xj_L.set2 hc rfl hl))
theorem xr_iinc (C : xj_C p s m args meth c G own cc nL) {i : Nat} {n : Int} {x v : Int32} (d : decode cc pc = .ok (.iinc i n, 3)) (hl : lv[i]? = some (some (.int x))) (hv : Int32.ofInt n = v) (hc : xj_c lv i = true) (hn : i < nL) (K : xj_X p l e R s m args below meth c G nL cells slots Q h (lv.set i (some (.int (x + v)))) (pc + 3) st) : xj_X p l e R s m args below meth c G nL cells slots Q h lv pc st := by
  intro H locs ls hP hS hL
  obtain ⟨k, hk⟩ := List.getElem?_of_mem (xj_p_in.mpr hl)
  subst hv
  exact lv_iinc C.1 C.2.1 d hL.has hk rfl hn rfl (fun ls hl => K H locs ls hP hS (xj_L.set1 hc rfl hl))
theorem xr_iadd (C : xj_C p s m args meth c G own cc nL) {x y : Int32} (d : decode cc pc = .ok (.iadd, 1))  (K : xj_X p l e R s m args below meth c G nL cells slots Q h lv (pc + 1) (.int (x + y) :: st)) : xj_X p l e R s m args below meth c G nL cells slots Q h lv pc (.int y :: .int x :: st) := fun H locs ls hP hS hL => lv_iadd C.1 C.2.1 d  (K H locs ls hP hS hL)
theorem xr_isub (C : xj_C p s m args meth c G own cc nL) {x y : Int32} (d : decode cc pc = .ok (.isub, 1))  (K : xj_X p l e R s m args below meth c G nL cells slots Q h lv (pc + 1) (.int (x - y) :: st)) : xj_X p l e R s m args below meth c G nL cells slots Q h lv pc (.int y :: .int x :: st) := fun H locs ls hP hS hL => lv_isub C.1 C.2.1 d  (K H locs ls hP hS hL)
theorem xr_imul (C : xj_C p s m args meth c G own cc nL) {x y : Int32} (d : decode cc pc = .ok (.imul, 1))  (K : xj_X p l e R s m args below meth c G nL cells slots Q h lv (pc + 1) (.int (x * y) :: st)) : xj_X p l e R s m args below meth c G nL cells slots Q h lv pc (.int y :: .int x :: st) := fun H locs ls hP hS hL => lv_imul C.1 C.2.1 d  (K H locs ls hP hS hL)
theorem xr_iand (C : xj_C p s m args meth c G own cc nL) {x y : Int32} (d : decode cc pc = .ok (.iand, 1))  (K : xj_X p l e R s m args below meth c G nL cells slots Q h lv (pc + 1) (.int (x &&& y) :: st)) : xj_X p l e R s m args below meth c G nL cells slots Q h lv pc (.int y :: .int x :: st) := fun H locs ls hP hS hL => lv_iand C.1 C.2.1 d  (K H locs ls hP hS hL)
theorem xr_ladd (C : xj_C p s m args meth c G own cc nL) {x y : Int64} (d : decode cc pc = .ok (.ladd, 1))  (K : xj_X p l e R s m args below meth c G nL cells slots Q h lv (pc + 1) (.long (x + y) :: st)) : xj_X p l e R s m args below meth c G nL cells slots Q h lv pc (.long y :: .long x :: st) := fun H locs ls hP hS hL => lv_ladd C.1 C.2.1 d  (K H locs ls hP hS hL)
theorem xr_lmul (C : xj_C p s m args meth c G own cc nL) {x y : Int64} (d : decode cc pc = .ok (.lmul, 1))  (K : xj_X p l e R s m args below meth c G nL cells slots Q h lv (pc + 1) (.long (x * y) :: st)) : xj_X p l e R s m args below meth c G nL cells slots Q h lv pc (.long y :: .long x :: st) := fun H locs ls hP hS hL => lv_lmul C.1 C.2.1 d  (K H locs ls hP hS hL)
theorem xr_i2l (C : xj_C p s m args meth c G own cc nL) {x : Int32} (d : decode cc pc = .ok (.i2l, 1))  (K : xj_X p l e R s m args below meth c G nL cells slots Q h lv (pc + 1) (.long x.toInt64 :: st)) : xj_X p l e R s m args below meth c G nL cells slots Q h lv pc (.int x :: st) := fun H locs ls hP hS hL => lv_i2l C.1 C.2.1 d rfl (K H locs ls hP hS hL)
theorem xr_dup (C : xj_C p s m args meth c G own cc nL) {v : Value} (d : decode cc pc = .ok (.dup, 1)) (hv : v.category = 1) (K : xj_X p l e R s m args below meth c G nL cells slots Q h lv (pc + 1) (v :: v :: st)) : xj_X p l e R s m args below meth c G nL cells slots Q h lv pc (v :: st) := fun H locs ls hP hS hL => lv_dup C.1 C.2.1 d hv (K H locs ls hP hS hL)
theorem xr_dup2 (C : xj_C p s m args meth c G own cc nL) {v u : Value} (d : decode cc pc = .ok (.dup2, 1)) (hv : v.category = 1) (hu : u.category = 1) (K : xj_X p l e R s m args below meth c G nL cells slots Q h lv (pc + 1) (v :: u :: v :: u :: st)) : xj_X p l e R s m args below meth c G nL cells slots Q h lv pc (v :: u :: st) := fun H locs ls hP hS hL => lv_dup2_11 C.1 C.2.1 d hv hu (K H locs ls hP hS hL)
theorem xr_ldc2 (C : xj_C p s m args meth c G own cc nL) {index : Nat} {v : Int64} (d : decode cc pc = .ok (.ldc2_w index, 3)) (hw : Cond.constantLong own index v ∈ lw_g) (K : xj_X p l e R s m args below meth c G nL cells slots Q h lv (pc + 3) (.long v :: st)) : xj_X p l e R s m args below meth c G nL cells slots Q h lv pc st := fun H locs ls hP hS hL => lv_ldc2 C.1 C.2.1 C.2.2.2.1 (C.2.2.2.2.1 _ hw) d (K H locs ls hP hS hL)
theorem xo_t {α : Type} {P : Prop} {iP : Decidable P} {A B r : Option α} (hR : (if P then A else B) = r) (hp : P) : A = r := by rw [if_pos hp] at hR; exact hR
theorem xo_f {α : Type} {P : Prop} {iP : Decidable P} {A B r : Option α} (hR : (if P then A else B) = r) (hp : ¬ P) : B = r := by rw [if_neg hp] at hR; exact hR
theorem xo_b {α β : Type} {o : Option α} {F : α → Option β} {r : β} (hR : o.bind F = some r) : ∃ q, o = some q ∧ F q = some r := by
  cases o with
  | none => cases hR
  | some q => exact ⟨q, rfl, hR⟩
/-- an index inside: the guard of the pure functions -/
def xo_ix (i : Int32) (n : Nat) : Bool := decide (0 ≤ i.toInt) && decide (i.toInt < n)
theorem xo_ix_in {i : Int32} {n : Nat} (hi : xo_ix i n = true) : vp_in i n := by
  unfold xo_ix at hi
  rw [Bool.and_eq_true, decide_eq_true_eq, decide_eq_true_eq] at hi
  exact vp_in_iff.mpr hi
theorem xo_ix_lt {i : Int32} {n : Nat} (hi : xo_ix i n = true) : i.toNatClampNeg < n := Nat.not_le.mp fun q => xo_ix_in hi (Or.inr q)
theorem xr_if_eq (C : xj_C p s m args meth c G own cc nL) {x : Int32} {off : Int} {tgt : Nat} (d : decode cc pc = .ok (.ifCond .eq off, 3)) (ht : (pc : Int) + off = (tgt : Int)) {α : Type} {A B r : Option α} (hR : (if x = 0 then A else B) = r) (kt : A = r → xj_X p l e R s m args below meth c G nL cells slots Q h lv tgt st) (kf : B = r → xj_X p l e R s m args below meth c G nL cells slots Q h lv (pc + 3) st) : xj_X p l e R s m args below meth c G nL cells slots Q h lv pc (.int x :: st) := fun H locs ls hP hS hL => lv_if_eq C.1 C.2.1 d ht (fun cc9 => (kt (xo_t hR cc9)) H locs ls hP hS hL) (fun cc9 => (kf (xo_f hR cc9)) H locs ls hP hS hL)
theorem xr_icmp_eq (C : xj_C p s m args meth c G own cc nL) {x y : Int32} {off : Int} {tgt : Nat} (d : decode cc pc = .ok (.if_icmp .eq off, 3)) (ht : (pc : Int) + off = (tgt : Int)) {α : Type} {A B r : Option α} (hR : (if x = y then A else B) = r) (kt : A = r → xj_X p l e R s m args below meth c G nL cells slots Q h lv tgt st) (kf : B = r → xj_X p l e R s m args below meth c G nL cells slots Q h lv (pc + 3) st) : xj_X p l e R s m args below meth c G nL cells slots Q h lv pc (.int y :: .int x :: st) := fun H locs ls hP hS hL => lv_icmp_eq C.1 C.2.1 d ht (fun cc9 => (kt (xo_t hR cc9)) H locs ls hP hS hL) (fun cc9 => (kf (xo_f hR cc9)) H locs ls hP hS hL)
theorem xr_if_ne (C : xj_C p s m args meth c G own cc nL) {x : Int32} {off : Int} {tgt : Nat} (d : decode cc pc = .ok (.ifCond .ne off, 3)) (ht : (pc : Int) + off = (tgt : Int)) {α : Type} {A B r : Option α} (hR : (if x = 0 then B else A) = r) (kt : A = r → xj_X p l e R s m args below meth c G nL cells slots Q h lv tgt st) (kf : B = r → xj_X p l e R s m args below meth c G nL cells slots Q h lv (pc + 3) st) : xj_X p l e R s m args below meth c G nL cells slots Q h lv pc (.int x :: st) := fun H locs ls hP hS hL => lv_if_ne C.1 C.2.1 d ht (fun cc9 => (kt (xo_f hR cc9)) H locs ls hP hS hL) (fun cc9 => (kf (xo_t hR cc9)) H locs ls hP hS hL)
theorem xr_icmp_ne (C : xj_C p s m args meth c G own cc nL) {x y : Int32} {off : Int} {tgt : Nat} (d : decode cc pc = .ok (.if_icmp .ne off, 3)) (ht : (pc : Int) + off = (tgt : Int)) {α : Type} {A B r : Option α} (hR : (if x = y then B else A) = r) (kt : A = r → xj_X p l e R s m args below meth c G nL cells slots Q h lv tgt st) (kf : B = r → xj_X p l e R s m args below meth c G nL cells slots Q h lv (pc + 3) st) : xj_X p l e R s m args below meth c G nL cells slots Q h lv pc (.int y :: .int x :: st) := fun H locs ls hP hS hL => lv_icmp_ne C.1 C.2.1 d ht (fun cc9 => (kt (xo_f hR cc9)) H locs ls hP hS hL) (fun cc9 => (kf (xo_t hR cc9)) H locs ls hP hS hL)
theorem xr_if_lt (C : xj_C p s m args meth c G own cc nL) {x : Int32} {off : Int} {tgt : Nat} (d : decode cc pc = .ok (.ifCond .lt off, 3)) (ht : (pc : Int) + off = (tgt : Int)) {α : Type} {A B r : Option α} (hR : (if x < 0 then A else B) = r) (kt : A = r → xj_X p l e R s m args below meth c G nL cells slots Q h lv tgt st) (kf : B = r → xj_X p l e R s m args below meth c G nL cells slots Q h lv (pc + 3) st) : xj_X p l e R s m args below meth c G nL cells slots Q h lv pc (.int x :: st) := fun H locs ls hP hS hL => lv_if_lt C.1 C.2.1 d ht (fun cc9 => (kt (xo_t hR cc9)) H locs ls hP hS hL) (fun cc9 => (kf (xo_f hR cc9)) H locs ls hP hS hL)
theorem xr_icmp_lt (C : xj_C p s m args meth c G own cc nL) {x y : Int32} {off : Int} {tgt : Nat} (d : decode cc pc = .ok (.if_icmp .lt off, 3)) (ht : (pc : Int) + off = (tgt : Int)) {α : Type} {A B r : Option α} (hR : (if x < y then A else B) = r) (kt : A = r → xj_X p l e R s m args below meth c G nL cells slots Q h lv tgt st) (kf : B = r → xj_X p l e R s m args below meth c G nL cells slots Q h lv (pc + 3) st) : xj_X p l e R s m args below meth c G nL cells slots Q h lv pc (.int y :: .int x :: st) := fun H locs ls hP hS hL => lv_icmp_lt C.1 C.2.1 d ht (fun cc9 => (kt (xo_t hR cc9)) H locs ls hP hS hL) (fun cc9 => (kf (xo_f hR cc9)) H locs ls hP hS hL)
theorem xr_if_ge (C : xj_C p s m args meth c G own cc nL) {x : Int32} {off : Int} {tgt : Nat} (d : decode cc pc = .ok (.ifCond .ge off, 3)) (ht : (pc : Int) + off = (tgt : Int)) {α : Type} {A B r : Option α} (hR : (if 0 ≤ x then A else B) = r) (kt : A = r → xj_X p l e R s m args below meth c G nL cells slots Q h lv tgt st) (kf : B = r → xj_X p l e R s m args below meth c G nL cells slots Q h lv (pc + 3) st) : xj_X p l e R s m args below meth c G nL cells slots Q h lv pc (.int x :: st) := fun H locs ls hP hS hL => lv_if_ge C.1 C.2.1 d ht (fun cc9 => (kt (xo_t hR cc9)) H locs ls hP hS hL) (fun cc9 => (kf (xo_f hR cc9)) H locs ls hP hS hL)
theorem xr_icmp_ge (C : xj_C p s m args meth c G own cc nL) {x y : Int32} {off : Int} {tgt : Nat} (d : decode cc pc = .ok (.if_icmp .ge off, 3)) (ht : (pc : Int) + off = (tgt : Int)) {α : Type} {A B r : Option α} (hR : (if y ≤ x then A else B) = r) (kt : A = r → xj_X p l e R s m args below meth c G nL cells slots Q h lv tgt st) (kf : B = r → xj_X p l e R s m args below meth c G nL cells slots Q h lv (pc + 3) st) : xj_X p l e R s m args below meth c G nL cells slots Q h lv pc (.int y :: .int x :: st) := fun H locs ls hP hS hL => lv_icmp_ge C.1 C.2.1 d ht (fun cc9 => (kt (xo_t hR cc9)) H locs ls hP hS hL) (fun cc9 => (kf (xo_f hR cc9)) H locs ls hP hS hL)
theorem xr_if_gt (C : xj_C p s m args meth c G own cc nL) {x : Int32} {off : Int} {tgt : Nat} (d : decode cc pc = .ok (.ifCond .gt off, 3)) (ht : (pc : Int) + off = (tgt : Int)) {α : Type} {A B r : Option α} (hR : (if 0 < x then A else B) = r) (kt : A = r → xj_X p l e R s m args below meth c G nL cells slots Q h lv tgt st) (kf : B = r → xj_X p l e R s m args below meth c G nL cells slots Q h lv (pc + 3) st) : xj_X p l e R s m args below meth c G nL cells slots Q h lv pc (.int x :: st) := fun H locs ls hP hS hL => lv_if_gt C.1 C.2.1 d ht (fun cc9 => (kt (xo_t hR cc9)) H locs ls hP hS hL) (fun cc9 => (kf (xo_f hR cc9)) H locs ls hP hS hL)
theorem xr_icmp_gt (C : xj_C p s m args meth c G own cc nL) {x y : Int32} {off : Int} {tgt : Nat} (d : decode cc pc = .ok (.if_icmp .gt off, 3)) (ht : (pc : Int) + off = (tgt : Int)) {α : Type} {A B r : Option α} (hR : (if y < x then A else B) = r) (kt : A = r → xj_X p l e R s m args below meth c G nL cells slots Q h lv tgt st) (kf : B = r → xj_X p l e R s m args below meth c G nL cells slots Q h lv (pc + 3) st) : xj_X p l e R s m args below meth c G nL cells slots Q h lv pc (.int y :: .int x :: st) := fun H locs ls hP hS hL => lv_icmp_gt C.1 C.2.1 d ht (fun cc9 => (kt (xo_t hR cc9)) H locs ls hP hS hL) (fun cc9 => (kf (xo_f hR cc9)) H locs ls hP hS hL)
theorem xr_if_le (C : xj_C p s m args meth c G own cc nL) {x : Int32} {off : Int} {tgt : Nat} (d : decode cc pc = .ok (.ifCond .le off, 3)) (ht : (pc : Int) + off = (tgt : Int)) {α : Type} {A B r : Option α} (hR : (if x ≤ 0 then A else B) = r) (kt : A = r → xj_X p l e R s m args below meth c G nL cells slots Q h lv tgt st) (kf : B = r → xj_X p l e R s m args below meth c G nL cells slots Q h lv (pc + 3) st) : xj_X p l e R s m args below meth c G nL cells slots Q h lv pc (.int x :: st) := fun H locs ls hP hS hL => lv_if_le C.1 C.2.1 d ht (fun cc9 => (kt (xo_t hR cc9)) H locs ls hP hS hL) (fun cc9 => (kf (xo_f hR cc9)) H locs ls hP hS hL)
theorem xr_icmp_le (C : xj_C p s m args meth c G own cc nL) {x y : Int32} {off : Int} {tgt : Nat} (d : decode cc pc = .ok (.if_icmp .le off, 3)) (ht : (pc : Int) + off = (tgt : Int)) {α : Type} {A B r : Option α} (hR : (if x ≤ y then A else B) = r) (kt : A = r → xj_X p l e R s m args below meth c G nL cells slots Q h lv tgt st) (kf : B = r → xj_X p l e R s m args below meth c G nL cells slots Q h lv (pc + 3) st) : xj_X p l e R s m args below meth c G nL cells slots Q h lv pc (.int y :: .int x :: st) := fun H locs ls hP hS hL => lv_icmp_le C.1 C.2.1 d ht (fun cc9 => (kt (xo_t hR cc9)) H locs ls hP hS hL) (fun cc9 => (kf (xo_f hR cc9)) H locs ls hP hS hL)
theorem xr_goto (C : xj_C p s m args meth c G own cc nL) {off : Int} {tgt : Nat} (d : decode cc pc = .ok (.goto off, 3)) (ht : (pc : Int) + off = (tgt : Int)) (K : xj_X p l e R s m args below meth c G nL cells slots Q h lv tgt st) : xj_X p l e R s m args below meth c G nL cells slots Q h lv pc st := fun H locs ls hP hS hL => lv_goto C.1 C.2.1 d ht (K H locs ls hP hS hL)
theorem xr_ifnonnull (C : xj_C p s m args meth c G own cc nL) {x : Nat} {off : Int} {tgt : Nat} (d : decode cc pc = .ok (.ifnonnull off, 3)) (ht : (pc : Int) + off = (tgt : Int)) (K : xj_X p l e R s m args below meth c G nL cells slots Q h lv tgt st) : xj_X p l e R s m args below meth c G nL cells slots Q h lv pc (.ref x :: st) := fun H locs ls hP hS hL => lv_ifnonnull C.1 C.2.1 d ht (K H locs ls hP hS hL)
theorem xr_tabOut (C : xj_C p s m args meth c G own cc nL) {dflt lo hi : Int} {offs : Array Int} {len : Nat} {x : Int32} {tgt : Nat} (d : decode cc pc = .ok (.tableswitch dflt lo hi offs, len)) (hx : x.toInt < lo ∨ hi < x.toInt) (ht : (pc : Int) + dflt = (tgt : Int)) (K : xj_X p l e R s m args below meth c G nL cells slots Q h lv tgt st) : xj_X p l e R s m args below meth c G nL cells slots Q h lv pc (.int x :: st) := fun H locs ls hP hS hL => lv_tableOut C.1 C.2.1 d hx ht (K H locs ls hP hS hL)
theorem xr_tabIn (C : xj_C p s m args meth c G own cc nL) {dflt lo hi : Int} {offs : Array Int} {len : Nat} {x : Int32} {off : Int} {tgt : Nat} (d : decode cc pc = .ok (.tableswitch dflt lo hi offs, len)) (h1 : ¬ x.toInt < lo) (h2 : ¬ hi < x.toInt) (ho : offs[(x.toInt - lo).toNat]? = some off) (ht : (pc : Int) + off = (tgt : Int)) (K : xj_X p l e R s m args below meth c G nL cells slots Q h lv tgt st) : xj_X p l e R s m args below meth c G nL cells slots Q h lv pc (.int x :: st) := fun H locs ls hP hS hL => lv_tableIn C.1 C.2.1 d h1 h2 ho ht (K H locs ls hP hS hL)
/-- a field's word: entry idx of own's pool names the field j of the class of kind κ -/
def xw_fl (own : String) (idx κ j : Nat) : Prop := ∃ r : vw_C, vwCl[κ]? = some r ∧ j < r.2.2 ∧ (r.2.1 j).1 = r.1 ∧ Cond.fieldLink own idx r.1 (r.2.1 j).2.1 (r.2.1 j).2.2.1 ∈ lw_g
/-- an int field that may be set: what the list of the fields is behind it -/
def xw_pf (κ j : Nat) : Prop := (∃ r : vw_C, vwCl[κ]? = some r ∧ (r.2.1 j).2.2.2 = false ∧ parseFieldDescriptor (r.2.1 j).2.2.1 = some .int) ∧ κ < 8 ∧ ∀ (ad : Nat → Nat) (k : Nat) (g : Nat → Int32) (v : Int32), xw_fs ad κ k (upd g j v) = (xw_fs ad κ k g).set j (.int v) ∧ j < (xw_fs ad κ k g).length
theorem xw_ct_lo {T : Nat → ClassId} {ad : Nat → Nat} {κ k : Nat} {g : Nat → Int32} (hκ : κ < 8) : xw_ct T ad κ k g = .inr (κ, xw_fs ad κ k g) := by
  rcases (show κ = 0 ∨ κ = 1 ∨ κ = 2 ∨ κ = 3 ∨ κ = 4 ∨ κ = 5 ∨ κ = 6 ∨ κ = 7 by omega) with rfl | rfl | rfl | rfl | rfl | rfl | rfl | rfl <;> rfl
/-- what the tables say of every class -/
theorem xw_cl : ∀ (κ : Nat) (r : vw_C), vwCl[κ]? = some r → (∀ w ∈ u_ws r.1 r.2.1 r.2.2, w ∈ lw_g) ∧ (∃ ty0 : Nat → FieldType, ∀ k, k < r.2.2 → parseFieldDescriptor (r.2.1 k).2.2.1 = some (ty0 k)) ∧ (∀ a, a < r.2.2 → ∀ b, b < r.2.2 → a ≠ b → (r.2.1 a).2.1 ≠ (r.2.1 b).2.1) ∧ κ < 8
  | 0, _, h => by cases h; exact ⟨by decide +kernel, ⟨_, tyX0_ok⟩, nmX0, by decide⟩
  | 1, _, h => by cases h; exact ⟨by decide +kernel, ⟨_, tyX1_ok⟩, nmX1, by decide⟩
  | 2, _, h => by cases h; exact ⟨by decide +kernel, ⟨_, tyX2_ok⟩, nmX2, by decide⟩
  | 3, _, h => by cases h; exact ⟨by decide +kernel, ⟨_, tyX3_ok⟩, nmX3, by decide⟩
  | 4, _, h => by cases h; exact ⟨by decide +kernel, ⟨_, tyX4_ok⟩, nmX4, by decide⟩
  | 5, _, h => by cases h; exact ⟨by decide +kernel, ⟨_, tyX5_ok⟩, nmX5, by decide⟩
  | 6, _, h => by cases h; exact ⟨by decide +kernel, ⟨_, tyX6_ok⟩, nmX6, by decide⟩
  | 7, _, h => by cases h; exact ⟨by decide +kernel, ⟨_, tyX7_ok⟩, nmX7, by decide⟩
  | n + 8, _, h => by simp [vwCl] at h
theorem xr_get (C : xj_C p s m args meth c G own cc nL) {k κ j idx : Nat} {v : Value} (hk : xw_kd k = κ) (F : xw_fl own idx κ j) (hv : (xw_fs (xg_ad G) κ k (h k))[j]? = some v) (d : decode cc pc = .ok (.getfield idx, 3)) (K : xj_X p l e R s m args below meth c G nL cells slots Q h lv (pc + 3) (v :: st)) : xj_X p l e R s m args below meth c G nL cells slots Q h lv pc (.ref (xg_ad G k) :: st) := by
  intro H locs ls hP hS hL
  obtain ⟨r, h1, h2, h3, h4⟩ := F
  obtain ⟨g1, g2, g3, g4⟩ := xw_cl κ r h1
  have hl : k < xg_N G := Nat.lt_of_lt_of_le (xw_lt hk (by omega)) C.2.2.2.2.2.2.1.1
  have he : (xw_ws G h)[k]? = some (xg_ad G k, .inr (κ, xw_fs (xg_ad G) κ k (h k))) := by rw [xw_get hl, xw_ce, hk, xw_ct_lo g4]
  exact va_get (D := xg_D G) C.1 C.2.1 C.2.2.2.2.1 g1 C.2.2.2.1 C.2.2.2.2.2.1 hP k he h1 j h2 (C.2.2.2.2.1 _ h4) (fun x hx => by rw [h3] at hx; exact hx) hv d (K H locs ls hP hS hL)
theorem xr_put (C : xj_C p s m args meth c G own cc nL) {k κ j idx : Nat} {v : Int32} (hk : xw_kd k = κ) (F : xw_fl own idx κ j) (hp : xw_pf κ j) (d : decode cc pc = .ok (.putfield idx, 3)) (K : xj_X p l e R s m args below meth c G nL cells slots Q (xw_st h k j v) lv (pc + 3) st) : xj_X p l e R s m args below meth c G nL cells slots Q h lv pc (.int v :: .ref (xg_ad G k) :: st) := by
  intro H locs ls hP hS hL
  obtain ⟨r, h1, h2, h3, h4⟩ := F
  obtain ⟨g1, ⟨ty0, g2⟩, g3, g4⟩ := xw_cl κ r h1
  obtain ⟨⟨r2, p1, p2, p3⟩, -, p4⟩ := hp
  cases Option.some.inj (h1.symm.trans p1)
  have hl : k < xg_N G := Nat.lt_of_lt_of_le (xw_lt hk (by omega)) C.2.2.2.2.2.2.1.1
  have he : (xw_ws G h)[k]? = some (xg_ad G k, .inr (κ, xw_fs (xg_ad G) κ k (h k))) := by rw [xw_get hl, xw_ce, hk, xw_ct_lo g4]
  refine va_put (D := xg_D G) (v := .int v) C.1 C.2.1 C.2.2.2.2.1 g1 ty0 g2 g3 C.2.2.2.1 C.2.2.2.2.2.1 hP (xw_D C.2.2.2.2.2.2.1 h) hS k he h1 j h2 (C.2.2.2.2.1 _ h4) (fun x hx => by rw [h3] at hx; exact hx) p2 p3 rfl rfl (p4 (xg_ad G) k (h k) v).2 d (fun H1 locs1 hP1 hD1 hS1 => ?_)
  rw [xw_set_st hl (j := j) (v := v) (by rw [hk, xw_ct_lo g4, (p4 (xg_ad G) k (h k) v).1])] at hP1
  exact K H1 locs1 ls hP1 hS1 hL
/-- the length of an array of ints -/
def xw_al (κ : Nat) : Option Nat := match κ with
  | 11 => some 8
  | _ => none
theorem xw_al_ct {κ n : Nat} (ha : xw_al κ = some n) {T : Nat → ClassId} {ad : Nat → Nat} {k : Nat} : ∀ g : Nat → Int32, xw_ct T ad κ k g = .inl (T 0, n, .inl g) := by
  intro g
  unfold xw_al at ha
  split at ha <;> cases ha <;> rfl
/-- the length of an array of things, their class, the code at a place of it -/
def xw_rl (κ : Nat) : Option (Nat × Nat × String) := match κ with
  | 8 => some (4, 1, RX0)
  | 9 => some (8, 2, RX2)
  | 10 => some (12, 3, RX4)
  | _ => none
def xw_el (κ k i : Nat) : Nat := match κ with
  | 8 => k + 4 + 7 * i
  | 9 => k + 38 + 15 * i
  | _ => k + 1 + i
theorem xw_rl_ct {κ n t : Nat} {S : String} (ha : xw_rl κ = some (n, t, S)) {G : xw_G} {k : Nat} (g : Nat → Int32) : xw_ct (xg_T G) (xg_ad G) κ k g = .inl (xg_T G t, n, .inr (.inr (.inr (.inr (fun i => some (xg_ad G (xw_el κ k i))))))) ∧ (xw_tys G)[t]? = some (xg_T G t, .object S) ∧ κ < 13 := by
  unfold xw_rl at ha
  split at ha <;> cases ha <;> exact ⟨rfl, rfl, by decide⟩
theorem xw_kel {κ k i n t : Nat} {S : String} (ha : xw_rl κ = some (n, t, S)) (hk : xw_kd k = κ) (hi : i < n) : xw_kd (xw_el κ k i) = (match κ with | 8 => 0 | 9 => 2 | _ => 4) := by
  have h8 : ∀ k, k < 351 → xw_kd k = 8 → ∀ i, i < 4 → xw_kd (xw_el 8 k i) = 0 := by decide +kernel
  have h9 : ∀ k, k < 351 → xw_kd k = 9 → ∀ i, i < 8 → xw_kd (xw_el 9 k i) = 2 := by decide +kernel
  have h10 : ∀ k, k < 351 → xw_kd k = 10 → ∀ i, i < 12 → xw_kd (xw_el 10 k i) = 4 := by decide +kernel
  unfold xw_rl at ha
  split at ha
  · cases ha; exact h8 k (xw_lt hk (by decide)) hk i hi
  · cases ha; exact h9 k (xw_lt hk (by decide)) hk i hi
  · cases ha; exact h10 k (xw_lt hk (by decide)) hk i hi
  · cases ha
theorem xr_iald (C : xj_C p s m args meth c G own cc nL) {k κ n : Nat} {i : Int32} (hk : xw_kd k = κ) (hl : k < xg_N G) (ha : xw_al κ = some n) (d : decode cc pc = .ok (.iaload, 1)) {α : Type} {A : Option α} {q : α} (hR : (if xo_ix i n = true then A else none) = some q) (K : A = some q → xj_X p l e R s m args below meth c G nL cells slots Q h lv (pc + 1) (.int (h k i.toNatClampNeg) :: st)) : xj_X p l e R s m args below meth c G nL cells slots Q h lv pc (.int i :: .ref (xg_ad G k) :: st) := by
  intro H locs ls hP hS hL
  have he : (xw_ws G h)[k]? = some (xg_ad G k, .inl (xg_T G 0, n, .inl (h k))) := by rw [xw_get hl, xw_ce, hk, xw_al_ct ha]
  have hi : xo_ix i n = true := Classical.byContradiction fun z => by rw [if_neg z] at hR; cases hR
  exact va_iald C.1 C.2.1 C.2.2.2.2.2.1 hP k 0 he rfl (xo_ix_in hi) d (K (xo_t hR hi) H locs ls hP hS hL)
theorem xr_ialdC (C : xj_C p s m args meth c G own cc nL) {k κ n : Nat} {i : Int32} (hk : xw_kd k = κ) (hl : k < xg_N G) (ha : xw_al κ = some n) (hi : xo_ix i n = true) (d : decode cc pc = .ok (.iaload, 1)) (K : xj_X p l e R s m args below meth c G nL cells slots Q h lv (pc + 1) (.int (h k i.toNatClampNeg) :: st)) : xj_X p l e R s m args below meth c G nL cells slots Q h lv pc (.int i :: .ref (xg_ad G k) :: st) := by
  intro H locs ls hP hS hL
  have he : (xw_ws G h)[k]? = some (xg_ad G k, .inl (xg_T G 0, n, .inl (h k))) := by rw [xw_get hl, xw_ce, hk, xw_al_ct ha]
  exact va_iald C.1 C.2.1 C.2.2.2.2.2.1 hP k 0 he rfl (xo_ix_in hi) d (K H locs ls hP hS hL)
theorem xr_iast (C : xj_C p s m args meth c G own cc nL) {k κ n : Nat} {i x : Int32} (hk : xw_kd k = κ) (hl : k < xg_N G) (ha : xw_al κ = some n) (d : decode cc pc = .ok (.iastore, 1)) {α : Type} {A : Option α} {q : α} (hR : (if xo_ix i n = true then A else none) = some q) (K : A = some q → xj_X p l e R s m args below meth c G nL cells slots Q (xw_st h k i.toNatClampNeg x) lv (pc + 1) st) : xj_X p l e R s m args below meth c G nL cells slots Q h lv pc (.int x :: .int i :: .ref (xg_ad G k) :: st) := by
  intro H locs ls hP hS hL
  have he : (xw_ws G h)[k]? = some (xg_ad G k, .inl (xg_T G 0, n, .inl (h k))) := by rw [xw_get hl, xw_ce, hk, xw_al_ct ha]
  have hi : xo_ix i n = true := Classical.byContradiction fun z => by rw [if_neg z] at hR; cases hR
  refine va_iast C.1 C.2.1 C.2.2.2.2.2.1 hP (xw_D C.2.2.2.2.2.2.1 h) hS k 0 he rfl (xo_ix_in hi) d (fun H1 locs1 hP1 hD1 hS1 => ?_)
  rw [xw_set_st hl (j := i.toNatClampNeg) (v := x) (by rw [hk, xw_al_ct ha])] at hP1
  exact K (xo_t hR hi) H1 locs1 ls hP1 hS1 hL
theorem xr_iastC (C : xj_C p s m args meth c G own cc nL) {k κ n : Nat} {i x : Int32} (hk : xw_kd k = κ) (hl : k < xg_N G) (ha : xw_al κ = some n) (hi : xo_ix i n = true) (d : decode cc pc = .ok (.iastore, 1)) (K : xj_X p l e R s m args below meth c G nL cells slots Q (xw_st h k i.toNatClampNeg x) lv (pc + 1) st) : xj_X p l e R s m args below meth c G nL cells slots Q h lv pc (.int x :: .int i :: .ref (xg_ad G k) :: st) := by
  intro H locs ls hP hS hL
  have he : (xw_ws G h)[k]? = some (xg_ad G k, .inl (xg_T G 0, n, .inl (h k))) := by rw [xw_get hl, xw_ce, hk, xw_al_ct ha]
  refine va_iast C.1 C.2.1 C.2.2.2.2.2.1 hP (xw_D C.2.2.2.2.2.2.1 h) hS k 0 he rfl (xo_ix_in hi) d (fun H1 locs1 hP1 hD1 hS1 => ?_)
  rw [xw_set_st hl (j := i.toNatClampNeg) (v := x) (by rw [hk, xw_al_ct ha])] at hP1
  exact K H1 locs1 ls hP1 hS1 hL
theorem xr_alen (C : xj_C p s m args meth c G own cc nL) {k κ n : Nat} {v : Int32} (hk : xw_kd k = κ) (hl : k < xg_N G) (ha : xw_al κ = some n) (hv : Int32.ofNat n = v) (d : decode cc pc = .ok (.arraylength, 1)) (K : xj_X p l e R s m args below meth c G nL cells slots Q h lv (pc + 1) (.int v :: st)) : xj_X p l e R s m args below meth c G nL cells slots Q h lv pc (.ref (xg_ad G k) :: st) := by
  intro H locs ls hP hS hL
  have he : (xw_ws G h)[k]? = some (xg_ad G k, .inl (xg_T G 0, n, .inl (h k))) := by rw [xw_get hl, xw_ce, hk, xw_al_ct ha]
  exact va_alen C.1 C.2.1 C.2.2.2.2.2.1 hP k 0 he rfl hv d (K H locs ls hP hS hL)
theorem xr_alenR (C : xj_C p s m args meth c G own cc nL) {k κ n t : Nat} {S : String} {v : Int32} (hk : xw_kd k = κ) (ha : xw_rl κ = some (n, t, S)) (hv : Int32.ofNat n = v) (d : decode cc pc = .ok (.arraylength, 1)) (K : xj_X p l e R s m args below meth c G nL cells slots Q h lv (pc + 1) (.int v :: st)) : xj_X p l e R s m args below meth c G nL cells slots Q h lv pc (.ref (xg_ad G k) :: st) := by
  intro H locs ls hP hS hL
  obtain ⟨r1, r2, r3⟩ := xw_rl_ct (G := G) (k := k) ha (h k)
  have hl : k < xg_N G := Nat.lt_of_lt_of_le (xw_lt hk r3) C.2.2.2.2.2.2.1.1
  have he : (xw_ws G h)[k]? = some (xg_ad G k, .inl (xg_T G t, n, .inr (.inr (.inr (.inr (fun i => some (xg_ad G (xw_el κ k i)))))))) := by rw [xw_get hl, xw_ce, hk, r1]
  exact va_alen C.1 C.2.1 C.2.2.2.2.2.1 hP k t he r2 hv d (K H locs ls hP hS hL)
theorem xr_aald (C : xj_C p s m args meth c G own cc nL) {k κ n t : Nat} {S : String} {i : Int32} (hk : xw_kd k = κ) (ha : xw_rl κ = some (n, t, S)) (d : decode cc pc = .ok (.aaload, 1)) {α : Type} {A : Option α} {q : α} (hR : (if xo_ix i n = true then A else none) = some q) (K : xo_ix i n = true → A = some q → xj_X p l e R s m args below meth c G nL cells slots Q h lv (pc + 1) (.ref (xg_ad G (xw_el κ k i.toNatClampNeg)) :: st)) : xj_X p l e R s m args below meth c G nL cells slots Q h lv pc (.int i :: .ref (xg_ad G k) :: st) := by
  intro H locs ls hP hS hL
  obtain ⟨r1, r2, r3⟩ := xw_rl_ct (G := G) (k := k) ha (h k)
  have hl : k < xg_N G := Nat.lt_of_lt_of_le (xw_lt hk r3) C.2.2.2.2.2.2.1.1
  have he : (xw_ws G h)[k]? = some (xg_ad G k, .inl (xg_T G t, n, .inr (.inr (.inr (.inr (fun i => some (xg_ad G (xw_el κ k i)))))))) := by rw [xw_get hl, xw_ce, hk, r1]
  have hi : xo_ix i n = true := Classical.byContradiction fun z => by rw [if_neg z] at hR; cases hR
  exact va_aldq C.1 C.2.1 C.2.2.2.2.2.1 hP k t he r2 (xo_ix_in hi) d (K hi (xo_t hR hi) H locs ls hP hS hL)
/-! a method's contract: from the memory h it comes back with rv and the memory h' -/
def xw_Q (G : xw_G) (rv : Option Value) (h' : xw_M) : Array Value → State → Outcome → State → Prop := fun _ st o t => o = .returned rv ∧ xw_P G h' t.heap ∧ va_F (xg_A G) st t
def xc_M (l : Launch) (G : xw_G) (y : MethodName) (cc : ByteArray) (n : Nat) (ret : Option FieldType) (fr lo : Nat) (av : List Value) (h h' : xw_M) (rv : Option Value) : Prop :=
  Met l y (.code y cc n ret :: lw_g) { frames := fr, cells := 0, slots := 0, locals := lo } (va_Pc av (xw_S G h)) (xw_Q G rv h') 0 0 (xg_A G)
theorem xc_entry : ∀ (av : List Value) (i j : Nat) (v : Value), av.all (fun v => v.category == 1) = true → av[j]? = some v → (i + j, v) ∈ lv_args i av
  | [], i, j, v, _, h => by simp at h
  | a :: av, i, 0, v, hc, h => by
    simp only [List.getElem?_cons_zero, Option.some.injEq] at h
    subst h
    exact List.mem_cons_self
  | a :: av, i, j + 1, v, hc, h => by
    rw [List.all_cons, Bool.and_eq_true, beq_iff_eq] at hc
    rw [List.getElem?_cons_succ] at h
    have h1 := xc_entry av (i + 1) j v hc.2 h
    unfold lv_args
    rw [if_neg (by rw [hc.1]; decide)]
    exact List.mem_cons_of_mem _ (by rw [show i + (j + 1) = i + 1 + j by omega]; exact h1)
def xc_lv (av : List Value) (n : Nat) : List (Option Value) := av.map some ++ List.replicate (n - av.length) none
theorem xc_lv_at {av : List Value} {n j : Nat} {v : Value} (h : (xc_lv av n)[j]? = some (some v)) : av[j]? = some v := by
  unfold xc_lv at h
  by_cases hj : j < av.length
  · rw [List.getElem?_append_left (by rw [List.length_map]; exact hj), List.getElem?_map] at h
    cases ha : av[j]? with
    | none => rw [ha] at h; cases h
    | some x => rw [ha] at h; cases h; rfl
  · rw [List.getElem?_append_right (by rw [List.length_map]; omega)] at h
    have h2 := List.mem_of_getElem? h
    rw [List.mem_replicate] at h2
    exact absurd h2.2 (by simp)
theorem xc_of {ret : Option FieldType} {y : MethodName} {n fr lo : Nat} {av : List Value} {h' : xw_M} {rv : Option Value} (hy : plainName y.cls = true) (hcat : av.all (fun v => v.category == 1) = true) (hlen : (lg_sl av).length ≤ n)
    (body : ∀ (p : Program) (e : Env) (s : State) (m : MethodId) (args : Array Value) (below : List Frame) (meth : Method) (c : Code), xj_C p s m args meth c G y.cls cc n → meth.sig.returnType = ret →
      xj_X p l e { frames := fr, cells := 0, slots := 0, locals := lo } s m args below meth c G n 0 0 (MQ below (xw_Q G rv h') args s 0 0 (xg_A G)) h (xc_lv av n) 0 []) : xc_M l G y cc n ret fr lo av h h' rv := by
  refine Met.ofW (cc := cc) (maxL := n) (ret := ret) hy rfl ?_
  intro p e s m args below meth c s₁ B hml hv
  obtain ⟨rfl, hP, hK, hG, hX⟩ := hv
  have hts : ∀ w ∈ lw_g, w.before av.toArray s = true := fun w hw => atoms_spec (ws := .code y cc n ret :: lw_g) B.pre w (List.mem_cons_of_mem _ hw)
  have hl := lv_entry av (n := n) hlen
  rw [lg_entry_eq]
  exact body p e s m av.toArray below meth c ⟨B.exec, B.bytes, hml, findClass_of_methodNamed B.named, hts, hK, hG, hX, B.notSynchronized⟩ B.returns s.heap [] _ hP va_S.rf ⟨hl.1, hl.2.1, fun i v hi => hl.2.2 (i, v) (by have h1 := xc_entry av 0 i v hcat (xc_lv_at hi); rwa [Nat.zero_add] at h1)⟩
/-! the ends -/
theorem xr_iret (C : xj_C p s m args meth c G own cc nL) {v : Int32} (hr : meth.sig.returnType = some .int) (d : decode cc pc = .ok (.ireturn, 1)) {q : xw_M × Int32} (hR : some (h, v) = some q) : xj_X p l e R s m args below meth c G nL cells slots (MQ below (xw_Q G (some (.int q.2)) q.1) args s cells slots (xg_A G)) h lv pc [.int v] := by
  intro H locs ls hP hS hL
  cases hR
  have hlocks := C.2.2.2.2.2.2.2.2
  exact W.iret C.1 C.2.1 hr (fun t ht hW => ⟨rfl, by rw [ht]; exact hP, hS.F ht⟩) hS.2.2 d
theorem xr_zret (C : xj_C p s m args meth c G own cc nL) {v : Int32} (hr : meth.sig.returnType = some .boolean) (hv : v = 0 ∨ v = 1) (d : decode cc pc = .ok (.ireturn, 1)) {q : xw_M × Int32} (hR : some (h, v) = some q) : xj_X p l e R s m args below meth c G nL cells slots (MQ below (xw_Q G (some (.int q.2)) q.1) args s cells slots (xg_A G)) h lv pc [.int v] := by
  intro H locs ls hP hS hL
  cases hR
  have hlocks := C.2.2.2.2.2.2.2.2
  exact W.zret C.1 C.2.1 hr (by rcases hv with rfl | rfl <;> rfl) (fun t ht hW => ⟨rfl, by rw [ht]; exact hP, hS.F ht⟩) hS.2.2 d
theorem xr_zretG (C : xj_C p s m args meth c G own cc nL) {v : Int32} (hr : meth.sig.returnType = some .boolean) (d : decode cc pc = .ok (.ireturn, 1)) {q : xw_M × Int32} (hR : (if v = 0 ∨ v = 1 then some (h, v) else none) = some q) : xj_X p l e R s m args below meth c G nL cells slots (MQ below (xw_Q G (some (.int q.2)) q.1) args s cells slots (xg_A G)) h lv pc [.int v] := by
  have hv : v = 0 ∨ v = 1 := Classical.byContradiction fun z => by rw [if_neg z] at hR; cases hR
  exact xr_zret C hr hv d (xo_t hR hv)
theorem xr_vret (C : xj_C p s m args meth c G own cc nL) (hr : meth.sig.returnType = none) (d : decode cc pc = .ok (.return_, 1)) {q : xw_M × Unit} (hR : some (h, ()) = some q) : xj_X p l e R s m args below meth c G nL cells slots (MQ below (xw_Q G none q.1) args s cells slots (xg_A G)) h lv pc [] := by
  intro H locs ls hP hS hL
  cases hR
  have hlocks := C.2.2.2.2.2.2.2.2
  exact W.vret C.1 C.2.1 hr (fun t ht hW => ⟨rfl, by rw [ht]; exact hP, hS.F ht⟩) hS.2.2 d
theorem xr_aret (C : xj_C p s m args meth c G own cc nL) {k : Nat} {S : String} (hr : meth.sig.returnType = some (.object S)) (d : decode cc pc = .ok (.areturn, 1)) {q : xw_M × Nat} (hR : some (h, k) = some q) : xj_X p l e R s m args below meth c G nL cells slots (MQ below (xw_Q G (some (.ref (xg_ad G q.2))) q.1) args s cells slots (xg_A G)) h lv pc [.ref (xg_ad G k)] := by
  intro H locs ls hP hS hL
  cases hR
  have hlocks := C.2.2.2.2.2.2.2.2
  exact W.aret C.1 C.2.1 hr (Or.inl ⟨_, rfl⟩) (Or.inr ⟨_, rfl⟩) (fun t ht hW => ⟨rfl, by rw [ht]; exact hP, hS.F ht⟩) hS.2.2 d
theorem xr_lret (C : xj_C p s m args meth c G own cc nL) {v : Int64} (hr : meth.sig.returnType = some .long) (d : decode cc pc = .ok (.lreturn, 1)) {q : xw_M × Int64} (hR : some (h, v) = some q) : xj_X p l e R s m args below meth c G nL cells slots (MQ below (xw_Q G (some (.long q.2)) q.1) args s cells slots (xg_A G)) h lv pc [.long v] := by
  intro H locs ls hP hS hL
  cases hR
  have hlocks := C.2.2.2.2.2.2.2.2
  exact W.lret C.1 C.2.1 hr (fun t ht hW => ⟨rfl, by rw [ht]; exact hP, hS.F ht⟩) hS.2.2 d
/-! the calls -/
/-- a call by the receiver's class: its words, its method's -/
def xw_cv (own : String) (idx κ : Nat) (y : MethodName) (b : ByteArray) (n : Nat) (ret : Option FieldType) (na : Nat) : Prop :=
  (∀ w ∈ wsV own idx y.cls y (.code y b n ret :: []), w ∈ lw_g) ∧ (∃ r : vw_C, vwCl[κ]? = some r ∧ r.1 = y.cls) ∧ y.cls ≠ "java/lang/invoke/MethodHandle" ∧ y.cls ≠ "java/lang/invoke/VarHandle" ∧ (parseMethodDescriptor y.desc).map (fun d => d.parameters.length) = some na
def xw_cs (own : String) (idx : Nat) (y : MethodName) (b : ByteArray) (n : Nat) (ret : Option FieldType) (na : Nat) : Prop :=
  (∀ w ∈ wsS own idx y (.code y b n ret :: []), w ∈ lw_g) ∧ y.cls = own ∧ y.cls ≠ "java/lang/invoke/MethodHandle" ∧ y.cls ≠ "java/lang/invoke/VarHandle" ∧ (parseMethodDescriptor y.desc).map (fun d => d.parameters.length) = some na
theorem xw_goodV {own : String} {idx κ : Nat} {y : MethodName} {b : ByteArray} {n : Nat} {ret : Option FieldType} {na : Nat} (hc : xw_cv own idx κ y b n ret na) : GoodIn lw_g (wsV own idx y.cls y (.code y b n ret :: lw_g)) := by
  refine lw_g_good fun w hw => ?_
  rcases List.mem_append.mp (show w ∈ [Cond.methodLink own idx y, .instanceMethod y, .selects y.cls y y, .initialized y.cls] ++ (.code y b n ret :: lw_g) from hw) with h1 | h1
  · exact hc.1 w (List.mem_append.mpr (Or.inl h1))
  · rcases List.mem_cons.mp h1 with h2 | h2
    · exact hc.1 w (List.mem_append.mpr (Or.inr (h2 ▸ List.mem_cons_self)))
    · exact h2
theorem xw_goodS {own : String} {idx : Nat} {y : MethodName} {b : ByteArray} {n : Nat} {ret : Option FieldType} {na : Nat} (hc : xw_cs own idx y b n ret na) : GoodIn lw_g (wsS own idx y (.code y b n ret :: lw_g)) := by
  refine lw_g_good fun w hw => ?_
  rcases List.mem_append.mp (show w ∈ [Cond.methodLink own idx y, .static y, .initialized own] ++ (.code y b n ret :: lw_g) from hw) with h1 | h1
  · exact hc.1 w (List.mem_append.mpr (Or.inl h1))
  · rcases List.mem_cons.mp h1 with h2 | h2
    · exact hc.1 w (List.mem_append.mpr (Or.inr (h2 ▸ List.mem_cons_self)))
    · exact h2
/-- the start that a call hands on -/
theorem xj_S {H : Heap} {locs : List Loc} (C : xj_C p s m args meth c G own cc nL) (hP : xw_P G h H) (hS : va_S (xg_A G) s.heap H locs) {U : State} (hU : U.heap = H) (hW : s.WarmedH U.vm) : xw_S G h U :=
  ⟨by rw [hU]; exact hP, va_K.moved hW.alike C.2.2.2.2.2.1, C.2.2.2.2.2.2.1, by rw [hU]; exact C.2.2.2.2.2.2.2.1.warm hW hS.2.1⟩
theorem xr_goV {κ k n na idx fr lo : Nat} {y : MethodName} {b : ByteArray} {ret : Option FieldType} {As : List Value} {h' : xw_M} {rv : Option Value} (C : xj_C p s m args meth c G own cc nL) (hc : xw_cv own idx κ y b n ret na) (hk : xw_kd k = κ) (hM : xc_M l G y b n ret fr lo (.ref (xg_ad G k) :: As) h h' rv) (hn : As.length = na)
    (hR : fr + 1 ≤ R.frames ∧ 8 + (n + 11) + lo ≤ R.locals) (hst : (st.map fun v => v.category).sum ≤ 8) (hcs : cells ≤ R.cells ∧ slots ≤ R.slots) (d : decode cc pc = .ok (.invokevirtual idx, 3)) (K : xj_X p l e R s m args below meth c G nL cells slots Q h' lv (pc + 3) (rv.toList ++ st)) :
    xj_X p l e R s m args below meth c G nL cells slots Q h lv pc (As.reverse ++ .ref (xg_ad G k) :: st) := by
  intro H locs ls hP hS hL
  obtain ⟨hw, ⟨r, h1, h2⟩, h3⟩ := id hc
  obtain ⟨-, -, -, g4⟩ := xw_cl κ r h1
  have hl : k < xg_N G := Nat.lt_of_lt_of_le (xw_lt hk (by omega)) C.2.2.2.2.2.2.1.1
  have he : (xw_ws G h)[k]? = some (xg_ad G k, .inr (κ, xw_fs (xg_ad G) κ k (h k))) := by rw [xw_get hl, xw_ce, hk, xw_ct_lo g4]
  have hrv := va_recv C.2.2.2.2.2.1 hP h1 he
  rw [h2] at hrv
  have hrun := va_runV (g := F0 m pc ls (As.reverse ++ .ref (xg_ad G k) :: st)) (rest := st) (p := p) (e := e) (R := R) (below := below) (meth := meth) (locs := locs) (cells := cells) (slots := slots) ⟨C.1, C.2.1, C.2.2.1, C.2.2.2.1, C.2.2.2.2.1⟩ hM (cwV na C.2.2.2.2.1 (xw_goodV hc) rfl rfl rfl ⟨rfl, h3⟩ hR) ⟨xw_blind, hrv, fun U hU hW => ⟨rfl, xj_S C hP hS hU hW⟩⟩ rfl hn hL.1 rfl (lv_room hst) d ⟨by omega, by omega⟩
  intro T hT X
  obtain ⟨v, st₀, t, T', L, h0, X', hLf, e1, e2, ⟨hv, hP', hF⟩, stp⟩ := hrun T hT X
  obtain ⟨k1, k2, k3⟩ := vx_keep h0 e1 hS (fun _ _ z => z) (fun _ z => z) hLf hF
  cases hv
  obtain ⟨t2, a1, b1⟩ := K T'.heap (locs ++ L) ls (by rw [e1]; exact hP') k3 hL T' rfl X'
  exact ⟨t2, stp t2 a1, b1⟩
theorem xr_goS {n na idx fr lo : Nat} {y : MethodName} {b : ByteArray} {ret : Option FieldType} {As : List Value} {h' : xw_M} {rv : Option Value} (C : xj_C p s m args meth c G own cc nL) (hc : xw_cs own idx y b n ret na) (hM : xc_M l G y b n ret fr lo As h h' rv) (hn : As.length = na)
    (hR : fr + 1 ≤ R.frames ∧ 8 + (n + 11) + lo ≤ R.locals) (hst : (st.map fun v => v.category).sum ≤ 8) (hcs : cells ≤ R.cells ∧ slots ≤ R.slots) (d : decode cc pc = .ok (.invokestatic idx, 3)) (K : xj_X p l e R s m args below meth c G nL cells slots Q h' lv (pc + 3) (rv.toList ++ st)) :
    xj_X p l e R s m args below meth c G nL cells slots Q h lv pc (As.reverse ++ st) := by
  intro H locs ls hP hS hL
  have hrun := va_runS (g := F0 m pc ls (As.reverse ++ st)) (rest := st) (p := p) (e := e) (R := R) (below := below) (meth := meth) (locs := locs) (cells := cells) (slots := slots) (H := H) ⟨C.1, C.2.1, C.2.2.1, C.2.2.2.1, C.2.2.2.2.1⟩ hM (cwS na C.2.2.2.2.1 (xw_goodS hc) rfl rfl rfl hc.2 hR) ⟨xw_blind, fun U hU hW => ⟨rfl, xj_S C hP hS hU hW⟩⟩ rfl hn hL.1 rfl (lv_room hst) d ⟨by omega, by omega⟩
  intro T hT X
  obtain ⟨v, st₀, t, T', L, h0, X', hLf, e1, e2, ⟨hv, hP', hF⟩, stp⟩ := hrun T hT X
  obtain ⟨k1, k2, k3⟩ := vx_keep h0 e1 hS (fun _ _ z => z) (fun _ z => z) hLf hF
  cases hv
  obtain ⟨t2, a1, b1⟩ := K T'.heap (locs ++ L) ls (by rw [e1]; exact hP') k3 hL T' rfl X'
  exact ⟨t2, stp t2 a1, b1⟩
/-- a memory gets a name -/
def xo_let {α β : Type} (a : α) (f : α → β) : β := f a
theorem xj_ltN (C : xj_C p s m args meth c G own cc nL) {k κ : Nat} (hk : xw_kd k = κ) (hκ : κ < 13) : k < xg_N G := Nat.lt_of_lt_of_le (xw_lt hk hκ) C.2.2.2.2.2.2.1.1
theorem xr_putL (C : xj_C p s m args meth c G own cc nL) {k κ j idx : Nat} {v : Int32} (hk : xw_kd k = κ) (F : xw_fl own idx κ j) (hp : xw_pf κ j) (d : decode cc pc = .ok (.putfield idx, 3)) {α : Type} {f : xw_M → Option α} {r : Option α} (hR : xo_let (xw_st h k j v) f = r) (K : ∀ h1 : xw_M, f h1 = r → xj_X p l e R s m args below meth c G nL cells slots Q h1 lv (pc + 3) st) : xj_X p l e R s m args below meth c G nL cells slots Q h lv pc (.int v :: .ref (xg_ad G k) :: st) := xr_put C hk F hp d (K _ hR)
theorem xr_iastL (C : xj_C p s m args meth c G own cc nL) {k κ n : Nat} {i x : Int32} (hk : xw_kd k = κ) (hl : k < xg_N G) (ha : xw_al κ = some n) (d : decode cc pc = .ok (.iastore, 1)) {α : Type} {f : xw_M → Option α} {q : α} (hR : (if xo_ix i n = true then xo_let (xw_st h k i.toNatClampNeg x) f else none) = some q) (K : ∀ h1 : xw_M, f h1 = some q → xj_X p l e R s m args below meth c G nL cells slots Q h1 lv (pc + 1) st) : xj_X p l e R s m args below meth c G nL cells slots Q h lv pc (.int x :: .int i :: .ref (xg_ad G k) :: st) := xr_iast C hk hl ha d hR (fun z => K _ z)
theorem xr_iastLC (C : xj_C p s m args meth c G own cc nL) {k κ n : Nat} {i x : Int32} (hk : xw_kd k = κ) (hl : k < xg_N G) (ha : xw_al κ = some n) (hi : xo_ix i n = true) (d : decode cc pc = .ok (.iastore, 1)) {α : Type} {f : xw_M → Option α} {r : Option α} (hR : xo_let (xw_st h k i.toNatClampNeg x) f = r) (K : ∀ h1 : xw_M, f h1 = r → xj_X p l e R s m args below meth c G nL cells slots Q h1 lv (pc + 1) st) : xj_X p l e R s m args below meth c G nL cells slots Q h lv pc (.int x :: .int i :: .ref (xg_ad G k) :: st) := xr_iastC C hk hl ha hi d (K _ hR)
theorem xr_callVi (C : xj_C p s m args meth c G own cc nL) {κ k n na idx fr lo : Nat} {y : MethodName} {b : ByteArray} {ret : Option FieldType} {stk : List Value} (As : List Value) {o : Option (xw_M × Int32)} {α : Type} {F : xw_M × Int32 → Option α} {q : α} (hc : xw_cv own idx κ y b n ret na) (hk : xw_kd k = κ) (hM : ∀ r, o = some r → xc_M l G y b n ret fr lo (.ref (xg_ad G k) :: As) h r.1 (some (.int r.2))) (hn : As.length = na) (hR9 : fr + 1 ≤ R.frames ∧ 8 + (n + 11) + lo ≤ R.locals) (hst : (st.map fun v => v.category).sum ≤ 8) (hcs : cells ≤ R.cells ∧ slots ≤ R.slots) (hs : stk = As.reverse ++ .ref (xg_ad G k) :: st) (d : decode cc pc = .ok (.invokevirtual idx, 3)) (hR : o.bind F = some q) (K : ∀ r, o = some r → F r = some q → xj_X p l e R s m args below meth c G nL cells slots Q r.1 lv (pc + 3) (.int r.2 :: st)) : xj_X p l e R s m args below meth c G nL cells slots Q h lv pc stk := by
  obtain ⟨r, h1, h2⟩ := xo_b hR
  rw [hs]
  exact xr_goV C hc hk (hM r h1) hn hR9 hst hcs d (K r h1 h2)
theorem xr_callSi (C : xj_C p s m args meth c G own cc nL) {n na idx fr lo : Nat} {y : MethodName} {b : ByteArray} {ret : Option FieldType} {stk : List Value} (As : List Value) {o : Option (xw_M × Int32)} {α : Type} {F : xw_M × Int32 → Option α} {q : α} (hc : xw_cs own idx y b n ret na) (hM : ∀ r, o = some r → xc_M l G y b n ret fr lo As h r.1 (some (.int r.2))) (hn : As.length = na) (hR9 : fr + 1 ≤ R.frames ∧ 8 + (n + 11) + lo ≤ R.locals) (hst : (st.map fun v => v.category).sum ≤ 8) (hcs : cells ≤ R.cells ∧ slots ≤ R.slots) (hs : stk = As.reverse ++ st) (d : decode cc pc = .ok (.invokestatic idx, 3)) (hR : o.bind F = some q) (K : ∀ r, o = some r → F r = some q → xj_X p l e R s m args below meth c G nL cells slots Q r.1 lv (pc + 3) (.int r.2 :: st)) : xj_X p l e R s m args below meth c G nL cells slots Q h lv pc stk := by
  obtain ⟨r, h1, h2⟩ := xo_b hR
  rw [hs]
  exact xr_goS C hc (hM r h1) hn hR9 hst hcs d (K r h1 h2)
theorem xr_callVv (C : xj_C p s m args meth c G own cc nL) {κ k n na idx fr lo : Nat} {y : MethodName} {b : ByteArray} {ret : Option FieldType} {stk : List Value} (As : List Value) {o : Option (xw_M × Unit)} {α : Type} {F : xw_M × Unit → Option α} {q : α} (hc : xw_cv own idx κ y b n ret na) (hk : xw_kd k = κ) (hM : ∀ r, o = some r → xc_M l G y b n ret fr lo (.ref (xg_ad G k) :: As) h r.1 none) (hn : As.length = na) (hR9 : fr + 1 ≤ R.frames ∧ 8 + (n + 11) + lo ≤ R.locals) (hst : (st.map fun v => v.category).sum ≤ 8) (hcs : cells ≤ R.cells ∧ slots ≤ R.slots) (hs : stk = As.reverse ++ .ref (xg_ad G k) :: st) (d : decode cc pc = .ok (.invokevirtual idx, 3)) (hR : o.bind F = some q) (K : ∀ r, o = some r → F r = some q → xj_X p l e R s m args below meth c G nL cells slots Q r.1 lv (pc + 3) st) : xj_X p l e R s m args below meth c G nL cells slots Q h lv pc stk := by
  obtain ⟨r, h1, h2⟩ := xo_b hR
  rw [hs]
  exact xr_goV C hc hk (hM r h1) hn hR9 hst hcs d (K r h1 h2)
theorem xr_callSv (C : xj_C p s m args meth c G own cc nL) {n na idx fr lo : Nat} {y : MethodName} {b : ByteArray} {ret : Option FieldType} {stk : List Value} (As : List Value) {o : Option (xw_M × Unit)} {α : Type} {F : xw_M × Unit → Option α} {q : α} (hc : xw_cs own idx y b n ret na) (hM : ∀ r, o = some r → xc_M l G y b n ret fr lo As h r.1 none) (hn : As.length = na) (hR9 : fr + 1 ≤ R.frames ∧ 8 + (n + 11) + lo ≤ R.locals) (hst : (st.map fun v => v.category).sum ≤ 8) (hcs : cells ≤ R.cells ∧ slots ≤ R.slots) (hs : stk = As.reverse ++ st) (d : decode cc pc = .ok (.invokestatic idx, 3)) (hR : o.bind F = some q) (K : ∀ r, o = some r → F r = some q → xj_X p l e R s m args below meth c G nL cells slots Q r.1 lv (pc + 3) st) : xj_X p l e R s m args below meth c G nL cells slots Q h lv pc stk := by
  obtain ⟨r, h1, h2⟩ := xo_b hR
  rw [hs]
  exact xr_goS C hc (hM r h1) hn hR9 hst hcs d (K r h1 h2)
theorem xr_callVr (C : xj_C p s m args meth c G own cc nL) {κ k n na idx fr lo : Nat} {y : MethodName} {b : ByteArray} {ret : Option FieldType} {stk : List Value} (As : List Value) {o : Option (xw_M × Nat)} {α : Type} {F : xw_M × Nat → Option α} {q : α} (hc : xw_cv own idx κ y b n ret na) (hk : xw_kd k = κ) (hM : ∀ r, o = some r → xc_M l G y b n ret fr lo (.ref (xg_ad G k) :: As) h r.1 (some (.ref (xg_ad G r.2)))) (hn : As.length = na) (hR9 : fr + 1 ≤ R.frames ∧ 8 + (n + 11) + lo ≤ R.locals) (hst : (st.map fun v => v.category).sum ≤ 8) (hcs : cells ≤ R.cells ∧ slots ≤ R.slots) (hs : stk = As.reverse ++ .ref (xg_ad G k) :: st) (d : decode cc pc = .ok (.invokevirtual idx, 3)) (hR : o.bind F = some q) (K : ∀ r, o = some r → F r = some q → xj_X p l e R s m args below meth c G nL cells slots Q r.1 lv (pc + 3) (.ref (xg_ad G r.2) :: st)) : xj_X p l e R s m args below meth c G nL cells slots Q h lv pc stk := by
  obtain ⟨r, h1, h2⟩ := xo_b hR
  rw [hs]
  exact xr_goV C hc hk (hM r h1) hn hR9 hst hcs d (K r h1 h2)
theorem xr_callSr (C : xj_C p s m args meth c G own cc nL) {n na idx fr lo : Nat} {y : MethodName} {b : ByteArray} {ret : Option FieldType} {stk : List Value} (As : List Value) {o : Option (xw_M × Nat)} {α : Type} {F : xw_M × Nat → Option α} {q : α} (hc : xw_cs own idx y b n ret na) (hM : ∀ r, o = some r → xc_M l G y b n ret fr lo As h r.1 (some (.ref (xg_ad G r.2)))) (hn : As.length = na) (hR9 : fr + 1 ≤ R.frames ∧ 8 + (n + 11) + lo ≤ R.locals) (hst : (st.map fun v => v.category).sum ≤ 8) (hcs : cells ≤ R.cells ∧ slots ≤ R.slots) (hs : stk = As.reverse ++ st) (d : decode cc pc = .ok (.invokestatic idx, 3)) (hR : o.bind F = some q) (K : ∀ r, o = some r → F r = some q → xj_X p l e R s m args below meth c G nL cells slots Q r.1 lv (pc + 3) (.ref (xg_ad G r.2) :: st)) : xj_X p l e R s m args below meth c G nL cells slots Q h lv pc stk := by
  obtain ⟨r, h1, h2⟩ := xo_b hR
  rw [hs]
  exact xr_goS C hc (hM r h1) hn hR9 hst hcs d (K r h1 h2)
theorem xr_callVl (C : xj_C p s m args meth c G own cc nL) {κ k n na idx fr lo : Nat} {y : MethodName} {b : ByteArray} {ret : Option FieldType} {stk : List Value} (As : List Value) {o : Option (xw_M × Int64)} {α : Type} {F : xw_M × Int64 → Option α} {q : α} (hc : xw_cv own idx κ y b n ret na) (hk : xw_kd k = κ) (hM : ∀ r, o = some r → xc_M l G y b n ret fr lo (.ref (xg_ad G k) :: As) h r.1 (some (.long r.2))) (hn : As.length = na) (hR9 : fr + 1 ≤ R.frames ∧ 8 + (n + 11) + lo ≤ R.locals) (hst : (st.map fun v => v.category).sum ≤ 8) (hcs : cells ≤ R.cells ∧ slots ≤ R.slots) (hs : stk = As.reverse ++ .ref (xg_ad G k) :: st) (d : decode cc pc = .ok (.invokevirtual idx, 3)) (hR : o.bind F = some q) (K : ∀ r, o = some r → F r = some q → xj_X p l e R s m args below meth c G nL cells slots Q r.1 lv (pc + 3) (.long r.2 :: st)) : xj_X p l e R s m args below meth c G nL cells slots Q h lv pc stk := by
  obtain ⟨r, h1, h2⟩ := xo_b hR
  rw [hs]
  exact xr_goV C hc hk (hM r h1) hn hR9 hst hcs d (K r h1 h2)
theorem xr_callSl (C : xj_C p s m args meth c G own cc nL) {n na idx fr lo : Nat} {y : MethodName} {b : ByteArray} {ret : Option FieldType} {stk : List Value} (As : List Value) {o : Option (xw_M × Int64)} {α : Type} {F : xw_M × Int64 → Option α} {q : α} (hc : xw_cs own idx y b n ret na) (hM : ∀ r, o = some r → xc_M l G y b n ret fr lo As h r.1 (some (.long r.2))) (hn : As.length = na) (hR9 : fr + 1 ≤ R.frames ∧ 8 + (n + 11) + lo ≤ R.locals) (hst : (st.map fun v => v.category).sum ≤ 8) (hcs : cells ≤ R.cells ∧ slots ≤ R.slots) (hs : stk = As.reverse ++ st) (d : decode cc pc = .ok (.invokestatic idx, 3)) (hR : o.bind F = some q) (K : ∀ r, o = some r → F r = some q → xj_X p l e R s m args below meth c G nL cells slots Q r.1 lv (pc + 3) (.long r.2 :: st)) : xj_X p l e R s m args below meth c G nL cells slots Q h lv pc stk := by
  obtain ⟨r, h1, h2⟩ := xo_b hR
  rw [hs]
  exact xr_goS C hc (hM r h1) hn hR9 hst hcs d (K r h1 h2)
/-! less known of the locals -/
def xj_le : List (Option Value) → List (Option Value) → Prop
  | [], _ => True
  | none :: a, _ :: b => xj_le a b
  | some v :: a, x :: b => x = some v ∧ xj_le a b
  | none :: _, [] => False
  | some _ :: _, [] => False
theorem xj_le_at : ∀ (a b : List (Option Value)), xj_le a b → ∀ (i : Nat) (v : Value), a[i]? = some (some v) → b[i]? = some (some v)
  | [], _, _, i, v, h => by simp at h
  | none :: a, x :: b, hab, 0, v, h => by simp at h
  | none :: a, x :: b, hab, i + 1, v, h => by
    rw [List.getElem?_cons_succ] at h ⊢
    exact xj_le_at a b hab i v h
  | some u :: a, x :: b, hab, 0, v, h => by
    rw [List.getElem?_cons_zero] at h ⊢
    cases h
    rw [hab.1]
  | some u :: a, x :: b, hab, i + 1, v, h => by
    rw [List.getElem?_cons_succ] at h ⊢
    exact xj_le_at a b hab.2 i v h
  | none :: _, [], hab, _, _, _ => False.elim hab
  | some _ :: _, [], hab, _, _, _ => False.elim hab
theorem xr_sub {lv9 : List (Option Value)} (hle : xj_le lv9 lv) (K : xj_X p l e R s m args below meth c G nL cells slots Q h lv9 pc st) : xj_X p l e R s m args below meth c G nL cells slots Q h lv pc st := fun H locs ls hP hS hL => K H locs ls hP hS ⟨hL.1, hL.2.1, fun i v hi => hL.2.2 i v (xj_le_at lv9 lv hle i v hi)⟩
/-- the fuel of the pure loops -/
def xo_n : Nat := 300
theorem xo_if {α : Type} {P : Prop} {iP : Decidable P} {A B r : Option α} {X : Prop} (hR : (if P then A else B) = r) (kt : P → A = r → X) (kf : ¬ P → B = r → X) : X := by
  by_cases hp : P
  · exact kt hp (xo_t hR hp)
  · exact kf hp (xo_f hR hp)
theorem xo_tab7 {x : Int32} (h0 : ¬ x = 0) (h1 : ¬ x = 1) (h2 : ¬ x = 2) (h3 : ¬ x = 3) (h4 : ¬ x = 4) (h5 : ¬ x = 5) (h6 : ¬ x = 6) : x.toInt < 0 ∨ 6 < x.toInt := by
  have e : ∀ n : Nat, n < 7 → ¬ x = Int32.ofNat n → x.toInt ≠ n := by
    intro n hn hx h
    apply hx
    apply Int32.toInt_inj.mp
    rw [h]
    rcases (show n = 0 ∨ n = 1 ∨ n = 2 ∨ n = 3 ∨ n = 4 ∨ n = 5 ∨ n = 6 by omega) with rfl | rfl | rfl | rfl | rfl | rfl | rfl <;> rfl
  have e0 := e 0 (by omega) h0
  have e1 := e 1 (by omega) h1
  have e2 := e 2 (by omega) h2
  have e3 := e 3 (by omega) h3
  have e4 := e 4 (by omega) h4
  have e5 := e 5 (by omega) h5
  have e6 := e 6 (by omega) h6
  omega
/-! copies -/
def xw_cp (h : xw_M) (ks : Nat) (sp : Int32) (kd : Nat) (dp n : Int32) : xw_M := fun a => if a = kd then va_cpy (h ks) (h kd) sp.toNatClampNeg dp.toNatClampNeg n.toNatClampNeg else h a
def xo_cp (sp dp n : Int32) (n0 n1 : Nat) : Bool := decide (¬ sp < 0) && decide (¬ dp < 0) && decide (¬ n < 0) && decide (sp.toNatClampNeg + n.toNatClampNeg ≤ n0) && decide (dp.toNatClampNeg + n.toNatClampNeg ≤ n1)
/-- the words of System.arraycopy -/
def xw_sy (own : String) (idx : Nat) : Prop := Cond.methodLink own idx arraycopyName ∈ lw_g ∧ Cond.native arraycopyName ∈ lw_g ∧ Cond.static arraycopyName ∈ lw_g ∧ Cond.initialized "java/lang/System" ∈ lw_g
theorem xw_fit {x : Int32} : fits .int (.int x) = true := rfl
theorem xr_copy (C : xj_C p s m args meth c G own cc nL) {k0 k1 κ0 κ1 n0 n1 idx : Nat} {sp dp n : Int32} (hw : xw_sy own idx) (hk0 : xw_kd k0 = κ0) (hl0 : k0 < xg_N G) (ha0 : xw_al κ0 = some n0) (hk1 : xw_kd k1 = κ1) (hl1 : k1 < xg_N G) (ha1 : xw_al κ1 = some n1) (hfr : 1 ≤ R.frames) (hlo : (st.map fun v => v.category).sum + (nativeFrameWords "java/lang/System" "arraycopy" 5 + 11) ≤ R.locals) (d : decode cc pc = .ok (.invokestatic idx, 3)) {α : Type} {f : xw_M → Option α} {q : α} (hR : (if xo_cp sp dp n n0 n1 = true then xo_let (xw_cp h k0 sp k1 dp n) f else none) = some q) (K : ∀ h1 : xw_M, f h1 = some q → xj_X p l e R s m args below meth c G nL cells slots Q h1 lv (pc + 3) st) : xj_X p l e R s m args below meth c G nL cells slots Q h lv pc (.int n :: .int dp :: .ref (xg_ad G k1) :: .int sp :: .ref (xg_ad G k0) :: st) := by
  intro H locs ls hP hS hL
  have he0 : (xw_ws G h)[k0]? = some (xg_ad G k0, .inl (xg_T G 0, n0, .inl (h k0))) := by rw [xw_get hl0, xw_ce, hk0, xw_al_ct ha0]
  have he1 : (xw_ws G h)[k1]? = some (xg_ad G k1, .inl (xg_T G 0, n1, .inl (h k1))) := by rw [xw_get hl1, xw_ce, hk1, xw_al_ct ha1]
  have hi : xo_cp sp dp n n0 n1 = true := Classical.byContradiction fun z => by rw [if_neg z] at hR; cases hR
  have hR2 := xo_t hR hi
  unfold xo_cp at hi
  simp only [Bool.and_eq_true, decide_eq_true_eq] at hi
  obtain ⟨⟨⟨⟨i1, i2⟩, i3⟩, i4⟩, i5⟩ := hi
  refine va_copyi C.1 C.2.1 (C.2.2.1.trans hL.1.symm) C.2.2.2.1 (C.2.2.2.2.1 _ hw.1) (C.2.2.2.2.1 _ hw.2.1) (C.2.2.2.2.1 _ hw.2.2.1) (C.2.2.2.2.1 _ hw.2.2.2) C.2.2.2.2.2.1 hP (xw_D C.2.2.2.2.2.2.1 h) hS k0 k1 0 0 he0 he1 rfl rfl rfl i1 i2 i3 i4 i5 (fun _ _ => xw_fit) hfr hlo d (fun H1 locs1 hP1 hD1 hS1 => ?_)
  rw [xw_set (h' := xw_cp h k0 sp k1 dp n) hl1 (by unfold xw_ce xw_cp; rw [hk1, xw_al_ct ha1, if_pos rfl]) (fun a ha => by unfold xw_ce xw_cp; rw [if_neg ha])] at hP1
  exact K _ hR2 H1 locs1 ls hP1 hS1 hL
theorem xr_lcmp (C : xj_C p s m args meth c G own cc nL) {x y : Int64} (d : decode cc pc = .ok (.lcmp, 1)) (K : xj_X p l e R s m args below meth c G nL cells slots Q h lv (pc + 1) (.int (lg_cmp x y) :: st)) : xj_X p l e R s m args below meth c G nL cells slots Q h lv pc (.long y :: .long x :: st) := fun H locs ls hP hS hL => W.lcmp C.1 C.2.1 d (K H locs ls hP hS hL)
theorem arrV_congr {cI : ClassId} {N : Nat} {f g : Nat → Value} (hfg : ∀ j, j < N → f j = g j) : arrV cI N f = arrV cI N g := by
  unfold arrV
  congr 1
  apply Array.ext
  · simp
  · intro i h1 h2
    simp only [Array.getElem_ofFn]
    exact hfg i (by simpa using h1)
end XJ
