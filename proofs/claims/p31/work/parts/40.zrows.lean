section ZJ
variable {p : Program} {l : Launch} {e : Env} {R : Room} {s : State} {m : MethodId} {args : Array Value} {below : List Frame} {meth : Method} {c : Code} {G : xw_G} {nL cells slots : Nat} {Q : State → Prop}
variable {cc : ByteArray} {own : String} {pc : Nat} {lv : List (Option Value)} {st : List Value} {Pr : Heap → Prop}
/-- what stays in a walk of the law's own methods -/
def zj_C (p : Program) (s : State) (m : MethodId) (args : Array Value) (meth : Method) (c : Code) (G : xw_G) (own : String) (cc : ByteArray) (nL : Nat) : Prop :=
  p.tables.exec = Jvm.exec ∧ c.code = cc ∧ c.maxLocals = nL ∧ s.vm.findClass own = some m.cls ∧ (∀ w ∈ lw_g, w.before args s = true) ∧ va_K (xg_D G) vwCl (xw_tys G) s ∧ xw_ok G ∧ xw_X (xg_B G) s s.heap ∧ xv_F s ∧ meth.locks = false ∧ xg_z G ≤ s.heap.size ∧ va_X (xg_b G) (xg_L G) (xg_xs G) s s.heap ∧ xg_b G < xg_z G
def zj_X (p : Program) (l : Launch) (e : Env) (R : Room) (s : State) (m : MethodId) (args : Array Value) (below : List Frame) (meth : Method) (c : Code) (G : xw_G) (nL cells slots : Nat) (Q : State → Prop) (Pr : Heap → Prop) (lv : List (Option Value)) (pc : Nat) (st : List Value) : Prop :=
  ∀ (H : Heap) (locs : List Loc) (ls : Array Slot), Pr H → va_S (xg_B G) s.heap H locs → xj_L ls nL lv → W p l e R s m args below meth c H locs cells slots Q (F0 m pc ls st)
theorem zr_iconst (C : zj_C p s m args meth c G own cc nL) {n : Int} {v : Int32} (d : decode cc pc = .ok (.iconst n, 1)) (hv : Int32.ofInt n = v) (K : zj_X p l e R s m args below meth c G nL cells slots Q Pr lv (pc + 1) (.int v :: st)) : zj_X p l e R s m args below meth c G nL cells slots Q Pr lv pc st := fun H locs ls hP hS hL => lv_iconst C.1 C.2.1 d hv (K H locs ls hP hS hL)
theorem zr_bipush (C : zj_C p s m args meth c G own cc nL) {n : Int} {v : Int32} (d : decode cc pc = .ok (.bipush n, 2)) (hv : (Int8.ofInt n).toInt32 = v) (K : zj_X p l e R s m args below meth c G nL cells slots Q Pr lv (pc + 2) (.int v :: st)) : zj_X p l e R s m args below meth c G nL cells slots Q Pr lv pc st := fun H locs ls hP hS hL => lv_bipush C.1 C.2.1 d hv (K H locs ls hP hS hL)
theorem zr_sipush (C : zj_C p s m args meth c G own cc nL) {n : Int} {v : Int32} (d : decode cc pc = .ok (.sipush n, 3)) (hv : (Int16.ofInt n).toInt32 = v) (K : zj_X p l e R s m args below meth c G nL cells slots Q Pr lv (pc + 3) (.int v :: st)) : zj_X p l e R s m args below meth c G nL cells slots Q Pr lv pc st := fun H locs ls hP hS hL => lv_sipush C.1 C.2.1 d hv (K H locs ls hP hS hL)
theorem zr_iload_n (C : zj_C p s m args meth c G own cc nL) {k : Fin 4} {x : Int32} (d : decode cc pc = .ok (.iload_n k, 1)) (hl : lv[(k : Nat)]? = some (some (.int x))) (K : zj_X p l e R s m args below meth c G nL cells slots Q Pr lv (pc + 1) (.int x :: st)) : zj_X p l e R s m args below meth c G nL cells slots Q Pr lv pc st := fun H locs ls hP hS hL => lv_iload_n C.1 C.2.1 d rfl (hL.2.2 _ _ hl) (K H locs ls hP hS hL)
theorem zr_aload_n (C : zj_C p s m args meth c G own cc nL) {k : Fin 4} {x : Nat} (d : decode cc pc = .ok (.aload_n k, 1)) (hl : lv[(k : Nat)]? = some (some (.ref x))) (K : zj_X p l e R s m args below meth c G nL cells slots Q Pr lv (pc + 1) (.ref x :: st)) : zj_X p l e R s m args below meth c G nL cells slots Q Pr lv pc st := fun H locs ls hP hS hL => lv_aload_n C.1 C.2.1 d rfl (hL.2.2 _ _ hl) (K H locs ls hP hS hL)
theorem zr_iload (C : zj_C p s m args meth c G own cc nL) {i : Nat} {x : Int32} (d : decode cc pc = .ok (.iload i, 2)) (hl : lv[i]? = some (some (.int x))) (K : zj_X p l e R s m args below meth c G nL cells slots Q Pr lv (pc + 2) (.int x :: st)) : zj_X p l e R s m args below meth c G nL cells slots Q Pr lv pc st := fun H locs ls hP hS hL => lv_iload C.1 C.2.1 d (hL.2.2 _ _ hl) (K H locs ls hP hS hL)
theorem zr_aload (C : zj_C p s m args meth c G own cc nL) {i : Nat} {x : Nat} (d : decode cc pc = .ok (.aload i, 2)) (hl : lv[i]? = some (some (.ref x))) (K : zj_X p l e R s m args below meth c G nL cells slots Q Pr lv (pc + 2) (.ref x :: st)) : zj_X p l e R s m args below meth c G nL cells slots Q Pr lv pc st := fun H locs ls hP hS hL => lv_aload C.1 C.2.1 d (hL.2.2 _ _ hl) (K H locs ls hP hS hL)
theorem zr_lload (C : zj_C p s m args meth c G own cc nL) {i : Nat} {x : Int64} (d : decode cc pc = .ok (.lload i, 2)) (hl : lv[i]? = some (some (.long x))) (K : zj_X p l e R s m args below meth c G nL cells slots Q Pr lv (pc + 2) (.long x :: st)) : zj_X p l e R s m args below meth c G nL cells slots Q Pr lv pc st := fun H locs ls hP hS hL => lv_lload C.1 C.2.1 d (hL.2.2 _ _ hl) (K H locs ls hP hS hL)
theorem zr_dload (C : zj_C p s m args meth c G own cc nL) {i : Nat} {x : UInt64} (d : decode cc pc = .ok (.dload i, 2)) (hl : lv[i]? = some (some (.double x))) (K : zj_X p l e R s m args below meth c G nL cells slots Q Pr lv (pc + 2) (.double x :: st)) : zj_X p l e R s m args below meth c G nL cells slots Q Pr lv pc st := fun H locs ls hP hS hL => lv_dload C.1 C.2.1 d (hL.2.2 _ _ hl) (K H locs ls hP hS hL)
theorem zr_istore_n (C : zj_C p s m args meth c G own cc nL) {k : Fin 4} {x : Int32} (d : decode cc pc = .ok (.istore_n k, 1)) (hc : xj_c lv (k : Nat) = true) (hn : (k : Nat) < nL) (K : zj_X p l e R s m args below meth c G nL cells slots Q Pr (lv.set (k : Nat) (some (.int x))) (pc + 1) st) : zj_X p l e R s m args below meth c G nL cells slots Q Pr lv pc (.int x :: st) := fun H locs ls hP hS hL => lv_istore_n C.1 C.2.1 d rfl hL.has hn rfl (fun ls hl => K H locs ls hP hS (xj_L.set1 hc rfl hl))
theorem zr_istore (C : zj_C p s m args meth c G own cc nL) {i : Nat} {x : Int32} (d : decode cc pc = .ok (.istore i, 2)) (hc : xj_c lv i = true) (hn : i < nL) (K : zj_X p l e R s m args below meth c G nL cells slots Q Pr (lv.set i (some (.int x))) (pc + 2) st) : zj_X p l e R s m args below meth c G nL cells slots Q Pr lv pc (.int x :: st) := fun H locs ls hP hS hL => lv_istore C.1 C.2.1 d hL.has hn rfl (fun ls hl => K H locs ls hP hS (xj_L.set1 hc rfl hl))
theorem zr_astore_n (C : zj_C p s m args meth c G own cc nL) {k : Fin 4} {x : Nat} (d : decode cc pc = .ok (.astore_n k, 1)) (hc : xj_c lv (k : Nat) = true) (hn : (k : Nat) < nL) (K : zj_X p l e R s m args below meth c G nL cells slots Q Pr (lv.set (k : Nat) (some (.ref x))) (pc + 1) st) : zj_X p l e R s m args below meth c G nL cells slots Q Pr lv pc (.ref x :: st) := fun H locs ls hP hS hL => lv_astore_n C.1 C.2.1 d rfl hL.has hn rfl (fun ls hl => K H locs ls hP hS (xj_L.set1 hc rfl hl))
theorem zr_astore (C : zj_C p s m args meth c G own cc nL) {i : Nat} {x : Nat} (d : decode cc pc = .ok (.astore i, 2)) (hc : xj_c lv i = true) (hn : i < nL) (K : zj_X p l e R s m args below meth c G nL cells slots Q Pr (lv.set i (some (.ref x))) (pc + 2) st) : zj_X p l e R s m args below meth c G nL cells slots Q Pr lv pc (.ref x :: st) := fun H locs ls hP hS hL => lv_astore C.1 C.2.1 d hL.has hn rfl (fun ls hl => K H locs ls hP hS (xj_L.set1 hc rfl hl))
theorem zr_lstore (C : zj_C p s m args meth c G own cc nL) {i : Nat} {x : Int64} (d : decode cc pc = .ok (.lstore i, 2)) (hc : xj_c lv i = true) (hn : i + 1 < nL) (K : zj_X p l e R s m args below meth c G nL cells slots Q Pr ((lv.set i (some (.long x))).set (i + 1) none) (pc + 2) st) : zj_X p l e R s m args below meth c G nL cells slots Q Pr lv pc (.long x :: st) := fun H locs ls hP hS hL => lv_lstore C.1 C.2.1 d hL.has hn rfl (fun ls hl => K H locs ls hP hS (xj_L.set2 hc rfl hl))
theorem zr_dstore (C : zj_C p s m args meth c G own cc nL) {i : Nat} {x : UInt64} (d : decode cc pc = .ok (.dstore i, 2)) (hc : xj_c lv i = true) (hn : i + 1 < nL) (K : zj_X p l e R s m args below meth c G nL cells slots Q Pr ((lv.set i (some (.double x))).set (i + 1) none) (pc + 2) st) : zj_X p l e R s m args below meth c G nL cells slots Q Pr lv pc (.double x :: st) := fun H locs ls hP hS hL => lv_dstore C.1 C.2.1 d hL.has hn rfl (fun ls hl => K H locs ls hP hS (xj_L.set2 hc rfl hl))
theorem zr_iinc (C : zj_C p s m args meth c G own cc nL) {i : Nat} {n : Int} {x v : Int32} (d : decode cc pc = .ok (.iinc i n, 3)) (hl : lv[i]? = some (some (.int x))) (hv : Int32.ofInt n = v) (hc : xj_c lv i = true) (hn : i < nL) (K : zj_X p l e R s m args below meth c G nL cells slots Q Pr (lv.set i (some (.int (x + v)))) (pc + 3) st) : zj_X p l e R s m args below meth c G nL cells slots Q Pr lv pc st := by
  intro H locs ls hP hS hL
  obtain ⟨k, hk⟩ := List.getElem?_of_mem (xj_p_in.mpr hl)
  subst hv
  exact lv_iinc C.1 C.2.1 d hL.has hk rfl hn rfl (fun ls hl => K H locs ls hP hS (xj_L.set1 hc rfl hl))
theorem zr_iadd (C : zj_C p s m args meth c G own cc nL) {x y : Int32} (d : decode cc pc = .ok (.iadd, 1))  (K : zj_X p l e R s m args below meth c G nL cells slots Q Pr lv (pc + 1) (.int (x + y) :: st)) : zj_X p l e R s m args below meth c G nL cells slots Q Pr lv pc (.int y :: .int x :: st) := fun H locs ls hP hS hL => lv_iadd C.1 C.2.1 d  (K H locs ls hP hS hL)
theorem zr_isub (C : zj_C p s m args meth c G own cc nL) {x y : Int32} (d : decode cc pc = .ok (.isub, 1))  (K : zj_X p l e R s m args below meth c G nL cells slots Q Pr lv (pc + 1) (.int (x - y) :: st)) : zj_X p l e R s m args below meth c G nL cells slots Q Pr lv pc (.int y :: .int x :: st) := fun H locs ls hP hS hL => lv_isub C.1 C.2.1 d  (K H locs ls hP hS hL)
theorem zr_imul (C : zj_C p s m args meth c G own cc nL) {x y : Int32} (d : decode cc pc = .ok (.imul, 1))  (K : zj_X p l e R s m args below meth c G nL cells slots Q Pr lv (pc + 1) (.int (x * y) :: st)) : zj_X p l e R s m args below meth c G nL cells slots Q Pr lv pc (.int y :: .int x :: st) := fun H locs ls hP hS hL => lv_imul C.1 C.2.1 d  (K H locs ls hP hS hL)
theorem zr_iand (C : zj_C p s m args meth c G own cc nL) {x y : Int32} (d : decode cc pc = .ok (.iand, 1))  (K : zj_X p l e R s m args below meth c G nL cells slots Q Pr lv (pc + 1) (.int (x &&& y) :: st)) : zj_X p l e R s m args below meth c G nL cells slots Q Pr lv pc (.int y :: .int x :: st) := fun H locs ls hP hS hL => lv_iand C.1 C.2.1 d  (K H locs ls hP hS hL)
theorem zr_i2l (C : zj_C p s m args meth c G own cc nL) {x : Int32} (d : decode cc pc = .ok (.i2l, 1))  (K : zj_X p l e R s m args below meth c G nL cells slots Q Pr lv (pc + 1) (.long x.toInt64 :: st)) : zj_X p l e R s m args below meth c G nL cells slots Q Pr lv pc (.int x :: st) := fun H locs ls hP hS hL => lv_i2l C.1 C.2.1 d rfl (K H locs ls hP hS hL)
theorem zr_dup (C : zj_C p s m args meth c G own cc nL) {v : Value} (d : decode cc pc = .ok (.dup, 1)) (hv : v.category = 1) (K : zj_X p l e R s m args below meth c G nL cells slots Q Pr lv (pc + 1) (v :: v :: st)) : zj_X p l e R s m args below meth c G nL cells slots Q Pr lv pc (v :: st) := fun H locs ls hP hS hL => lv_dup C.1 C.2.1 d hv (K H locs ls hP hS hL)
theorem zr_dup2 (C : zj_C p s m args meth c G own cc nL) {v u : Value} (d : decode cc pc = .ok (.dup2, 1)) (hv : v.category = 1) (hu : u.category = 1) (K : zj_X p l e R s m args below meth c G nL cells slots Q Pr lv (pc + 1) (v :: u :: v :: u :: st)) : zj_X p l e R s m args below meth c G nL cells slots Q Pr lv pc (v :: u :: st) := fun H locs ls hP hS hL => lv_dup2_11 C.1 C.2.1 d hv hu (K H locs ls hP hS hL)
theorem zr_lcmp (C : zj_C p s m args meth c G own cc nL) {x y : Int64} (d : decode cc pc = .ok (.lcmp, 1)) (K : zj_X p l e R s m args below meth c G nL cells slots Q Pr lv (pc + 1) (.int (lg_cmp x y) :: st)) : zj_X p l e R s m args below meth c G nL cells slots Q Pr lv pc (.long y :: .long x :: st) := fun H locs ls hP hS hL => W.lcmp C.1 C.2.1 d (K H locs ls hP hS hL)
theorem zr_goto (C : zj_C p s m args meth c G own cc nL) {off : Int} {tgt : Nat} (d : decode cc pc = .ok (.goto off, 3)) (ht : (pc : Int) + off = (tgt : Int)) (K : zj_X p l e R s m args below meth c G nL cells slots Q Pr lv tgt st) : zj_X p l e R s m args below meth c G nL cells slots Q Pr lv pc st := fun H locs ls hP hS hL => lv_goto C.1 C.2.1 d ht (K H locs ls hP hS hL)
theorem zr_sub {lv9 : List (Option Value)} (hle : xj_le lv9 lv) (K : zj_X p l e R s m args below meth c G nL cells slots Q Pr lv9 pc st) : zj_X p l e R s m args below meth c G nL cells slots Q Pr lv pc st := fun H locs ls hP hS hL => K H locs ls hP hS ⟨hL.1, hL.2.1, fun i v hi => hL.2.2 i v (xj_le_at lv9 lv hle i v hi)⟩
theorem zr_if_eq (C : zj_C p s m args meth c G own cc nL) {x : Int32} {off : Int} {tgt : Nat} (d : decode cc pc = .ok (.ifCond .eq off, 3)) (ht : (pc : Int) + off = (tgt : Int)) {α : Type} {A B r : Option α} (hR : (if x = 0 then A else B) = r) (kt : A = r → zj_X p l e R s m args below meth c G nL cells slots Q Pr lv tgt st) (kf : B = r → zj_X p l e R s m args below meth c G nL cells slots Q Pr lv (pc + 3) st) : zj_X p l e R s m args below meth c G nL cells slots Q Pr lv pc (.int x :: st) := fun H locs ls hP hS hL => lv_if_eq C.1 C.2.1 d ht (fun cc9 => (kt (xo_t hR cc9)) H locs ls hP hS hL) (fun cc9 => (kf (xo_f hR cc9)) H locs ls hP hS hL)
theorem zr_if_ne (C : zj_C p s m args meth c G own cc nL) {x : Int32} {off : Int} {tgt : Nat} (d : decode cc pc = .ok (.ifCond .ne off, 3)) (ht : (pc : Int) + off = (tgt : Int)) {α : Type} {A B r : Option α} (hR : (if x = 0 then B else A) = r) (kt : A = r → zj_X p l e R s m args below meth c G nL cells slots Q Pr lv tgt st) (kf : B = r → zj_X p l e R s m args below meth c G nL cells slots Q Pr lv (pc + 3) st) : zj_X p l e R s m args below meth c G nL cells slots Q Pr lv pc (.int x :: st) := fun H locs ls hP hS hL => lv_if_ne C.1 C.2.1 d ht (fun cc9 => (kt (xo_f hR cc9)) H locs ls hP hS hL) (fun cc9 => (kf (xo_t hR cc9)) H locs ls hP hS hL)
theorem zr_if_lt (C : zj_C p s m args meth c G own cc nL) {x : Int32} {off : Int} {tgt : Nat} (d : decode cc pc = .ok (.ifCond .lt off, 3)) (ht : (pc : Int) + off = (tgt : Int)) {α : Type} {A B r : Option α} (hR : (if x < 0 then A else B) = r) (kt : A = r → zj_X p l e R s m args below meth c G nL cells slots Q Pr lv tgt st) (kf : B = r → zj_X p l e R s m args below meth c G nL cells slots Q Pr lv (pc + 3) st) : zj_X p l e R s m args below meth c G nL cells slots Q Pr lv pc (.int x :: st) := fun H locs ls hP hS hL => lv_if_lt C.1 C.2.1 d ht (fun cc9 => (kt (xo_t hR cc9)) H locs ls hP hS hL) (fun cc9 => (kf (xo_f hR cc9)) H locs ls hP hS hL)
theorem zr_if_ge (C : zj_C p s m args meth c G own cc nL) {x : Int32} {off : Int} {tgt : Nat} (d : decode cc pc = .ok (.ifCond .ge off, 3)) (ht : (pc : Int) + off = (tgt : Int)) {α : Type} {A B r : Option α} (hR : (if 0 ≤ x then A else B) = r) (kt : A = r → zj_X p l e R s m args below meth c G nL cells slots Q Pr lv tgt st) (kf : B = r → zj_X p l e R s m args below meth c G nL cells slots Q Pr lv (pc + 3) st) : zj_X p l e R s m args below meth c G nL cells slots Q Pr lv pc (.int x :: st) := fun H locs ls hP hS hL => lv_if_ge C.1 C.2.1 d ht (fun cc9 => (kt (xo_t hR cc9)) H locs ls hP hS hL) (fun cc9 => (kf (xo_f hR cc9)) H locs ls hP hS hL)
theorem zr_if_gt (C : zj_C p s m args meth c G own cc nL) {x : Int32} {off : Int} {tgt : Nat} (d : decode cc pc = .ok (.ifCond .gt off, 3)) (ht : (pc : Int) + off = (tgt : Int)) {α : Type} {A B r : Option α} (hR : (if 0 < x then A else B) = r) (kt : A = r → zj_X p l e R s m args below meth c G nL cells slots Q Pr lv tgt st) (kf : B = r → zj_X p l e R s m args below meth c G nL cells slots Q Pr lv (pc + 3) st) : zj_X p l e R s m args below meth c G nL cells slots Q Pr lv pc (.int x :: st) := fun H locs ls hP hS hL => lv_if_gt C.1 C.2.1 d ht (fun cc9 => (kt (xo_t hR cc9)) H locs ls hP hS hL) (fun cc9 => (kf (xo_f hR cc9)) H locs ls hP hS hL)
theorem zr_if_le (C : zj_C p s m args meth c G own cc nL) {x : Int32} {off : Int} {tgt : Nat} (d : decode cc pc = .ok (.ifCond .le off, 3)) (ht : (pc : Int) + off = (tgt : Int)) {α : Type} {A B r : Option α} (hR : (if x ≤ 0 then A else B) = r) (kt : A = r → zj_X p l e R s m args below meth c G nL cells slots Q Pr lv tgt st) (kf : B = r → zj_X p l e R s m args below meth c G nL cells slots Q Pr lv (pc + 3) st) : zj_X p l e R s m args below meth c G nL cells slots Q Pr lv pc (.int x :: st) := fun H locs ls hP hS hL => lv_if_le C.1 C.2.1 d ht (fun cc9 => (kt (xo_t hR cc9)) H locs ls hP hS hL) (fun cc9 => (kf (xo_f hR cc9)) H locs ls hP hS hL)
theorem zr_icmp_eq (C : zj_C p s m args meth c G own cc nL) {x y : Int32} {off : Int} {tgt : Nat} (d : decode cc pc = .ok (.if_icmp .eq off, 3)) (ht : (pc : Int) + off = (tgt : Int)) {α : Type} {A B r : Option α} (hR : (if x = y then A else B) = r) (kt : A = r → zj_X p l e R s m args below meth c G nL cells slots Q Pr lv tgt st) (kf : B = r → zj_X p l e R s m args below meth c G nL cells slots Q Pr lv (pc + 3) st) : zj_X p l e R s m args below meth c G nL cells slots Q Pr lv pc (.int y :: .int x :: st) := fun H locs ls hP hS hL => lv_icmp_eq C.1 C.2.1 d ht (fun cc9 => (kt (xo_t hR cc9)) H locs ls hP hS hL) (fun cc9 => (kf (xo_f hR cc9)) H locs ls hP hS hL)
theorem zr_icmp_ne (C : zj_C p s m args meth c G own cc nL) {x y : Int32} {off : Int} {tgt : Nat} (d : decode cc pc = .ok (.if_icmp .ne off, 3)) (ht : (pc : Int) + off = (tgt : Int)) {α : Type} {A B r : Option α} (hR : (if x = y then B else A) = r) (kt : A = r → zj_X p l e R s m args below meth c G nL cells slots Q Pr lv tgt st) (kf : B = r → zj_X p l e R s m args below meth c G nL cells slots Q Pr lv (pc + 3) st) : zj_X p l e R s m args below meth c G nL cells slots Q Pr lv pc (.int y :: .int x :: st) := fun H locs ls hP hS hL => lv_icmp_ne C.1 C.2.1 d ht (fun cc9 => (kt (xo_f hR cc9)) H locs ls hP hS hL) (fun cc9 => (kf (xo_t hR cc9)) H locs ls hP hS hL)
theorem zr_icmp_lt (C : zj_C p s m args meth c G own cc nL) {x y : Int32} {off : Int} {tgt : Nat} (d : decode cc pc = .ok (.if_icmp .lt off, 3)) (ht : (pc : Int) + off = (tgt : Int)) {α : Type} {A B r : Option α} (hR : (if x < y then A else B) = r) (kt : A = r → zj_X p l e R s m args below meth c G nL cells slots Q Pr lv tgt st) (kf : B = r → zj_X p l e R s m args below meth c G nL cells slots Q Pr lv (pc + 3) st) : zj_X p l e R s m args below meth c G nL cells slots Q Pr lv pc (.int y :: .int x :: st) := fun H locs ls hP hS hL => lv_icmp_lt C.1 C.2.1 d ht (fun cc9 => (kt (xo_t hR cc9)) H locs ls hP hS hL) (fun cc9 => (kf (xo_f hR cc9)) H locs ls hP hS hL)
theorem zr_icmp_ge (C : zj_C p s m args meth c G own cc nL) {x y : Int32} {off : Int} {tgt : Nat} (d : decode cc pc = .ok (.if_icmp .ge off, 3)) (ht : (pc : Int) + off = (tgt : Int)) {α : Type} {A B r : Option α} (hR : (if y ≤ x then A else B) = r) (kt : A = r → zj_X p l e R s m args below meth c G nL cells slots Q Pr lv tgt st) (kf : B = r → zj_X p l e R s m args below meth c G nL cells slots Q Pr lv (pc + 3) st) : zj_X p l e R s m args below meth c G nL cells slots Q Pr lv pc (.int y :: .int x :: st) := fun H locs ls hP hS hL => lv_icmp_ge C.1 C.2.1 d ht (fun cc9 => (kt (xo_t hR cc9)) H locs ls hP hS hL) (fun cc9 => (kf (xo_f hR cc9)) H locs ls hP hS hL)
theorem zr_icmp_gt (C : zj_C p s m args meth c G own cc nL) {x y : Int32} {off : Int} {tgt : Nat} (d : decode cc pc = .ok (.if_icmp .gt off, 3)) (ht : (pc : Int) + off = (tgt : Int)) {α : Type} {A B r : Option α} (hR : (if y < x then A else B) = r) (kt : A = r → zj_X p l e R s m args below meth c G nL cells slots Q Pr lv tgt st) (kf : B = r → zj_X p l e R s m args below meth c G nL cells slots Q Pr lv (pc + 3) st) : zj_X p l e R s m args below meth c G nL cells slots Q Pr lv pc (.int y :: .int x :: st) := fun H locs ls hP hS hL => lv_icmp_gt C.1 C.2.1 d ht (fun cc9 => (kt (xo_t hR cc9)) H locs ls hP hS hL) (fun cc9 => (kf (xo_f hR cc9)) H locs ls hP hS hL)
theorem zr_icmp_le (C : zj_C p s m args meth c G own cc nL) {x y : Int32} {off : Int} {tgt : Nat} (d : decode cc pc = .ok (.if_icmp .le off, 3)) (ht : (pc : Int) + off = (tgt : Int)) {α : Type} {A B r : Option α} (hR : (if x ≤ y then A else B) = r) (kt : A = r → zj_X p l e R s m args below meth c G nL cells slots Q Pr lv tgt st) (kf : B = r → zj_X p l e R s m args below meth c G nL cells slots Q Pr lv (pc + 3) st) : zj_X p l e R s m args below meth c G nL cells slots Q Pr lv pc (.int y :: .int x :: st) := fun H locs ls hP hS hL => lv_icmp_le C.1 C.2.1 d ht (fun cc9 => (kt (xo_t hR cc9)) H locs ls hP hS hL) (fun cc9 => (kf (xo_f hR cc9)) H locs ls hP hS hL)
theorem zr_ior (C : zj_C p s m args meth c G own cc nL) {x y : Int32} (d : decode cc pc = .ok (.ior, 1))  (K : zj_X p l e R s m args below meth c G nL cells slots Q Pr lv (pc + 1) (.int (x ||| y) :: st)) : zj_X p l e R s m args below meth c G nL cells slots Q Pr lv pc (.int y :: .int x :: st) := fun H locs ls hP hS hL => lv_ior C.1 C.2.1 d  (K H locs ls hP hS hL)
theorem zr_ishr (C : zj_C p s m args meth c G own cc nL) {x y : Int32} (d : decode cc pc = .ok (.ishr, 1))  (K : zj_X p l e R s m args below meth c G nL cells slots Q Pr lv (pc + 1) (.int (x >>> (y &&& 31)) :: st)) : zj_X p l e R s m args below meth c G nL cells slots Q Pr lv pc (.int y :: .int x :: st) := fun H locs ls hP hS hL => lv_ishr C.1 C.2.1 d  (K H locs ls hP hS hL)
theorem zr_null (C : zj_C p s m args meth c G own cc nL)  (d : decode cc pc = .ok (.aconst_null, 1))  (K : zj_X p l e R s m args below meth c G nL cells slots Q Pr lv (pc + 1) (.null :: st)) : zj_X p l e R s m args below meth c G nL cells slots Q Pr lv pc st := fun H locs ls hP hS hL => lv_null C.1 C.2.1 d  (K H locs ls hP hS hL)
theorem zr_i2d (C : zj_C p s m args meth c G own cc nL) {x : Int32} (d : decode cc pc = .ok (.i2d, 1))  (K : zj_X p l e R s m args below meth c G nL cells slots Q Pr lv (pc + 1) (.double (FP.i2d x) :: st)) : zj_X p l e R s m args below meth c G nL cells slots Q Pr lv pc (.int x :: st) := fun H locs ls hP hS hL => lv_i2d C.1 C.2.1 d  (K H locs ls hP hS hL)
theorem zr_dcmp (C : zj_C p s m args meth c G own cc nL) {x y : UInt64} {op : CmpOp} (d : decode cc pc = .ok (.dcmp op, 1))  (K : zj_X p l e R s m args below meth c G nL cells slots Q Pr lv (pc + 1) (.int (Op.cmpValue (FP.dcmp x y) op) :: st)) : zj_X p l e R s m args below meth c G nL cells slots Q Pr lv pc (.double y :: .double x :: st) := fun H locs ls hP hS hL => lv_dcmp C.1 C.2.1 d  (K H locs ls hP hS hL)
theorem zr_dconst0 (C : zj_C p s m args meth c G own cc nL)  (d : decode cc pc = .ok (.dconst 0, 1))  (K : zj_X p l e R s m args below meth c G nL cells slots Q Pr lv (pc + 1) (.double FP.dconst0 :: st)) : zj_X p l e R s m args below meth c G nL cells slots Q Pr lv pc st := fun H locs ls hP hS hL => lv_dconst0 C.1 C.2.1 d  (K H locs ls hP hS hL)
theorem zr_pop (C : zj_C p s m args meth c G own cc nL) {v : Value} (d : decode cc pc = .ok (.pop, 1)) (hv : v.category = 1) (K : zj_X p l e R s m args below meth c G nL cells slots Q Pr lv (pc + 1) st) : zj_X p l e R s m args below meth c G nL cells slots Q Pr lv pc (v :: st) := fun H locs ls hP hS hL => lv_pop C.1 C.2.1 d hv (K H locs ls hP hS hL)
/-- a divisor that is not 0: the guard of the pure functions -/
theorem xo_nz {α : Type} {A : Option α} {q : α} {y : Int32} (hR : (if y = 0 then none else A) = some q) : ¬ y = 0 ∧ A = some q := by
  by_cases z : y = 0
  · rw [if_pos z] at hR
    cases hR
  · rw [if_neg z] at hR
    exact ⟨z, hR⟩
theorem zr_idiv (C : zj_C p s m args meth c G own cc nL) {x y : Int32} (d : decode cc pc = .ok (.idiv, 1)) {α : Type} {A : Option α} {q : α} (hR : (if y = 0 then none else A) = some q) (K : A = some q → zj_X p l e R s m args below meth c G nL cells slots Q Pr lv (pc + 1) (.int (x / y) :: st)) : zj_X p l e R s m args below meth c G nL cells slots Q Pr lv pc (.int y :: .int x :: st) := fun H locs ls hP hS hL => lv_idiv C.1 C.2.1 d (xo_nz hR).1 (K (xo_nz hR).2 H locs ls hP hS hL)
theorem zr_irem (C : zj_C p s m args meth c G own cc nL) {x y : Int32} (d : decode cc pc = .ok (.irem, 1)) {α : Type} {A : Option α} {q : α} (hR : (if y = 0 then none else A) = some q) (K : A = some q → zj_X p l e R s m args below meth c G nL cells slots Q Pr lv (pc + 1) (.int (x - x / y * y) :: st)) : zj_X p l e R s m args below meth c G nL cells slots Q Pr lv pc (.int y :: .int x :: st) := fun H locs ls hP hS hL => lv_irem C.1 C.2.1 d (xo_nz hR).1 (K (xo_nz hR).2 H locs ls hP hS hL)
theorem zr_ldc (C : zj_C p s m args meth c G own cc nL) {index : Nat} {v : Int32} (d : decode cc pc = .ok (.ldc index, 2)) (hw : Cond.constant own index v ∈ lw_g) (K : zj_X p l e R s m args below meth c G nL cells slots Q Pr lv (pc + 2) (.int v :: st)) : zj_X p l e R s m args below meth c G nL cells slots Q Pr lv pc st := fun H locs ls hP hS hL => lv_ldc C.1 C.2.1 C.2.2.2.1 (C.2.2.2.2.1 _ hw) d (K H locs ls hP hS hL)
theorem zr_widen {k n : Nat} (h1 : cells ≤ k) (h2 : slots ≤ n) (K : zj_X p l e R s m args below meth c G nL k n Q Pr lv pc st) : zj_X p l e R s m args below meth c G nL cells slots Q Pr lv pc st := fun H locs ls hP hS hL => W.widen h1 h2 (K H locs ls hP hS hL)
theorem zr_eqH {Pr2 : Heap → Prop} (h : ∀ H, Pr H → Pr2 H) (K : zj_X p l e R s m args below meth c G nL cells slots Q Pr2 lv pc st) : zj_X p l e R s m args below meth c G nL cells slots Q Pr lv pc st := fun H locs ls hP hS hL => K H locs ls (h H hP) hS hL
/-! the law's own memory: contents, and lengths of its arrays. Codes: 0 the Sim; 1 places, 2 drops, 3 fibers, 4 line, 5 waiting; 6 + c the drops of channel c; 10 + f a fiber, 20 + f its steps, 30 + f its backs, 40 + 12 f + j its step j; 140 did, 141 had, 142 isTaken -/
abbrev yz_Y : Type := xw_M × (Nat → Nat)
/-- kinds: 0 the Sim, 1 a fiber, 2 ints, 3 the drops' row, 4 the fibers' row, 5 a row of steps, 6 booleans -/
def yz_kd (k : Nat) : Nat := if k = 0 then 0 else if k = 2 then 3 else if k = 3 then 4 else if k < 10 then 2 else if k < 18 then 1 else if k < 20 then 9 else if k < 28 then 5 else if k < 30 then 9 else if k < 38 then 2 else if k < 40 then 9 else if k < 136 then 2 else if k < 140 then 9 else if k < 142 then 2 else if k = 142 then 6 else 9
/-- what there is -/
def yz_ex (y : yz_Y) (k : Nat) : Bool := if k < 6 then true else if k < 10 then decide (k - 6 < y.2 2) else if k < 18 then decide (k - 10 < y.2 3) else if k < 28 then decide (k - 20 < y.2 3) else if k < 38 then decide (k - 30 < y.2 3) else if k < 136 then decide ((k - 40) / 12 < y.2 3) && decide ((k - 40) % 12 < y.2 (20 + (k - 40) / 12)) else decide (y.2 (k + 10) = 1)
def yz_is (y : yz_Y) (k κ : Nat) : Bool := yz_ex y k && decide (yz_kd k = κ)
def yz_ct (T : Nat → ClassId) (yd : Nat → Nat) (y : yz_Y) (k : Nat) : va_E :=
  if yz_kd k = 0 then .inr (7, [.int (y.1 k 0), .int (y.1 k 1), .ref (yd 1), .ref (yd 2), .ref (yd 3), .ref (yd 4), .ref (yd 5)])
  else if yz_kd k = 1 then .inr (6, [.ref (yd (k + 10)), .ref (yd (k + 20)), .int (y.1 k 2), .int (y.1 k 3), .int (y.1 k 4), .int (y.1 k 5), .int (y.1 k 6), .int (y.1 k 7)])
  else if yz_kd k = 2 then .inl (T 0, y.2 k, .inl (y.1 k))
  else if yz_kd k = 3 then .inl (T 5, y.2 k, .inr (.inr (.inr (.inr (fun i => some (yd (6 + i)))))))
  else if yz_kd k = 4 then .inl (T 6, y.2 k, .inr (.inr (.inr (.inr (fun i => some (yd (10 + i)))))))
  else if yz_kd k = 5 then .inl (T 5, y.2 k, .inr (.inr (.inr (.inr (fun i => some (yd (40 + (12 * (k - 20) + i))))))))
  else .inl (T 4, y.2 k, .inl (y.1 k))
def yz_on (y : yz_Y) (k : Nat) : Prop := yz_ex y k = true ∧ yz_kd k < 9
def yz_P (G : xw_G) (yd : Nat → Nat) (y : yz_Y) (H : Heap) : Prop := ∀ k, yz_on y k → va_at (xg_D G) vwCl (yd k, yz_ct (xg_T G) yd y k) H
/-- all is apart, and new -/
def yz_bd (y : yz_Y) : Prop := y.2 2 ≤ 4 ∧ y.2 3 ≤ 8 ∧ ∀ f, f < 8 → y.2 (20 + f) ≤ 12
def yz_ok (G : xw_G) (yd : Nat → Nat) (y : yz_Y) : Prop := (∀ i j, yz_on y i → yz_on y j → yd i = yd j → i = j) ∧ (∀ i, yz_on y i → xg_z G ≤ yd i) ∧ (∀ i k, yz_on y i → k < xg_N G → yd i ≠ xg_ad G k) ∧ yz_bd y
/-- the class's memory h, the law's y at the addresses yd, which are y0's but for those of Ch -/
def yz_W (G : xw_G) (Ch : Nat → Prop) (y0 : Nat → Nat) (yd : Nat → Nat) (h : xw_M) (y : yz_Y) (H : Heap) : Prop := xw_P G h H ∧ yz_P G yd y H ∧ yz_ok G yd y ∧ ∀ k, ¬ Ch k → yd k = y0 k
theorem yz_is_on {y : yz_Y} {k κ : Nat} (h : yz_is y k κ = true) (hκ : κ < 9) : yz_on y k ∧ yz_kd k = κ := by
  unfold yz_is at h
  rw [Bool.and_eq_true, decide_eq_true_eq] at h
  exact ⟨⟨h.1, by omega⟩, h.2⟩
def yz_st (y : yz_Y) (k j : Nat) (v : Int32) : yz_Y := (xw_st y.1 k j v, y.2)
theorem yz_st1 {y : yz_Y} {k j : Nat} {v : Int32} : (yz_st y k j v).1 k = upd (y.1 k) j v := xw_st_eq _ _ _ _
theorem yz_ct_st {T : Nat → ClassId} {yd : Nat → Nat} {y : yz_Y} {k j a : Nat} {v : Int32} (ha : a ≠ k) : yz_ct T yd (yz_st y k j v) a = yz_ct T yd y a := by
  unfold yz_ct
  show (if yz_kd a = 0 then _ else _) = _
  simp only [yz_st, xw_st_ne y.1 k j v ha]
/-- one cell of the law's is changed, nothing else -/
theorem yz_W.set {Ch : Nat → Prop} {y0 yd : Nat → Nat} {h : xw_M} {y : yz_Y} {k j : Nat} {v : Int32} {H H1 : Heap} (hW : yz_W G Ch y0 yd h y H) (hk : yz_on y k) (h2 : ∀ q : Nat, q ≠ yd k → H1[q]? = H[q]?) (h3 : va_at (xg_D G) vwCl (yd k, yz_ct (xg_T G) yd (yz_st y k j v) k) H1) : yz_W G Ch y0 yd h (yz_st y k j v) H1 := by
  obtain ⟨w1, w2, w3, w4⟩ := hW
  refine ⟨va_P.kept w1 (fun a q hq => ?_), fun a ha => ?_, w3, w4⟩
  · obtain ⟨g1, rfl⟩ := xw_at hq
    exact h2 _ (fun z => w3.2.2.1 k a hk g1 z.symm)
  · have ha' : yz_on y a := ha
    by_cases e : a = k
    · rw [e]; exact h3
    · rw [yz_ct_st e]
      exact (w2 a ha').kept (h2 _ (fun z => e (w3.1 a k ha' hk z)))
theorem yz_lt {Ch : Nat → Prop} {y0 yd : Nat → Nat} {h : xw_M} {y : yz_Y} {k : Nat} {H : Heap} (hW : yz_W G Ch y0 yd h y H) (hk : yz_on y k) : yd k < H.size := (hW.2.1 k hk).lt
theorem yz_B {Ch : Nat → Prop} {y0 yd : Nat → Nat} {h : xw_M} {y : yz_Y} {k : Nat} {H : Heap} (hW : yz_W G Ch y0 yd h y H) (hk : yz_on y k) : xg_B G (yd k) := hW.2.2.1.2.1 k hk
theorem yz_ct0 {T : Nat → ClassId} {yd : Nat → Nat} {y : yz_Y} : yz_ct T yd y 0 = .inr (7, [.int (y.1 0 0), .int (y.1 0 1), .ref (yd 1), .ref (yd 2), .ref (yd 3), .ref (yd 4), .ref (yd 5)]) := rfl
theorem yz_on0 {y : yz_Y} {k : Nat} (hk : k < 6) : yz_on y k := by
  refine ⟨by unfold yz_ex; rw [if_pos hk], ?_⟩
  have h6 : ∀ k, k < 6 → yz_kd k < 9 := by decide
  exact h6 k hk
theorem yz_ct1 {T : Nat → ClassId} {yd : Nat → Nat} {y : yz_Y} {i : Nat} (hk : yz_kd (10 + i) = 1) : yz_ct T yd y (10 + i) = .inr (6, [.ref (yd (20 + i)), .ref (yd (30 + i)), .int (y.1 (10 + i) 2), .int (y.1 (10 + i) 3), .int (y.1 (10 + i) 4), .int (y.1 (10 + i) 5), .int (y.1 (10 + i) 6), .int (y.1 (10 + i) 7)]) := by
  unfold yz_ct
  rw [if_neg (by omega), if_pos hk, show 10 + i + 10 = 20 + i by omega, show 10 + i + 20 = 30 + i by omega]
theorem yz_ct2 {T : Nat → ClassId} {yd : Nat → Nat} {y : yz_Y} {k : Nat} (hk : yz_kd k = 2) : yz_ct T yd y k = .inl (T 0, y.2 k, .inl (y.1 k)) := by
  unfold yz_ct
  rw [if_neg (by omega), if_neg (by omega), if_pos hk]
theorem yz_ct3 {T : Nat → ClassId} {yd : Nat → Nat} {y : yz_Y} : yz_ct T yd y 2 = .inl (T 5, y.2 2, .inr (.inr (.inr (.inr (fun i => some (yd (6 + i))))))) := rfl
theorem yz_ct4 {T : Nat → ClassId} {yd : Nat → Nat} {y : yz_Y} : yz_ct T yd y 3 = .inl (T 6, y.2 3, .inr (.inr (.inr (.inr (fun i => some (yd (10 + i))))))) := rfl
theorem yz_ct5 {T : Nat → ClassId} {yd : Nat → Nat} {y : yz_Y} {f : Nat} (hk : yz_kd (20 + f) = 5) : yz_ct T yd y (20 + f) = .inl (T 5, y.2 (20 + f), .inr (.inr (.inr (.inr (fun i => some (yd (40 + (12 * f + i)))))))) := by
  unfold yz_ct
  rw [if_neg (by omega), if_neg (by omega), if_neg (by omega), if_neg (by omega), if_neg (by omega), if_pos hk, show 20 + f - 20 = f by omega]
theorem yz_ct6 {T : Nat → ClassId} {yd : Nat → Nat} {y : yz_Y} {k : Nat} (hk : yz_kd k = 6) : yz_ct T yd y k = .inl (T 4, y.2 k, .inl (y.1 k)) := by
  unfold yz_ct
  rw [if_neg (by omega), if_neg (by omega), if_neg (by omega), if_neg (by omega), if_neg (by omega), if_neg (by omega)]
theorem va_P1 {D : va_G} {cl : List vw_C} {q : Nat × va_E} {H : Heap} (h : va_at D cl q H) : va_P D cl [q] H := fun k x hx => by
  match k, hx with
  | 0, hx => cases hx; exact h
  | k + 1, hx => simp at hx
/-- a field of the law's object at a is read -/
theorem zr_getO (C : zj_C p s m args meth c G own cc nL) {a κ j idx : Nat} {fs : List Value} {v : Value} (ha : ∀ H, Pr H → va_at (xg_D G) vwCl (a, .inr (κ, fs)) H) (F : xw_fl own idx κ j) (hv : fs[j]? = some v) (d : decode cc pc = .ok (.getfield idx, 3)) (K : zj_X p l e R s m args below meth c G nL cells slots Q Pr lv (pc + 3) (v :: st)) : zj_X p l e R s m args below meth c G nL cells slots Q Pr lv pc (.ref a :: st) := by
  intro H locs ls hP hS hL
  obtain ⟨r, h1, h2, h3, h4⟩ := F
  obtain ⟨g1, g2, g3, g4⟩ := xw_cl κ r h1
  exact va_get (D := xg_D G) (ws := [(a, .inr (κ, fs))]) C.1 C.2.1 C.2.2.2.2.1 g1 C.2.2.2.1 C.2.2.2.2.2.1 (va_P1 (ha H hP)) 0 rfl h1 j h2 (C.2.2.2.2.1 _ h4) (fun x hx => by rw [h3] at hx; exact hx) hv d (K H locs ls hP hS hL)
theorem zr_getS (C : zj_C p s m args meth c G own cc nL) {Ch : Nat → Prop} {y0 yd : Nat → Nat} {h : xw_M} {y : yz_Y} {j idx : Nat} {v : Value} (F : xw_fl own idx 7 j) (hv : [Value.int (y.1 0 0), .int (y.1 0 1), .ref (yd 1), .ref (yd 2), .ref (yd 3), .ref (yd 4), .ref (yd 5)][j]? = some v) (d : decode cc pc = .ok (.getfield idx, 3)) (K : zj_X p l e R s m args below meth c G nL cells slots Q (yz_W G Ch y0 yd h y) lv (pc + 3) (v :: st)) : zj_X p l e R s m args below meth c G nL cells slots Q (yz_W G Ch y0 yd h y) lv pc (.ref (yd 0) :: st) := zr_getO C (fun H hP => hP.2.1 0 (yz_on0 (by decide))) F hv d K
theorem zr_getF (C : zj_C p s m args meth c G own cc nL) {Ch : Nat → Prop} {y0 yd : Nat → Nat} {h : xw_M} {y : yz_Y} {i j idx : Nat} {v : Value} (F : xw_fl own idx 6 j) (hv : [Value.ref (yd (20 + i)), .ref (yd (30 + i)), .int (y.1 (10 + i) 2), .int (y.1 (10 + i) 3), .int (y.1 (10 + i) 4), .int (y.1 (10 + i) 5), .int (y.1 (10 + i) 6), .int (y.1 (10 + i) 7)][j]? = some v) (d : decode cc pc = .ok (.getfield idx, 3)) {α : Type} {A : Option α} {q : α} (hR : (if yz_is y (10 + i) 1 = true then A else none) = some q) (K : A = some q → zj_X p l e R s m args below meth c G nL cells slots Q (yz_W G Ch y0 yd h y) lv (pc + 3) (v :: st)) : zj_X p l e R s m args below meth c G nL cells slots Q (yz_W G Ch y0 yd h y) lv pc (.ref (yd (10 + i)) :: st) := by
  by_cases hx : yz_is y (10 + i) 1 = true
  · have h1 := yz_is_on hx (by decide)
    exact zr_getO C (fun H hP => by have h2 := hP.2.1 _ h1.1; rw [yz_ct1 h1.2] at h2; exact h2) F hv d (K (xo_t hR hx))
  · rw [if_neg hx] at hR; cases hR
/-- a field of the law's object at a is set -/
theorem zr_putO (C : zj_C p s m args meth c G own cc nL) {Pr2 : Heap → Prop} {a κ j idx : Nat} {fs : List Value} {v : Value} {ty : FieldType} (ha : ∀ H, Pr H → va_at (xg_D G) vwCl (a, .inr (κ, fs)) H ∧ xg_B G a) (F : xw_fl own idx κ j) (hp : ∃ r : vw_C, vwCl[κ]? = some r ∧ (r.2.1 j).2.2.2 = false ∧ parseFieldDescriptor (r.2.1 j).2.2.1 = some ty) (hn : narrow ty v = v) (hfit : fits ty v = true) (hlf : j < fs.length) (h2 : ∀ H H1 : Heap, Pr H → H1.size = H.size → (∀ q : Nat, q ≠ a → H1[q]? = H[q]?) → va_at (xg_D G) vwCl (a, .inr (κ, fs.set j v)) H1 → Pr2 H1) (d : decode cc pc = .ok (.putfield idx, 3)) (K : zj_X p l e R s m args below meth c G nL cells slots Q Pr2 lv (pc + 3) st) : zj_X p l e R s m args below meth c G nL cells slots Q Pr lv pc (v :: .ref a :: st) := by
  intro H locs ls hP hS hL
  obtain ⟨r, h1, hk, h3, h4⟩ := F
  obtain ⟨g1, ⟨ty0, g2⟩, g3, g4⟩ := xw_cl κ r h1
  obtain ⟨r2, p1, p2, p3⟩ := hp
  cases Option.some.inj (h1.symm.trans p1)
  have hts := C.2.2.2.2.1
  have hap := va_apart (own := own) hts g1 ty0 g2 g3 C.2.2.2.2.2.1 h1
  obtain ⟨⟨r9, h9, cell, q1, q2, q3, q4⟩, hB⟩ := ha H hP
  have hr9 : r9 = r := Option.some.inj (h9.symm.trans h1)
  subst hr9
  obtain ⟨hSl, hfc, kC, hkC, hkind⟩ := C.2.2.2.2.2.1.1 κ _ h1
  obtain ⟨cf, kf, fi, f, hi, hsl⟩ := hSl j hk
  have hst := (u_facts hfc hkC (u_lays hts g1 hk) hi).1
  have hlay := hts _ (g1 _ (u_in_lay hk))
  unfold u_lay at hlay
  rw [if_neg (by rw [p2]; decide)] at hlay
  have h6 := u_store hfc hkC hkind hlay hi p3 hn hfit
  refine W.putK C.1 C.2.1 (f := f) ⟨C.2.2.2.1, hts _ h4, ⟨_, _, _, (by rw [h3] at hi; exact hi)⟩, hst⟩ (by rw [q2]; exact h6) q1 q3 (by rw [hsl]; exact k2_hasslot (q4 j hk)) rfl rfl d fun H' e1 e2 e3 => ?_
  rw [hsl] at e1 ⊢
  exact K H' _ ls (h2 H H' hP e2 e3 ⟨_, h1, t_OB.to (V := updV (vp_V fs) j v) ⟨_, e1, q2, q3, t_set q4 hap hk v⟩ (fun i _ => vp_updV_set hlf v i)⟩) (hS.put e2 e3 hB) hL
def zw_pf (κ j : Nat) : Prop := ∃ r : vw_C, vwCl[κ]? = some r ∧ (r.2.1 j).2.2.2 = false ∧ parseFieldDescriptor (r.2.1 j).2.2.1 = some .int
theorem zr_putS (C : zj_C p s m args meth c G own cc nL) {Ch : Nat → Prop} {y0 yd : Nat → Nat} {h : xw_M} {y : yz_Y} {j idx : Nat} {v : Int32} (hj : j < 2) (F : xw_fl own idx 7 j) (hp : zw_pf 7 j) (d : decode cc pc = .ok (.putfield idx, 3)) {α : Type} {f : yz_Y → Option α} {r : Option α} (hR : xo_let (yz_st y 0 j v) f = r) (K : ∀ y1 : yz_Y, f y1 = r → zj_X p l e R s m args below meth c G nL cells slots Q (yz_W G Ch y0 yd h y1) lv (pc + 3) st) : zj_X p l e R s m args below meth c G nL cells slots Q (yz_W G Ch y0 yd h y) lv pc (.int v :: .ref (yd 0) :: st) := by
  refine zr_putO C (v := .int v) (fun H hP => ⟨hP.2.1 0 (yz_on0 (by decide)), yz_B hP (yz_on0 (by decide))⟩) F hp rfl rfl (by show j < 7; omega) (fun H H1 hP h1 h2 h3 => hP.set (k := 0) (j := j) (v := v) (yz_on0 (by decide)) h2 ?_) d (K _ hR)
  rcases (show j = 0 ∨ j = 1 by omega) with rfl | rfl <;> exact h3
theorem zr_putF (C : zj_C p s m args meth c G own cc nL) {Ch : Nat → Prop} {y0 yd : Nat → Nat} {h : xw_M} {y : yz_Y} {i j idx : Nat} {v : Int32} (hj : 2 ≤ j ∧ j < 8) (F : xw_fl own idx 6 j) (hp : zw_pf 6 j) (d : decode cc pc = .ok (.putfield idx, 3)) {α : Type} {f : yz_Y → Option α} {q : α} (hR : (if yz_is y (10 + i) 1 = true then xo_let (yz_st y (10 + i) j v) f else none) = some q) (K : ∀ y1 : yz_Y, f y1 = some q → zj_X p l e R s m args below meth c G nL cells slots Q (yz_W G Ch y0 yd h y1) lv (pc + 3) st) : zj_X p l e R s m args below meth c G nL cells slots Q (yz_W G Ch y0 yd h y) lv pc (.int v :: .ref (yd (10 + i)) :: st) := by
  by_cases hx : yz_is y (10 + i) 1 = true
  · have h1 := yz_is_on hx (by decide)
    rw [if_pos hx] at hR
    refine zr_putO C (v := .int v) (fun H hP => ⟨by have h2 := hP.2.1 _ h1.1; rw [yz_ct1 h1.2] at h2; exact h2, yz_B hP h1.1⟩) F hp rfl rfl (by show j < 8; omega) (fun H H1 hP e1 e2 e3 => hP.set (k := 10 + i) (j := j) (v := v) h1.1 e2 ?_) d (K _ hR)
    rw [yz_ct1 h1.2]
    rw [yz_st1]
    rcases (show j = 2 ∨ j = 3 ∨ j = 4 ∨ j = 5 ∨ j = 6 ∨ j = 7 by omega) with rfl | rfl | rfl | rfl | rfl | rfl <;> exact e3
  · rw [if_neg hx] at hR; cases hR
/-- rows of ints -/
theorem zr_iald (C : zj_C p s m args meth c G own cc nL) {Ch : Nat → Prop} {y0 yd : Nat → Nat} {h : xw_M} {y : yz_Y} {k : Nat} {i : Int32} (d : decode cc pc = .ok (.iaload, 1)) {α : Type} {A : Option α} {q : α} (hR : (if (yz_is y k 2 && xo_ix i (y.2 k)) = true then A else none) = some q) (K : A = some q → zj_X p l e R s m args below meth c G nL cells slots Q (yz_W G Ch y0 yd h y) lv (pc + 1) (.int (y.1 k i.toNatClampNeg) :: st)) : zj_X p l e R s m args below meth c G nL cells slots Q (yz_W G Ch y0 yd h y) lv pc (.int i :: .ref (yd k) :: st) := by
  intro H locs ls hP hS hL
  by_cases hx : (yz_is y k 2 && xo_ix i (y.2 k)) = true
  · have hx2 := (Bool.and_eq_true _ _).mp hx
    have h1 := yz_is_on hx2.1 (by decide)
    have h2 := hP.2.1 _ h1.1
    rw [yz_ct2 h1.2] at h2
    exact va_iald (D := xg_D G) (cl := vwCl) (ws := [(yd k, .inl (xg_T G 0, y.2 k, .inl (y.1 k)))]) C.1 C.2.1 C.2.2.2.2.2.1 (va_P1 h2) 0 0 rfl rfl (xo_ix_in hx2.2) d (K (xo_t hR hx) H locs ls hP hS hL)
  · rw [if_neg hx] at hR; cases hR
theorem zr_iast (C : zj_C p s m args meth c G own cc nL) {Ch : Nat → Prop} {y0 yd : Nat → Nat} {h : xw_M} {y : yz_Y} {k : Nat} {i v : Int32} (d : decode cc pc = .ok (.iastore, 1)) {α : Type} {f : yz_Y → Option α} {q : α} (hR : (if (yz_is y k 2 && xo_ix i (y.2 k)) = true then xo_let (yz_st y k i.toNatClampNeg v) f else none) = some q) (K : ∀ y1 : yz_Y, f y1 = some q → zj_X p l e R s m args below meth c G nL cells slots Q (yz_W G Ch y0 yd h y1) lv (pc + 1) st) : zj_X p l e R s m args below meth c G nL cells slots Q (yz_W G Ch y0 yd h y) lv pc (.int v :: .int i :: .ref (yd k) :: st) := by
  intro H locs ls hP hS hL
  by_cases hx : (yz_is y k 2 && xo_ix i (y.2 k)) = true
  · have hx2 := (Bool.and_eq_true _ _).mp hx
    have h1 := yz_is_on hx2.1 (by decide)
    have h2 := hP.2.1 _ h1.1
    rw [yz_ct2 h1.2] at h2
    rw [if_pos hx] at hR
    have hin := xo_ix_in hx2.2
    refine W.iast C.1 C.2.1 h2 ((C.2.2.2.2.2.1.2 0 _ rfl).1 (y.2 k) (fun j => .int (y.1 k j))) (fun q => by cases q) (by show ¬ (i < 0 ∨ (arrV _ _ _).slots.size ≤ _); rw [arrV_size]; exact hin) rfl rfl d fun H1 e z oq => ?_
    refine K _ hR H1 _ ls (hP.set (k := k) (j := i.toNatClampNeg) (v := v) h1.1 oq ?_) (hS.put z oq (yz_B hP h1.1)) hL
    rw [yz_ct2 h1.2]
    show H1[yd k]? = some (vp_cell _ _)
    rw [e]
    rw [yz_st1, vp_cell_i, vp_cell_i, arrV_store]
    congr 2
    funext a
    by_cases ha : a = i.toNatClampNeg
    · subst ha
      simp [updV, upd]
    · simp [updV, upd, ha]
  · rw [if_neg hx] at hR; cases hR
theorem zr_alen2 (C : zj_C p s m args meth c G own cc nL) {Ch : Nat → Prop} {y0 yd : Nat → Nat} {h : xw_M} {y : yz_Y} {k : Nat} (d : decode cc pc = .ok (.arraylength, 1)) {α : Type} {A : Option α} {q : α} (hR : (if yz_is y k 2 = true then A else none) = some q) (K : A = some q → zj_X p l e R s m args below meth c G nL cells slots Q (yz_W G Ch y0 yd h y) lv (pc + 1) (.int (nI (y.2 k)) :: st)) : zj_X p l e R s m args below meth c G nL cells slots Q (yz_W G Ch y0 yd h y) lv pc (.ref (yd k) :: st) := by
  intro H locs ls hP hS hL
  by_cases hx : yz_is y k 2 = true
  · have h1 := yz_is_on hx (by decide)
    have h2 := hP.2.1 _ h1.1
    rw [yz_ct2 h1.2] at h2
    exact va_alen (D := xg_D G) (cl := vwCl) (ws := [(yd k, .inl (xg_T G 0, y.2 k, .inl (y.1 k)))]) C.1 C.2.1 C.2.2.2.2.2.1 (va_P1 h2) 0 0 rfl rfl rfl d (K (xo_t hR hx) H locs ls hP hS hL)
  · rw [if_neg hx] at hR; cases hR
theorem zr_alen3 (C : zj_C p s m args meth c G own cc nL) {Ch : Nat → Prop} {y0 yd : Nat → Nat} {h : xw_M} {y : yz_Y} (d : decode cc pc = .ok (.arraylength, 1)) (K : zj_X p l e R s m args below meth c G nL cells slots Q (yz_W G Ch y0 yd h y) lv (pc + 1) (.int (nI (y.2 2)) :: st)) : zj_X p l e R s m args below meth c G nL cells slots Q (yz_W G Ch y0 yd h y) lv pc (.ref (yd 2) :: st) := by
  intro H locs ls hP hS hL
  have h2 := hP.2.1 2 (yz_on0 (by decide))
  exact va_alen (D := xg_D G) (cl := vwCl) (ws := [(yd 2, yz_ct (xg_T G) yd y 2)]) C.1 C.2.1 C.2.2.2.2.2.1 (va_P1 h2) 0 5 rfl rfl rfl d (K H locs ls hP hS hL)
theorem zr_alen4 (C : zj_C p s m args meth c G own cc nL) {Ch : Nat → Prop} {y0 yd : Nat → Nat} {h : xw_M} {y : yz_Y} (d : decode cc pc = .ok (.arraylength, 1)) (K : zj_X p l e R s m args below meth c G nL cells slots Q (yz_W G Ch y0 yd h y) lv (pc + 1) (.int (nI (y.2 3)) :: st)) : zj_X p l e R s m args below meth c G nL cells slots Q (yz_W G Ch y0 yd h y) lv pc (.ref (yd 3) :: st) := by
  intro H locs ls hP hS hL
  have h2 := hP.2.1 3 (yz_on0 (by decide))
  exact va_alen (D := xg_D G) (cl := vwCl) (ws := [(yd 3, yz_ct (xg_T G) yd y 3)]) C.1 C.2.1 C.2.2.2.2.2.1 (va_P1 h2) 0 6 rfl rfl rfl d (K H locs ls hP hS hL)
theorem zr_alen5 (C : zj_C p s m args meth c G own cc nL) {Ch : Nat → Prop} {y0 yd : Nat → Nat} {h : xw_M} {y : yz_Y} {f : Nat} (d : decode cc pc = .ok (.arraylength, 1)) {α : Type} {A : Option α} {q : α} (hR : (if yz_is y (20 + f) 5 = true then A else none) = some q) (K : A = some q → zj_X p l e R s m args below meth c G nL cells slots Q (yz_W G Ch y0 yd h y) lv (pc + 1) (.int (nI (y.2 (20 + f))) :: st)) : zj_X p l e R s m args below meth c G nL cells slots Q (yz_W G Ch y0 yd h y) lv pc (.ref (yd (20 + f)) :: st) := by
  intro H locs ls hP hS hL
  by_cases hx : yz_is y (20 + f) 5 = true
  · have h1 := yz_is_on hx (by decide)
    have h2 := hP.2.1 _ h1.1
    rw [yz_ct5 h1.2] at h2
    exact va_alen (D := xg_D G) (cl := vwCl) (ws := [(yd (20 + f), .inl (xg_T G 5, y.2 (20 + f), .inr (.inr (.inr (.inr (fun i => some (yd (40 + (12 * f + i)))))))))]) C.1 C.2.1 C.2.2.2.2.2.1 (va_P1 h2) 0 5 rfl rfl rfl d (K (xo_t hR hx) H locs ls hP hS hL)
  · rw [if_neg hx] at hR; cases hR
/-- rows of things -/
theorem zr_aaldO (C : zj_C p s m args meth c G own cc nL) {a t n : Nat} {ty : FieldType} {g : Nat → Nat} {i : Int32} (ha : ∀ H, Pr H → va_at (xg_D G) vwCl (a, .inl (xg_T G t, n, .inr (.inr (.inr (.inr (fun i => some (g i))))))) H) (hT : (xw_tys G)[t]? = some (xg_T G t, ty)) (hr : ty.isReference = true) (hin : vp_in i n) (d : decode cc pc = .ok (.aaload, 1)) (K : zj_X p l e R s m args below meth c G nL cells slots Q Pr lv (pc + 1) (.ref (g i.toNatClampNeg) :: st)) : zj_X p l e R s m args below meth c G nL cells slots Q Pr lv pc (.int i :: .ref a :: st) := by
  intro H locs ls hP hS hL
  have hlt : i.toNatClampNeg < n := Nat.not_le.mp fun q => hin (Or.inr q)
  exact W.aald (v := .ref (g i.toNatClampNeg)) (ty := ty) C.1 C.2.1 (ha H hP) ((C.2.2.2.2.2.1.2 t _ hT).1 n (fun j => .ref (g j))) hr (fun q => by cases q) (by show ¬ (i < 0 ∨ (arrV _ _ _).slots.size ≤ _); rw [arrV_size]; exact hin) (by show (arrV _ _ _).slots[_]? = _; rw [arrV_read _ _ hlt]; rfl) rfl rfl d (K H locs ls hP hS hL)
theorem zr_aald3 (C : zj_C p s m args meth c G own cc nL) {Ch : Nat → Prop} {y0 yd : Nat → Nat} {h : xw_M} {y : yz_Y} {i : Int32} (d : decode cc pc = .ok (.aaload, 1)) {α : Type} {A : Option α} {q : α} (hR : (if xo_ix i (y.2 2) = true then A else none) = some q) (K : A = some q → zj_X p l e R s m args below meth c G nL cells slots Q (yz_W G Ch y0 yd h y) lv (pc + 1) (.ref (yd (6 + i.toNatClampNeg)) :: st)) : zj_X p l e R s m args below meth c G nL cells slots Q (yz_W G Ch y0 yd h y) lv pc (.int i :: .ref (yd 2) :: st) := by
  by_cases hx : xo_ix i (y.2 2) = true
  · exact zr_aaldO C (t := 5) (g := fun i => yd (6 + i)) (fun H hP => hP.2.1 2 (yz_on0 (by decide))) rfl rfl (xo_ix_in hx) d (K (xo_t hR hx))
  · rw [if_neg hx] at hR; cases hR
theorem zr_aald4 (C : zj_C p s m args meth c G own cc nL) {Ch : Nat → Prop} {y0 yd : Nat → Nat} {h : xw_M} {y : yz_Y} {i : Int32} (d : decode cc pc = .ok (.aaload, 1)) {α : Type} {A : Option α} {q : α} (hR : (if xo_ix i (y.2 3) = true then A else none) = some q) (K : A = some q → zj_X p l e R s m args below meth c G nL cells slots Q (yz_W G Ch y0 yd h y) lv (pc + 1) (.ref (yd (10 + i.toNatClampNeg)) :: st)) : zj_X p l e R s m args below meth c G nL cells slots Q (yz_W G Ch y0 yd h y) lv pc (.int i :: .ref (yd 3) :: st) := by
  by_cases hx : xo_ix i (y.2 3) = true
  · exact zr_aaldO C (t := 6) (g := fun i => yd (10 + i)) (fun H hP => hP.2.1 3 (yz_on0 (by decide))) rfl rfl (xo_ix_in hx) d (K (xo_t hR hx))
  · rw [if_neg hx] at hR; cases hR
theorem zr_aald5 (C : zj_C p s m args meth c G own cc nL) {Ch : Nat → Prop} {y0 yd : Nat → Nat} {h : xw_M} {y : yz_Y} {f : Nat} {i : Int32} (d : decode cc pc = .ok (.aaload, 1)) {α : Type} {A : Option α} {q : α} (hR : (if (yz_is y (20 + f) 5 && xo_ix i (y.2 (20 + f))) = true then A else none) = some q) (K : A = some q → zj_X p l e R s m args below meth c G nL cells slots Q (yz_W G Ch y0 yd h y) lv (pc + 1) (.ref (yd (40 + (12 * f + i.toNatClampNeg))) :: st)) : zj_X p l e R s m args below meth c G nL cells slots Q (yz_W G Ch y0 yd h y) lv pc (.int i :: .ref (yd (20 + f)) :: st) := by
  by_cases hx : (yz_is y (20 + f) 5 && xo_ix i (y.2 (20 + f))) = true
  · have hx2 := (Bool.and_eq_true _ _).mp hx
    have h1 := yz_is_on hx2.1 (by decide)
    exact zr_aaldO C (t := 5) (g := fun i => yd (40 + (12 * f + i))) (fun H hP => by have h2 := hP.2.1 _ h1.1; rw [yz_ct5 h1.2] at h2; exact h2) rfl rfl (xo_ix_in hx2.2) d (K (xo_t hR hx))
  · rw [if_neg hx] at hR; cases hR
/-- a row of booleans -/
theorem zr_zald (C : zj_C p s m args meth c G own cc nL) {Ch : Nat → Prop} {y0 yd : Nat → Nat} {h : xw_M} {y : yz_Y} {i : Int32} (d : decode cc pc = .ok (.baload, 1)) {α : Type} {A : Option α} {q : α} (hR : (if (yz_is y 142 6 && xo_ix i (y.2 142)) = true then A else none) = some q) (K : A = some q → zj_X p l e R s m args below meth c G nL cells slots Q (yz_W G Ch y0 yd h y) lv (pc + 1) (.int (y.1 142 i.toNatClampNeg) :: st)) : zj_X p l e R s m args below meth c G nL cells slots Q (yz_W G Ch y0 yd h y) lv pc (.int i :: .ref (yd 142) :: st) := by
  intro H locs ls hP hS hL
  by_cases hx : (yz_is y 142 6 && xo_ix i (y.2 142)) = true
  · have hx2 := (Bool.and_eq_true _ _).mp hx
    have h1 := yz_is_on hx2.1 (by decide)
    have h2 := hP.2.1 _ h1.1
    rw [yz_ct6 h1.2] at h2
    exact va_zald (D := xg_D G) (cl := vwCl) (ws := [(yd 142, .inl (xg_T G 4, y.2 142, .inl (y.1 142)))]) C.1 C.2.1 C.2.2.2.2.2.1 (va_P1 h2) 0 4 rfl rfl (xo_ix_in hx2.2) d (K (xo_t hR hx) H locs ls hP hS hL)
  · rw [if_neg hx] at hR; cases hR
theorem zr_zast (C : zj_C p s m args meth c G own cc nL) {Ch : Nat → Prop} {y0 yd : Nat → Nat} {h : xw_M} {y : yz_Y} {i : Int32} (d : decode cc pc = .ok (.bastore, 1)) {α : Type} {f : yz_Y → Option α} {q : α} (hR : (if (yz_is y 142 6 && xo_ix i (y.2 142)) = true then xo_let (yz_st y 142 i.toNatClampNeg 1) f else none) = some q) (K : ∀ y1 : yz_Y, f y1 = some q → zj_X p l e R s m args below meth c G nL cells slots Q (yz_W G Ch y0 yd h y1) lv (pc + 1) st) : zj_X p l e R s m args below meth c G nL cells slots Q (yz_W G Ch y0 yd h y) lv pc (.int 1 :: .int i :: .ref (yd 142) :: st) := by
  intro H locs ls hP hS hL
  by_cases hx : (yz_is y 142 6 && xo_ix i (y.2 142)) = true
  · have hx2 := (Bool.and_eq_true _ _).mp hx
    have h1 := yz_is_on hx2.1 (by decide)
    have h2 := hP.2.1 _ h1.1
    rw [yz_ct6 h1.2] at h2
    rw [if_pos hx] at hR
    have hin := xo_ix_in hx2.2
    refine W.zast C.1 C.2.1 h2 ((C.2.2.2.2.2.1.2 4 _ rfl).1 (y.2 142) (fun j => .int (y.1 142 j))) (fun q => by cases q) (by show ¬ (i < 0 ∨ (arrV _ _ _).slots.size ≤ _); rw [arrV_size]; exact hin) rfl rfl d fun H1 e z oq => ?_
    refine K _ hR H1 _ ls (hP.set (k := 142) (j := i.toNatClampNeg) (v := 1) h1.1 oq ?_) (hS.put z oq (yz_B hP h1.1)) hL
    rw [yz_ct6 h1.2]
    show H1[yd 142]? = some (vp_cell _ _)
    rw [e]
    rw [yz_st1, vp_cell_i, vp_cell_i, arrV_store]
    congr 2
    funext a
    by_cases ha : a = i.toNatClampNeg
    · subst ha
      simp [updV, upd]
      rfl
    · simp [updV, upd, ha]
  · rw [if_neg hx] at hR; cases hR
end ZJ
