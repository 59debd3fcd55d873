section XV
variable {p : Program} {l : Launch} {e : Env} {R : Room} {s : State} {m : MethodId} {args : Array Value} {below : List Frame} {meth : Method} {c : Code} {G : xw_G} {nL cells slots : Nat} {Q : State → Prop}
variable {cc : ByteArray} {own : String} {pc : Nat} {lv : List (Option Value)} {st : List Value} {Pr : Heap → Prop}
/-! the world of a constructor: what lies at an address -/
abbrev xv_W : Type := Nat → Option va_E
def xv_P (G : xw_G) (w : xv_W) (H : Heap) : Prop := ∀ (a : Nat) (e : va_E), w a = some e → va_at (xg_D G) vwCl (a, e) H ∧ xg_z G ≤ a
def xv_up (w : xv_W) (a : Nat) (e : va_E) : xv_W := fun x => if x = a then some e else w x
def xv_H (G : xw_G) (w : xv_W) (sz : Nat) (H : Heap) : Prop := H.size = sz ∧ xv_P G w H ∧ xg_z G ≤ sz
/-- there are rows of rows of ints -/
def zv_AA (U : State) : Prop := (Cond.arrayOver (.array .int)).before #[] U = true
theorem zv_AA.of {A : Array Value} {U : State} (h : (Cond.arrayOver (.array .int)).before A U = true) : zv_AA U := h
theorem zv_AA.use {A : Array Value} {U : State} (h : zv_AA U) : (Cond.arrayOver (.array .int)).before A U = true := h
theorem zv_AA.moved {u U : State} (hvm : u.vm.Alike U.vm) (h : zv_AA u) : zv_AA U := by
  obtain ⟨comp, c, k, h1, h2, h3, h4, h5⟩ := arrayOverA_spec h
  obtain ⟨k', hk', he⟩ := hvm.2.2 _ _ h3
  have hi : (U.vm.classes.findIdx? fun (x : Class) => match x.kind with | .array component _ => component == comp | _ => false) = some c := by
    refine (va_idx_bare U.vm comp).symm.trans ?_
    first | rw [hvm.bare_eq] | rw [← hvm.bare_eq]
    exact (va_idx_bare u.vm comp).trans h2
  have hkind : k'.kind = .array comp (.array .int) := by rw [he]; exact h4
  have f1 : U.vm.findClass (FieldType.array .int).toString = some comp := by rw [hvm.findClass]; exact h1
  have f2 : U.vm.findClass ("[" ++ (FieldType.array .int).toString) = some c := by rw [hvm.findClass]; exact h5
  unfold zv_AA Cond.before Cond.holds
  simp only [Cond.value]
  rw [f1, Option.bind_some]
  refine (congrArg (fun o : Option Nat => (o.bind (fun c => (U.vm.classes[c]?).map fun (k : Class) => match k.kind with | .array _ ty => decide (ty = FieldType.array .int) && decide (U.vm.findClass ("[" ++ (FieldType.array .int).toString) = some c) | _ => false) == some true)) hi).trans ?_
  simp [hk', hkind, f2]
def xv_nn : List Cond := [.methodLinkNest RX1 23 yX0_init "WaterFibers", .methodLinkNest RX0 9 yX3_init "WaterFibers", .methodLinkNest RX2 21 yX4_init "WaterFibers", .methodLinkNest RX1 37 yX3_init "WaterFibers", .methodLinkNest RX7 42 yX6_init "WaterFibersLaw", .methodLinkNest RL 77 yX7_init "WaterFibersLaw"]
def xv_F (U : State) : Prop := (∀ w ∈ xv_nn, va_Nw w U) ∧ va_AO RX0 U ∧ va_AO RX2 U ∧ va_AO RX4 U ∧ va_AO RX6 U ∧ zv_AA U
theorem xv_nn_tab : ∀ w ∈ xv_nn, w.onTables = true := by decide +kernel
theorem xv_F.warm {s U : State} (hF : xv_F s) (hW : s.WarmedH U.vm) : xv_F U := by
  refine ⟨fun w hw => ?_, hF.2.1.moved hW.alike, hF.2.2.1.moved hW.alike, hF.2.2.2.1.moved hW.alike, hF.2.2.2.2.1.moved hW.alike, hF.2.2.2.2.2.moved hW.alike⟩
  have h := hF.1 w hw
  simp only [xv_nn, List.mem_cons, List.not_mem_nil, or_false] at hw
  rcases hw with rfl | rfl | rfl | rfl | rfl | rfl <;> exact va_Nw.warmM hW h
theorem xv_F.same {s U : State} (hF : xv_F s) (hv : U.vm = s.vm) : xv_F U :=
  ⟨fun w hw => va_Nw.same (xv_nn_tab w hw) hv.symm (hF.1 w hw), hF.2.1.moved (by rw [hv]; exact Vm.Alike.refl _), hF.2.2.1.moved (by rw [hv]; exact Vm.Alike.refl _), hF.2.2.2.1.moved (by rw [hv]; exact Vm.Alike.refl _), hF.2.2.2.2.1.moved (by rw [hv]; exact Vm.Alike.refl _), hF.2.2.2.2.2.moved (by rw [hv]; exact Vm.Alike.refl _)⟩
def xv_S (G : xw_G) (w : xv_W) (sz : Nat) (U : State) : Prop := xv_H G w sz U.heap ∧ va_K (xg_D G) vwCl (xw_tys G) U ∧ xv_F U
theorem xv_blind {w : xv_W} {sz : Nat} {av : List Value} : FrameBlind (va_Pc av (xv_S G w sz)) := by
  intro a U g mk q
  obtain ⟨q1, q2, q3, q4⟩ := q
  exact ⟨q1, q2, va_K.moved (u := U) (U := U.calling g mk a) (Vm.Alike.refl U.vm) q3, xv_F.same (s := U) (U := U.calling g mk a) q4 rfl⟩
def xv_C (p : Program) (s : State) (m : MethodId) (args : Array Value) (meth : Method) (c : Code) (G : xw_G) (own : String) (cc : ByteArray) (nL : Nat) : Prop :=
  p.tables.exec = Jvm.exec ∧ c.code = cc ∧ c.maxLocals = nL ∧ s.vm.findClass own = some m.cls ∧ (∀ w ∈ lw_g, w.before args s = true) ∧ va_K (xg_D G) vwCl (xw_tys G) s ∧ xv_F s ∧ meth.locks = false ∧ xg_z G ≤ s.heap.size
def xv_X (p : Program) (l : Launch) (e : Env) (R : Room) (s : State) (m : MethodId) (args : Array Value) (below : List Frame) (meth : Method) (c : Code) (G : xw_G) (nL cells slots : Nat) (Q : State → Prop) (Pr : Heap → Prop) (lv : List (Option Value)) (pc : Nat) (st : List Value) : Prop :=
  ∀ (H : Heap) (locs : List Loc) (ls : Array Slot), Pr H → va_S (xg_B G) s.heap H locs → xj_L ls nL lv → W p l e R s m args below meth c H locs cells slots Q (F0 m pc ls st)
def xv_Q (G : xw_G) (w' : xv_W) (sz' : Nat) : Array Value → State → Outcome → State → Prop := fun _ s o t => o = .returned none ∧ xv_H G w' sz' t.heap ∧ va_F (xg_B G) s t
def xv_M (l : Launch) (G : xw_G) (y : MethodName) (cc : ByteArray) (n fr lo mc ms : Nat) (av : List Value) (w : xv_W) (sz : Nat) (w' : xv_W) (sz' : Nat) : Prop :=
  Met l y (.code y cc n none :: lw_g) { frames := fr, cells := mc, slots := ms, locals := lo } (va_Pc av (xv_S G w sz)) (xv_Q G w' sz') mc ms (xg_B G)
theorem xv_of {y : MethodName} {n fr lo mc ms sz sz' : Nat} {av : List Value} {w w' : xv_W} (hy : plainName y.cls = true) (hn : y.name = "<init>") (hcat : av.all (fun v => v.category == 1) = true) (hlen : (lg_sl av).length ≤ n)
    (body : ∀ (p : Program) (e : Env) (s : State) (m : MethodId) (args : Array Value) (below : List Frame) (meth : Method) (c : Code), xv_C p s m args meth c G y.cls cc n → meth.sig.returnType = none → meth.name = "<init>" →
      xv_X p l e { frames := fr, cells := mc, slots := ms, locals := lo } s m args below meth c G n 0 0 (MQ below (xv_Q G w' sz') args s mc ms (xg_B G)) (xv_H G w sz) (xc_lv av n) 0 []) : xv_M l G y cc n fr lo mc ms av w sz w' sz' := by
  refine Met.ofW (cc := cc) (maxL := n) (ret := none) hy rfl ?_
  intro p e s m args below meth c s₁ B hml hv
  obtain ⟨rfl, hP, hK, hF⟩ := hv
  have hts : ∀ w ∈ lw_g, w.before av.toArray s = true := fun w hw => atoms_spec (ws := .code y cc n none :: lw_g) B.pre w (List.mem_cons_of_mem _ hw)
  have hl := lv_entry av (n := n) hlen
  rw [lg_entry_eq]
  exact body p e s m av.toArray below meth c ⟨B.exec, B.bytes, hml, findClass_of_methodNamed B.named, hts, hK, hF, B.notSynchronized, by rw [hP.1]; exact hP.2.2⟩ B.returns ((name_of_methodNamed B.named B.method).1.trans hn) s.heap [] _ hP va_S.rf ⟨hl.1, hl.2.1, fun i v hi => hl.2.2 (i, v) (by have h1 := xc_entry av 0 i v hcat (xc_lv_at hi); rwa [Nat.zero_add] at h1)⟩
theorem xv_iconst (C : xv_C p s m args meth c G own cc nL) {n : Int} {v : Int32} (d : decode cc pc = .ok (.iconst n, 1)) (hv : Int32.ofInt n = v) (K : xv_X p l e R s m args below meth c G nL cells slots Q Pr lv (pc + 1) (.int v :: st)) : xv_X p l e R s m args below meth c G nL cells slots Q Pr lv pc st := fun H locs ls hP hS hL => lv_iconst C.1 C.2.1 d hv (K H locs ls hP hS hL)
theorem xv_bipush (C : xv_C p s m args meth c G own cc nL) {n : Int} {v : Int32} (d : decode cc pc = .ok (.bipush n, 2)) (hv : (Int8.ofInt n).toInt32 = v) (K : xv_X p l e R s m args below meth c G nL cells slots Q Pr lv (pc + 2) (.int v :: st)) : xv_X p l e R s m args below meth c G nL cells slots Q Pr lv pc st := fun H locs ls hP hS hL => lv_bipush C.1 C.2.1 d hv (K H locs ls hP hS hL)
theorem xv_sipush (C : xv_C p s m args meth c G own cc nL) {n : Int} {v : Int32} (d : decode cc pc = .ok (.sipush n, 3)) (hv : (Int16.ofInt n).toInt32 = v) (K : xv_X p l e R s m args below meth c G nL cells slots Q Pr lv (pc + 3) (.int v :: st)) : xv_X p l e R s m args below meth c G nL cells slots Q Pr lv pc st := fun H locs ls hP hS hL => lv_sipush C.1 C.2.1 d hv (K H locs ls hP hS hL)
theorem xv_iload_n (C : xv_C p s m args meth c G own cc nL) {k : Fin 4} {x : Int32} (d : decode cc pc = .ok (.iload_n k, 1)) (hl : lv[(k : Nat)]? = some (some (.int x))) (K : xv_X p l e R s m args below meth c G nL cells slots Q Pr lv (pc + 1) (.int x :: st)) : xv_X p l e R s m args below meth c G nL cells slots Q Pr lv pc st := fun H locs ls hP hS hL => lv_iload_n C.1 C.2.1 d rfl (hL.2.2 _ _ hl) (K H locs ls hP hS hL)
theorem xv_aload_n (C : xv_C p s m args meth c G own cc nL) {k : Fin 4} {x : Nat} (d : decode cc pc = .ok (.aload_n k, 1)) (hl : lv[(k : Nat)]? = some (some (.ref x))) (K : xv_X p l e R s m args below meth c G nL cells slots Q Pr lv (pc + 1) (.ref x :: st)) : xv_X p l e R s m args below meth c G nL cells slots Q Pr lv pc st := fun H locs ls hP hS hL => lv_aload_n C.1 C.2.1 d rfl (hL.2.2 _ _ hl) (K H locs ls hP hS hL)
theorem xv_istore_n (C : xv_C p s m args meth c G own cc nL) {k : Fin 4} {x : Int32} (d : decode cc pc = .ok (.istore_n k, 1)) (hc : xj_c lv (k : Nat) = true) (hn : (k : Nat) < nL) (K : xv_X p l e R s m args below meth c G nL cells slots Q Pr (lv.set (k : Nat) (some (.int x))) (pc + 1) st) : xv_X p l e R s m args below meth c G nL cells slots Q Pr lv pc (.int x :: st) := fun H locs ls hP hS hL => lv_istore_n C.1 C.2.1 d rfl hL.has hn rfl (fun ls hl => K H locs ls hP hS (xj_L.set1 hc rfl hl))
theorem xv_istore (C : xv_C p s m args meth c G own cc nL) {i : Nat} {x : Int32} (d : decode cc pc = .ok (.istore i, 2)) (hc : xj_c lv i = true) (hn : i < nL) (K : xv_X p l e R s m args below meth c G nL cells slots Q Pr (lv.set i (some (.int x))) (pc + 2) st) : xv_X p l e R s m args below meth c G nL cells slots Q Pr lv pc (.int x :: st) := fun H locs ls hP hS hL => lv_istore C.1 C.2.1 d hL.has hn rfl (fun ls hl => K H locs ls hP hS (xj_L.set1 hc rfl hl))
theorem xv_astore_n (C : xv_C p s m args meth c G own cc nL) {k : Fin 4} {x : Nat} (d : decode cc pc = .ok (.astore_n k, 1)) (hc : xj_c lv (k : Nat) = true) (hn : (k : Nat) < nL) (K : xv_X p l e R s m args below meth c G nL cells slots Q Pr (lv.set (k : Nat) (some (.ref x))) (pc + 1) st) : xv_X p l e R s m args below meth c G nL cells slots Q Pr lv pc (.ref x :: st) := fun H locs ls hP hS hL => lv_astore_n C.1 C.2.1 d rfl hL.has hn rfl (fun ls hl => K H locs ls hP hS (xj_L.set1 hc rfl hl))
theorem xv_astore (C : xv_C p s m args meth c G own cc nL) {i : Nat} {x : Nat} (d : decode cc pc = .ok (.astore i, 2)) (hc : xj_c lv i = true) (hn : i < nL) (K : xv_X p l e R s m args below meth c G nL cells slots Q Pr (lv.set i (some (.ref x))) (pc + 2) st) : xv_X p l e R s m args below meth c G nL cells slots Q Pr lv pc (.ref x :: st) := fun H locs ls hP hS hL => lv_astore C.1 C.2.1 d hL.has hn rfl (fun ls hl => K H locs ls hP hS (xj_L.set1 hc rfl hl))
theorem xv_iinc (C : xv_C p s m args meth c G own cc nL) {i : Nat} {n : Int} {x v : Int32} (d : decode cc pc = .ok (.iinc i n, 3)) (hl : lv[i]? = some (some (.int x))) (hv : x + Int32.ofInt n = v) (hc : xj_c lv i = true) (hn : i < nL) (K : xv_X p l e R s m args below meth c G nL cells slots Q Pr (lv.set i (some (.int v))) (pc + 3) st) : xv_X p l e R s m args below meth c G nL cells slots Q Pr lv pc st := by
  intro H locs ls hP hS hL
  obtain ⟨k, hk⟩ := List.getElem?_of_mem (xj_p_in.mpr hl)
  exact lv_iinc C.1 C.2.1 d hL.has hk hv hn rfl (fun ls hl => K H locs ls hP hS (xj_L.set1 hc rfl hl))
theorem xv_dup (C : xv_C p s m args meth c G own cc nL) {v : Value} (d : decode cc pc = .ok (.dup, 1)) (hv : v.category = 1) (K : xv_X p l e R s m args below meth c G nL cells slots Q Pr lv (pc + 1) (v :: v :: st)) : xv_X p l e R s m args below meth c G nL cells slots Q Pr lv pc (v :: st) := fun H locs ls hP hS hL => lv_dup C.1 C.2.1 d hv (K H locs ls hP hS hL)
theorem xv_goto (C : xv_C p s m args meth c G own cc nL) {off : Int} {tgt : Nat} (d : decode cc pc = .ok (.goto off, 3)) (ht : (pc : Int) + off = (tgt : Int)) (K : xv_X p l e R s m args below meth c G nL cells slots Q Pr lv tgt st) : xv_X p l e R s m args below meth c G nL cells slots Q Pr lv pc st := fun H locs ls hP hS hL => lv_goto C.1 C.2.1 d ht (K H locs ls hP hS hL)
theorem xv_icmp_ge (C : xv_C p s m args meth c G own cc nL) {x y : Int32} {off : Int} {tgt : Nat} (d : decode cc pc = .ok (.if_icmp .ge off, 3)) (ht : (pc : Int) + off = (tgt : Int)) (kt : y ≤ x → xv_X p l e R s m args below meth c G nL cells slots Q Pr lv tgt st) (kf : ¬ y ≤ x → xv_X p l e R s m args below meth c G nL cells slots Q Pr lv (pc + 3) st) : xv_X p l e R s m args below meth c G nL cells slots Q Pr lv pc (.int y :: .int x :: st) := fun H locs ls hP hS hL => lv_icmp_ge C.1 C.2.1 d ht (fun z => kt z H locs ls hP hS hL) (fun z => kf z H locs ls hP hS hL)
theorem xv_widen {k n : Nat} (h1 : cells ≤ k) (h2 : slots ≤ n) (K : xv_X p l e R s m args below meth c G nL (k) (n) Q Pr lv pc st) : xv_X p l e R s m args below meth c G nL cells slots Q Pr lv pc st := fun H locs ls hP hS hL => W.widen h1 h2 (K H locs ls hP hS hL)
theorem xv_eqH {Pr2 : Heap → Prop} (h : ∀ H, Pr H → Pr2 H) (K : xv_X p l e R s m args below meth c G nL cells slots Q Pr2 lv pc st) : xv_X p l e R s m args below meth c G nL cells slots Q Pr lv pc st := fun H locs ls hP hS hL => K H locs ls (h H hP) hS hL
theorem xv_obj (C : xv_C p s m args meth c G own cc nL) {a idx : Nat} (hw : Cond.methodLink own idx objectInit ∈ lw_g ∧ Cond.instanceMethod objectInit ∈ lw_g ∧ Cond.code objectInit ⟨#[0xb1]⟩ 1 none ∈ lw_g) (d : decode cc pc = .ok (.invokespecial idx, 3)) (hf : 1 ≤ R.frames) (hl : (st.map fun v => v.category).sum + 12 ≤ R.locals) (K : xv_X p l e R s m args below meth c G nL cells slots Q Pr lv (pc + 3) st) : xv_X p l e R s m args below meth c G nL cells slots Q Pr lv pc (.ref a :: st) := fun H locs ls hP hS hL => W.objInit C.1 C.2.1 C.2.2.2.1 (C.2.2.2.2.1 _ hw.1) (C.2.2.2.2.1 _ hw.2.1) (C.2.2.2.2.1 _ hw.2.2) rfl (hL.1.trans C.2.2.1.symm) rfl d hf (by rw [show (F0 m pc ls (.ref a :: st)).monitorRoom = 0 from rfl]; omega) (K H locs ls hP hS hL)
theorem xv_lt {w : xv_W} {sz a : Nat} {H : Heap} {e : va_E} (hP : xv_H G w sz H) (h : w a = some e) : a < sz := by
  have h1 := (hP.2.1 a e h).1.lt
  rw [← hP.1]
  exact h1
/-- a world grows at its end -/
theorem xv_grow {w : xv_W} {sz : Nat} {H H1 : Heap} {e : va_E} (hP : xv_H G w sz H) (h1 : H1.size = sz + 1) (h2 : ∀ q, q < sz → H1[q]? = H[q]?) (h3 : va_at (xg_D G) vwCl (sz, e) H1) : xv_H G (xv_up w sz e) (sz + 1) H1 := by
  refine ⟨h1, fun a e9 h => ?_, by have := hP.2.2; omega⟩
  unfold xv_up at h
  by_cases ha : a = sz
  · rw [if_pos ha] at h
    cases h
    rw [ha]
    exact ⟨h3, hP.2.2⟩
  · rw [if_neg ha] at h
    have h9 := hP.2.1 a e9 h
    exact ⟨h9.1.kept (h2 a (xv_lt hP h)), h9.2⟩
theorem xv_set {w : xv_W} {sz a : Nat} {H H1 : Heap} {e0 e : va_E} (hP : xv_H G w sz H) (ha : w a = some e0) (h1 : H1.size = H.size) (h2 : ∀ q, q ≠ a → H1[q]? = H[q]?) (h3 : va_at (xg_D G) vwCl (a, e) H1) : xv_H G (xv_up w a e) sz H1 := by
  refine ⟨h1.trans hP.1, fun x e9 h => ?_, hP.2.2⟩
  unfold xv_up at h
  by_cases hx : x = a
  · rw [if_pos hx] at h
    cases h
    rw [hx]
    exact ⟨h3, (hP.2.1 a e0 ha).2⟩
  · rw [if_neg hx] at h
    have h9 := hP.2.1 x e9 h
    exact ⟨h9.1.kept (h2 x hx), h9.2⟩
/-- the words of 'new': its class -/
def xv_nw (own : String) (idx ci : Nat) (fs : List Value) : Prop := ∃ (r : vw_C) (ty : Nat → FieldType), vwCl[ci]? = some r ∧ (∀ k, k < r.2.2 → parseFieldDescriptor (r.2.1 k).2.2.1 = some (ty k)) ∧ Cond.classLink own idx r.1 ∈ lw_g ∧ Cond.instantiable r.1 r.2.2 ∈ lw_g ∧ Cond.initialized r.1 ∈ lw_g ∧ (∀ j, j < r.2.2 → defaultValue (ty j) = vp_V fs j) ∧ r.2.2 = fs.length
theorem xv_new (C : xv_C p s m args meth c G own cc nL) {w : xv_W} {sz ci idx : Nat} {fs : List Value} (hn : xv_nw own idx ci fs) (hc1 : cells + 1 ≤ R.cells) (hs1 : slots + fs.length ≤ R.slots) (d : decode cc pc = .ok (.new idx, 3)) (K : xv_X p l e R s m args below meth c G nL (cells + 1) (slots + fs.length) Q (xv_H G (xv_up w sz (.inr (ci, fs))) (sz + 1)) lv (pc + 3) (.ref sz :: st)) : xv_X p l e R s m args below meth c G nL cells slots Q (xv_H G w sz) lv pc st := by
  intro H locs ls hP hS hL
  obtain ⟨r, ty, h1, h2, h3, h4, h5, h6, h7⟩ := hn
  have hKn := C.2.2.2.2.2.1.1 ci r h1
  have hts := C.2.2.2.2.1
  refine W.newcK C.1 C.2.1 C.2.2.2.1 (hts _ h3) (hts _ h4) (hts _ h5) rfl d hc1 (by rw [h7]; exact hs1) hKn.2.1 hP.1 (fun H' kC hkC e1 z1 o1 => ?_)
  have hW := K H' locs ls (xv_grow (e := .inr (ci, fs)) hP z1 o1 ⟨r, h1, (u_born ty hts (xw_cl ci r h1).1 hKn hkC e1 h2).to h6⟩) ⟨Nat.le_trans hS.1 (by rw [hP.1, z1]; omega), fun q g1 g2 => (o1 q (by rw [← hP.1]; exact Nat.lt_of_lt_of_le g1 hS.1)).trans (hS.2.1 q g1 g2), hS.2.2⟩ hL
  rw [h7]
  exact hW
theorem xv_newi (C : xv_C p s m args meth c G own cc nL) {w : xv_W} {sz n t : Nat} {v : Int32} {atype : ArrayType} {ty : FieldType} {a0 : vp_A} (hty : newarray.typeOf atype = ty) (hT : (xw_tys G)[t]? = some (xg_T G t, ty)) (hpr : ∀ C, ty ≠ .object C) (ha : ∀ cA : ClassId, vp_cell cA a0 = arrV cA n (fun _ => defaultValue ty)) (hv0 : ¬ v < 0) (hv : v.toNatClampNeg = n) (hb : n * componentBytes ty ≤ 536870912) (hc1 : cells + 1 ≤ R.cells) (hs1 : slots + n ≤ R.slots) (hw : Cond.arrayClass ty ∈ lw_g) (d : decode cc pc = .ok (.newarray atype, 2)) (K : xv_X p l e R s m args below meth c G nL (cells + 1) (slots + n) Q (xv_H G (xv_up w sz (.inl (xg_T G t, a0))) (sz + 1)) lv (pc + 2) (.ref sz :: st)) : xv_X p l e R s m args below meth c G nL cells slots Q (xv_H G w sz) lv pc (.int v :: st) := by
  intro H locs ls hP hS hL
  subst hty
  refine va_newaK C.1 C.2.1 (C.2.2.2.2.1 _ hw) rfl d rfl hv0 hv hb hc1 hs1 rfl (fun H' cA e1 e2 e3 e4 e5 => ?_)
  have h1 := (C.2.2.2.2.2.1.2 t _ hT).2
  have h2 : s.vm.findClass ("[" ++ (newarray.typeOf atype).toString) = some (xg_T G t) := by
    unfold va_RA at h1
    split at h1
    · rename_i C9 hC9
      exact absurd hC9 (hpr C9)
    · exact h1
  have hcA : cA = xg_T G t := Option.some.inj (e5.symm.trans h2)
  have hz := hP.1
  have hW := K H' locs ls (xv_grow (e := .inl (xg_T G t, a0)) hP (by rw [e2, hz]) (fun q hq => e3 q (by rw [hz]; exact hq)) (by show H'[sz]? = some (vp_cell (xg_T G t) a0); rw [ha, ← hcA, ← hz]; exact e1)) ⟨Nat.le_trans hS.1 (by omega), fun q g1 g2 => (e3 q (Nat.lt_of_lt_of_le g1 hS.1)).trans (hS.2.1 q g1 g2), hS.2.2⟩ hL
  rw [← hz] at hW
  exact hW
theorem xv_newr (C : xv_C p s m args meth c G own cc nL) {w : xv_W} {sz n t idx : Nat} {v : Int32} {S : String} (hT : (xw_tys G)[t]? = some (xg_T G t, .object S)) (hov : va_AO S s) (hv0 : ¬ v < 0) (hv : v.toNatClampNeg = n) (hb : n * 4 ≤ 536870912) (hc1 : cells + 1 ≤ R.cells) (hs1 : slots + n ≤ R.slots) (hw : Cond.classLink own idx S ∈ lw_g) (d : decode cc pc = .ok (.anewarray idx, 3)) (K : xv_X p l e R s m args below meth c G nL (cells + 1) (slots + n) Q (xv_H G (xv_up w sz (.inl (xg_T G t, n, .inr (.inr (.inr (.inr (fun _ => none))))))) (sz + 1)) lv (pc + 3) (.ref sz :: st)) : xv_X p l e R s m args below meth c G nL cells slots Q (xv_H G w sz) lv pc (.int v :: st) := by
  intro H locs ls hP hS hL
  subst hv
  refine W.anew C.1 C.2.1 C.2.2.2.1 (C.2.2.2.2.1 _ hw) (va_AO.use hov) rfl d rfl hv0 hb hc1 hs1 (fun cA kA comp f1 f2 f3 f4 => ?_)
  generalize hH1 : H.push ({ cls := cA, slots := Array.replicate v.toNatClampNeg .null, vm := .none } : Cell) = H1
  have hz := hP.1
  have z1 : H1.size = sz + 1 := by rw [← hH1, Array.size_push, hz]
  have e1 : H1[sz]? = some (arrV cA v.toNatClampNeg (fun _ => .null)) := by rw [← hH1, ← hz, Array.getElem?_push_size, ← arrV_new]
  have o1 : ∀ q : Nat, q < sz → H1[q]? = H[q]? := fun q hq => by rw [← hH1, Array.getElem?_push, if_neg (by rw [hz]; exact Nat.ne_of_lt hq)]
  obtain ⟨kA9, comp9, g1, g2, g3, g4⟩ := (C.2.2.2.2.2.1.2 t _ hT).2
  have hcA : cA = xg_T G t := Option.some.inj (f1.symm.trans g4)
  have hW := K H1 locs ls (xv_grow (e := .inl (xg_T G t, v.toNatClampNeg, .inr (.inr (.inr (.inr (fun _ => none)))))) hP z1 o1 (by show H1[sz]? = some (vp_cell _ _); rw [vp_cell_q, ← hcA]; exact e1)) ⟨Nat.le_trans hS.1 (by rw [hz, z1]; omega), fun q g1 g2 => (o1 q (by rw [← hz]; exact Nat.lt_of_lt_of_le g1 hS.1)).trans (hS.2.1 q g1 g2), hS.2.2⟩ hL
  rw [← hz] at hW
  exact hW
theorem xv_get (C : xv_C p s m args meth c G own cc nL) {w : xv_W} {sz a κ j idx : Nat} {fs : List Value} {v : Value} (hw : w a = some (.inr (κ, fs))) (F : xw_fl own idx κ j) (hv : fs[j]? = some v) (d : decode cc pc = .ok (.getfield idx, 3)) (K : xv_X p l e R s m args below meth c G nL cells slots Q (xv_H G w sz) lv (pc + 3) (v :: st)) : xv_X p l e R s m args below meth c G nL cells slots Q (xv_H G w sz) lv pc (.ref a :: st) := by
  intro H locs ls hP hS hL
  obtain ⟨r, h1, h2, h3, h4⟩ := F
  obtain ⟨g1, g2, g3, g4⟩ := xw_cl κ r h1
  exact va_get (D := xg_D G) (ws := [(a, .inr (κ, fs))]) C.1 C.2.1 C.2.2.2.2.1 g1 C.2.2.2.1 C.2.2.2.2.2.1 (fun k q hk => by
    match k, hk with
    | 0, hk => cases hk; exact (hP.2.1 a _ hw).1
    | k + 1, hk => simp at hk) 0 rfl h1 j h2 (C.2.2.2.2.1 _ h4) (fun x hx => by rw [h3] at hx; exact hx) hv d (K H locs ls hP hS hL)
theorem xv_alen (C : xv_C p s m args meth c G own cc nL) {w : xv_W} {sz a t n : Nat} {f : Nat → Option Nat} {S : String} {v : Int32} (hw : w a = some (.inl (xg_T G t, n, .inr (.inr (.inr (.inr f)))))) (hT : (xw_tys G)[t]? = some (xg_T G t, .object S)) (hv : Int32.ofNat n = v) (d : decode cc pc = .ok (.arraylength, 1)) (K : xv_X p l e R s m args below meth c G nL cells slots Q (xv_H G w sz) lv (pc + 1) (.int v :: st)) : xv_X p l e R s m args below meth c G nL cells slots Q (xv_H G w sz) lv pc (.ref a :: st) := fun H locs ls hP hS hL => va_alen (D := xg_D G) (cl := vwCl) (ws := [(a, .inl (xg_T G t, n, .inr (.inr (.inr (.inr f)))))]) C.1 C.2.1 C.2.2.2.2.2.1 (fun k q hk => by
    match k, hk with
    | 0, hk => cases hk; exact (hP.2.1 a _ hw).1
    | k + 1, hk => simp at hk) 0 t rfl hT hv d (K H locs ls hP hS hL)
/-- a field is set: a final one in a constructor of its class, or another -/
theorem xv_put (C : xv_C p s m args meth c G own cc nL) {w : xv_W} {sz a κ j idx : Nat} {fs : List Value} {v : Value} {ty : FieldType} (hin : meth.name = "<init>") (hw : w a = some (.inr (κ, fs))) (F : xw_fl own idx κ j) (hp : ∃ r : vw_C, vwCl[κ]? = some r ∧ parseFieldDescriptor (r.2.1 j).2.2.1 = some ty ∧ r.1 = own) (hn : narrow ty v = v) (hfit : fits ty v = true) (hl : j < fs.length) (d : decode cc pc = .ok (.putfield idx, 3)) (K : xv_X p l e R s m args below meth c G nL cells slots Q (xv_H G (xv_up w a (.inr (κ, fs.set j v))) sz) lv (pc + 3) st) : xv_X p l e R s m args below meth c G nL cells slots Q (xv_H G w sz) lv pc (v :: .ref a :: st) := by
  intro H locs ls hP hS hL
  obtain ⟨r, h1, hk, h3, h4⟩ := F
  obtain ⟨g1, ⟨ty0, g2⟩, g3, g4⟩ := xw_cl κ r h1
  obtain ⟨r2, p1, p2, p3⟩ := hp
  cases Option.some.inj (h1.symm.trans p1)
  have hts := C.2.2.2.2.1
  have hown := C.2.2.2.1
  have hap := va_apart (own := own) hts g1 ty0 g2 g3 C.2.2.2.2.2.1 h1
  obtain ⟨r9, h9, cell, q1, q2, q3, q4⟩ := (hP.2.1 a _ hw).1
  have hr9 : r9 = r := Option.some.inj (h9.symm.trans h1)
  subst hr9
  obtain ⟨hSl, hfc, kC, hkC, hkind⟩ := C.2.2.2.2.2.1.1 κ _ h1
  obtain ⟨cf, kf, fi, f, hi, hsl⟩ := hSl j hk
  have hst := (u_facts hfc hkC (u_lays hts g1 hk) hi).1
  have key : ∀ (H' : Heap), H'[a]? = some (cell.setSlot ((xg_D G).2 κ j) v) → H'.size = H.size → (∀ q : Nat, q ≠ a → H'[q]? = H[q]?) → W p l e R s m args below meth c H' (locs ++ [⟨a, (xg_D G).2 κ j⟩]) cells slots Q (F0 m (pc + 3) ls st) := fun H' e1 e2 e3 =>
    K H' _ ls (xv_set hP hw e2 e3 ⟨_, h1, t_OB.to (V := updV (vp_V fs) j v) ⟨_, e1, q2, q3, t_set q4 hap hk v⟩ (fun i _ => vp_updV_set hl v i)⟩) (hS.put e2 e3 (hP.2.1 a _ hw).2) hL
  by_cases hfin : (r9.2.1 j).2.2.2 = true
  · have hlay := hts _ (g1 _ (u_in_lay hk))
    unfold u_lay at hlay
    rw [if_pos hfin] at hlay
    have hcf : m.cls = cf := by
      obtain ⟨_, _, c', _, _, _, -, -, hf', -, -, -, hown2, -⟩ := Cond.laysFinal_spec hlay
      have e1 : c' = cf := by have := hi.symm.trans hf'; simp at this; exact this.1.symm
      rw [h3, p3] at hown2
      rw [← e1]; exact Option.some.inj (hown.symm.trans hown2)
    have h6 := u_fits hfc hkC hkind (Or.inr hlay) hi p2 hn hfit
    refine W.putFinK C.1 C.2.1 hown (hts _ h4) (by rw [h3] at hi; exact hi) hst hcf hin (by rw [q2]; exact h6) q1 q3 (by rw [hsl]; exact k2_hasslot (q4 j hk)) rfl rfl d fun H' e1 e2 e3 => ?_
    rw [hsl] at e1 ⊢
    exact key H' e1 e2 e3
  · have hlay := hts _ (g1 _ (u_in_lay hk))
    unfold u_lay at hlay
    rw [if_neg hfin] at hlay
    have h6 := u_store hfc hkC hkind hlay hi p2 hn hfit
    refine W.putK C.1 C.2.1 (f := f) ⟨hown, hts _ h4, ⟨_, _, _, (by rw [h3] at hi; exact hi)⟩, hst⟩ (by rw [q2]; exact h6) q1 q3 (by rw [hsl]; exact k2_hasslot (q4 j hk)) rfl rfl d fun H' e1 e2 e3 => ?_
    rw [hsl] at e1 ⊢
    exact key H' e1 e2 e3
theorem xv_aast (C : xv_C p s m args meth c G own cc nL) {w : xv_W} {sz a t n x ci : Nat} {f : Nat → Option Nat} {vs : List Value} {r : vw_C} {i : Int32} (hw : w a = some (.inl (xg_T G t, n, .inr (.inr (.inr (.inr f)))))) (hT : (xw_tys G)[t]? = some (xg_T G t, .object r.1)) (hx : w x = some (.inr (ci, vs))) (hc : vwCl[ci]? = some r) (hin : vp_in i n) (d : decode cc pc = .ok (.aastore, 1)) (K : xv_X p l e R s m args below meth c G nL cells slots Q (xv_H G (xv_up w a (.inl (xg_T G t, n, .inr (.inr (.inr (.inr (va_up f i.toNatClampNeg (some x)))))))) sz) lv (pc + 1) st) : xv_X p l e R s m args below meth c G nL cells slots Q (xv_H G w sz) lv pc (.ref x :: .int i :: .ref a :: st) := by
  intro H locs ls hP hS hL
  have hlt : i.toNatClampNeg < n := Nat.not_le.mp fun q => hin (Or.inr q)
  have h0 : ¬ i < 0 := fun q => hin (Or.inl q)
  have hK := C.2.2.2.2.2.1
  obtain ⟨r', hr', cellV, g1, g2, g3, -⟩ := (hP.2.1 x _ hx).1
  have hcls := (hK.1 ci r hc).2
  obtain ⟨kA, comp, k1, k2, k3, -⟩ := (hK.2 t _ hT).2
  have hcomp : comp = (xg_D G).1 ci := Option.some.inj (k3.symm.trans hcls.1)
  subst hcomp
  obtain ⟨kC, hkC, -⟩ := hcls.2
  refine W.aast C.1 C.2.1 (hP.2.1 a _ hw).1 (fun q h => by cases h) (fun h => by cases h) k1 k2 rfl hkC ⟨h0, by show _ < (arrV _ _ _).slots.size; rw [arrV_size]; exact hlt⟩ g1 (fun q h => by rw [g3] at h; cases h) (by rw [g2]; exact hkC) (by rw [g2]; exact va_assign hcls) rfl rfl d fun H1 e z oq => ?_
  refine K H1 _ ls (xv_set hP hw z oq ?_) (hS.put z oq (hP.2.1 a _ hw).2) hL
  show H1[a]? = some (vp_cell _ _)
  rw [e]
  rw [vp_cell_q, vp_cell_q, arrV_store]
  congr 2
  funext q
  by_cases hq : q = i.toNatClampNeg
  · subst hq
    simp [updV, va_up, va_rf]
  · simp [updV, va_up, hq]
theorem xv_vret (C : xv_C p s m args meth c G own cc nL) {w : xv_W} {sz mc ms : Nat} (hr : meth.sig.returnType = none) (hc : cells ≤ mc) (hs : slots ≤ ms) (d : decode cc pc = .ok (.return_, 1)) : xv_X p l e R s m args below meth c G nL cells slots (MQ below (xv_Q G w sz) args s mc ms (xg_B G)) (xv_H G w sz) lv pc [] := by
  refine xv_widen hc hs ?_
  intro H locs ls hP hS hL
  have hlocks := C.2.2.2.2.2.2.2.1
  exact W.vret C.1 C.2.1 hr (fun t ht hW => ⟨rfl, by rw [ht]; exact hP, hS.F ht⟩) hS.2.2 d
/-- the words of a constructor's call -/
def xv_ci (own : String) (idx : Nat) (y : MethodName) (b : ByteArray) (n na : Nat) : Prop := (Cond.methodLink own idx y ∈ lw_g ∨ ∃ host, Cond.methodLinkNest own idx y host ∈ xv_nn) ∧ Cond.instanceMethod y ∈ lw_g ∧ Cond.initialized y.cls ∈ lw_g ∧ Cond.code y b n none ∈ lw_g ∧ y.name = "<init>" ∧ y.cls ≠ "java/lang/invoke/MethodHandle" ∧ y.cls ≠ "java/lang/invoke/VarHandle" ∧ (parseMethodDescriptor y.desc).map (fun d => d.parameters.length) = some na
theorem xv_call (C : xv_C p s m args meth c G own cc nL) {w w' : xv_W} {sz sz' a n na idx fr lo mc ms : Nat} {y : MethodName} {b : ByteArray} {stk : List Value} (As : List Value) (hc : xv_ci own idx y b n na) (hM : xv_M l G y b n fr lo mc ms (.ref a :: As) w sz w' sz') (hn : As.length = na) (hR : fr + 1 ≤ R.frames ∧ 8 + (n + 11) + lo ≤ R.locals) (hst : (st.map fun v => v.category).sum ≤ 8) (hcs : cells + mc ≤ R.cells ∧ slots + ms ≤ R.slots) (hs : stk = As.reverse ++ .ref a :: st) (d : decode cc pc = .ok (.invokespecial idx, 3)) (K : xv_X p l e R s m args below meth c G nL (cells + mc) (slots + ms) Q (xv_H G w' sz') lv (pc + 3) st) : xv_X p l e R s m args below meth c G nL cells slots Q (xv_H G w sz) lv pc stk := by
  rw [hs]
  intro H locs ls hP hS hL
  obtain ⟨h1, h2, h3, h4, h5, h6⟩ := hc
  have hts := C.2.2.2.2.1
  have hG : GoodIn lw_g (.code y b n none :: lw_g) := lw_g_good fun w hw => by
    rcases List.mem_cons.mp hw with rfl | hw
    · exact h4
    · exact hw
  have hpre : PreS s H (va_Pc (.ref a :: As) (xv_S G w sz)) (.ref a :: As) := ⟨xv_blind, fun U hU hW => ⟨rfl, by rw [hU]; exact hP, va_K.moved hW.alike C.2.2.2.2.2.1, C.2.2.2.2.2.2.1.warm hW⟩⟩
  have hrun : va_Run p l e R s m args below meth c H locs cells slots mc ms (F0 m pc ls (As.reverse ++ .ref a :: st)) st (xv_Q G w' sz' (Value.ref a :: As).toArray) (xg_B G) := by
    rcases h1 with h1 | ⟨host, h1⟩
    · exact va_runI ⟨C.1, C.2.1, C.2.2.1, C.2.2.2.1, hts⟩ hM (cwI na hts hG rfl rfl rfl (hts _ h3) (hts _ h1) (hts _ h2) h5 h6 hR) hpre rfl hn hL.1 rfl (lv_room hst) d hcs
    · exact va_runIN ⟨C.1, C.2.1, C.2.2.1, C.2.2.2.1, hts⟩ hM ⟨va_cnB na hts hG rfl rfl rfl (C.2.2.2.2.2.2.1.1 _ h1) (hts _ h3) h6 hR, h5, hts _ h2⟩ hpre rfl hn hL.1 rfl (lv_room hst) d hcs
  intro T hT X
  obtain ⟨v, st₀, t, T', L, h0, X', hLf, e1, e2, ⟨hv, hP', hF⟩, stp⟩ := hrun T hT X
  obtain ⟨k1, k2, k3⟩ := vx_keep h0 e1 hS (fun _ _ z => z) (fun _ z => z) hLf hF
  cases hv
  obtain ⟨t2, a1, b1⟩ := K T'.heap (locs ++ L) ls (by rw [e1]; exact hP') k3 hL T' rfl X'
  exact ⟨t2, stp t2 a1, b1⟩
end XV
