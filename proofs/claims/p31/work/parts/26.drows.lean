section XMD
variable {p : Program} {l : Launch} {e : Env} {R : Room} {s : State} {m : MethodId} {args : Array Value} {below : List Frame} {meth : Method} {c : Code} {G : xw_G} {nL cells slots : Nat} {Q : State → Prop}
variable {cc : ByteArray} {own : String} {pc : Nat} {h : xw_M} {lv : List (Option Value)} {st : List Value}
theorem xr_dconst0 (C : xj_C p s m args meth c G own cc nL) (d : decode cc pc = .ok (.dconst 0, 1)) (K : xj_X p l e R s m args below meth c G nL cells slots Q h lv (pc + 1) (.double FP.dconst0 :: st)) : xj_X p l e R s m args below meth c G nL cells slots Q h lv pc st := fun H locs ls hP hS hL => lv_dconst0 C.1 C.2.1 d (K H locs ls hP hS hL)
theorem xr_i2d (C : xj_C p s m args meth c G own cc nL) {x : Int32} (d : decode cc pc = .ok (.i2d, 1)) (K : xj_X p l e R s m args below meth c G nL cells slots Q h lv (pc + 1) (.double (FP.i2d x) :: st)) : xj_X p l e R s m args below meth c G nL cells slots Q h lv pc (.int x :: st) := fun H locs ls hP hS hL => lv_i2d C.1 C.2.1 d (K H locs ls hP hS hL)
/-- a mean: 0, or a quotient, whatever NaN that is -/
def xw_dd (d : Nat × Int32 × Int32) (x : UInt64) : Prop := (d.1 = 0 ∧ x = FP.dconst0) ∨ (d.1 = 1 ∧ alike64 x (FP.ddiv (FP.i2d d.2.1) (FP.i2d d.2.2)) = true)
def xw_QD (G : xw_G) (q : xw_M × Nat × Int32 × Int32) : Array Value → State → Outcome → State → Prop := fun _ s o t => (∃ x : UInt64, o = .returned (some (.double x)) ∧ xw_dd q.2 x) ∧ xw_P G q.1 t.heap ∧ va_F (xg_A G) s t
def xc_E (l : Launch) (G : xw_G) (y : MethodName) (cc : ByteArray) (n fr lo : Nat) (av : List Value) (h : xw_M) (q : xw_M × Nat × Int32 × Int32) : Prop :=
  MetD lw_cs l y (.code y cc n (some .double) :: lw_g) { frames := fr, cells := 0, slots := 0, locals := lo } (va_Pc av (xw_S G h)) (xw_QD G q) 0 0 (xg_A G)
theorem xc_ofE {y : MethodName} {n fr lo pz pd : Nat} {av : List Value} {q : xw_M × Nat × Int32 × Int32} (hy : plainName y.cls = true) (hcat : av.all (fun v => v.category == 1) = true) (hlen : (lg_sl av).length ≤ n) (dz : decode cc pz = .ok (.dreturn, 1)) (dd : decode cc pd = .ok (.ddiv, 1)) (dr : decode cc (pd + 1) = .ok (.dreturn, 1))
    (body : ∀ (p : Program) (e : Env) (s : State) (m : MethodId) (args : Array Value) (below : List Frame) (meth : Method) (c : Code) (Q : State → Prop), xj_C p s m args meth c G y.cls cc n → meth.sig.returnType = some .double →
      (∀ (h : xw_M) (lv : List (Option Value)), some (h, 0, 0, 0) = some q → xj_X p l e { frames := fr, cells := 0, slots := 0, locals := lo } s m args below meth c G n 0 0 Q h lv pz [.double FP.dconst0]) →
      (∀ (h : xw_M) (lv : List (Option Value)) (a b : Int32), some (h, 1, a, b) = some q → xj_X p l e { frames := fr, cells := 0, slots := 0, locals := lo } s m args below meth c G n 0 0 Q h lv pd [.double (FP.i2d b), .double (FP.i2d a)]) →
      xj_X p l e { frames := fr, cells := 0, slots := 0, locals := lo } s m args below meth c G n 0 0 Q h (xc_lv av n) 0 []) : xc_E l G y cc n fr lo av h q := by
  refine MetD.ofW (cc := cc) (maxL := n) (ret := some .double) hy rfl ?_
  intro p e s m args below meth c s₁ B hml hv hd0
  obtain ⟨rfl, hP, hK, hG, hX⟩ := hv
  have hts : ∀ w ∈ lw_g, w.before av.toArray s = true := fun w hw => atoms_spec (ws := .code y cc n (some .double) :: lw_g) B.pre w (List.mem_cons_of_mem _ hw)
  have hl := lv_entry av (n := n) hlen
  rw [lg_entry_eq]
  have hx := B.exec
  have hb := B.bytes
  have hr := B.returns
  have hlocks := B.notSynchronized
  exact body p e (s.setDrawn s.drawn) m av.toArray below meth c _ ⟨B.exec, B.bytes, hml, findClass_of_methodNamed B.named, dr_words hts _, hK, hG, hX, B.notSynchronized⟩ B.returns
    (fun h1 lv1 hR H locs ls hP hS hL => by
      cases hR
      refine W.endD hd0 ?_
      exact W.dret hx hb hr (fun t ht hW => ⟨⟨_, rfl, Or.inl ⟨rfl, rfl⟩⟩, by rw [ht]; exact hP, hS.F ht⟩) hS.2.2 dz)
    (fun h1 lv1 a b hR H locs ls hP hS hL => by
      cases hR
      refine lv_ddiv_any hd0 lw_bits hx hb dd (fun r d1 hal hd1 => ?_)
      refine W.endD hd1 ?_
      exact W.dret hx hb hr (fun t ht hW => ⟨⟨r, rfl, Or.inr ⟨rfl, hal⟩⟩, by rw [ht]; exact hP, hS.F ht⟩) hS.2.2 dr)
    s.heap [] _ hP va_S.rf ⟨hl.1, hl.2.1, fun i v hi => hl.2.2 (i, v) (by have h1 := xc_entry av 0 i v hcat (xc_lv_at hi); rwa [Nat.zero_add] at h1)⟩
end XMD
