section XW
variable {p : Program} {l : Launch} {e : Env} {R : Room} {s : State} {m : MethodId} {args : Array Value} {below : List Frame} {meth : Method} {c : Code} {G : xw_G} {nL cells slots : Nat} {Q : State → Prop}
variable {cc : ByteArray} {own : String} {pc : Nat} {h : xw_M} {lv : List (Option Value)} {st : List Value}
/-! the law's helpers: they catch what the class throws -/
def xc_W (l : Launch) (G : xw_G) (y : MethodName) (cc : ByteArray) (n : Nat) (hh : List (Nat × Nat × Nat × Nat)) (fr lo : Nat) (av : List Value) (h h' : xw_M) (v : Int32) : Prop :=
  Met l y (.codeWith y cc n (some .int) hh :: lw_g) { frames := fr, cells := 1, slots := 6, locals := lo } (va_Pc av (xw_S G h)) (xw_Q G (some (.int v)) h') 1 6 (xg_A G)
theorem xc_ofW {y : MethodName} {n fr lo : Nat} {hh : List (Nat × Nat × Nat × Nat)} {av : List Value} {h' : xw_M} {v : Int32} (hy : plainName y.cls = true) (hcat : av.all (fun v => v.category == 1) = true) (hlen : (lg_sl av).length ≤ n)
    (body : ∀ (p : Program) (e : Env) (s : State) (m : MethodId) (args : Array Value) (below : List Frame) (meth : Method) (c : Code), xj_C p s m args meth c G y.cls cc n → meth.sig.returnType = some .int → c.exceptionTable.toList = tableOf hh →
      xj_X p l e { frames := fr, cells := 1, slots := 6, locals := lo } s m args below meth c G n 0 0 (MQ below (xw_Q G (some (.int v)) h') args s 1 6 (xg_A G)) h (xc_lv av n) 0 []) : xc_W l G y cc n hh fr lo av h h' v := by
  refine va_MetW (cc := cc) (maxL := n) (ret := some .int) hy rfl ?_
  intro p e s m args below meth c s₁ B hml hv
  obtain ⟨rfl, hP, hK, hG, hX⟩ := hv
  have hts : ∀ w ∈ lw_g, w.before av.toArray s = true := fun w hw => atoms_spec (ws := .codeWith y cc n (some .int) hh :: lw_g) B.pre w (List.mem_cons_of_mem _ hw)
  have htb := vx_table (x := y) B (atoms_spec (ws := .codeWith y cc n (some .int) hh :: lw_g) B.pre _ List.mem_cons_self)
  have hl := lv_entry av (n := n) hlen
  rw [lg_entry_eq]
  exact body p e s m av.toArray below meth c ⟨B.exec, B.bytes, hml, findClass_of_methodNamed B.named, hts, hK, hG, hX, B.notSynchronized⟩ B.returns htb s.heap [] _ hP va_S.rf ⟨hl.1, hl.2.1, fun i v hi => hl.2.2 (i, v) (by have h1 := xc_entry av 0 i v hcat (xc_lv_at hi); rwa [Nat.zero_add] at h1)⟩
theorem xr_widen {k n : Nat} (h1 : cells ≤ k) (h2 : slots ≤ n) (K : xj_X p l e R s m args below meth c G nL k n Q h lv pc st) : xj_X p l e R s m args below meth c G nL cells slots Q h lv pc st := fun H locs ls hP hS hL => W.widen h1 h2 (K H locs ls hP hS hL)
/-- the row of a table of handlers that takes the exception E, those ahead of it don't -/
def xw_ha (own : String) (hh : List (Nat × Nat × Nat × Nat)) (at_ : Nat) (E : String) (tgt : Nat) : Prop :=
  ∃ (pre : List ExceptionTableEntry) (x : ExceptionTableEntry) (suf : List ExceptionTableEntry), tableOf hh = pre ++ x :: suf ∧ (∀ z ∈ pre, z.catchType ≠ 0 ∧ ∃ nm : String, Cond.classLink own z.catchType nm ∈ lw_g ∧ nm ∈ xw_exn ∧ E ≠ nm) ∧ covers x at_ = true ∧ x.catchType ≠ 0 ∧ Cond.classLink own x.catchType E ∈ lw_g ∧ x.handlerPc = tgt ∧ E ∈ xw_exn ∧ Cond.castable E E ∈ xw_nw
theorem xt_goW {κ k n na idx fr lo E tgt : Nat} {Ex : String} {hh : List (Nat × Nat × Nat × Nat)} {y : MethodName} {b : ByteArray} {ret : Option FieldType} {As : List Value} {h' : xw_M} (C : xj_C p s m args meth c G own cc nL) (htab : c.exceptionTable.toList = tableOf hh) (hc : xw_cv own idx κ y b n ret na) (hk : xw_kd k = κ) (hM : xt_M l G y b n ret fr lo (.ref (xg_ad G k) :: As) h h' E) (hE : xw_exn[E - 1]? = some Ex) (ha : xw_ha own hh pc Ex tgt) (hn : As.length = na)
    (hR : fr + 1 ≤ R.frames ∧ 8 + (n + 11) + lo ≤ R.locals) (hst : (st.map fun v => v.category).sum ≤ 8) (hcs : cells + 1 ≤ R.cells ∧ slots + 6 ≤ R.slots) (d : decode cc pc = .ok (.invokevirtual idx, 3)) (K : ∀ q9 : Nat, xj_X p l e R s m args below meth c G nL (cells + 1) (slots + 6) Q h' lv tgt [.ref q9]) :
    xj_X p l e R s m args below meth c G nL cells slots Q h lv pc (As.reverse ++ .ref (xg_ad G k) :: st) := by
  intro H locs ls hP hS hL
  obtain ⟨hw, ⟨r, h1, h2⟩, h3⟩ := id hc
  obtain ⟨-, -, -, g4⟩ := xw_cl κ r h1
  have hl : k < xg_N G := xj_ltN C hk (by omega)
  have he : (xw_ws G h)[k]? = some (xg_ad G k, .inr (κ, xw_fs (xg_ad G) κ k (h k))) := by rw [xw_get hl, xw_ce, hk, xw_ct_lo g4]
  have hrv := va_recv C.2.2.2.2.2.1 hP h1 he
  rw [h2] at hrv
  have hrun := vx_runV (g := F0 m pc ls (As.reverse ++ .ref (xg_ad G k) :: st)) (rest := st) (p := p) (e := e) (R := R) (below := below) (meth := meth) (locs := locs) (cells := cells) (slots := slots) ⟨C.1, C.2.1, C.2.2.1, C.2.2.2.1, C.2.2.2.2.1⟩ hM (cwV na C.2.2.2.2.1 (xw_goodV hc) rfl rfl rfl ⟨rfl, h3⟩ hR) ⟨xw_blind, hrv, fun U hU hW => ⟨rfl, xj_S C hP hS hU hW⟩⟩ rfl hn hL.1 rfl (lv_room hst) d hcs
  intro T hT X
  rcases hrun T hT X with ⟨v, st₀, t, T', L, h0, X', hLf, e1, e2, hF, stp⟩ | ⟨q9, st₀, t, T', L, Ey, ce, h0, X', hLf, e1, e2, ⟨hEE, hP', hF⟩, hce, hcv, hcl, stp⟩
  · exact hF.elim
  · obtain ⟨k1, k2, k3⟩ := vx_keep h0 e1 hS (fun _ _ z => z) (fun _ z => z) hLf hF
    cases Option.some.inj (hE.symm.trans hEE.2)
    obtain ⟨pre, x, suf, a1, a2, a3, a4, a5, a6, a7, a8⟩ := ha
    subst a6
    have hX := C.2.2.2.2.2.2.2.1
    have hcatch := vx_catch (p := p) (l := l) (e := e) (R := R) (m := m) (args := args) (below := below) (meth := meth) (c := c) (pc := pc) (ls := ls) (rest := st) (s := s) (H := T'.heap) (locs := locs ++ L) (cells := cells + 1) (slots := slots + 6) (Q := Q) (E := Ex) (ce := ce) (q := q9) (name := Ex) C.2.2.2.1 pre x suf (htab.trans a1) (fun z hz => by
      obtain ⟨b1, nm, b2, b3, b4⟩ := a2 z hz
      exact Or.inr ⟨b1, nm, C.2.2.2.2.1 _ b2, hX.2.2.1 _ a7 _ b3 b4⟩) a3 a4 (C.2.2.2.2.1 _ a5) (va_Nw.use (xw_nw_tab _ a8) (hX.2.1 _ a8)) (by rw [e1]; exact hce) hcv hcl (K q9 T'.heap (locs ++ L) ls (by rw [e1]; exact hP') k3 hL)
    obtain ⟨t2, c1, b1⟩ := hcatch T' rfl X'
    exact ⟨t2, stp.trans c1, b1⟩
theorem xr_iretW (C : xj_C p s m args meth c G own cc nL) {v v' : Int32} {h' : xw_M} (hr : meth.sig.returnType = some .int) (d : decode cc pc = .ok (.ireturn, 1)) (hc : cells ≤ 1) (hs : slots ≤ 6) (hR : some (h, v) = some (h', v')) : xj_X p l e R s m args below meth c G nL cells slots (MQ below (xw_Q G (some (.int v')) h') args s 1 6 (xg_A G)) h lv pc [.int v] := by
  cases hR
  exact xr_widen hc hs (xr_iret (q := (h, v)) C hr d rfl)
theorem xr_goVi {κ k n na idx fr lo : Nat} {y : MethodName} {b : ByteArray} {ret : Option FieldType} {stk : List Value} (As : List Value) {h' : xw_M} {v : Int32} (C : xj_C p s m args meth c G own cc nL) (hc : xw_cv own idx κ y b n ret na) (hk : xw_kd k = κ) (hM : xc_M l G y b n ret fr lo (.ref (xg_ad G k) :: As) h h' (some (.int v))) (hn : As.length = na)
    (hR : fr + 1 ≤ R.frames ∧ 8 + (n + 11) + lo ≤ R.locals) (hst : (st.map fun v => v.category).sum ≤ 8) (hcs : cells ≤ R.cells ∧ slots ≤ R.slots) (hs : stk = As.reverse ++ .ref (xg_ad G k) :: st) (d : decode cc pc = .ok (.invokevirtual idx, 3)) (K : xj_X p l e R s m args below meth c G nL cells slots Q h' lv (pc + 3) (.int v :: st)) :
    xj_X p l e R s m args below meth c G nL cells slots Q h lv pc stk := by
  rw [hs]
  exact xr_goV C hc hk hM hn hR hst hcs d K
theorem xt_goWs {κ k n na idx fr lo E tgt : Nat} {Ex : String} {hh : List (Nat × Nat × Nat × Nat)} {y : MethodName} {b : ByteArray} {ret : Option FieldType} {stk : List Value} (As : List Value) {h' : xw_M} (C : xj_C p s m args meth c G own cc nL) (htab : c.exceptionTable.toList = tableOf hh) (hc : xw_cv own idx κ y b n ret na) (hk : xw_kd k = κ) (hM : xt_M l G y b n ret fr lo (.ref (xg_ad G k) :: As) h h' E) (hE : xw_exn[E - 1]? = some Ex) (ha : xw_ha own hh pc Ex tgt) (hn : As.length = na)
    (hR : fr + 1 ≤ R.frames ∧ 8 + (n + 11) + lo ≤ R.locals) (hst : (st.map fun v => v.category).sum ≤ 8) (hcs : cells + 1 ≤ R.cells ∧ slots + 6 ≤ R.slots) (hs : stk = As.reverse ++ .ref (xg_ad G k) :: st) (d : decode cc pc = .ok (.invokevirtual idx, 3)) (K : ∀ q9 : Nat, xj_X p l e R s m args below meth c G nL (cells + 1) (slots + 6) Q h' lv tgt [.ref q9]) :
    xj_X p l e R s m args below meth c G nL cells slots Q h lv pc stk := by
  rw [hs]
  exact xt_goW C htab hc hk hM hE ha hn hR hst hcs d K
end XW
