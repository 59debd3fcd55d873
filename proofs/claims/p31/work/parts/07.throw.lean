section XT
variable {p : Program} {l : Launch} {e : Env} {R : Room} {s : State} {m : MethodId} {args : Array Value} {below : List Frame} {meth : Method} {c : Code} {G : xw_G} {nL cells slots : Nat} {Q : State → Prop}
variable {cc : ByteArray} {own : String} {pc : Nat} {h : xw_M} {lv : List (Option Value)} {st : List Value}
/-! a method that throws: E is the exception's place in xw_exn, plus one; 0: it returns -/
def xt_X (G : xw_G) (h' : xw_M) (E : Nat) : String → State → State → Prop := fun X s t => (1 ≤ E ∧ xw_exn[E - 1]? = some X) ∧ xw_P G h' t.heap ∧ va_F (xg_A G) s t
def xt_M (l : Launch) (G : xw_G) (y : MethodName) (cc : ByteArray) (n : Nat) (ret : Option FieldType) (fr lo : Nat) (av : List Value) (h h' : xw_M) (E : Nat) : Prop :=
  vx_Met l y (.code y cc n ret :: lw_g) { frames := fr, cells := 1, slots := 6, locals := lo } (va_Pc av (xw_S G h)) (fun _ _ _ _ => False) (xt_X G h' E) 1 6 (xg_A G)
abbrev xt_Z (G : xw_G) (below : List Frame) (args : Array Value) (s : State) (h' : xw_M) (E : Nat) : State → Prop := vx_MQ below (fun _ _ _ _ => False) (xt_X G h' E) args s 1 6 (xg_A G)
theorem xt_of {ret : Option FieldType} {y : MethodName} {n fr lo E : Nat} {av : List Value} {h' : xw_M} (hy : plainName y.cls = true) (hcat : av.all (fun v => v.category == 1) = true) (hlen : (lg_sl av).length ≤ n)
    (body : ∀ (p : Program) (e : Env) (s : State) (m : MethodId) (args : Array Value) (below : List Frame) (meth : Method) (c : Code), xj_C p s m args meth c G y.cls cc n → meth.sig.returnType = ret → (∀ x ∈ c.exceptionTable.toList, False) →
      xj_X p l e { frames := fr, cells := 1, slots := 6, locals := lo } s m args below meth c G n 0 0 (xt_Z G below args s h' E) h (xc_lv av n) 0 []) : xt_M l G y cc n ret fr lo av h h' E := by
  refine vx_ofW (cc := cc) (maxL := n) (ret := ret) hy rfl ?_
  intro p e s m args below meth c s₁ B hml htab hv
  obtain ⟨rfl, hP, hK, hG, hX⟩ := hv
  have hts : ∀ w ∈ lw_g, w.before av.toArray s = true := fun w hw => atoms_spec (ws := .code y cc n ret :: lw_g) B.pre w (List.mem_cons_of_mem _ hw)
  have hl := lv_entry av (n := n) hlen
  rw [lg_entry_eq]
  exact body p e s m av.toArray below meth c ⟨B.exec, B.bytes, hml, findClass_of_methodNamed B.named, hts, hK, hG, hX, B.notSynchronized⟩ B.returns htab s.heap [] _ hP va_S.rf ⟨hl.1, hl.2.1, fun i v hi => hl.2.2 (i, v) (by have h1 := xc_entry av 0 i v hcat (xc_lv_at hi); rwa [Nat.zero_add] at h1)⟩
def xw_sup : List String := ["java/lang/RuntimeException", "java/lang/Exception"]
def xw_th (own : String) (ik is ic : Nat) (cls text : String) : Prop :=
  Bundle.fit cls = true ∧ (∀ n ∈ xw_sup, Bundle.fit n = true) ∧ Cond.classLink own ik cls ∈ lw_g ∧ Cond.initialized cls ∈ lw_g ∧ (own, is, text) ∈ xw_str ∧ ∀ w ∈ vx_atS own ic cls xw_sup, w ∈ lw_g ∨ w ∈ xw_nw
theorem xw_kept {H H1 : Heap} (hP : xw_P G h H) (hk : ∀ q : Nat, q < H.size → H1[q]? = H[q]?) : xw_P G h H1 := va_P.kept hP (fun k q hq => hk q.1 (hP k q hq).lt)
theorem xr_throw (C : xj_C p s m args meth c G own cc nL) (hl : l.stackTraces = false) (htab : ∀ x ∈ c.exceptionTable.toList, False) {ik is ic E : Nat} {cls text : String} (T : xw_th own ik is ic cls text) {α : Type} {dv : α} {q : xw_M × α × Nat} (hR : some (h, dv, E) = some q) (hE : 1 ≤ E ∧ xw_exn[E - 1]? = some cls)
    (d0 : decode cc pc = .ok (.new ik, 3)) (d3 : decode cc (pc + 3) = .ok (.dup, 1)) (d4 : decode cc (pc + 4) = .ok (.ldc is, 2)) (d6 : decode cc (pc + 6) = .ok (.invokespecial ic, 3)) (d9 : decode cc (pc + 9) = .ok (.athrow, 1))
    (hfr : 5 < R.frames) (hlo : (st.map fun v => v.category).sum + 82 ≤ R.locals) (hc : cells + 1 ≤ R.cells) (hs : slots + 6 ≤ R.slots) (hc1 : cells + 1 ≤ 1) (hs1 : slots + 6 ≤ 6) : xj_X p l e R s m args below meth c G nL cells slots (xt_Z G below args s q.1 q.2.2) h lv pc st := by
  intro H locs ls hP hS hL
  cases hR
  obtain ⟨t1, t2, t3, t4, t5, t6⟩ := T
  have hX := C.2.2.2.2.2.2.2.1
  obtain ⟨sa, hsa⟩ := hX.1 _ t5
  have hts := C.2.2.2.2.1
  have g1 : ∀ w : Cond, w ∈ lw_g → vx_ot w = true := fun w hw => by unfold vx_ot; rw [(List.mem_filter.mp hw).2, Bool.or_true]
  exact vx_throwS (names := xw_sup) (A := xg_A G) C.1 C.2.1 hl C.2.2.2.1 t1 t2 (hts _ t3) (hts _ t4) hsa (fun w hw => (t6 w hw).elim (fun z => hts _ z) (fun z => va_Nw.use (xw_nw_tab w z) (hX.2.1 w z)))
    (fun w hw => by
      rcases List.mem_cons.mp hw with rfl | hw
      · exact g1 _ t3
      · rcases List.mem_cons.mp hw with rfl | hw
        · exact g1 _ t4
        · exact (t6 w hw).elim (fun z => g1 _ z) (fun z => by unfold vx_ot; rw [xw_nw_tab w z, Bool.true_or])) hX.2.2.2.1 hX.2.2.2.2 hS (hL.1.trans C.2.2.1.symm) d0 d3 d4 d6 d9 (fun x hx => (htab x hx).elim) hfr hlo hc hs C.2.2.2.2.2.2.2.2
    (fun t hv hz hk => ⟨hE, xw_kept hP hk, Nat.le_trans hS.1 hz, fun q h1 h2 => (hk q (Nat.lt_of_lt_of_le h1 hS.1)).trans (hS.2.1 q h1 h2)⟩) hS.2.2 hc1 hs1
theorem xr_iretR (C : xj_C p s m args meth c G own cc nL) {v : Int32} (hr : meth.sig.returnType = (some .int)) (d : decode cc pc = .ok (.ireturn, 1)) {q : xw_M × Int32 × Nat} (hR : some (h, v, 0) = some q) : xj_X p l e R s m args below meth c G nL cells slots (MQ below (xw_Q G (some (.int q.2.1)) q.1) args s cells slots (xg_A G)) h lv pc [.int v] := by
  cases hR
  exact xr_iret (q := (h, v)) C hr d rfl
theorem xr_zretR (C : xj_C p s m args meth c G own cc nL) {v : Int32} (hr : meth.sig.returnType = (some .boolean)) (hv : v = 0 ∨ v = 1) (d : decode cc pc = .ok (.ireturn, 1)) {q : xw_M × Int32 × Nat} (hR : some (h, v, 0) = some q) : xj_X p l e R s m args below meth c G nL cells slots (MQ below (xw_Q G (some (.int q.2.1)) q.1) args s cells slots (xg_A G)) h lv pc [.int v] := by
  cases hR
  exact xr_zret (q := (h, v)) C hr hv d rfl
theorem xr_lretR (C : xj_C p s m args meth c G own cc nL) {v : Int64} (hr : meth.sig.returnType = (some .long)) (d : decode cc pc = .ok (.lreturn, 1)) {q : xw_M × Int64 × Nat} (hR : some (h, v, 0) = some q) : xj_X p l e R s m args below meth c G nL cells slots (MQ below (xw_Q G (some (.long q.2.1)) q.1) args s cells slots (xg_A G)) h lv pc [.long v] := by
  cases hR
  exact xr_lret (q := (h, v)) C hr d rfl
theorem xr_vretR (C : xj_C p s m args meth c G own cc nL) (hr : meth.sig.returnType = none) (d : decode cc pc = .ok (.return_, 1)) {q : xw_M × Unit × Nat} (hR : some (h, (), 0) = some q) : xj_X p l e R s m args below meth c G nL cells slots (MQ below (xw_Q G none q.1) args s cells slots (xg_A G)) h lv pc [] := by
  cases hR
  exact xr_vret (q := (h, ())) C hr d rfl
theorem xt_goV {κ k n na idx fr lo E : Nat} {y : MethodName} {b : ByteArray} {ret : Option FieldType} {As : List Value} {h' : xw_M} (C : xj_C p s m args meth c G own cc nL) (htab : ∀ x ∈ c.exceptionTable.toList, False) (hc : xw_cv own idx κ y b n ret na) (hk : xw_kd k = κ) (hM : xt_M l G y b n ret fr lo (.ref (xg_ad G k) :: As) h h' E) (hn : As.length = na)
    (hR : fr + 1 ≤ R.frames ∧ 8 + (n + 11) + lo ≤ R.locals) (hst : (st.map fun v => v.category).sum ≤ 8) (hcs : cells + 1 ≤ R.cells ∧ slots + 6 ≤ R.slots) (hc1 : cells + 1 ≤ 1) (hs1 : slots + 6 ≤ 6) (d : decode cc pc = .ok (.invokevirtual idx, 3)) :
    xj_X p l e R s m args below meth c G nL cells slots (xt_Z G below args s h' E) h lv pc (As.reverse ++ .ref (xg_ad G k) :: st) := by
  intro H locs ls hP hS hL
  obtain ⟨hw, ⟨r, h1, h2⟩, h3⟩ := id hc
  obtain ⟨-, -, -, g4⟩ := xw_cl κ r h1
  have hl : k < xg_N G := xj_ltN C hk (by omega)
  have he : (xw_ws G h)[k]? = some (xg_ad G k, .inr (κ, xw_fs (xg_ad G) κ k (h k))) := by rw [xw_get hl, xw_ce, hk, xw_ct_lo g4]
  have hrv := va_recv C.2.2.2.2.2.1 hP h1 he
  rw [h2] at hrv
  have hrun := vx_runV (g := F0 m pc ls (As.reverse ++ .ref (xg_ad G k) :: st)) (rest := st) (p := p) (e := e) (R := R) (below := below) (meth := meth) (locs := locs) (cells := cells) (slots := slots) ⟨C.1, C.2.1, C.2.2.1, C.2.2.2.1, C.2.2.2.2.1⟩ hM (cwV na C.2.2.2.2.1 (xw_goodV hc) rfl rfl rfl ⟨rfl, h3⟩ hR) ⟨xw_blind, hrv, fun U hU hW => ⟨rfl, xj_S C hP hS hU hW⟩⟩ rfl hn hL.1 rfl (lv_room hst) d hcs
  intro T hT X
  rcases hrun T hT X with ⟨v, st₀, t, T', L, h0, X', hLf, e1, e2, hF, stp⟩ | ⟨q9, st₀, t, T', L, Ex, ce, h0, X', hLf, e1, e2, ⟨hE, hP', hF⟩, hce, hcv, hcl, stp⟩
  · exact hF.elim
  · obtain ⟨k1, k2, k3⟩ := vx_keep h0 e1 hS (fun _ _ z => z) (fun _ z => z) hLf hF
    have hout := vx_out (p := p) (l := l) (e := e) (R := R) (m := m) (args := args) (below := below) (meth := meth) (c := c) (pc := pc) (ls := ls) (rest := st) (s := s) (H := T'.heap) (locs := locs ++ L) (cells := cells + 1) (slots := slots + 6) (Qc := fun _ _ _ _ => False) (XC := xt_X G h' E) (mc := 1) (ms := 6) (free := xg_A G) (E := Ex) (ce := ce) (q := q9) (fun x hx => (htab x hx).elim) C.2.2.2.2.2.2.2.2 (by rw [e1]; exact hce) hcv hcl (fun t9 ht9 hv9 => ⟨hE, by rw [ht9, e1]; exact hP', k3.F ht9⟩) k3.2.2 hc1 hs1
    obtain ⟨t2, a1, b1⟩ := hout T' rfl X'
    exact ⟨t2, stp.trans a1, b1⟩
theorem xo_no {α : Type} {h : xw_M} {v : α} {E : Nat} {q : xw_M × α × Nat} (hR : some (h, v, E) = some q) : q.2.2 = E := by cases hR; rfl
/-- the answer of a method that may throw, in its caller: it goes on, or the throw goes on -/
def xo_th {α β : Type} (d : β) (r : xw_M × α × Nat) (A : Option (xw_M × β × Nat)) : Option (xw_M × β × Nat) := if r.2.2 = 0 then A else some (r.1, d, r.2.2)
theorem xo_th0 {α β : Type} {d : β} {r : xw_M × α × Nat} {A : Option (xw_M × β × Nat)} {q : xw_M × β × Nat} (hq : q.2.2 = 0) (hR : xo_th d r A = some q) : r.2.2 = 0 ∧ A = some q := by
  unfold xo_th at hR
  by_cases hz : r.2.2 = 0
  · exact ⟨hz, xo_t hR hz⟩
  · rw [if_neg hz] at hR
    cases hR
    exact absurd hq hz
theorem xr_callRi (C : xj_C p s m args meth c G own cc nL) {κ k n na idx fr lo : Nat} {y : MethodName} {b : ByteArray} {ret : Option FieldType} {stk : List Value} (As : List Value) {o : Option (xw_M × Int32 × Nat)} {β : Type} {dv : β} {F : xw_M × Int32 × Nat → Option (xw_M × β × Nat)} {q : xw_M × β × Nat} (hq : q.2.2 = 0) (hc : xw_cv own idx κ y b n ret na) (hk : xw_kd k = κ) (hM : ∀ r, o = some r → r.2.2 = 0 → xc_M l G y b n ret fr lo (.ref (xg_ad G k) :: As) h r.1 (some (.int r.2.1))) (hn : As.length = na) (hR9 : fr + 1 ≤ R.frames ∧ 8 + (n + 11) + lo ≤ R.locals) (hst : (st.map fun v => v.category).sum ≤ 8) (hcs : cells ≤ R.cells ∧ slots ≤ R.slots) (hs : stk = As.reverse ++ .ref (xg_ad G k) :: st) (d : decode cc pc = .ok (.invokevirtual idx, 3)) (hR : (o.bind fun r => xo_th dv r (F r)) = some q) (K : ∀ r, o = some r → F r = some q → xj_X p l e R s m args below meth c G nL cells slots Q r.1 lv (pc + 3) (.int r.2.1 :: st)) : xj_X p l e R s m args below meth c G nL cells slots Q h lv pc stk := by
  obtain ⟨r, h1, h2⟩ := xo_b hR
  obtain ⟨h3, h4⟩ := xo_th0 hq h2
  rw [hs]
  exact xr_goV C hc hk (hM r h1 h3) hn hR9 hst hcs d (K r h1 h4)
theorem xr_callTi (C : xj_C p s m args meth c G own cc nL) (htab : ∀ x ∈ c.exceptionTable.toList, False) {κ k n na idx fr lo : Nat} {y : MethodName} {b : ByteArray} {ret : Option FieldType} {stk : List Value} (As : List Value) {o : Option (xw_M × Int32 × Nat)} {β : Type} {dv : β} {F : xw_M × Int32 × Nat → Option (xw_M × β × Nat)} {q : xw_M × β × Nat} (hc : xw_cv own idx κ y b n ret na) (hk : xw_kd k = κ) (hM : ∀ r, o = some r → r.2.2 = 0 → xc_M l G y b n ret fr lo (.ref (xg_ad G k) :: As) h r.1 (some (.int r.2.1))) (hM2 : ∀ r, o = some r → ¬ r.2.2 = 0 → xt_M l G y b n ret fr lo (.ref (xg_ad G k) :: As) h r.1 r.2.2) (hn : As.length = na) (hR9 : fr + 1 ≤ R.frames ∧ 8 + (n + 11) + lo ≤ R.locals) (hst : (st.map fun v => v.category).sum ≤ 8) (hcs : cells + 1 ≤ R.cells ∧ slots + 6 ≤ R.slots) (hc1 : cells + 1 ≤ 1) (hs1 : slots + 6 ≤ 6) (hs : stk = As.reverse ++ .ref (xg_ad G k) :: st) (d : decode cc pc = .ok (.invokevirtual idx, 3)) (hR : (o.bind fun r => xo_th dv r (F r)) = some q) (K : ∀ r, o = some r → F r = some q → xj_X p l e R s m args below meth c G nL cells slots (xt_Z G below args s q.1 q.2.2) r.1 lv (pc + 3) (.int r.2.1 :: st)) : xj_X p l e R s m args below meth c G nL cells slots (xt_Z G below args s q.1 q.2.2) h lv pc stk := by
  obtain ⟨r, h1, h2⟩ := xo_b hR
  rw [hs]
  by_cases hz : r.2.2 = 0
  · unfold xo_th at h2
    exact xr_goV C hc hk (hM r h1 hz) hn hR9 hst ⟨by omega, by omega⟩ d (K r h1 (xo_t h2 hz))
  · unfold xo_th at h2
    have h3 := xo_f h2 hz
    cases h3
    exact xt_goV C htab hc hk (hM2 r h1 hz) hn hR9 hst hcs hc1 hs1 d
theorem xr_callRv (C : xj_C p s m args meth c G own cc nL) {κ k n na idx fr lo : Nat} {y : MethodName} {b : ByteArray} {ret : Option FieldType} {stk : List Value} (As : List Value) {o : Option (xw_M × Unit × Nat)} {β : Type} {dv : β} {F : xw_M × Unit × Nat → Option (xw_M × β × Nat)} {q : xw_M × β × Nat} (hq : q.2.2 = 0) (hc : xw_cv own idx κ y b n ret na) (hk : xw_kd k = κ) (hM : ∀ r, o = some r → r.2.2 = 0 → xc_M l G y b n ret fr lo (.ref (xg_ad G k) :: As) h r.1 none) (hn : As.length = na) (hR9 : fr + 1 ≤ R.frames ∧ 8 + (n + 11) + lo ≤ R.locals) (hst : (st.map fun v => v.category).sum ≤ 8) (hcs : cells ≤ R.cells ∧ slots ≤ R.slots) (hs : stk = As.reverse ++ .ref (xg_ad G k) :: st) (d : decode cc pc = .ok (.invokevirtual idx, 3)) (hR : (o.bind fun r => xo_th dv r (F r)) = some q) (K : ∀ r, o = some r → F r = some q → xj_X p l e R s m args below meth c G nL cells slots Q r.1 lv (pc + 3) st) : xj_X p l e R s m args below meth c G nL cells slots Q h lv pc stk := by
  obtain ⟨r, h1, h2⟩ := xo_b hR
  obtain ⟨h3, h4⟩ := xo_th0 hq h2
  rw [hs]
  exact xr_goV C hc hk (hM r h1 h3) hn hR9 hst hcs d (K r h1 h4)
theorem xr_callTv (C : xj_C p s m args meth c G own cc nL) (htab : ∀ x ∈ c.exceptionTable.toList, False) {κ k n na idx fr lo : Nat} {y : MethodName} {b : ByteArray} {ret : Option FieldType} {stk : List Value} (As : List Value) {o : Option (xw_M × Unit × Nat)} {β : Type} {dv : β} {F : xw_M × Unit × Nat → Option (xw_M × β × Nat)} {q : xw_M × β × Nat} (hc : xw_cv own idx κ y b n ret na) (hk : xw_kd k = κ) (hM : ∀ r, o = some r → r.2.2 = 0 → xc_M l G y b n ret fr lo (.ref (xg_ad G k) :: As) h r.1 none) (hM2 : ∀ r, o = some r → ¬ r.2.2 = 0 → xt_M l G y b n ret fr lo (.ref (xg_ad G k) :: As) h r.1 r.2.2) (hn : As.length = na) (hR9 : fr + 1 ≤ R.frames ∧ 8 + (n + 11) + lo ≤ R.locals) (hst : (st.map fun v => v.category).sum ≤ 8) (hcs : cells + 1 ≤ R.cells ∧ slots + 6 ≤ R.slots) (hc1 : cells + 1 ≤ 1) (hs1 : slots + 6 ≤ 6) (hs : stk = As.reverse ++ .ref (xg_ad G k) :: st) (d : decode cc pc = .ok (.invokevirtual idx, 3)) (hR : (o.bind fun r => xo_th dv r (F r)) = some q) (K : ∀ r, o = some r → F r = some q → xj_X p l e R s m args below meth c G nL cells slots (xt_Z G below args s q.1 q.2.2) r.1 lv (pc + 3) st) : xj_X p l e R s m args below meth c G nL cells slots (xt_Z G below args s q.1 q.2.2) h lv pc stk := by
  obtain ⟨r, h1, h2⟩ := xo_b hR
  rw [hs]
  by_cases hz : r.2.2 = 0
  · unfold xo_th at h2
    exact xr_goV C hc hk (hM r h1 hz) hn hR9 hst ⟨by omega, by omega⟩ d (K r h1 (xo_t h2 hz))
  · unfold xo_th at h2
    have h3 := xo_f h2 hz
    cases h3
    exact xt_goV C htab hc hk (hM2 r h1 hz) hn hR9 hst hcs hc1 hs1 d
theorem xr_callRl (C : xj_C p s m args meth c G own cc nL) {κ k n na idx fr lo : Nat} {y : MethodName} {b : ByteArray} {ret : Option FieldType} {stk : List Value} (As : List Value) {o : Option (xw_M × Int64 × Nat)} {β : Type} {dv : β} {F : xw_M × Int64 × Nat → Option (xw_M × β × Nat)} {q : xw_M × β × Nat} (hq : q.2.2 = 0) (hc : xw_cv own idx κ y b n ret na) (hk : xw_kd k = κ) (hM : ∀ r, o = some r → r.2.2 = 0 → xc_M l G y b n ret fr lo (.ref (xg_ad G k) :: As) h r.1 (some (.long r.2.1))) (hn : As.length = na) (hR9 : fr + 1 ≤ R.frames ∧ 8 + (n + 11) + lo ≤ R.locals) (hst : (st.map fun v => v.category).sum ≤ 8) (hcs : cells ≤ R.cells ∧ slots ≤ R.slots) (hs : stk = As.reverse ++ .ref (xg_ad G k) :: st) (d : decode cc pc = .ok (.invokevirtual idx, 3)) (hR : (o.bind fun r => xo_th dv r (F r)) = some q) (K : ∀ r, o = some r → F r = some q → xj_X p l e R s m args below meth c G nL cells slots Q r.1 lv (pc + 3) (.long r.2.1 :: st)) : xj_X p l e R s m args below meth c G nL cells slots Q h lv pc stk := by
  obtain ⟨r, h1, h2⟩ := xo_b hR
  obtain ⟨h3, h4⟩ := xo_th0 hq h2
  rw [hs]
  exact xr_goV C hc hk (hM r h1 h3) hn hR9 hst hcs d (K r h1 h4)
theorem xr_callTl (C : xj_C p s m args meth c G own cc nL) (htab : ∀ x ∈ c.exceptionTable.toList, False) {κ k n na idx fr lo : Nat} {y : MethodName} {b : ByteArray} {ret : Option FieldType} {stk : List Value} (As : List Value) {o : Option (xw_M × Int64 × Nat)} {β : Type} {dv : β} {F : xw_M × Int64 × Nat → Option (xw_M × β × Nat)} {q : xw_M × β × Nat} (hc : xw_cv own idx κ y b n ret na) (hk : xw_kd k = κ) (hM : ∀ r, o = some r → r.2.2 = 0 → xc_M l G y b n ret fr lo (.ref (xg_ad G k) :: As) h r.1 (some (.long r.2.1))) (hM2 : ∀ r, o = some r → ¬ r.2.2 = 0 → xt_M l G y b n ret fr lo (.ref (xg_ad G k) :: As) h r.1 r.2.2) (hn : As.length = na) (hR9 : fr + 1 ≤ R.frames ∧ 8 + (n + 11) + lo ≤ R.locals) (hst : (st.map fun v => v.category).sum ≤ 8) (hcs : cells + 1 ≤ R.cells ∧ slots + 6 ≤ R.slots) (hc1 : cells + 1 ≤ 1) (hs1 : slots + 6 ≤ 6) (hs : stk = As.reverse ++ .ref (xg_ad G k) :: st) (d : decode cc pc = .ok (.invokevirtual idx, 3)) (hR : (o.bind fun r => xo_th dv r (F r)) = some q) (K : ∀ r, o = some r → F r = some q → xj_X p l e R s m args below meth c G nL cells slots (xt_Z G below args s q.1 q.2.2) r.1 lv (pc + 3) (.long r.2.1 :: st)) : xj_X p l e R s m args below meth c G nL cells slots (xt_Z G below args s q.1 q.2.2) h lv pc stk := by
  obtain ⟨r, h1, h2⟩ := xo_b hR
  rw [hs]
  by_cases hz : r.2.2 = 0
  · unfold xo_th at h2
    exact xr_goV C hc hk (hM r h1 hz) hn hR9 hst ⟨by omega, by omega⟩ d (K r h1 (xo_t h2 hz))
  · unfold xo_th at h2
    have h3 := xo_f h2 hz
    cases h3
    exact xt_goV C htab hc hk (hM2 r h1 hz) hn hR9 hst hcs hc1 hs1 d
end XT
