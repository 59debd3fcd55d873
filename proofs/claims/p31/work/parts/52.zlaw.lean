section ZW
variable {p : Program} {l : Launch} {e : Env} {R : Room} {s : State} {m : MethodId} {args : Array Value} {below : List Frame} {meth : Method} {c : Code} {G : xw_G} {nL cells slots : Nat} {Q : State → Prop}
variable {cc : ByteArray} {own : String} {pc : Nat} {lv : List (Option Value)} {st : List Value} {Pr : Heap → Prop}
/-- a method with a table of handlers -/
def zc_GW (l : Launch) (G : xw_G) (y : MethodName) (cc : ByteArray) (n : Nat) (ret : Option FieldType) (hh : List (Nat × Nat × Nat × Nat)) (fr lo mc ms : Nat) (av : List Value) (Pr : Heap → Prop) (Po : Heap → Option Value → Heap → Prop) : Prop :=
  Met l y (.codeWith y cc n ret hh :: lw_g) { frames := fr, cells := mc, slots := ms, locals := lo } (va_Pc av (zP G Pr)) (zc_Q G Po) mc ms (xg_B G)
theorem zc_ofW {ret : Option FieldType} {y : MethodName} {n fr lo mc ms : Nat} {hh : List (Nat × Nat × Nat × Nat)} {av : List Value} {Po : Heap → Option Value → Heap → Prop} (hy : plainName y.cls = true) (hcat : av.all (fun v => v.category == 1) = true) (hlen : (lg_sl av).length ≤ n)
    (body : ∀ (p : Program) (e : Env) (s : State) (m : MethodId) (args : Array Value) (below : List Frame) (meth : Method) (c : Code), zj_C p s m args meth c G y.cls cc n → meth.sig.returnType = ret → c.exceptionTable.toList = tableOf hh → Pr s.heap →
      zj_X p l e { frames := fr, cells := mc, slots := ms, locals := lo } s m args below meth c G n 0 0 (MQ below (zc_Q G Po) args s mc ms (xg_B G)) (fun H => H = s.heap) (xc_lv av n) 0 []) : zc_GW l G y cc n ret hh fr lo mc ms av Pr Po := by
  refine va_MetW (cc := cc) (maxL := n) (ret := ret) hy rfl ?_
  intro p e s m args below meth c s₁ B hml hv
  obtain ⟨rfl, hP, hK, hG, hX, hF, hz, hb⟩ := hv
  have hts : ∀ w ∈ lw_g, w.before av.toArray s = true := fun w hw => atoms_spec (ws := .codeWith y cc n ret hh :: lw_g) B.pre w (List.mem_cons_of_mem _ hw)
  have htb := vx_table (x := y) B (atoms_spec (ws := .codeWith y cc n ret hh :: lw_g) B.pre _ List.mem_cons_self)
  have hl := lv_entry av (n := n) hlen
  rw [lg_entry_eq]
  exact body p e s m av.toArray below meth c ⟨B.exec, B.bytes, hml, findClass_of_methodNamed B.named, hts, hK, hG, hX, hF, B.notSynchronized, hz, hb⟩ B.returns htb hP s.heap [] _ rfl va_S.rf ⟨hl.1, hl.2.1, fun i v hi => hl.2.2 (i, v) (by have h1 := xc_entry av 0 i v hcat (xc_lv_at hi); rwa [Nat.zero_add] at h1)⟩
/-- the row of a table of handlers that takes the exception E at a place -/
def zw_ha (own : String) (hh : List (Nat × Nat × Nat × Nat)) (at_ : Nat) (E : String) (tgt : Nat) : Prop :=
  ∃ (pre : List ExceptionTableEntry) (x : ExceptionTableEntry) (suf : List ExceptionTableEntry), tableOf hh = pre ++ x :: suf ∧ (∀ z ∈ pre, covers z at_ = false ∨ (z.catchType ≠ 0 ∧ ∃ nm : String, Cond.classLink own z.catchType nm ∈ lw_g ∧ nm ∈ xw_exc ∧ E ≠ nm)) ∧ covers x at_ = true ∧ x.catchType ≠ 0 ∧ Cond.classLink own x.catchType E ∈ lw_g ∧ x.handlerPc = tgt ∧ E ∈ xw_exn ∧ Cond.castable E E ∈ xw_nw
/-- the class throws, and it is caught -/
theorem zr_goT (C : zj_C p s m args meth c G own cc nL) {Ch : Nat → Prop} {y0 yd : Nat → Nat} {h : xw_M} {y : yz_Y} {n na idx fr lo E tgt : Nat} {Ex : String} {hh : List (Nat × Nat × Nat × Nat)} {y9 : MethodName} {b : ByteArray} {ret : Option FieldType} {As : List Value} {h' : xw_M} (htab : c.exceptionTable.toList = tableOf hh) (hc : xw_cv own idx 5 y9 b n ret na) (hM : xt_M l G y9 b n ret fr lo (.ref (xg_ad G 350) :: As) h h' E) (hE : xw_exn[E - 1]? = some Ex) (ha : zw_ha own hh pc Ex tgt) (hn : As.length = na) (hR9 : fr + 1 ≤ R.frames ∧ 8 + (n + 11) + lo ≤ R.locals) (hst : (st.map fun v => v.category).sum ≤ 8) (hcs : cells + 1 ≤ R.cells ∧ slots + 6 ≤ R.slots) (d : decode cc pc = .ok (.invokevirtual idx, 3)) (K : ∀ q9 : Nat, zj_X p l e R s m args below meth c G nL (cells + 1) (slots + 6) Q (yz_W G Ch y0 yd h' y) lv tgt [.ref q9]) : zj_X p l e R s m args below meth c G nL cells slots Q (yz_W G Ch y0 yd h y) lv pc (As.reverse ++ .ref (xg_ad G 350) :: st) := by
  intro H locs ls hP hS hL
  obtain ⟨hw, ⟨r, h1, h2⟩, h3⟩ := id hc
  have hG := C.2.2.2.2.2.2.1
  have hl : 350 < xg_N G := hG.1
  have he : (xw_ws G h)[350]? = some (xg_ad G 350, .inr (5, xw_fs (xg_ad G) 5 350 (h 350))) := by rw [xw_get hl]; rfl
  have hrv := va_recv C.2.2.2.2.2.1 hP.1 h1 he
  rw [h2] at hrv
  have hX := C.2.2.2.2.2.2.2.1
  have hrun := vx_runV (g := F0 m pc ls (As.reverse ++ .ref (xg_ad G 350) :: st)) (rest := st) (p := p) (e := e) (R := R) (below := below) (meth := meth) (locs := locs) (cells := cells) (slots := slots) ⟨C.1, C.2.1, C.2.2.1, C.2.2.2.1, C.2.2.2.2.1⟩ hM (cwV na C.2.2.2.2.1 (xw_goodV hc) rfl rfl rfl ⟨rfl, h3⟩ hR9) ⟨xw_blind, hrv, fun U hU hW => ⟨rfl, by rw [hU]; exact hP.1, va_K.moved hW.alike C.2.2.2.2.2.1, hG, by rw [hU]; exact (hX.warm hW hS.2.1).AB hG⟩⟩ rfl hn hL.1 rfl (lv_room hst) d hcs
  intro T hT X
  rcases hrun T hT X with ⟨v, st₀, t, T', L, h0, X', hLf, e1, e2, hF, stp⟩ | ⟨q9, st₀, t, T', L, Ey, ce, h0, X', hLf, e1, e2, ⟨hEE, hP', hF⟩, hce, hcv, hcl, stp⟩
  · exact hF.elim
  · obtain ⟨k1, k2, k3⟩ := vx_keep h0 e1 hS (fun q _ z => xw_AB hG q z) (fun q z => xw_AB hG q z) hLf hF
    cases Option.some.inj (hE.symm.trans hEE.2)
    obtain ⟨pre, x, suf, a1, a2, a3, a4, a5, a6, a7, a8⟩ := ha
    subst a6
    have hcatch := vx_catch (p := p) (l := l) (e := e) (R := R) (m := m) (args := args) (below := below) (meth := meth) (c := c) (pc := pc) (ls := ls) (rest := st) (s := s) (H := T'.heap) (locs := locs ++ L) (cells := cells + 1) (slots := slots + 6) (Q := Q) (E := Ex) (ce := ce) (q := q9) (name := Ex) C.2.2.2.1 pre x suf (htab.trans a1) (fun z hz => by
      rcases a2 z hz with b0 | ⟨b1, nm, b2, b3, b4⟩
      · exact Or.inl b0
      · exact Or.inr ⟨b1, nm, C.2.2.2.2.1 _ b2, hX.2.2.1 _ a7 _ b3 b4⟩) a3 a4 (C.2.2.2.2.1 _ a5) (va_Nw.use (xw_nw_tab _ a8) (hX.2.1 _ a8)) (by rw [e1]; exact hce) hcv hcl (K q9 T'.heap (locs ++ L) ls ⟨by rw [e1]; exact hP', fun k hk => (hP.2.1 k hk).kept (k2 _ (yz_lt hP hk) (fun ⟨i, g1, g2⟩ => hP.2.2.1.2.2.1 k i hk g1 g2)), hP.2.2.1, hP.2.2.2⟩ k3 hL)
    obtain ⟨t2, c1, b1⟩ := hcatch T' rfl X'
    exact ⟨t2, stp.trans c1, b1⟩
/-- a call of the class that may throw, under act's handlers -/
theorem zr_callX (C : zj_C p s m args meth c G own cc nL) {Ch : Nat → Prop} {y0 yd : Nat → Nat} {h : xw_M} {y : yz_Y} {n na idx fr lo t1 t2 : Nat} {hh : List (Nat × Nat × Nat × Nat)} {y9 : MethodName} {b : ByteArray} {ret : Option FieldType} {stk : List Value} (As : List Value) {o : Option (xw_M × Int32 × Nat)} {α : Type} {F0 F1 F2 : xw_M × Int32 × Nat → Option α} {q : α} (htab : c.exceptionTable.toList = tableOf hh) (hc : xw_cv own idx 5 y9 b n ret na) (hM : ∀ r, o = some r → r.2.2 = 0 → xc_M l G y9 b n ret fr lo (.ref (xg_ad G 350) :: As) h r.1 (some (.int r.2.1))) (hT : ∀ r, o = some r → ¬ r.2.2 = 0 → xt_M l G y9 b n ret fr lo (.ref (xg_ad G 350) :: As) h r.1 r.2.2) (ha1 : zw_ha own hh pc "java/lang/IllegalArgumentException" t1) (ha2 : zw_ha own hh pc "java/lang/IllegalStateException" t2) (hn : As.length = na) (hR9 : fr + 1 ≤ R.frames ∧ 8 + (n + 11) + lo ≤ R.locals) (hst : (st.map fun v => v.category).sum ≤ 8) (hcs : cells + 1 ≤ R.cells ∧ slots + 6 ≤ R.slots) (hs : stk = As.reverse ++ .ref (xg_ad G 350) :: st) (d : decode cc pc = .ok (.invokevirtual idx, 3)) (hR : (o.bind fun r => if r.2.2 = 0 then F0 r else if r.2.2 = 1 then F1 r else if r.2.2 = 2 then F2 r else none) = some q)
    (K0 : ∀ r, o = some r → F0 r = some q → zj_X p l e R s m args below meth c G nL cells slots Q (yz_W G Ch y0 yd r.1 y) lv (pc + 3) (.int r.2.1 :: st)) (K1 : ∀ r, o = some r → F1 r = some q → ∀ q9 : Nat, zj_X p l e R s m args below meth c G nL (cells + 1) (slots + 6) Q (yz_W G Ch y0 yd r.1 y) lv t1 [.ref q9]) (K2 : ∀ r, o = some r → F2 r = some q → ∀ q9 : Nat, zj_X p l e R s m args below meth c G nL (cells + 1) (slots + 6) Q (yz_W G Ch y0 yd r.1 y) lv t2 [.ref q9]) : zj_X p l e R s m args below meth c G nL cells slots Q (yz_W G Ch y0 yd h y) lv pc stk := by
  obtain ⟨r, h1, h2⟩ := xo_b hR
  rw [hs]
  by_cases hz : r.2.2 = 0
  · rw [if_pos hz] at h2
    exact zr_callC C hc (hM r h1 hz) hn hR9 hst ⟨by omega, by omega⟩ d (K0 r h1 h2)
  · rw [if_neg hz] at h2
    by_cases hz1 : r.2.2 = 1
    · rw [if_pos hz1] at h2
      exact zr_goT C htab hc (hT r h1 hz) (by rw [hz1]; rfl) ha1 hn hR9 hst hcs d (K1 r h1 h2)
    · rw [if_neg hz1] at h2
      by_cases hz2 : r.2.2 = 2
      · rw [if_pos hz2] at h2
        exact zr_goT C htab hc (hT r h1 hz) (by rw [hz2]; rfl) ha2 hn hR9 hst hcs d (K2 r h1 h2)
      · rw [if_neg hz2] at h2; cases h2
def zw_cw (own : String) (idx : Nat) (y : MethodName) (b : ByteArray) (n : Nat) (ret : Option FieldType) (hh : List (Nat × Nat × Nat × Nat)) (na : Nat) : Prop := (∀ w ∈ va_wsS own idx y (.codeWith y b n ret hh :: []), w ∈ lw_g) ∧ y.cls ≠ "java/lang/invoke/MethodHandle" ∧ y.cls ≠ "java/lang/invoke/VarHandle" ∧ (parseMethodDescriptor y.desc).map (fun d => d.parameters.length) = some na
theorem zr_callA (C : zj_C p s m args meth c G own cc nL) {Ch : Nat → Prop} {y0 yd : Nat → Nat} {h : xw_M} {y : yz_Y} {n na idx fr lo mc ms : Nat} {y9 : MethodName} {b : ByteArray} {hh : List (Nat × Nat × Nat × Nat)} {ret : Option FieldType} {stk : List Value} {Ch' : Nat → Prop} (As : List Value) {o : Option (xw_M × yz_Y × Int32)} {α : Type} {F : xw_M × yz_Y × Int32 → Option α} {q : α} (hc : zw_cw own idx y9 b n ret hh na) (hCh : ∀ k, Ch' k → Ch k) (hM : ∀ r, o = some r → zc_GW l G y9 b n ret hh fr lo mc ms As (zPr G yd h y) (zPo G Ch' yd r.1 r.2.1 (fun _ => some (.int r.2.2)))) (hn : As.length = na) (hR9 : fr + 1 ≤ R.frames ∧ 8 + (n + 11) + lo ≤ R.locals) (hst : (st.map fun v => v.category).sum ≤ 8) (hcs : cells + mc ≤ R.cells ∧ slots + ms ≤ R.slots) (hs : stk = As.reverse ++ st) (d : decode cc pc = .ok (.invokestatic idx, 3)) (hR : o.bind F = some q) (K : ∀ r, o = some r → F r = some q → ∀ yd' : Nat → Nat, (∀ k, ¬ Ch' k → yd' k = yd k) → zj_X p l e R s m args below meth c G nL (cells + mc) (slots + ms) Q (yz_W G Ch y0 yd' r.1 r.2.1) lv (pc + 3) (.int r.2.2 :: st)) : zj_X p l e R s m args below meth c G nL cells slots Q (yz_W G Ch y0 yd h y) lv pc stk := by
  obtain ⟨r, h1, h2⟩ := xo_b hR
  rw [hs]
  intro H locs ls hP hS hL
  have hG : GoodIn lw_g (va_wsS own idx y9 (.codeWith y9 b n ret hh :: lw_g)) := lw_g_good fun w hw => by
    rcases List.mem_append.mp (show w ∈ [Cond.methodLink own idx y9, .static y9, .initialized y9.cls] ++ (.codeWith y9 b n ret hh :: lw_g) from hw) with g1 | g1
    · exact hc.1 w (List.mem_append.mpr (Or.inl g1))
    · rcases List.mem_cons.mp g1 with g2 | g2
      · exact hc.1 w (List.mem_append.mpr (Or.inr (g2 ▸ List.mem_cons_self)))
      · exact g2
  have hrun := vx_runSW (g := F0 m pc ls (As.reverse ++ st)) (rest := st) (p := p) (e := e) (R := R) (below := below) (meth := meth) (locs := locs) (cells := cells) (slots := slots) (H := H) ⟨C.1, C.2.1, C.2.2.1, C.2.2.2.1, C.2.2.2.2.1⟩ (hM r h1) (vx_cwSW na C.2.2.2.2.1 hG rfl rfl rfl hc.2 hR9) ⟨zT_blind, fun U hU hW => ⟨rfl, by rw [hU]; exact hP.start, zj_T C hS hU hW⟩⟩ rfl hn hL.1 rfl (lv_room hst) d hcs
  exact zr_fin (Pr := yz_W G Ch y0 yd h y) (Pq := fun _ => True) hP hS hL hrun (fun rv => zr_zPo hCh (fun yd' hy => K r h1 h2 yd' hy))
/-- a static call whose answer is the Sim -/
theorem zq_r (C : zj_C p s m args meth c G own cc nL) {Ch : Nat → Prop} {y0 yd : Nat → Nat} {h : xw_M} {y : yz_Y} {mc ms : Nat} {S9 : String} (hr : meth.sig.returnType = some (.object S9)) (hc : cells ≤ mc) (hs : slots ≤ ms) (d : decode cc pc = .ok (.areturn, 1)) {q : xw_M × yz_Y × Unit} (hR : some (h, y, ()) = some q) : zj_X p l e R s m args below meth c G nL cells slots (MQ below (zc_Q G (zPo G Ch y0 q.1 q.2.1 (fun yd => some (.ref (yd 0))))) args s mc ms (xg_B G)) (yz_W G Ch y0 yd h y) lv pc [.ref (yd 0)] := by
  cases hR
  exact zr_retR C hr (Or.inl ⟨_, rfl⟩) (Or.inr ⟨_, rfl⟩) hc hs d (fun H hP => ⟨yd, rfl, hP⟩)
/-- the law's own rows: made anew, at a code of its own -/
def yz_nw (y : yz_Y) (k n : Nat) : yz_Y := (fun a => if a = k then (fun _ => 0) else y.1 a, fun a => if a = k then n else if a = k + 10 then 1 else y.2 a)
theorem yz_nw1 {y : yz_Y} {k n : Nat} : (yz_nw y k n).1 k = fun _ => 0 := if_pos rfl
theorem yz_nw2 {y : yz_Y} {k n : Nat} : (yz_nw y k n).2 k = n := if_pos rfl
theorem yz_nw_on {y : yz_Y} {k n a : Nat} (hk : k = 140 ∨ k = 141 ∨ k = 142) (h : yz_on (yz_nw y k n) a) (h1 : a ≠ k) : yz_on y a := by
  refine ⟨?_, h.2⟩
  have he := h.1
  have e : ∀ i, i < 140 → (yz_nw y k n).2 i = y.2 i := fun i hi => by show (if i = k then n else if i = k + 10 then 1 else y.2 i) = _; rw [if_neg (by omega), if_neg (by omega)]
  have e2 : ∀ i, 146 ≤ i → i ≠ k + 10 → (yz_nw y k n).2 i = y.2 i := fun i hi hj => by show (if i = k then n else if i = k + 10 then 1 else y.2 i) = _; rw [if_neg (by omega), if_neg hj]
  unfold yz_ex at he ⊢
  by_cases a6 : a < 6
  · rw [if_pos a6]
  rw [if_neg a6, e 2 (by omega), e 3 (by omega)] at he
  rw [if_neg a6]
  by_cases a10 : a < 10
  · rw [if_pos a10] at he ⊢; exact he
  rw [if_neg a10] at he ⊢
  by_cases a18 : a < 18
  · rw [if_pos a18] at he ⊢; exact he
  rw [if_neg a18] at he ⊢
  by_cases a28 : a < 28
  · rw [if_pos a28] at he ⊢; exact he
  rw [if_neg a28] at he ⊢
  by_cases a38 : a < 38
  · rw [if_pos a38] at he ⊢; exact he
  rw [if_neg a38] at he ⊢
  by_cases a136 : a < 136
  · rw [if_pos a136, e (20 + (a - 40) / 12) (by omega)] at he; rw [if_pos a136]; exact he
  rw [if_neg a136, e2 (a + 10) (by omega) (by omega)] at he
  rw [if_neg a136]
  exact he
theorem yz_pa_hi {b : Nat} (hb : 140 ≤ b) : 28 ≤ yz_pa b := by
  unfold yz_pa
  rw [if_neg (by omega), if_neg (by omega), if_neg (by omega), if_neg (by omega), if_neg (by omega)]
  omega
theorem yz_ch_lo {y : yz_Y} {a b : Nat} (hb : yz_bd y) (h : yz_ch y a b) : b < 140 := by
  rcases Nat.lt_or_ge b 140 with q | q
  · exact q
  · have h1 := yz_pa_of hb h
    have h2 := yz_pa_hi q
    have h3 := yz_kd_iv a
    rcases h with ⟨k1, -⟩ | ⟨k1, -⟩ | ⟨k1, -⟩ | ⟨k1, -⟩ | ⟨k1, -⟩
    · have := h3.1 k1; omega
    · have := h3.2.1 k1; omega
    · have := h3.2.2.2.1 k1; omega
    · have := h3.2.2.2.2.1 k1; omega
    · have := h3.2.2.2.2.2.1 k1; omega
theorem yz_W.nw {Ch : Nat → Prop} {y0 yd : Nat → Nat} {h : xw_M} {y : yz_Y} {k n : Nat} {H H1 : Heap} (hz : xg_z G ≤ H.size) (hW : yz_W G Ch y0 yd h y H) (hk : k = 140 ∨ k = 141 ∨ k = 142) (hCh : Ch k) (oq : ∀ q : Nat, q < H.size → H1[q]? = H[q]?) (hx : va_at (xg_D G) vwCl (H.size, yz_ct (xg_T G) (yz_ud yd k H.size) (yz_nw y k n) k) H1) : yz_W G Ch y0 (yz_ud yd k H.size) h (yz_nw y k n) H1 := by
  have hlt : ∀ a, yz_on y a → yd a < H.size := fun a ha => yz_lt hW ha
  obtain ⟨w1, w2, w3, w4⟩ := hW
  have ud : ∀ a, a ≠ k → yz_ud yd k H.size a = yd a := fun a ha => if_neg ha
  have udk : yz_ud yd k H.size k = H.size := if_pos rfl
  refine ⟨va_P.kept w1 (fun a q hq => ?_), fun a ha => ?_, ⟨fun i j hi hj hij => ?_, fun i hi => ?_, fun i j hi hj => ?_, ?_⟩, fun a ha => ?_⟩
  · obtain ⟨g1, rfl⟩ := xw_at hq
    exact oq _ (xw_adlt w1 g1)
  · by_cases e1 : a = k
    · rw [e1, udk]; exact hx
    · have ha' := yz_nw_on hk ha e1
      rw [ud a e1]
      refine yz_ct_cg (y := y) (yd := yd) (if_neg e1) ?_ (fun b hb => ud b (by have := yz_ch_lo w3.2.2.2 hb; omega)) ((w2 a ha').kept (oq _ (hlt a ha')))
      show (if a = k then n else if a = k + 10 then 1 else y.2 a) = y.2 a
      have h9 : a ≠ k + 10 := fun z => by
        have := ha'.2
        rw [z, yz_kd_big (by omega)] at this
        omega
      rw [if_neg e1, if_neg h9]
  · by_cases e1 : i = k <;> by_cases e2 : j = k
    · omega
    · have h1 := hlt j (yz_nw_on hk hj e2)
      rw [ud j e2, e1, udk] at hij
      omega
    · have h1 := hlt i (yz_nw_on hk hi e1)
      rw [ud i e1, e2, udk] at hij
      omega
    · rw [ud i e1, ud j e2] at hij
      exact w3.1 i j (yz_nw_on hk hi e1) (yz_nw_on hk hj e2) hij
  · by_cases e1 : i = k
    · rw [e1, udk]; exact hz
    · rw [ud i e1]; exact w3.2.1 i (yz_nw_on hk hi e1)
  · by_cases e1 : i = k
    · have h1 := xw_adlt w1 hj
      rw [e1, udk]; omega
    · rw [ud i e1]; exact w3.2.2.1 i j (yz_nw_on hk hi e1) hj
  · obtain ⟨b1, b2, b3⟩ := w3.2.2.2
    have e : ∀ i, i < 140 → (yz_nw y k n).2 i = y.2 i := fun i hi => by show (if i = k then n else if i = k + 10 then 1 else y.2 i) = _; rw [if_neg (by omega), if_neg (by omega)]
    exact ⟨by rw [e 2 (by omega)]; exact b1, by rw [e 3 (by omega)]; exact b2, fun f hf => by rw [e (20 + f) (by omega)]; exact b3 f hf⟩
  · rw [ud a (fun z => ha (z ▸ hCh))]
    exact w4 a ha
theorem zr_newL (C : zj_C p s m args meth c G own cc nL) {Ch : Nat → Prop} {y0 yd : Nat → Nat} {h : xw_M} {y : yz_Y} {k : Nat} {i : Int32} (hk : k = 140 ∨ k = 141) (hCh : Ch k) (hc : cells + 1 ≤ R.cells) (hs : slots + 8 ≤ R.slots) (hw : Cond.arrayClass .int ∈ lw_g) (d : decode cc pc = .ok (.newarray .int, 2)) {α : Type} {f : yz_Y → Option α} {q : α} (hR : (if xo_ix i 9 = true then xo_let (yz_nw y k i.toNatClampNeg) f else none) = some q) (K : ∀ y1 : yz_Y, f y1 = some q → ∀ yd' : Nat → Nat, (∀ j, j ≠ k → yd' j = yd j) → zj_X p l e R s m args below meth c G nL (cells + 1) (slots + 8) Q (yz_W G Ch y0 yd' h y1) lv (pc + 2) (.ref (yd' k) :: st)) : zj_X p l e R s m args below meth c G nL cells slots Q (yz_W G Ch y0 yd h y) lv pc (.int i :: st) := by
  by_cases hx : xo_ix i 9 = true
  · rw [if_pos hx] at hR
    have hlt := xo_ix_lt hx
    refine zr_sz C ?_
    refine zr_newR (n := i.toNatClampNeg) C (fun z => xo_ix_in hx (Or.inl z)) rfl (by show _ * 4 ≤ _; omega) hc (by omega) hw d (fun x => ?_)
    refine zr_widen (Nat.le_refl _) (show slots + i.toNatClampNeg ≤ slots + 8 by omega) ?_
    refine zr_eqH (fun H h => ?_) (by have h9 := K _ hR (yz_ud yd k x) (fun j hj => if_neg hj); rw [show yz_ud yd k x k = x from if_pos rfl] at h9; exact h9)
    obtain ⟨⟨H0, ⟨hz, hW⟩, h2, h3, h4⟩, h5⟩ := h
    subst h2
    refine hW.nw hz (by omega) hCh h4 ?_
    rw [yz_ct2 (yz_kdI (by omega)), yz_nw1, yz_nw2]
    exact h5
  · rw [if_neg hx] at hR; cases hR
theorem zr_newB (C : zj_C p s m args meth c G own cc nL) {Ch : Nat → Prop} {y0 yd : Nat → Nat} {h : xw_M} {y : yz_Y} {i : Int32} (hCh : Ch 142) (hc : cells + 1 ≤ R.cells) (hs : slots + 8 ≤ R.slots) (hw : Cond.arrayClass .boolean ∈ lw_g) (d : decode cc pc = .ok (.newarray .boolean, 2)) {α : Type} {f : yz_Y → Option α} {q : α} (hR : (if xo_ix i 9 = true then xo_let (yz_nw y 142 i.toNatClampNeg) f else none) = some q) (K : ∀ y1 : yz_Y, f y1 = some q → ∀ yd' : Nat → Nat, (∀ j, j ≠ 142 → yd' j = yd j) → zj_X p l e R s m args below meth c G nL (cells + 1) (slots + 8) Q (yz_W G Ch y0 yd' h y1) lv (pc + 2) (.ref (yd' 142) :: st)) : zj_X p l e R s m args below meth c G nL cells slots Q (yz_W G Ch y0 yd h y) lv pc (.int i :: st) := by
  by_cases hx : xo_ix i 9 = true
  · rw [if_pos hx] at hR
    have hlt := xo_ix_lt hx
    intro H locs ls hP hS hL
    refine va_newaK C.1 C.2.1 (atype := .boolean) (C.2.2.2.2.1 _ hw) rfl d rfl (fun z => xo_ix_in hx (Or.inl z)) rfl (by show _ * 1 ≤ _; omega) hc (by omega) rfl (fun H' cA e1 e2 e3 e4 e5 => ?_)
    have h2 : s.vm.findClass ("[" ++ FieldType.boolean.toString) = some (xg_T G 4) := (C.2.2.2.2.2.1.2 4 _ (show (xw_tys G)[4]? = some (xg_T G 4, .boolean) from rfl)).2
    have hcA : cA = xg_T G 4 := Option.some.inj (e5.symm.trans h2)
    refine W.widen (Nat.le_refl _) (show slots + i.toNatClampNeg ≤ slots + 8 by omega) ?_
    have h9 := K _ hR (yz_ud yd 142 H.size) (fun j hj => if_neg hj) H' locs ls (hP.nw (n := i.toNatClampNeg) (Nat.le_trans C.2.2.2.2.2.2.2.2.2.2.1 hS.1) (by omega) hCh e3 (by
      rw [yz_ct6 (by decide), yz_nw1, yz_nw2]
      show H'[H.size]? = some (vp_cell _ _)
      rw [vp_cell_i, ← hcA]
      exact e1)) ⟨Nat.le_trans hS.1 (by omega), fun q g1 g2 => (e3 q (Nat.lt_of_lt_of_le g1 hS.1)).trans (hS.2.1 q g1 g2), hS.2.2⟩ hL
    rw [show yz_ud yd 142 H.size 142 = H.size from if_pos rfl] at h9
    exact h9
  · rw [if_neg hx] at hR; cases hR
end ZW
