section ZK
variable {p : Program} {l : Launch} {e : Env} {R : Room} {s : State} {m : MethodId} {args : Array Value} {below : List Frame} {meth : Method} {c : Code} {G : xw_G} {nL cells slots : Nat} {Q : State → Prop}
variable {cc : ByteArray} {own : String} {pc : Nat} {lv : List (Option Value)} {st : List Value} {Pr : Heap → Prop}
theorem zr_ex {ι : Type} {Pr2 : ι → Heap → Prop} (h : ∀ H, Pr H → ∃ z, Pr2 z H) (K : ∀ z, zj_X p l e R s m args below meth c G nL cells slots Q (Pr2 z) lv pc st) : zj_X p l e R s m args below meth c G nL cells slots Q Pr lv pc st := fun H locs ls hP hS hL => by
  obtain ⟨z, hz⟩ := h H hP
  exact K z H locs ls hz hS hL
theorem zr_pure {φ : Prop} (h : ∀ H, Pr H → φ) (K : φ → zj_X p l e R s m args below meth c G nL cells slots Q Pr lv pc st) : zj_X p l e R s m args below meth c G nL cells slots Q Pr lv pc st := fun H locs ls hP hS hL => K (h H hP) H locs ls hP hS hL
/-- what a method of the law's finds at its start, beside its memory -/
def zT (G : xw_G) (U : State) : Prop := va_K (xg_D G) vwCl (xw_tys G) U ∧ xw_ok G ∧ xw_X (xg_B G) U U.heap ∧ xv_F U ∧ xg_z G ≤ U.heap.size ∧ va_X (xg_b G) (xg_L G) (xg_xs G) U U.heap ∧ xg_b G < xg_z G
def zP (G : xw_G) (Pr : Heap → Prop) (U : State) : Prop := Pr U.heap ∧ zT G U
theorem zT_blind {av : List Value} : FrameBlind (va_Pc av (zP G Pr)) := by
  intro a U g mk q
  obtain ⟨q1, q2, q3, q4, q5, q6, q7, q8, q9⟩ := q
  exact ⟨q1, q2, va_K.moved (u := U) (U := U.calling g mk a) (Vm.Alike.refl U.vm) q3, q4, xw_X.same (s := U) (U := U.calling g mk a) q5 rfl, xv_F.same (s := U) (U := U.calling g mk a) q6 rfl, q7, va_X.moved (u := U) (U := U.calling g mk a) (Vm.Alike.refl U.vm) q8, q9⟩
def zc_Q (G : xw_G) (Po : Heap → Option Value → Heap → Prop) : Array Value → State → Outcome → State → Prop := fun _ s o t => (∃ rv, o = .returned rv ∧ Po s.heap rv t.heap) ∧ va_F (xg_B G) s t
def zc_G (l : Launch) (G : xw_G) (y : MethodName) (cc : ByteArray) (n : Nat) (ret : Option FieldType) (fr lo mc ms : Nat) (av : List Value) (Pr : Heap → Prop) (Po : Heap → Option Value → Heap → Prop) : Prop :=
  Met l y (.code y cc n ret :: lw_g) { frames := fr, cells := mc, slots := ms, locals := lo } (va_Pc av (zP G Pr)) (zc_Q G Po) mc ms (xg_B G)
theorem zc_of {ret : Option FieldType} {y : MethodName} {n fr lo mc ms : Nat} {av : List Value} {Po : Heap → Option Value → Heap → Prop} (hy : plainName y.cls = true) (hcat : av.all (fun v => v.category == 1) = true) (hlen : (lg_sl av).length ≤ n)
    (body : ∀ (p : Program) (e : Env) (s : State) (m : MethodId) (args : Array Value) (below : List Frame) (meth : Method) (c : Code), zj_C p s m args meth c G y.cls cc n → meth.sig.returnType = ret → Pr s.heap →
      zj_X p l e { frames := fr, cells := mc, slots := ms, locals := lo } s m args below meth c G n 0 0 (MQ below (zc_Q G Po) args s mc ms (xg_B G)) (fun H => H = s.heap) (xc_lv av n) 0 []) : zc_G l G y cc n ret fr lo mc ms av Pr Po := by
  refine Met.ofW (cc := cc) (maxL := n) (ret := ret) hy rfl ?_
  intro p e s m args below meth c s₁ B hml hv
  obtain ⟨rfl, hP, hK, hG, hX, hF, hz, hb⟩ := hv
  have hts : ∀ w ∈ lw_g, w.before av.toArray s = true := fun w hw => atoms_spec (ws := .code y cc n ret :: lw_g) B.pre w (List.mem_cons_of_mem _ hw)
  have hl := lv_entry av (n := n) hlen
  rw [lg_entry_eq]
  exact body p e s m av.toArray below meth c ⟨B.exec, B.bytes, hml, findClass_of_methodNamed B.named, hts, hK, hG, hX, hF, B.notSynchronized, hz, hb⟩ B.returns hP s.heap [] _ rfl va_S.rf ⟨hl.1, hl.2.1, fun i v hi => hl.2.2 (i, v) (by have h1 := xc_entry av 0 i v hcat (xc_lv_at hi); rwa [Nat.zero_add] at h1)⟩
theorem zj_T {H : Heap} {locs : List Loc} (C : zj_C p s m args meth c G own cc nL) (hS : va_S (xg_B G) s.heap H locs) {U : State} (hU : U.heap = H) (hW : s.WarmedH U.vm) : zT G U :=
  ⟨va_K.moved hW.alike C.2.2.2.2.2.1, C.2.2.2.2.2.2.1, by rw [hU]; exact C.2.2.2.2.2.2.2.1.warm hW hS.2.1, C.2.2.2.2.2.2.2.2.1.warm hW, by rw [hU]; exact Nat.le_trans C.2.2.2.2.2.2.2.2.2.2.1 hS.1, by rw [hU]; exact va_X.moved hW.alike (C.2.2.2.2.2.2.2.2.2.2.2.1.kept (hS.2.1 _ (Nat.lt_of_lt_of_le C.2.2.2.2.2.2.2.2.2.2.2.2 C.2.2.2.2.2.2.2.2.2.2.1) (Nat.not_le_of_lt C.2.2.2.2.2.2.2.2.2.2.2.2))), C.2.2.2.2.2.2.2.2.2.2.2.2⟩
theorem xw_AB (hG : xw_ok G) : ∀ q, xg_A G q → xg_B G q := fun q ⟨k, h1, h2⟩ => by subst h2; exact hG.2.2 k h1
theorem xw_X.AB {U : State} {H : Heap} (hG : xw_ok G) (h : xw_X (xg_B G) U H) : xw_X (xg_A G) U H := ⟨h.1, h.2.1, h.2.2.1, h.2.2.2.1.narrow (xw_AB hG), h.2.2.2.2.narrow (xw_AB hG)⟩
/-- behind a call of a method of the law's -/
def zA (G : xw_G) (Pr : Heap → Prop) (Po : Heap → Option Value → Heap → Prop) (rv : Option Value) : Heap → Prop := fun H' => ∃ H, Pr H ∧ Po H rv H'
theorem zr_fin {mc ms : Nat} {Po : Heap → Option Value → Heap → Prop} {H : Heap} {locs : List Loc} {ls : Array Slot} {stk : List Value} {av : Array Value} {Pq : Heap → Prop} (hP : Pr H) (hS : va_S (xg_B G) s.heap H locs) (hL : xj_L ls nL lv)
    (hrun : va_Run p l e R s m args below meth c H locs cells slots mc ms (F0 m pc ls stk) st (zc_Q G Po av) (xg_B G))
    (K : ∀ rv, zj_X p l e R s m args below meth c G nL (cells + mc) (slots + ms) Q (zA G Pr Po rv) lv (pc + 3) (rv.toList ++ st)) : W p l e R s m args below meth c H locs cells slots Q (F0 m pc ls stk) := by
  intro T hT X
  obtain ⟨v, st₀, t, T', L, h0, X', hLf, e1, e2, ⟨⟨rv, hv, hPo⟩, hF⟩, stp⟩ := hrun T hT X
  obtain ⟨k1, k2, k3⟩ := vx_keep h0 e1 hS (fun _ _ z => z) (fun _ z => z) hLf hF
  cases hv
  obtain ⟨t2, a1, b1⟩ := K v T'.heap (locs ++ L) ls ⟨H, hP, by rw [e1, ← h0]; exact hPo⟩ k3 hL T' rfl X'
  exact ⟨t2, stp t2 a1, b1⟩
theorem zr_goV {κ a n na idx fr lo mc ms : Nat} {y : MethodName} {b : ByteArray} {ret : Option FieldType} {As : List Value} {Pq : Heap → Prop} {fs : List Value} {Po : Heap → Option Value → Heap → Prop} (C : zj_C p s m args meth c G own cc nL) (hc : xw_cv own idx κ y b n ret na) (ha : ∀ H, Pr H → va_at (xg_D G) vwCl (a, .inr (κ, fs)) H) (hM : zc_G l G y b n ret fr lo mc ms (.ref a :: As) Pq Po) (hq : ∀ H, Pr H → Pq H) (hn : As.length = na)
    (hR : fr + 1 ≤ R.frames ∧ 8 + (n + 11) + lo ≤ R.locals) (hst : (st.map fun v => v.category).sum ≤ 8) (hcs : cells + mc ≤ R.cells ∧ slots + ms ≤ R.slots) (d : decode cc pc = .ok (.invokevirtual idx, 3))
    (K : ∀ rv, zj_X p l e R s m args below meth c G nL (cells + mc) (slots + ms) Q (zA G Pr Po rv) lv (pc + 3) (rv.toList ++ st)) : zj_X p l e R s m args below meth c G nL cells slots Q Pr lv pc (As.reverse ++ .ref a :: st) := by
  intro H locs ls hP hS hL
  obtain ⟨hw, ⟨r, h1, h2⟩, h3⟩ := id hc
  have hrv := va_recv (q0 := 0) C.2.2.2.2.2.1 (va_P1 (ha H hP)) h1 rfl
  rw [h2] at hrv
  have hrun := va_runV (g := F0 m pc ls (As.reverse ++ .ref a :: st)) (rest := st) (p := p) (e := e) (R := R) (below := below) (meth := meth) (locs := locs) (cells := cells) (slots := slots) ⟨C.1, C.2.1, C.2.2.1, C.2.2.2.1, C.2.2.2.2.1⟩ hM (cwV na C.2.2.2.2.1 (xw_goodV hc) rfl rfl rfl ⟨rfl, h3⟩ hR) ⟨zT_blind, hrv, fun U hU hW => ⟨rfl, by rw [hU]; exact hq H hP, zj_T C hS hU hW⟩⟩ rfl hn hL.1 rfl (lv_room hst) d hcs
  exact zr_fin (Pq := Pq) hP hS hL hrun K
theorem zr_goS {n na idx fr lo mc ms : Nat} {y : MethodName} {b : ByteArray} {ret : Option FieldType} {As : List Value} {Pq : Heap → Prop} {Po : Heap → Option Value → Heap → Prop} (C : zj_C p s m args meth c G own cc nL) (hc : xw_cs own idx y b n ret na) (hM : zc_G l G y b n ret fr lo mc ms As Pq Po) (hq : ∀ H, Pr H → Pq H) (hn : As.length = na)
    (hR : fr + 1 ≤ R.frames ∧ 8 + (n + 11) + lo ≤ R.locals) (hst : (st.map fun v => v.category).sum ≤ 8) (hcs : cells + mc ≤ R.cells ∧ slots + ms ≤ R.slots) (d : decode cc pc = .ok (.invokestatic idx, 3))
    (K : ∀ rv, zj_X p l e R s m args below meth c G nL (cells + mc) (slots + ms) Q (zA G Pr Po rv) lv (pc + 3) (rv.toList ++ st)) : zj_X p l e R s m args below meth c G nL cells slots Q Pr lv pc (As.reverse ++ st) := by
  intro H locs ls hP hS hL
  have hrun := va_runS (g := F0 m pc ls (As.reverse ++ st)) (rest := st) (p := p) (e := e) (R := R) (below := below) (meth := meth) (locs := locs) (cells := cells) (slots := slots) (H := H) ⟨C.1, C.2.1, C.2.2.1, C.2.2.2.1, C.2.2.2.2.1⟩ hM (cwS na C.2.2.2.2.1 (xw_goodS hc) rfl rfl rfl hc.2 hR) ⟨zT_blind, fun U hU hW => ⟨rfl, by rw [hU]; exact hq H hP, zj_T C hS hU hW⟩⟩ rfl hn hL.1 rfl (lv_room hst) d hcs
  exact zr_fin (Pq := Pq) hP hS hL hrun K
/-- ends -/
theorem zr_ret0 {Po : Heap → Option Value → Heap → Prop} {mc ms : Nat} (C : zj_C p s m args meth c G own cc nL) (hr : meth.sig.returnType = none) (hc : cells ≤ mc) (hs : slots ≤ ms) (d : decode cc pc = .ok (.return_, 1)) (h : ∀ H, Pr H → Po s.heap none H) : zj_X p l e R s m args below meth c G nL cells slots (MQ below (zc_Q G Po) args s mc ms (xg_B G)) Pr lv pc [] := by
  refine zr_widen hc hs ?_
  intro H locs ls hP hS hL
  have hlocks := C.2.2.2.2.2.2.2.2.2.1
  exact W.vret C.1 C.2.1 hr (fun t ht hW => ⟨⟨none, rfl, by rw [ht]; exact h H hP⟩, hS.F ht⟩) hS.2.2 d
theorem zr_retI {Po : Heap → Option Value → Heap → Prop} {mc ms : Nat} {v : Int32} (C : zj_C p s m args meth c G own cc nL) (hr : meth.sig.returnType = some .int) (hc : cells ≤ mc) (hs : slots ≤ ms) (d : decode cc pc = .ok (.ireturn, 1)) (h : ∀ H, Pr H → Po s.heap (some (.int v)) H) : zj_X p l e R s m args below meth c G nL cells slots (MQ below (zc_Q G Po) args s mc ms (xg_B G)) Pr lv pc [.int v] := by
  refine zr_widen hc hs ?_
  intro H locs ls hP hS hL
  have hlocks := C.2.2.2.2.2.2.2.2.2.1
  exact W.iret C.1 C.2.1 hr (fun t ht hW => ⟨⟨_, rfl, by rw [ht]; exact h H hP⟩, hS.F ht⟩) hS.2.2 d
theorem zr_retZ {Po : Heap → Option Value → Heap → Prop} {mc ms : Nat} {v : Int32} (C : zj_C p s m args meth c G own cc nL) (hr : meth.sig.returnType = some .boolean) (hv : v = 0 ∨ v = 1) (hc : cells ≤ mc) (hs : slots ≤ ms) (d : decode cc pc = .ok (.ireturn, 1)) (h : ∀ H, Pr H → Po s.heap (some (.int v)) H) : zj_X p l e R s m args below meth c G nL cells slots (MQ below (zc_Q G Po) args s mc ms (xg_B G)) Pr lv pc [.int v] := by
  refine zr_widen hc hs ?_
  intro H locs ls hP hS hL
  have hlocks := C.2.2.2.2.2.2.2.2.2.1
  exact W.zret C.1 C.2.1 hr (by rcases hv with rfl | rfl <;> rfl) (fun t ht hW => ⟨⟨_, rfl, by rw [ht]; exact h H hP⟩, hS.F ht⟩) hS.2.2 d
theorem zr_retR {Po : Heap → Option Value → Heap → Prop} {mc ms : Nat} {v : Value} {ty : FieldType} (C : zj_C p s m args meth c G own cc nL) (hr : meth.sig.returnType = some ty) (ht9 : (∃ n, ty = .object n) ∨ ∃ t, ty = .array t) (hv : v = .null ∨ ∃ a, v = .ref a) (hc : cells ≤ mc) (hs : slots ≤ ms) (d : decode cc pc = .ok (.areturn, 1)) (h : ∀ H, Pr H → Po s.heap (some v) H) : zj_X p l e R s m args below meth c G nL cells slots (MQ below (zc_Q G Po) args s mc ms (xg_B G)) Pr lv pc [v] := by
  refine zr_widen hc hs ?_
  intro H locs ls hP hS hL
  have hlocks := C.2.2.2.2.2.2.2.2.2.1
  exact W.aret C.1 C.2.1 hr ht9 hv (fun t ht hW => ⟨⟨_, rfl, by rw [ht]; exact h H hP⟩, hS.F ht⟩) hS.2.2 d
end ZK
