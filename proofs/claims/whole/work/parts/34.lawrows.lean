section XL
variable {p : Program} {l : Launch} {e : Env} {R : Room} {s : State} {m : MethodId} {args : Array Value} {below : List Frame} {meth : Method} {c : Code} {G : xw_G} {nL cells slots : Nat} {Q : State → Prop}
variable {cc : ByteArray} {own : String} {pc : Nat} {h : xw_M} {lv : List (Option Value)} {st : List Value}
/-! rows of the law: the script, the helpers, what makes cells -/
theorem xr_sld (C : xj_C p s m args meth c G own cc nL) {b L : Nat} {xs : Nat → Int32} (hX : va_X b L xs s s.heap) (hbl : b < s.heap.size) (hz : xg_z G = s.heap.size) {i : Int32} (d : decode cc pc = .ok (.iaload, 1)) {α : Type} {A : Option α} {q : α} (hR : (if xo_ix i L = true then A else none) = some q) (K : A = some q → xj_X p l e R s m args below meth c G nL cells slots Q h lv (pc + 1) (.int (xs i.toNatClampNeg) :: st)) : xj_X p l e R s m args below meth c G nL cells slots Q h lv pc (.int i :: .ref b :: st) := by
  intro H locs ls hP hS hL
  have hi : xo_ix i L = true := Classical.byContradiction fun z => by rw [if_neg z] at hR; cases hR
  exact va_sld C.1 C.2.1 hX hbl (A := xg_A G) (by show ¬ xg_z G ≤ b; omega) hS (xo_ix_in hi) d (K (xo_t hR hi) H locs ls hP hS hL)
theorem xr_slen (C : xj_C p s m args meth c G own cc nL) {b L : Nat} {xs : Nat → Int32} (hX : va_X b L xs s s.heap) (hbl : b < s.heap.size) (hz : xg_z G = s.heap.size) (d : decode cc pc = .ok (.arraylength, 1)) (K : xj_X p l e R s m args below meth c G nL cells slots Q h lv (pc + 1) (.int (Int32.ofNat L) :: st)) : xj_X p l e R s m args below meth c G nL cells slots Q h lv pc (.ref b :: st) := by
  intro H locs ls hP hS hL
  exact va_slen C.1 C.2.1 hX hbl (A := xg_A G) (by show ¬ xg_z G ≤ b; omega) hS d (K H locs ls hP hS hL)
/-- the words of a helper's call -/
def xw_cw (own : String) (idx : Nat) (y : MethodName) (b : ByteArray) (n : Nat) (hh : List (Nat × Nat × Nat × Nat)) (na : Nat) : Prop := (∀ w ∈ va_wsS own idx y (.codeWith y b n (some .int) hh :: []), w ∈ lw_g) ∧ y.cls ≠ "java/lang/invoke/MethodHandle" ∧ y.cls ≠ "java/lang/invoke/VarHandle" ∧ (parseMethodDescriptor y.desc).map (fun d => d.parameters.length) = some na
theorem xr_callW (C : xj_C p s m args meth c G own cc nL) {n na idx fr lo : Nat} {y : MethodName} {b : ByteArray} {hh : List (Nat × Nat × Nat × Nat)} {stk : List Value} (As : List Value) {o : Option (xw_M × Int32)} {α : Type} {F : xw_M × Int32 → Option α} {q : α} (hc : xw_cw own idx y b n hh na) (hM : ∀ r, o = some r → xc_W l G y b n hh fr lo As h r.1 r.2) (hn : As.length = na) (hR9 : fr + 1 ≤ R.frames ∧ 8 + (n + 11) + lo ≤ R.locals) (hst : (st.map fun v => v.category).sum ≤ 8) (hcs : cells + 1 ≤ R.cells ∧ slots + 6 ≤ R.slots) (hs : stk = As.reverse ++ st) (d : decode cc pc = .ok (.invokestatic idx, 3)) (hR : o.bind F = some q) (K : ∀ r, o = some r → F r = some q → xj_X p l e R s m args below meth c G nL (cells + 1) (slots + 6) Q r.1 lv (pc + 3) (.int r.2 :: st)) : xj_X p l e R s m args below meth c G nL cells slots Q h lv pc stk := by
  obtain ⟨r, h1, h2⟩ := xo_b hR
  rw [hs]
  intro H locs ls hP hS hL
  have hG : GoodIn lw_g (va_wsS own idx y (.codeWith y b n (some .int) hh :: lw_g)) := lw_g_good fun w hw => by
    rcases List.mem_append.mp (show w ∈ [Cond.methodLink own idx y, .static y, .initialized y.cls] ++ (.codeWith y b n (some .int) hh :: lw_g) from hw) with g1 | g1
    · exact hc.1 w (List.mem_append.mpr (Or.inl g1))
    · rcases List.mem_cons.mp g1 with g2 | g2
      · exact hc.1 w (List.mem_append.mpr (Or.inr (g2 ▸ List.mem_cons_self)))
      · exact g2
  have hrun := vx_runSW (g := F0 m pc ls (As.reverse ++ st)) (rest := st) (p := p) (e := e) (R := R) (below := below) (meth := meth) (locs := locs) (cells := cells) (slots := slots) (H := H) ⟨C.1, C.2.1, C.2.2.1, C.2.2.2.1, C.2.2.2.2.1⟩ (hM r h1) (vx_cwSW na C.2.2.2.2.1 hG rfl rfl rfl hc.2 hR9) ⟨xw_blind, fun U hU hW => ⟨rfl, xj_S C hP hS hU hW⟩⟩ rfl hn hL.1 rfl (lv_room hst) d hcs
  intro T hT X
  obtain ⟨v, st₀, t, T', L, h0, X', hLf, e1, e2, ⟨hv, hP', hF⟩, stp⟩ := hrun T hT X
  obtain ⟨k1, k2, k3⟩ := vx_keep h0 e1 hS (fun _ _ z => z) (fun _ z => z) hLf hF
  cases hv
  obtain ⟨t2, a1, b1⟩ := K r h1 h2 T'.heap (locs ++ L) ls (by rw [e1]; exact hP') k3 hL T' rfl X'
  exact ⟨t2, stp t2 a1, b1⟩
theorem xr_callD (C : xj_C p s m args meth c G own cc nL) {k n na idx : Nat} {stk : List Value} {o : Option (xw_M × Int64)} {α : Type} {F : xw_M × Int64 → Option α} {q : α} (hc : xw_cv own idx 6 yX6_digest cX6_digest 10 (some .long) 0) (hk : xw_kd k = 6) (hM : ∀ r, o = some r → xc_D l G [.ref (xg_ad G k)] h r.1 r.2) (hR9 : 7 + 1 ≤ R.frames ∧ 8 + (10 + 11) + 161 ≤ R.locals) (hst : (st.map fun v => v.category).sum ≤ 8) (hcs : cells + 9 ≤ R.cells ∧ slots + 64 ≤ R.slots) (hs : stk = .ref (xg_ad G k) :: st) (d : decode cc pc = .ok (.invokevirtual idx, 3)) (hR : o.bind F = some q) (K : ∀ r, o = some r → F r = some q → xj_X p l e R s m args below meth c G nL (cells + 9) (slots + 64) Q r.1 lv (pc + 3) (.long r.2 :: st)) : xj_X p l e R s m args below meth c G nL cells slots Q h lv pc stk := by
  obtain ⟨r, h1, h2⟩ := xo_b hR
  rw [hs]
  intro H locs ls hP hS hL
  obtain ⟨hw, ⟨r9, h19, h29⟩, h3⟩ := id hc
  obtain ⟨-, -, -, g4⟩ := xw_cl 6 r9 h19
  have hl : k < xg_N G := xj_ltN C hk (by omega)
  have he : (xw_ws G h)[k]? = some (xg_ad G k, .inr (6, xw_fs (xg_ad G) 6 k (h k))) := by rw [xw_get hl, xw_ce, hk, xw_ct_lo g4]
  have hrv := va_recv C.2.2.2.2.2.1 hP h19 he
  rw [h29] at hrv
  have hrun := va_runV (As := []) (g := F0 m pc ls (.ref (xg_ad G k) :: st)) (rest := st) (p := p) (e := e) (R := R) (below := below) (meth := meth) (locs := locs) (cells := cells) (slots := slots) ⟨C.1, C.2.1, C.2.2.1, C.2.2.2.1, C.2.2.2.2.1⟩ (hM r h1) (cwV 0 C.2.2.2.2.1 (xw_goodV hc) rfl rfl rfl ⟨rfl, h3⟩ hR9) ⟨xw_blind, hrv, fun U hU hW => ⟨rfl, xj_S C hP hS hU hW⟩⟩ rfl rfl hL.1 rfl (lv_room hst) d hcs
  intro T hT X
  obtain ⟨v, st₀, t, T', L, h0, X', hLf, e1, e2, ⟨hv, hP', hF⟩, stp⟩ := hrun T hT X
  obtain ⟨k1, k2, k3⟩ := vx_keep h0 e1 hS (fun _ _ z => z) (fun _ z => z) hLf hF
  cases hv
  obtain ⟨t2, a1, b1⟩ := K r h1 h2 T'.heap (locs ++ L) ls (by rw [e1]; exact hP') k3 hL T' rfl X'
  exact ⟨t2, stp t2 a1, b1⟩
theorem xr_callE {d0 : Drawn} (C : xj_C p (s.setDrawn d0) m args meth c G own cc nL) (hd0 : s.drawn.sameBut d0 lw_cs) {κ k n idx fr lo : Nat} {y : MethodName} {b : ByteArray} {q : xw_M × Nat × Int32 × Int32} (hc : xw_cv own idx κ y b n (some .double) 0) (hk : xw_kd k = κ) (hM : xc_E l G y b n fr lo [.ref (xg_ad G k)] h q) (hR9 : fr + 1 ≤ R.frames ∧ 8 + (n + 11) + lo ≤ R.locals) (hst : (st.map fun v => v.category).sum ≤ 8) (hcs : cells ≤ R.cells ∧ slots ≤ R.slots) (d : decode cc pc = .ok (.invokevirtual idx, 3)) (K : ∀ (x : UInt64) (d' : Drawn), xw_dd q.2 x → s.drawn.sameBut d' lw_cs → xj_X p l e R (s.setDrawn d') m args below meth c G nL cells slots Q q.1 lv (pc + 3) (.double x :: st)) : xj_X p l e R (s.setDrawn d0) m args below meth c G nL cells slots Q h lv pc (.ref (xg_ad G k) :: st) := by
  intro H locs ls hP hS hL
  obtain ⟨hw, ⟨r9, h19, h29⟩, h3⟩ := id hc
  obtain ⟨-, -, -, g4⟩ := xw_cl κ r9 h19
  have hl : k < xg_N G := xj_ltN C hk (by omega)
  have he : (xw_ws G h)[k]? = some (xg_ad G k, .inr (κ, xw_fs (xg_ad G) κ k (h k))) := by rw [xw_get hl, xw_ce, hk, xw_ct_lo g4]
  have hrv := va_recv C.2.2.2.2.2.1 hP h19 he
  rw [h29] at hrv
  have hrun := va_runV_D (As := []) (g := F0 m pc ls (.ref (xg_ad G k) :: st)) (rest := st) (p := p) (e := e) (R := R) (below := below) (meth := meth) (locs := locs) (cells := cells) (slots := slots) ⟨C.1, C.2.1, C.2.2.1, C.2.2.2.1, C.2.2.2.2.1⟩ hM (cwV 0 C.2.2.2.2.1 (xw_goodV hc) rfl rfl rfl ⟨rfl, h3⟩ hR9) ⟨xw_blind, hrv, fun U hU hW => ⟨rfl, xj_S C hP hS hU hW⟩⟩ rfl rfl hL.1 rfl (lv_room hst) d ⟨by omega, by omega⟩
  intro T hT X
  obtain ⟨v, st₀, t, T', L, d', hd', h0, X', hLf, e1, e2, ⟨⟨x, hv, hx⟩, hP', hF⟩, stp⟩ := hrun T hT X
  obtain ⟨k1, k2, k3⟩ := vx_keep h0 e1 hS (fun _ _ z => z) (fun _ z => z) hLf hF
  cases hv
  obtain ⟨t2, a1, b1⟩ := K x d' hx (hd0.trans hd') T'.heap (locs ++ L) ls (by rw [e1]; exact hP') k3 hL T' rfl X'
  exact ⟨t2, stp t2 a1, b1⟩
theorem xr_dcmp (C : xj_C p s m args meth c G own cc nL) {x y : UInt64} {op : CmpOp} (d : decode cc pc = .ok (.dcmp op, 1)) (K : xj_X p l e R s m args below meth c G nL cells slots Q h lv (pc + 1) (.int (Op.cmpValue (FP.dcmp x y) op) :: st)) : xj_X p l e R s m args below meth c G nL cells slots Q h lv pc (.double y :: .double x :: st) := fun H locs ls hP hS hL => lv_dcmp C.1 C.2.1 d (K H locs ls hP hS hL)
theorem xj_CD {d0 d1 : Drawn} (C : xj_C p (s.setDrawn d0) m args meth c G own cc nL) : xj_C p (s.setDrawn d1) m args meth c G own cc nL :=
  ⟨C.1, C.2.1, C.2.2.1, C.2.2.2.1, fun w hw => (Cond.before_setDrawn args s d1 w).trans ((Cond.before_setDrawn args s d0 w).symm.trans (C.2.2.2.2.1 w hw)), C.2.2.2.2.2.1, C.2.2.2.2.2.2.1, C.2.2.2.2.2.2.2.1.same rfl, C.2.2.2.2.2.2.2.2⟩
end XL
