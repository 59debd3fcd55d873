section ZD
variable {p : Program} {l : Launch} {e : Env} {R : Room} {s : State} {m : MethodId} {args : Array Value} {below : List Frame} {meth : Method} {c : Code} {G : xw_G} {nL cells slots : Nat} {Q : State → Prop}
variable {cc : ByteArray} {own : String} {pc : Nat} {lv : List (Option Value)} {st : List Value} {Pr : Heap → Prop}
theorem zj_CD {d0 d1 : Drawn} (C : zj_C p (s.setDrawn d0) m args meth c G own cc nL) : zj_C p (s.setDrawn d1) m args meth c G own cc nL :=
  ⟨C.1, C.2.1, C.2.2.1, C.2.2.2.1, fun w hw => (Cond.before_setDrawn args s d1 w).trans ((Cond.before_setDrawn args s d0 w).symm.trans (C.2.2.2.2.1 w hw)), C.2.2.2.2.2.1, C.2.2.2.2.2.2.1, C.2.2.2.2.2.2.2.1.same rfl, C.2.2.2.2.2.2.2.2.1.same rfl, C.2.2.2.2.2.2.2.2.2.1, C.2.2.2.2.2.2.2.2.2.2.1, va_X.moved (u := s.setDrawn d0) (U := s.setDrawn d1) (Vm.Alike.refl _) C.2.2.2.2.2.2.2.2.2.2.2.1, C.2.2.2.2.2.2.2.2.2.2.2.2⟩
/-- the class's mean, asked for -/
theorem zr_callE {d0 : Drawn} (C : zj_C p (s.setDrawn d0) m args meth c G own cc nL) (hd0 : s.drawn.sameBut d0 lw_cs) {Ch : Nat → Prop} {y0 yd : Nat → Nat} {h : xw_M} {y : yz_Y} {n idx fr lo : Nat} {y9 : MethodName} {b : ByteArray} {q : xw_M × Nat × Int32 × Int32} (hc : xw_cv own idx 5 y9 b n (some .double) 0) (hM : xc_E l G y9 b n fr lo [.ref (xg_ad G 350)] h q) (hR9 : fr + 1 ≤ R.frames ∧ 8 + (n + 11) + lo ≤ R.locals) (hst : (st.map fun v => v.category).sum ≤ 8) (hcs : cells ≤ R.cells ∧ slots ≤ R.slots) (d : decode cc pc = .ok (.invokevirtual idx, 3)) (K : ∀ (x : UInt64) (d' : Drawn), xw_dd q.2 x → s.drawn.sameBut d' lw_cs → zj_X p l e R (s.setDrawn d') m args below meth c G nL cells slots Q (yz_W G Ch y0 yd q.1 y) lv (pc + 3) (.double x :: st)) : zj_X p l e R (s.setDrawn d0) m args below meth c G nL cells slots Q (yz_W G Ch y0 yd h y) lv pc (.ref (xg_ad G 350) :: st) := by
  intro H locs ls hP hS hL
  obtain ⟨hw, ⟨r9, h19, h29⟩, h3⟩ := id hc
  have hG := C.2.2.2.2.2.2.1
  have hl : 350 < xg_N G := hG.1
  have he : (xw_ws G h)[350]? = some (xg_ad G 350, .inr (5, xw_fs (xg_ad G) 5 350 (h 350))) := by rw [xw_get hl]; rfl
  have hrv := va_recv C.2.2.2.2.2.1 hP.1 h19 he
  rw [h29] at hrv
  have hrun := va_runV_D (As := []) (g := F0 m pc ls (.ref (xg_ad G 350) :: st)) (rest := st) (p := p) (e := e) (R := R) (below := below) (meth := meth) (locs := locs) (cells := cells) (slots := slots) ⟨C.1, C.2.1, C.2.2.1, C.2.2.2.1, C.2.2.2.2.1⟩ hM (cwV 0 C.2.2.2.2.1 (xw_goodV hc) rfl rfl rfl ⟨rfl, h3⟩ hR9) ⟨xw_blind, hrv, fun U hU hW => ⟨rfl, by rw [hU]; exact hP.1, va_K.moved hW.alike C.2.2.2.2.2.1, hG, by rw [hU]; exact (C.2.2.2.2.2.2.2.1.warm hW hS.2.1).AB hG⟩⟩ rfl rfl hL.1 rfl (lv_room hst) d ⟨by omega, by omega⟩
  intro T hT X
  obtain ⟨v, st₀, t, T', L, d', hd', h0, X', hLf, e1, e2, ⟨⟨x, hv, hx⟩, hP', hF⟩, stp⟩ := hrun T hT X
  obtain ⟨k1, k2, k3⟩ := vx_keep h0 e1 hS (fun q _ z => xw_AB hG q z) (fun q z => xw_AB hG q z) hLf hF
  cases hv
  obtain ⟨t2, a1, b1⟩ := K x d' hx (hd0.trans hd') T'.heap (locs ++ L) ls ⟨by rw [e1]; exact hP', fun k hk => (hP.2.1 k hk).kept (k2 _ (yz_lt hP hk) (fun ⟨i, g1, g2⟩ => hP.2.2.1.2.2.1 k i hk g1 g2)), hP.2.2.1, hP.2.2.2⟩ k3 hL T' rfl X'
  exact ⟨t2, stp t2 a1, b1⟩
theorem zr_ifnonnull (C : zj_C p s m args meth c G own cc nL) {x : Nat} {off : Int} {tgt : Nat} (d : decode cc pc = .ok (.ifnonnull off, 3)) (ht : (pc : Int) + off = (tgt : Int)) (K : zj_X p l e R s m args below meth c G nL cells slots Q Pr lv tgt st) : zj_X p l e R s m args below meth c G nL cells slots Q Pr lv pc (.ref x :: st) := fun H locs ls hP hS hL => lv_ifnonnull C.1 C.2.1 d ht (K H locs ls hP hS hL)
end ZD
theorem xf_nan {x : UInt64} (h : isNaN64 x = true) : FP.Core.val64 x = .nan := by
  refine (FP.Core.dIsNaN_iff x).mp ((FP.Core.isNaN_bits x).mpr ?_)
  have h1 := isNaN64_iff.mp h
  rw [show (0x7fffffffffffffff : Nat) = 2 ^ 63 - 1 from rfl, Nat.and_two_pow_sub_one_eq_mod] at h1
  exact h1
theorem zf_num {a b : Int32} (hb : b ≠ 0) : FP.Core.val64 (FP.ddiv (FP.i2d a) (FP.i2d b)) ≠ .nan := fun z => by
  have hn : FP.Core.dIsNaN (FP.Core.ddiv (FP.Core.i2d a) (FP.Core.i2d b)) = false := FP.Core.ddiv_out (FP.Core.i2d_fin a).notNaN (FP.Core.i2d_fin b) (fun z => FP.Core.i2d_ne_zero hb ((FP.Core.zero_bits2 _).mp z))
  have h9 := (FP.Core.dIsNaN_iff _).mpr z
  rw [show FP.ddiv (FP.i2d a) (FP.i2d b) = FP.Core.ddiv (FP.Core.i2d a) (FP.Core.i2d b) from rfl, hn] at h9
  cases h9
/-- two quotients by what isn't 0 are one -/
theorem zf_one {a b : Int32} (hb : b ≠ 0) {x : UInt64} (hx : alike64 x (FP.ddiv (FP.i2d a) (FP.i2d b)) = true) : x = FP.ddiv (FP.i2d a) (FP.i2d b) := by
  unfold alike64 at hx
  rw [Bool.or_eq_true, decide_eq_true_eq, Bool.and_eq_true] at hx
  rcases hx with h | ⟨h1, h2⟩
  · exact h
  · exact absurd (xf_nan h2) (zf_num hb)

