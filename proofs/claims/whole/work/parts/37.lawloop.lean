/-! two means that come out of one quotient: the law takes them for one -/
theorem xf_nan {x : UInt64} (h : isNaN64 x = true) : FP.Core.val64 x = .nan := by
  refine (FP.Core.dIsNaN_iff x).mp ((FP.Core.isNaN_bits x).mpr ?_)
  have h1 := isNaN64_iff.mp h
  rw [show (0x7fffffffffffffff : Nat) = 2 ^ 63 - 1 from rfl, Nat.and_two_pow_sub_one_eq_mod] at h1
  exact h1
theorem xf_cmp {d : Nat × Int32 × Int32} {x y : UInt64} (hx : xw_dd d x) (hy : xw_dd d y) : Op.cmpValue (FP.dcmp x y) CmpOp.l = 0 ∨ (¬ Op.cmpValue (FP.dcmp x x) CmpOp.l = 0 ∧ ¬ Op.cmpValue (FP.dcmp y y) CmpOp.l = 0) := by
  by_cases hxy : x = y
  · subst hxy
    by_cases hn : FP.Core.val64 x = .nan
    · right
      have h1 : FP.dcmp x x = none := (FP.Core.dcmp_none x x).mpr (Or.inl hn)
      rw [h1]
      exact ⟨by decide, by decide⟩
    · left
      have h1 : FP.dcmp x x = some .eq := FP.Core.dcmp_self hn
      rw [h1]
      rfl
  · right
    have key : isNaN64 x = true ∧ isNaN64 y = true := by
      rcases hx with ⟨h1, h2⟩ | ⟨h1, h2⟩ <;> rcases hy with ⟨g1, g2⟩ | ⟨g1, g2⟩
      · exact absurd (h2.trans g2.symm) hxy
      · omega
      · omega
      · unfold alike64 at h2 g2
        rw [Bool.or_eq_true, decide_eq_true_eq, Bool.and_eq_true] at h2 g2
        rcases h2 with h2 | h2 <;> rcases g2 with g2 | g2
        · exact absurd (h2.trans g2.symm) hxy
        · exact ⟨by rw [h2]; exact g2.2, g2.1⟩
        · exact ⟨h2.1, by rw [g2]; exact h2.2⟩
        · exact ⟨h2.1, g2.1⟩
    have h1 : FP.dcmp x x = none := (FP.Core.dcmp_none x x).mpr (Or.inl (xf_nan key.1))
    have h2 : FP.dcmp y y = none := (FP.Core.dcmp_none y y).mpr (Or.inl (xf_nan key.2))
    rw [h1, h2]
    exact ⟨by decide, by decide⟩
theorem xr_cif_eq {R : Room} {nL cells slots : Nat} {Q : State → Prop} {cc : ByteArray} {own : String} {pc : Nat} {h : xw_M} {lv : List (Option Value)} {st : List Value} {p : Program} {l : Launch} {e : Env} {s : State} {m : MethodId} {args : Array Value} {below : List Frame} {meth : Method} {c : Code} {G : xw_G} (C : xj_C p s m args meth c G own cc nL) {x : Int32} {off : Int} {tgt : Nat} (d : decode cc pc = .ok (.ifCond .eq off, 3)) (ht : (pc : Int) + off = (tgt : Int)) (kt : x = 0 → xj_X p l e R s m args below meth c G nL cells slots Q h lv tgt st) (kf : ¬ x = 0 → xj_X p l e R s m args below meth c G nL cells slots Q h lv (pc + 3) st) : xj_X p l e R s m args below meth c G nL cells slots Q h lv pc (.int x :: st) := fun H locs ls hP hS hL => lv_if_eq C.1 C.2.1 d ht (fun z => kt z H locs ls hP hS hL) (fun z => kf z H locs ls hP hS hL)
theorem xr_cif_ne {R : Room} {nL cells slots : Nat} {Q : State → Prop} {cc : ByteArray} {own : String} {pc : Nat} {h : xw_M} {lv : List (Option Value)} {st : List Value} {p : Program} {l : Launch} {e : Env} {s : State} {m : MethodId} {args : Array Value} {below : List Frame} {meth : Method} {c : Code} {G : xw_G} (C : xj_C p s m args meth c G own cc nL) {x : Int32} {off : Int} {tgt : Nat} (d : decode cc pc = .ok (.ifCond .ne off, 3)) (ht : (pc : Int) + off = (tgt : Int)) (kt : ¬ x = 0 → xj_X p l e R s m args below meth c G nL cells slots Q h lv tgt st) (kf : x = 0 → xj_X p l e R s m args below meth c G nL cells slots Q h lv (pc + 3) st) : xj_X p l e R s m args below meth c G nL cells slots Q h lv pc (.int x :: st) := fun H locs ls hP hS hL => lv_if_ne C.1 C.2.1 d ht (fun z => kt z H locs ls hP hS hL) (fun z => kf z H locs ls hP hS hL)
set_option maxRecDepth 20000 in
theorem cv_RL_173 : xw_cv RL 173 5 yX5_meanTurns cX5_meanTurns 3 (some .double) 0 := ⟨by decide +kernel, ⟨_, rfl, rfl⟩, by decide +kernel, by decide +kernel, by decide +kernel⟩
set_option maxRecDepth 20000 in
theorem cv_RL_177 : xw_cv RL 177 6 yX6_meanTurns cX6_meanTurns 3 (some .double) 0 := ⟨by decide +kernel, ⟨_, rfl, rfl⟩, by decide +kernel, by decide +kernel, by decide +kernel⟩
def lwc_26 (xs : Nat → Int32) (L : Nat) (a4 : Int32) (h : xw_M) : Option xw_M := (mX5_meanTurns 350 h).bind fun r1 => (mX6_meanTurns 351 r1.1).bind fun r2 => if r1.2 = r2.2 then some r2.1 else none
set_option maxHeartbeats 4000000 in
set_option maxRecDepth 100000 in
theorem lwp_26 {p : Program} {l : Launch} {e : Env} {s : State} {m : MethodId} {args : Array Value} {below : List Frame} {meth : Method} {c : Code} {G : xw_G} {d0 : Drawn} (C : xj_C p (s.setDrawn d0) m args meth c G RL cL_law 9) (hd0 : s.drawn.sameBut d0 lw_cs) {b L : Nat} {xs : Nat → Int32} {ce sl : Nat} (hce : ce + 9 ≤ 601024) (hsl : sl + 64 ≤ 7293034) {Q : State → Prop} {q : xw_M} {a4 : Int32}
    (K : ∀ h' : xw_M, some h' = some q → ∀ d' : Drawn, s.drawn.sameBut d' lw_cs → xj_X p l e room_1 (s.setDrawn d') m args below meth c G 9 ce sl Q h' [some (.ref b), some (.ref (xg_ad G 350)), some (.ref (xg_ad G 351)), some (.ref (xg_ad G 358)), some (.int a4), none, none, none, none] 1391 []) {h : xw_M} (hR : lwc_26 xs L a4 h = some q) : xj_X p l e room_1 (s.setDrawn d0) m args below meth c G 9 ce sl Q h [some (.ref b), some (.ref (xg_ad G 350)), some (.ref (xg_ad G 351)), some (.ref (xg_ad G 358)), some (.int a4), none, none, none, none] 1336 [] := by
  unfold lwc_26 at hR
  obtain ⟨r1, hr1, hR⟩ := xo_b hR
  obtain ⟨r2, hr2, hR⟩ := xo_b hR
  have heq : r1.2 = r2.2 := Classical.byContradiction fun z => by rw [if_neg z] at hR; cases hR
  have hR3 : some r2.1 = some q := xo_t hR heq
  refine xr_aload_n C dL_law_1336 rfl ?_
  refine xr_callE C hd0 (st := []) cv_RL_173 kd_350 (mcX5_meanTurns l G kd_350 hr1) ⟨Nat.le_of_ble_eq_true rfl, Nat.le_of_ble_eq_true rfl⟩ (Nat.le_of_ble_eq_true rfl) ⟨by show ce ≤ 601024; omega, by show sl ≤ 7293034; omega⟩ dL_law_1337 (fun x d1 hx hd1 => ?_)
  have C := xj_CD (d1 := d1) C
  refine xr_dstore C dL_law_1340 rfl (by decide) ?_
  refine xr_aload_n C dL_law_1342 rfl ?_
  refine xr_callE C hd1 (st := []) cv_RL_177 kd_351 (mcX6_meanTurns l G kd_351 hr2) ⟨Nat.le_of_ble_eq_true rfl, Nat.le_of_ble_eq_true rfl⟩ (Nat.le_of_ble_eq_true rfl) ⟨by show ce ≤ 601024; omega, by show sl ≤ 7293034; omega⟩ dL_law_1343 (fun y d2 hy hd2 => ?_)
  have C := xj_CD (d1 := d2) C
  rw [← heq] at hy
  have hcmp := xf_cmp hx hy
  refine xr_dstore C dL_law_1346 rfl (by decide) ?_
  refine xr_dload C dL_law_1348 rfl ?_
  refine xr_dload C dL_law_1350 rfl ?_
  refine xr_dcmp C dL_law_1352 ?_
  refine xr_cif_eq (tgt := 1374) C dL_law_1353 (by decide) (fun hc => ?_) (fun hc => ?_)
  · refine xr_goto (tgt := 1391) C dL_law_1374 (by decide) ?_
    exact xr_sub (lv9 := [some (.ref b), some (.ref (xg_ad G 350)), some (.ref (xg_ad G 351)), some (.ref (xg_ad G 358)), some (.int a4), none, none, none, none]) (And.intro rfl (And.intro rfl (And.intro rfl (And.intro rfl (And.intro rfl trivial))))) (K _ hR3 _ hd2)
  · obtain ⟨h1, h2⟩ := hcmp.resolve_left hc
    refine xr_dload C dL_law_1356 rfl ?_
    refine xr_dload C dL_law_1358 rfl ?_
    refine xr_dcmp C dL_law_1360 ?_
    refine xr_cif_eq (tgt := 1372) C dL_law_1361 (by decide) (fun hc2 => absurd hc2 h1) (fun hc2 => ?_)
    refine xr_dload C dL_law_1364 rfl ?_
    refine xr_dload C dL_law_1366 rfl ?_
    refine xr_dcmp C dL_law_1368 ?_
    refine xr_cif_ne (tgt := 1374) C dL_law_1369 (by decide) (fun hc3 => ?_) (fun hc3 => absurd hc3 h2)
    refine xr_goto (tgt := 1391) C dL_law_1374 (by decide) ?_
    exact xr_sub (lv9 := [some (.ref b), some (.ref (xg_ad G 350)), some (.ref (xg_ad G 351)), some (.ref (xg_ad G 358)), some (.int a4), none, none, none, none]) (And.intro rfl (And.intro rfl (And.intro rfl (And.intro rfl (And.intro rfl trivial))))) (K _ hR3 _ hd2)
/-- one turn of the law: the memory behind it, none where an answer differs -/
def lw_step (xs : Nat → Int32) (L : Nat) (i : Int32) (h : xw_M) : Option xw_M := if xo_ix i L = true then (let op := xs i.toNatClampNeg &&& 31; if op = 0 then lwc_0 xs L i h else if op = 1 then lwc_1 xs L i h else if op = 2 then lwc_2 xs L i h else if op = 3 then lwc_3 xs L i h else if op = 4 then lwc_4 xs L i h else if op = 5 then lwc_5 xs L i h else if op = 6 then lwc_6 xs L i h else if op = 7 then lwc_7 xs L i h else if op = 8 then lwc_8 xs L i h else if op = 9 then lwc_9 xs L i h else if op = 10 then lwc_10 xs L i h else if op = 11 then lwc_11 xs L i h else if op = 12 then lwc_12 xs L i h else if op = 13 then lwc_13 xs L i h else if op = 14 then lwc_14 xs L i h else if op = 15 then lwc_15 xs L i h else if op = 16 then lwc_16 xs L i h else if op = 17 then lwc_17 xs L i h else if op = 18 then lwc_18 xs L i h else if op = 19 then lwc_19 xs L i h else if op = 20 then lwc_20 xs L i h else if op = 21 then lwc_21 xs L i h else if op = 22 then lwc_22 xs L i h else if op = 23 then lwc_23 xs L i h else if op = 24 then lwc_24 xs L i h else if op = 25 then lwc_25 xs L i h else if op = 26 then lwc_26 xs L i h else if op = 27 then lwc_27 xs L i h else some h) else none
/-- the law as a pure function -/
def lw_pure (xs : Nat → Int32) (L : Nat) : Nat → Int32 → xw_M → Bool
  | 0, _, _ => false
  | n + 1, i, h => if Int32.ofNat L - 5 < i then true else match lw_step xs L i h with
    | some h' => lw_pure xs L n (i + 5) h'
    | none => false
theorem lw_tabOut {x : Int32} (h0 : ¬ x &&& 31 = 0) (h1 : ¬ x &&& 31 = 1) (h2 : ¬ x &&& 31 = 2) (h3 : ¬ x &&& 31 = 3) (h4 : ¬ x &&& 31 = 4) (h5 : ¬ x &&& 31 = 5) (h6 : ¬ x &&& 31 = 6) (h7 : ¬ x &&& 31 = 7) (h8 : ¬ x &&& 31 = 8) (h9 : ¬ x &&& 31 = 9) (h10 : ¬ x &&& 31 = 10) (h11 : ¬ x &&& 31 = 11) (h12 : ¬ x &&& 31 = 12) (h13 : ¬ x &&& 31 = 13) (h14 : ¬ x &&& 31 = 14) (h15 : ¬ x &&& 31 = 15) (h16 : ¬ x &&& 31 = 16) (h17 : ¬ x &&& 31 = 17) (h18 : ¬ x &&& 31 = 18) (h19 : ¬ x &&& 31 = 19) (h20 : ¬ x &&& 31 = 20) (h21 : ¬ x &&& 31 = 21) (h22 : ¬ x &&& 31 = 22) (h23 : ¬ x &&& 31 = 23) (h24 : ¬ x &&& 31 = 24) (h25 : ¬ x &&& 31 = 25) (h26 : ¬ x &&& 31 = 26) (h27 : ¬ x &&& 31 = 27) : (x &&& 31).toInt < 0 ∨ 27 < (x &&& 31).toInt := by
  obtain ⟨j, hj, e⟩ := pk_andE x (m := 31) 5 (by decide)
  right
  rw [e, nI_toInt (by omega)]
  have h : ¬ j < 28 := by
    intro hlt
    rcases (show j = 0 ∨ j = 1 ∨ j = 2 ∨ j = 3 ∨ j = 4 ∨ j = 5 ∨ j = 6 ∨ j = 7 ∨ j = 8 ∨ j = 9 ∨ j = 10 ∨ j = 11 ∨ j = 12 ∨ j = 13 ∨ j = 14 ∨ j = 15 ∨ j = 16 ∨ j = 17 ∨ j = 18 ∨ j = 19 ∨ j = 20 ∨ j = 21 ∨ j = 22 ∨ j = 23 ∨ j = 24 ∨ j = 25 ∨ j = 26 ∨ j = 27 by omega) with rfl | rfl | rfl | rfl | rfl | rfl | rfl | rfl | rfl | rfl | rfl | rfl | rfl | rfl | rfl | rfl | rfl | rfl | rfl | rfl | rfl | rfl | rfl | rfl | rfl | rfl | rfl | rfl
    · exact h0 e
    · exact h1 e
    · exact h2 e
    · exact h3 e
    · exact h4 e
    · exact h5 e
    · exact h6 e
    · exact h7 e
    · exact h8 e
    · exact h9 e
    · exact h10 e
    · exact h11 e
    · exact h12 e
    · exact h13 e
    · exact h14 e
    · exact h15 e
    · exact h16 e
    · exact h17 e
    · exact h18 e
    · exact h19 e
    · exact h20 e
    · exact h21 e
    · exact h22 e
    · exact h23 e
    · exact h24 e
    · exact h25 e
    · exact h26 e
    · exact h27 e
  omega
set_option maxHeartbeats 4000000 in
set_option maxRecDepth 100000 in
theorem lw_turn {p : Program} {l : Launch} {e : Env} {s : State} {m : MethodId} {args : Array Value} {below : List Frame} {meth : Method} {c : Code} {G : xw_G} {d0 : Drawn} (C : xj_C p (s.setDrawn d0) m args meth c G RL cL_law 9) (hd0 : s.drawn.sameBut d0 lw_cs) {b L : Nat} {xs : Nat → Int32} (hX : va_X b L xs (s.setDrawn d0) (s.setDrawn d0).heap) (hbl : b < (s.setDrawn d0).heap.size) (hz : xg_z G = (s.setDrawn d0).heap.size) (hN : xg_N G = 359) (hl : l.stackTraces = false) {ce sl : Nat} (hce : ce + 9 ≤ 601024) (hsl : sl + 64 ≤ 7293034) {Q : State → Prop} {q : xw_M} {a4 : Int32}
    (K : ∀ h' : xw_M, some h' = some q → ∀ ce' sl' : Nat, ce' ≤ ce + 9 → sl' ≤ sl + 64 → ∀ d' : Drawn, s.drawn.sameBut d' lw_cs → xj_X p l e room_1 (s.setDrawn d') m args below meth c G 9 ce' sl' Q h' [some (.ref b), some (.ref (xg_ad G 350)), some (.ref (xg_ad G 351)), some (.ref (xg_ad G 358)), some (.int a4), none, none, none, none] 1391 []) {h : xw_M} (hR : lw_step xs L a4 h = some q) : xj_X p l e room_1 (s.setDrawn d0) m args below meth c G 9 ce sl Q h [some (.ref b), some (.ref (xg_ad G 350)), some (.ref (xg_ad G 351)), some (.ref (xg_ad G 358)), some (.int a4), none, none, none, none] 32 [] := by
    unfold lw_step at hR
    refine xr_aload_n C dL_law_32 rfl ?_
    refine xr_iload C dL_law_33 rfl ?_
    refine xr_sld C hX hbl hz dL_law_35 hR (fun hR => ?_)
    refine xr_bipush (v := 31) C dL_law_36 (by decide) ?_
    refine xr_iand C dL_law_38 ?_
    dsimp only at hR
    refine xo_if hR (fun hx0 hR => ?_) (fun hx0 hR => ?_)
    · refine xr_tabIn (off := 125) (tgt := 164) C dL_law_39 (by rw [hx0]; decide) (by rw [hx0]; decide) (by rw [hx0]; decide) (by decide) ?_
      exact lwp_0 C hX hbl hz hN hl hce hsl (fun h' hq ce' sl' a1 a2 => K h' hq ce' sl' a1 a2 _ hd0) hR
    refine xo_if hR (fun hx1 hR => ?_) (fun hx1 hR => ?_)
    · refine xr_tabIn (off := 181) (tgt := 220) C dL_law_39 (by rw [hx1]; decide) (by rw [hx1]; decide) (by rw [hx1]; decide) (by decide) ?_
      exact lwp_1 C hX hbl hz hN hl hce hsl (fun h' hq ce' sl' a1 a2 => K h' hq ce' sl' a1 a2 _ hd0) hR
    refine xo_if hR (fun hx2 hR => ?_) (fun hx2 hR => ?_)
    · refine xr_tabIn (off := 225) (tgt := 264) C dL_law_39 (by rw [hx2]; decide) (by rw [hx2]; decide) (by rw [hx2]; decide) (by decide) ?_
      exact lwp_2 C hX hbl hz hN hl hce hsl (fun h' hq ce' sl' a1 a2 => K h' hq ce' sl' a1 a2 _ hd0) hR
    refine xo_if hR (fun hx3 hR => ?_) (fun hx3 hR => ?_)
    · refine xr_tabIn (off := 317) (tgt := 356) C dL_law_39 (by rw [hx3]; decide) (by rw [hx3]; decide) (by rw [hx3]; decide) (by decide) ?_
      exact lwp_3 C hX hbl hz hN hl hce hsl (fun h' hq ce' sl' a1 a2 => K h' hq ce' sl' a1 a2 _ hd0) hR
    refine xo_if hR (fun hx4 hR => ?_) (fun hx4 hR => ?_)
    · refine xr_tabIn (off := 385) (tgt := 424) C dL_law_39 (by rw [hx4]; decide) (by rw [hx4]; decide) (by rw [hx4]; decide) (by decide) ?_
      exact lwp_4 C hX hbl hz hN hl hce hsl (fun h' hq ce' sl' a1 a2 => K h' hq ce' sl' a1 a2 _ hd0) hR
    refine xo_if hR (fun hx5 hR => ?_) (fun hx5 hR => ?_)
    · refine xr_tabIn (off := 441) (tgt := 480) C dL_law_39 (by rw [hx5]; decide) (by rw [hx5]; decide) (by rw [hx5]; decide) (by decide) ?_
      exact lwp_5 C hX hbl hz hN hl hce hsl (fun h' hq ce' sl' a1 a2 => K h' hq ce' sl' a1 a2 _ hd0) hR
    refine xo_if hR (fun hx6 hR => ?_) (fun hx6 hR => ?_)
    · refine xr_tabIn (off := 454) (tgt := 493) C dL_law_39 (by rw [hx6]; decide) (by rw [hx6]; decide) (by rw [hx6]; decide) (by decide) ?_
      exact lwp_6 C hX hbl hz hN hl hce hsl (fun h' hq ce' sl' a1 a2 => K h' hq ce' sl' a1 a2 _ hd0) hR
    refine xo_if hR (fun hx7 hR => ?_) (fun hx7 hR => ?_)
    · refine xr_tabIn (off := 467) (tgt := 506) C dL_law_39 (by rw [hx7]; decide) (by rw [hx7]; decide) (by rw [hx7]; decide) (by decide) ?_
      exact lwp_7 C hX hbl hz hN hl hce hsl (fun h' hq ce' sl' a1 a2 => K h' hq ce' sl' a1 a2 _ hd0) hR
    refine xo_if hR (fun hx8 hR => ?_) (fun hx8 hR => ?_)
    · refine xr_tabIn (off := 480) (tgt := 519) C dL_law_39 (by rw [hx8]; decide) (by rw [hx8]; decide) (by rw [hx8]; decide) (by decide) ?_
      exact lwp_8 C hX hbl hz hN hl hce hsl (fun h' hq ce' sl' a1 a2 => K h' hq ce' sl' a1 a2 _ hd0) hR
    refine xo_if hR (fun hx9 hR => ?_) (fun hx9 hR => ?_)
    · refine xr_tabIn (off := 493) (tgt := 532) C dL_law_39 (by rw [hx9]; decide) (by rw [hx9]; decide) (by rw [hx9]; decide) (by decide) ?_
      exact lwp_9 C hX hbl hz hN hl hce hsl (fun h' hq ce' sl' a1 a2 => K h' hq ce' sl' a1 a2 _ hd0) hR
    refine xo_if hR (fun hx10 hR => ?_) (fun hx10 hR => ?_)
    · refine xr_tabIn (off := 506) (tgt := 545) C dL_law_39 (by rw [hx10]; decide) (by rw [hx10]; decide) (by rw [hx10]; decide) (by decide) ?_
      exact lwp_10 C hX hbl hz hN hl hce hsl (fun h' hq ce' sl' a1 a2 => K h' hq ce' sl' a1 a2 _ hd0) hR
    refine xo_if hR (fun hx11 hR => ?_) (fun hx11 hR => ?_)
    · refine xr_tabIn (off := 519) (tgt := 558) C dL_law_39 (by rw [hx11]; decide) (by rw [hx11]; decide) (by rw [hx11]; decide) (by decide) ?_
      exact lwp_11 C hX hbl hz hN hl hce hsl (fun h' hq ce' sl' a1 a2 => K h' hq ce' sl' a1 a2 _ hd0) hR
    refine xo_if hR (fun hx12 hR => ?_) (fun hx12 hR => ?_)
    · refine xr_tabIn (off := 532) (tgt := 571) C dL_law_39 (by rw [hx12]; decide) (by rw [hx12]; decide) (by rw [hx12]; decide) (by decide) ?_
      exact lwp_12 C hX hbl hz hN hl hce hsl (fun h' hq ce' sl' a1 a2 => K h' hq ce' sl' a1 a2 _ hd0) hR
    refine xo_if hR (fun hx13 hR => ?_) (fun hx13 hR => ?_)
    · refine xr_tabIn (off := 588) (tgt := 627) C dL_law_39 (by rw [hx13]; decide) (by rw [hx13]; decide) (by rw [hx13]; decide) (by decide) ?_
      exact lwp_13 C hX hbl hz hN hl hce hsl (fun h' hq ce' sl' a1 a2 => K h' hq ce' sl' a1 a2 _ hd0) hR
    refine xo_if hR (fun hx14 hR => ?_) (fun hx14 hR => ?_)
    · refine xr_tabIn (off := 656) (tgt := 695) C dL_law_39 (by rw [hx14]; decide) (by rw [hx14]; decide) (by rw [hx14]; decide) (by decide) ?_
      exact lwp_14 C hX hbl hz hN hl hce hsl (fun h' hq ce' sl' a1 a2 => K h' hq ce' sl' a1 a2 _ hd0) hR
    refine xo_if hR (fun hx15 hR => ?_) (fun hx15 hR => ?_)
    · refine xr_tabIn (off := 712) (tgt := 751) C dL_law_39 (by rw [hx15]; decide) (by rw [hx15]; decide) (by rw [hx15]; decide) (by decide) ?_
      exact lwp_15 C hX hbl hz hN hl hce hsl (fun h' hq ce' sl' a1 a2 => K h' hq ce' sl' a1 a2 _ hd0) hR
    refine xo_if hR (fun hx16 hR => ?_) (fun hx16 hR => ?_)
    · refine xr_tabIn (off := 768) (tgt := 807) C dL_law_39 (by rw [hx16]; decide) (by rw [hx16]; decide) (by rw [hx16]; decide) (by decide) ?_
      exact lwp_16 C hX hbl hz hN hl hce hsl (fun h' hq ce' sl' a1 a2 => K h' hq ce' sl' a1 a2 _ hd0) hR
    refine xo_if hR (fun hx17 hR => ?_) (fun hx17 hR => ?_)
    · refine xr_tabIn (off := 824) (tgt := 863) C dL_law_39 (by rw [hx17]; decide) (by rw [hx17]; decide) (by rw [hx17]; decide) (by decide) ?_
      exact lwp_17 C hX hbl hz hN hl hce hsl (fun h' hq ce' sl' a1 a2 => K h' hq ce' sl' a1 a2 _ hd0) hR
    refine xo_if hR (fun hx18 hR => ?_) (fun hx18 hR => ?_)
    · refine xr_tabIn (off := 880) (tgt := 919) C dL_law_39 (by rw [hx18]; decide) (by rw [hx18]; decide) (by rw [hx18]; decide) (by decide) ?_
      exact lwp_18 C hX hbl hz hN hl hce hsl (fun h' hq ce' sl' a1 a2 => K h' hq ce' sl' a1 a2 _ hd0) hR
    refine xo_if hR (fun hx19 hR => ?_) (fun hx19 hR => ?_)
    · refine xr_tabIn (off := 936) (tgt := 975) C dL_law_39 (by rw [hx19]; decide) (by rw [hx19]; decide) (by rw [hx19]; decide) (by decide) ?_
      exact lwp_19 C hX hbl hz hN hl hce hsl (fun h' hq ce' sl' a1 a2 => K h' hq ce' sl' a1 a2 _ hd0) hR
    refine xo_if hR (fun hx20 hR => ?_) (fun hx20 hR => ?_)
    · refine xr_tabIn (off := 992) (tgt := 1031) C dL_law_39 (by rw [hx20]; decide) (by rw [hx20]; decide) (by rw [hx20]; decide) (by decide) ?_
      exact lwp_20 C hX hbl hz hN hl hce hsl (fun h' hq ce' sl' a1 a2 => K h' hq ce' sl' a1 a2 _ hd0) hR
    refine xo_if hR (fun hx21 hR => ?_) (fun hx21 hR => ?_)
    · refine xr_tabIn (off := 1048) (tgt := 1087) C dL_law_39 (by rw [hx21]; decide) (by rw [hx21]; decide) (by rw [hx21]; decide) (by decide) ?_
      exact lwp_21 C hX hbl hz hN hl hce hsl (fun h' hq ce' sl' a1 a2 => K h' hq ce' sl' a1 a2 _ hd0) hR
    refine xo_if hR (fun hx22 hR => ?_) (fun hx22 hR => ?_)
    · refine xr_tabIn (off := 1104) (tgt := 1143) C dL_law_39 (by rw [hx22]; decide) (by rw [hx22]; decide) (by rw [hx22]; decide) (by decide) ?_
      exact lwp_22 C hX hbl hz hN hl hce hsl (fun h' hq ce' sl' a1 a2 => K h' hq ce' sl' a1 a2 _ hd0) hR
    refine xo_if hR (fun hx23 hR => ?_) (fun hx23 hR => ?_)
    · refine xr_tabIn (off := 1160) (tgt := 1199) C dL_law_39 (by rw [hx23]; decide) (by rw [hx23]; decide) (by rw [hx23]; decide) (by decide) ?_
      exact lwp_23 C hX hbl hz hN hl hce hsl (fun h' hq ce' sl' a1 a2 => K h' hq ce' sl' a1 a2 _ hd0) hR
    refine xo_if hR (fun hx24 hR => ?_) (fun hx24 hR => ?_)
    · refine xr_tabIn (off := 1173) (tgt := 1212) C dL_law_39 (by rw [hx24]; decide) (by rw [hx24]; decide) (by rw [hx24]; decide) (by decide) ?_
      exact lwp_24 C hX hbl hz hN hl hce hsl (fun h' hq ce' sl' a1 a2 => K h' hq ce' sl' a1 a2 _ hd0) hR
    refine xo_if hR (fun hx25 hR => ?_) (fun hx25 hR => ?_)
    · refine xr_tabIn (off := 1241) (tgt := 1280) C dL_law_39 (by rw [hx25]; decide) (by rw [hx25]; decide) (by rw [hx25]; decide) (by decide) ?_
      exact lwp_25 C hX hbl hz hN hl hce hsl (fun h' hq ce' sl' a1 a2 => K h' hq ce' sl' a1 a2 _ hd0) hR
    refine xo_if hR (fun hx26 hR => ?_) (fun hx26 hR => ?_)
    · refine xr_tabIn (off := 1297) (tgt := 1336) C dL_law_39 (by rw [hx26]; decide) (by rw [hx26]; decide) (by rw [hx26]; decide) (by decide) ?_
      exact lwp_26 C hd0 hce hsl (fun h' hq d' hd' => K h' hq _ _ (by omega) (by omega) d' hd') hR
    refine xo_if hR (fun hx27 hR => ?_) (fun hx27 hR => ?_)
    · refine xr_tabIn (off := 1338) (tgt := 1377) C dL_law_39 (by rw [hx27]; decide) (by rw [hx27]; decide) (by rw [hx27]; decide) (by decide) ?_
      exact lwp_27 C hX hbl hz hN hl hce hsl (fun h' hq ce' sl' a1 a2 => K h' hq ce' sl' a1 a2 _ hd0) hR
    refine xr_tabOut (tgt := 1391) C dL_law_39 (lw_tabOut hx0 hx1 hx2 hx3 hx4 hx5 hx6 hx7 hx8 hx9 hx10 hx11 hx12 hx13 hx14 hx15 hx16 hx17 hx18 hx19 hx20 hx21 hx22 hx23 hx24 hx25 hx26 hx27) (by decide) ?_
    exact K _ hR _ _ (by omega) (by omega) _ hd0
set_option maxHeartbeats 4000000 in
set_option maxRecDepth 100000 in
theorem lw_loop {p : Program} {l : Launch} {e : Env} {s : State} {m : MethodId} {args : Array Value} {below : List Frame} {meth : Method} {c : Code} {G : xw_G} {b L : Nat} {xs : Nat → Int32} (C0 : xj_C p (s.setDrawn s.drawn) m args meth c G RL cL_law 9) (hX : va_X b L xs s s.heap) (hbl : b < s.heap.size) (hz : xg_z G = s.heap.size) (hN : xg_N G = 359) (hl : l.stackTraces = false) {Q : State → Prop}
    (KE : ∀ (h : xw_M) (lv : List (Option Value)) (ce sl : Nat) (d0 : Drawn), s.drawn.sameBut d0 lw_cs → ce ≤ 601024 → sl ≤ 7293034 → xj_X p l e room_1 (s.setDrawn d0) m args below meth c G 9 ce sl Q h lv 1397 []) :
    ∀ (n : Nat) (a4 : Int32) (h : xw_M) (ce sl : Nat) (d0 : Drawn), s.drawn.sameBut d0 lw_cs → ce + 9 * n ≤ 601024 → sl + 64 * n ≤ 7293034 → lw_pure xs L n a4 h = true → xj_X p l e room_1 (s.setDrawn d0) m args below meth c G 9 ce sl Q h [some (.ref b), some (.ref (xg_ad G 350)), some (.ref (xg_ad G 351)), some (.ref (xg_ad G 358)), some (.int a4), none, none, none, none] 23 [] := by
  intro n
  induction n with
  | zero => intro a4 h ce sl d0 hd0 h1 h2 hR; exact absurd hR (by unfold lw_pure; decide)
  | succ n ih =>
    intro a4 h ce sl d0 hd0 h1 h2 hR
    have C := xj_CD (d1 := d0) C0
    unfold lw_pure at hR
    refine xr_iload C dL_law_23 rfl ?_
    refine xr_aload_n C dL_law_25 rfl ?_
    refine xr_slen C hX hbl hz dL_law_26 ?_
    refine xr_iconst (v := 5) C dL_law_27 (by decide) ?_
    refine xr_isub C dL_law_28 ?_
    by_cases hgt : Int32.ofNat L - 5 < a4
    · refine xr_icmp_gt (tgt := 1397) (A := some ()) (B := none) (r := some ()) C dL_law_29 (by decide) (if_pos hgt) (fun _ => KE _ _ _ _ _ hd0 (by omega) (by omega)) (fun z => by cases z)
    · rw [if_neg hgt] at hR
      refine xr_icmp_gt (tgt := 1397) (A := none) (B := some ()) (r := some ()) C dL_law_29 (by decide) (if_neg hgt) (fun z => by cases z) (fun _ => ?_)
      cases hst : lw_step xs L a4 h with
      | none => rw [hst] at hR; cases hR
      | some h9 =>
        rw [hst] at hR
        refine lw_turn C hd0 hX hbl hz hN hl (by omega) (by omega) (fun h' hq ce' sl' a1 a2 d' hd' => ?_) hst
        have C := xj_CD (d1 := d') C0
        cases hq
        refine xr_iinc (v := 5) C dL_law_1391 rfl (by decide) rfl (by decide) ?_
        refine xr_goto (tgt := 23) C dL_law_1394 (by decide) ?_
        exact ih (a4 + 5) h9 ce' sl' d' hd' (by omega) (by omega) hR
