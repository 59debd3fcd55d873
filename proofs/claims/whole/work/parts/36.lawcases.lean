section
def lwc_0 (xs : Nat → Int32) (L : Nat) (a4 : Int32) (h : xw_M) : Option xw_M := if xo_ix (a4 + (1 : Int32)) L = true then (mL_addChannel 350 (xs (Int32.toNatClampNeg (a4 + (1 : Int32)))) 358 h).bind fun r1 => if xo_ix (a4 + (1 : Int32)) L = true then (mX6_addChannel 351 (xs (Int32.toNatClampNeg (a4 + (1 : Int32)))) r1.1).bind fun r2 => (mX6_thrown 351 r2.1).bind fun r3 => (if r3.2 = r1.2 then (if r1.2 = 0 then (if (lg_cmp (Int32.toInt64 (r3.1 358 0)) (Int32.toInt64 r2.2)) = 0 then some r3.1 else none) else some r3.1) else none) else none else none
def lwc_1 (xs : Nat → Int32) (L : Nat) (a4 : Int32) (h : xw_M) : Option xw_M := (mL_addFiber 350 358 h).bind fun r1 => (mX6_addFiber 351 r1.1).bind fun r2 => (mX6_thrown 351 r2.1).bind fun r3 => (if r3.2 = r1.2 then (if r1.2 = 0 then (if (lg_cmp (Int32.toInt64 (r3.1 358 0)) (Int32.toInt64 r2.2)) = 0 then some r3.1 else none) else some r3.1) else none)
def lwc_2 (xs : Nat → Int32) (L : Nat) (a4 : Int32) (h : xw_M) : Option xw_M := if xo_ix (a4 + (1 : Int32)) L = true then if xo_ix (a4 + (2 : Int32)) L = true then if xo_ix (a4 + (3 : Int32)) L = true then if xo_ix (a4 + (4 : Int32)) L = true then (mL_addStep 350 (xs (Int32.toNatClampNeg (a4 + (1 : Int32)))) (xs (Int32.toNatClampNeg (a4 + (2 : Int32)))) (xs (Int32.toNatClampNeg (a4 + (3 : Int32)))) (xs (Int32.toNatClampNeg (a4 + (4 : Int32)))) 358 h).bind fun r1 => if xo_ix (a4 + (1 : Int32)) L = true then if xo_ix (a4 + (2 : Int32)) L = true then if xo_ix (a4 + (3 : Int32)) L = true then if xo_ix (a4 + (4 : Int32)) L = true then (mX6_addStep 351 (xs (Int32.toNatClampNeg (a4 + (1 : Int32)))) (xs (Int32.toNatClampNeg (a4 + (2 : Int32)))) (xs (Int32.toNatClampNeg (a4 + (3 : Int32)))) (xs (Int32.toNatClampNeg (a4 + (4 : Int32)))) r1.1).bind fun r2 => (mX6_thrown 351 r2.1).bind fun r3 => (if r3.2 = r1.2 then (if r1.2 = 0 then (if (lg_cmp (Int32.toInt64 (r3.1 358 0)) (Int32.toInt64 r2.2)) = 0 then some r3.1 else none) else some r3.1) else none) else none else none else none else none else none else none else none else none
def lwc_3 (xs : Nat → Int32) (L : Nat) (a4 : Int32) (h : xw_M) : Option xw_M := if xo_ix (a4 + (1 : Int32)) L = true then if xo_ix (a4 + (2 : Int32)) L = true then (mL_pour 350 (xs (Int32.toNatClampNeg (a4 + (1 : Int32)))) (xs (Int32.toNatClampNeg (a4 + (2 : Int32)))) 358 h).bind fun r1 => if xo_ix (a4 + (1 : Int32)) L = true then if xo_ix (a4 + (2 : Int32)) L = true then (mX6_pour 351 (xs (Int32.toNatClampNeg (a4 + (1 : Int32)))) (xs (Int32.toNatClampNeg (a4 + (2 : Int32)))) r1.1).bind fun r2 => (mX6_thrown 351 r2.1).bind fun r3 => (if r3.2 = r1.2 then (if r1.2 = 0 then (if (lg_cmp (Int32.toInt64 (r3.1 358 0)) (Int32.toInt64 r2.2)) = 0 then some r3.1 else none) else some r3.1) else none) else none else none else none else none
def lwc_4 (xs : Nat → Int32) (L : Nat) (a4 : Int32) (h : xw_M) : Option xw_M := if xo_ix (a4 + (1 : Int32)) L = true then (mL_run 350 (xs (Int32.toNatClampNeg (a4 + (1 : Int32)))) 358 h).bind fun r1 => if xo_ix (a4 + (1 : Int32)) L = true then (mX6_run 351 (xs (Int32.toNatClampNeg (a4 + (1 : Int32)))) r1.1).bind fun r2 => (mX6_thrown 351 r2.1).bind fun r3 => (if r3.2 = r1.2 then (if r1.2 = 0 then (if (lg_cmp (Int32.toInt64 (r3.1 358 0)) (Int32.toInt64 r2.2)) = 0 then some r3.1 else none) else some r3.1) else none) else none else none
def lwc_5 (xs : Nat → Int32) (L : Nat) (a4 : Int32) (h : xw_M) : Option xw_M := (mX5_time 350 h).bind fun r1 => (mX6_time 351 r1.1).bind fun r2 => (if r1.2 = r2.2 then some r2.1 else none)
def lwc_6 (xs : Nat → Int32) (L : Nat) (a4 : Int32) (h : xw_M) : Option xw_M := (mX5_channels 350 h).bind fun r1 => (mX6_channels 351 r1.1).bind fun r2 => (if r1.2 = r2.2 then some r2.1 else none)
def lwc_7 (xs : Nat → Int32) (L : Nat) (a4 : Int32) (h : xw_M) : Option xw_M := (mX5_fibers 350 h).bind fun r1 => (mX6_fibers 351 r1.1).bind fun r2 => (if r1.2 = r2.2 then some r2.1 else none)
def lwc_8 (xs : Nat → Int32) (L : Nat) (a4 : Int32) (h : xw_M) : Option xw_M := (mX5_done 350 h).bind fun r1 => (mX6_done_ 351 r1.1).bind fun r2 => (if r1.2 = r2.2 then some r2.1 else none)
def lwc_9 (xs : Nat → Int32) (L : Nat) (a4 : Int32) (h : xw_M) : Option xw_M := (mX5_idleTurns 350 h).bind fun r1 => (mX6_idleTurns 351 r1.1).bind fun r2 => (if r1.2 = r2.2 then some r2.1 else none)
def lwc_10 (xs : Nat → Int32) (L : Nat) (a4 : Int32) (h : xw_M) : Option xw_M := (mX5_next 350 h).bind fun r1 => (mX6_next 351 r1.1).bind fun r2 => (if r1.2 = r2.2 then some r2.1 else none)
def lwc_11 (xs : Nat → Int32) (L : Nat) (a4 : Int32) (h : xw_M) : Option xw_M := (mX5_isStuck 350 h).bind fun r1 => (mX6_isStuck 351 r1.1).bind fun r2 => (if r1.2 = r2.2 then some r2.1 else none)
def lwc_12 (xs : Nat → Int32) (L : Nat) (a4 : Int32) (h : xw_M) : Option xw_M := if xo_ix (a4 + (1 : Int32)) L = true then (mL_held 350 (xs (Int32.toNatClampNeg (a4 + (1 : Int32)))) 358 h).bind fun r1 => if xo_ix (a4 + (1 : Int32)) L = true then (mX6_held 351 (xs (Int32.toNatClampNeg (a4 + (1 : Int32)))) r1.1).bind fun r2 => (mX6_thrown 351 r2.1).bind fun r3 => (if r3.2 = r1.2 then (if r1.2 = 0 then (if (lg_cmp (Int32.toInt64 (r3.1 358 0)) (Int32.toInt64 r2.2)) = 0 then some r3.1 else none) else some r3.1) else none) else none else none
def lwc_13 (xs : Nat → Int32) (L : Nat) (a4 : Int32) (h : xw_M) : Option xw_M := if xo_ix (a4 + (1 : Int32)) L = true then if xo_ix (a4 + (2 : Int32)) L = true then (mL_valueAt 350 (xs (Int32.toNatClampNeg (a4 + (1 : Int32)))) (xs (Int32.toNatClampNeg (a4 + (2 : Int32)))) 358 h).bind fun r1 => if xo_ix (a4 + (1 : Int32)) L = true then if xo_ix (a4 + (2 : Int32)) L = true then (mX6_valueAt 351 (xs (Int32.toNatClampNeg (a4 + (1 : Int32)))) (xs (Int32.toNatClampNeg (a4 + (2 : Int32)))) r1.1).bind fun r2 => (mX6_thrown 351 r2.1).bind fun r3 => (if r3.2 = r1.2 then (if r1.2 = 0 then (if (lg_cmp (Int32.toInt64 (r3.1 358 0)) (Int32.toInt64 r2.2)) = 0 then some r3.1 else none) else some r3.1) else none) else none else none else none else none
def lwc_14 (xs : Nat → Int32) (L : Nat) (a4 : Int32) (h : xw_M) : Option xw_M := if xo_ix (a4 + (1 : Int32)) L = true then (mL_sendersAt 350 (xs (Int32.toNatClampNeg (a4 + (1 : Int32)))) 358 h).bind fun r1 => if xo_ix (a4 + (1 : Int32)) L = true then (mX6_sendersAt 351 (xs (Int32.toNatClampNeg (a4 + (1 : Int32)))) r1.1).bind fun r2 => (mX6_thrown 351 r2.1).bind fun r3 => (if r3.2 = r1.2 then (if r1.2 = 0 then (if (lg_cmp (Int32.toInt64 (r3.1 358 0)) (Int32.toInt64 r2.2)) = 0 then some r3.1 else none) else some r3.1) else none) else none else none
def lwc_15 (xs : Nat → Int32) (L : Nat) (a4 : Int32) (h : xw_M) : Option xw_M := if xo_ix (a4 + (1 : Int32)) L = true then (mL_takersAt 350 (xs (Int32.toNatClampNeg (a4 + (1 : Int32)))) 358 h).bind fun r1 => if xo_ix (a4 + (1 : Int32)) L = true then (mX6_takersAt 351 (xs (Int32.toNatClampNeg (a4 + (1 : Int32)))) r1.1).bind fun r2 => (mX6_thrown 351 r2.1).bind fun r3 => (if r3.2 = r1.2 then (if r1.2 = 0 then (if (lg_cmp (Int32.toInt64 (r3.1 358 0)) (Int32.toInt64 r2.2)) = 0 then some r3.1 else none) else some r3.1) else none) else none else none
def lwc_16 (xs : Nat → Int32) (L : Nat) (a4 : Int32) (h : xw_M) : Option xw_M := if xo_ix (a4 + (1 : Int32)) L = true then (mL_stateOf 350 (xs (Int32.toNatClampNeg (a4 + (1 : Int32)))) 358 h).bind fun r1 => if xo_ix (a4 + (1 : Int32)) L = true then (mX6_stateOf 351 (xs (Int32.toNatClampNeg (a4 + (1 : Int32)))) r1.1).bind fun r2 => (mX6_thrown 351 r2.1).bind fun r3 => (if r3.2 = r1.2 then (if r1.2 = 0 then (if (lg_cmp (Int32.toInt64 (r3.1 358 0)) (Int32.toInt64 r2.2)) = 0 then some r3.1 else none) else some r3.1) else none) else none else none
def lwc_17 (xs : Nat → Int32) (L : Nat) (a4 : Int32) (h : xw_M) : Option xw_M := if xo_ix (a4 + (1 : Int32)) L = true then (mL_placeOf 350 (xs (Int32.toNatClampNeg (a4 + (1 : Int32)))) 358 h).bind fun r1 => if xo_ix (a4 + (1 : Int32)) L = true then (mX6_placeOf 351 (xs (Int32.toNatClampNeg (a4 + (1 : Int32)))) r1.1).bind fun r2 => (mX6_thrown 351 r2.1).bind fun r3 => (if r3.2 = r1.2 then (if r1.2 = 0 then (if (lg_cmp (Int32.toInt64 (r3.1 358 0)) (Int32.toInt64 r2.2)) = 0 then some r3.1 else none) else some r3.1) else none) else none else none
def lwc_18 (xs : Nat → Int32) (L : Nat) (a4 : Int32) (h : xw_M) : Option xw_M := if xo_ix (a4 + (1 : Int32)) L = true then (mL_sumOf 350 (xs (Int32.toNatClampNeg (a4 + (1 : Int32)))) 358 h).bind fun r1 => if xo_ix (a4 + (1 : Int32)) L = true then (mX6_sumOf 351 (xs (Int32.toNatClampNeg (a4 + (1 : Int32)))) r1.1).bind fun r2 => (mX6_thrown 351 r2.1).bind fun r3 => (if r3.2 = r1.2 then (if r1.2 = 0 then (if (lg_cmp (Int32.toInt64 (r3.1 358 0)) (Int32.toInt64 r2.2)) = 0 then some r3.1 else none) else some r3.1) else none) else none else none
def lwc_19 (xs : Nat → Int32) (L : Nat) (a4 : Int32) (h : xw_M) : Option xw_M := if xo_ix (a4 + (1 : Int32)) L = true then (mL_stepsDone 350 (xs (Int32.toNatClampNeg (a4 + (1 : Int32)))) 358 h).bind fun r1 => if xo_ix (a4 + (1 : Int32)) L = true then (mX6_stepsDone 351 (xs (Int32.toNatClampNeg (a4 + (1 : Int32)))) r1.1).bind fun r2 => (mX6_thrown 351 r2.1).bind fun r3 => (if r3.2 = r1.2 then (if r1.2 = 0 then (if (lg_cmp (Int32.toInt64 (r3.1 358 0)) (Int32.toInt64 r2.2)) = 0 then some r3.1 else none) else some r3.1) else none) else none else none
def lwc_20 (xs : Nat → Int32) (L : Nat) (a4 : Int32) (h : xw_M) : Option xw_M := if xo_ix (a4 + (1 : Int32)) L = true then (mL_turnsOf 350 (xs (Int32.toNatClampNeg (a4 + (1 : Int32)))) 358 h).bind fun r1 => if xo_ix (a4 + (1 : Int32)) L = true then (mX6_turnsOf 351 (xs (Int32.toNatClampNeg (a4 + (1 : Int32)))) r1.1).bind fun r2 => (mX6_thrown 351 r2.1).bind fun r3 => (if r3.2 = r1.2 then (if r1.2 = 0 then (if (lg_cmp (Int32.toInt64 (r3.1 358 0)) (Int32.toInt64 r2.2)) = 0 then some r3.1 else none) else some r3.1) else none) else none else none
def lwc_21 (xs : Nat → Int32) (L : Nat) (a4 : Int32) (h : xw_M) : Option xw_M := if xo_ix (a4 + (1 : Int32)) L = true then (mL_placeInLine 350 (xs (Int32.toNatClampNeg (a4 + (1 : Int32)))) 358 h).bind fun r1 => if xo_ix (a4 + (1 : Int32)) L = true then (mX6_placeInLine 351 (xs (Int32.toNatClampNeg (a4 + (1 : Int32)))) r1.1).bind fun r2 => (mX6_thrown 351 r2.1).bind fun r3 => (if r3.2 = r1.2 then (if r1.2 = 0 then (if (lg_cmp (Int32.toInt64 (r3.1 358 0)) (Int32.toInt64 r2.2)) = 0 then some r3.1 else none) else some r3.1) else none) else none else none
def lwc_22 (xs : Nat → Int32) (L : Nat) (a4 : Int32) (h : xw_M) : Option xw_M := if xo_ix (a4 + (1 : Int32)) L = true then (mL_turnsUntilDone 350 (xs (Int32.toNatClampNeg (a4 + (1 : Int32)))) 358 h).bind fun r1 => if xo_ix (a4 + (1 : Int32)) L = true then (mX6_turnsUntilDone 351 (xs (Int32.toNatClampNeg (a4 + (1 : Int32)))) r1.1).bind fun r2 => (mX6_thrown 351 r2.1).bind fun r3 => (if r3.2 = r1.2 then (if r1.2 = 0 then (if (lg_cmp (Int32.toInt64 (r3.1 358 0)) (Int32.toInt64 r2.2)) = 0 then some r3.1 else none) else some r3.1) else none) else none else none
def lwc_23 (xs : Nat → Int32) (L : Nat) (a4 : Int32) (h : xw_M) : Option xw_M := (mX5_turnsUntilStuck 350 h).bind fun r1 => (mX6_turnsUntilStuck 351 r1.1).bind fun r2 => (if r1.2 = r2.2 then some r2.1 else none)
def lwc_24 (xs : Nat → Int32) (L : Nat) (a4 : Int32) (h : xw_M) : Option xw_M := if xo_ix (a4 + (1 : Int32)) L = true then if xo_ix (a4 + (2 : Int32)) L = true then (mL_sumIn 350 (xs (Int32.toNatClampNeg (a4 + (1 : Int32)))) (xs (Int32.toNatClampNeg (a4 + (2 : Int32)))) 358 h).bind fun r1 => if xo_ix (a4 + (1 : Int32)) L = true then if xo_ix (a4 + (2 : Int32)) L = true then (mX6_sumIn 351 (xs (Int32.toNatClampNeg (a4 + (1 : Int32)))) (xs (Int32.toNatClampNeg (a4 + (2 : Int32)))) r1.1).bind fun r2 => (mX6_thrown 351 r2.1).bind fun r3 => (if r3.2 = r1.2 then (if r1.2 = 0 then (if (lg_cmp (Int32.toInt64 (r3.1 358 0)) (Int32.toInt64 r2.2)) = 0 then some r3.1 else none) else some r3.1) else none) else none else none else none else none
def lwc_25 (xs : Nat → Int32) (L : Nat) (a4 : Int32) (h : xw_M) : Option xw_M := if xo_ix (a4 + (1 : Int32)) L = true then (mL_placesWanted 350 (xs (Int32.toNatClampNeg (a4 + (1 : Int32)))) 358 h).bind fun r1 => if xo_ix (a4 + (1 : Int32)) L = true then (mX6_placesWanted 351 (xs (Int32.toNatClampNeg (a4 + (1 : Int32)))) r1.1).bind fun r2 => (mX6_thrown 351 r2.1).bind fun r3 => (if r3.2 = r1.2 then (if r1.2 = 0 then (if (lg_cmp (Int32.toInt64 (r3.1 358 0)) (Int32.toInt64 r2.2)) = 0 then some r3.1 else none) else some r3.1) else none) else none else none
def lwc_27 (xs : Nat → Int32) (L : Nat) (a4 : Int32) (h : xw_M) : Option xw_M := (mX5_digest 350 h).bind fun r1 => if r1.2.2 = 0 then (mX6_digest 351 r1.1).bind fun r2 => (if (lg_cmp r1.2.1 r2.2) = 0 then some r2.1 else none) else none
set_option maxHeartbeats 4000000 in
set_option maxRecDepth 100000 in
theorem lwp_0 {p : Program} {l : Launch} {e : Env} {s : State} {m : MethodId} {args : Array Value} {below : List Frame} {meth : Method} {c : Code} {G : xw_G} (C : xj_C p s m args meth c G RL cL_law 9) {b L : Nat} {xs : Nat → Int32} (hX : va_X b L xs s s.heap) (hbl : b < s.heap.size) (hz : xg_z G = s.heap.size) (hN : xg_N G = 359) (hl : l.stackTraces = false) {ce sl : Nat} (hce : ce + 9 ≤ 601024) (hsl : sl + 64 ≤ 7293034) {Q : State → Prop} {q : xw_M} {a4 : Int32}
    (K : ∀ h' : xw_M, some h' = some q → ∀ ce' sl' : Nat, ce' ≤ ce + 9 → sl' ≤ sl + 64 → xj_X p l e room_1 s m args below meth c G 9 ce' sl' Q h' [some (.ref b), some (.ref (xg_ad G 350)), some (.ref (xg_ad G 351)), some (.ref (xg_ad G 358)), some (.int a4), none, none, none, none] 1391 []) {h : xw_M} (hR : lwc_0 xs L a4 h = some q) : xj_X p l e room_1 s m args below meth c G 9 ce sl Q h [some (.ref b), some (.ref (xg_ad G 350)), some (.ref (xg_ad G 351)), some (.ref (xg_ad G 358)), some (.int a4), none, none, none, none] 164 [] := by
  unfold lwc_0 at hR
  refine xr_aload_n C dL_law_164 rfl ?_
  refine xr_aload_n C dL_law_165 rfl ?_
  refine xr_iload C dL_law_166 rfl ?_
  refine xr_iconst (v := 1) C dL_law_168 (by decide) ?_
  refine xr_iadd C dL_law_169 ?_
  refine xr_sld C hX hbl hz dL_law_170 hR (fun hR => ?_)
  refine xr_aload_n C dL_law_171 rfl ?_
  refine xr_callW C (st := []) [.ref (xg_ad G 350), .int (xs (Int32.toNatClampNeg (a4 + (1 : Int32)))), .ref (xg_ad G 358)] cw_77 (fun _ zz9 => mwL_addChannel l G hl kd_350 kd_358 zz9) rfl ⟨Nat.le_of_ble_eq_true rfl, Nat.le_of_ble_eq_true rfl⟩ (Nat.le_of_ble_eq_true rfl) ⟨by show _ ≤ 601024; omega, by show _ ≤ 7293034; omega⟩ rfl dL_law_172 hR (fun r1 hr1 hR => ?_)
  refine xr_istore C dL_law_175 rfl (by decide) ?_
  refine xr_aload_n C dL_law_177 rfl ?_
  refine xr_aload_n C dL_law_178 rfl ?_
  refine xr_iload C dL_law_179 rfl ?_
  refine xr_iconst (v := 1) C dL_law_181 (by decide) ?_
  refine xr_iadd C dL_law_182 ?_
  refine xr_sld C hX hbl hz dL_law_183 hR (fun hR => ?_)
  refine xr_callVi C (st := []) [.int (xs (Int32.toNatClampNeg (a4 + (1 : Int32))))] cv_RL_82 kd_351 (fun _ zz9 => mcX6_addChannel l G kd_351 zz9) rfl ⟨Nat.le_of_ble_eq_true rfl, Nat.le_of_ble_eq_true rfl⟩ (Nat.le_of_ble_eq_true rfl) ⟨by show _ ≤ 601024; omega, by show _ ≤ 7293034; omega⟩ rfl dL_law_184 hR (fun r2 hr2 hR => ?_)
  refine xr_istore C dL_law_187 rfl (by decide) ?_
  refine xr_aload_n C dL_law_189 rfl ?_
  refine xr_callVi C (st := []) [] cv_RL_83 kd_351 (fun _ zz9 => mcX6_thrown l G kd_351 zz9) rfl ⟨Nat.le_of_ble_eq_true rfl, Nat.le_of_ble_eq_true rfl⟩ (Nat.le_of_ble_eq_true rfl) ⟨by show _ ≤ 601024; omega, by show _ ≤ 7293034; omega⟩ rfl dL_law_190 hR (fun r3 hr3 hR => ?_)
  refine xr_iload C dL_law_193 rfl ?_
  refine xr_icmp_eq (tgt := 200) C dL_law_195 (by decide) hR (fun hR => ?_) (fun hR => ?_)
  · refine xr_iload C dL_law_200 rfl ?_
    refine xr_if_ne (tgt := 217) C dL_law_202 (by decide) hR (fun hR => ?_) (fun hR => ?_)
    · refine xr_goto (tgt := 1391) C dL_law_217 (by decide) ?_
      exact xr_sub (lv9 := [some (.ref b), some (.ref (xg_ad G 350)), some (.ref (xg_ad G 351)), some (.ref (xg_ad G 358)), some (.int a4), none, none, none, none]) (And.intro rfl (And.intro rfl (And.intro rfl (And.intro rfl (And.intro rfl trivial))))) (K _ hR _ _ (by omega) (by omega))
    · refine xr_aload_n C dL_law_205 rfl ?_
      refine xr_iconst (v := 0) C dL_law_206 (by decide) ?_
      refine xr_lald C kd_358 (xj_lt15 C kd_358) dL_law_207 ?_
      refine xr_iload C dL_law_208 rfl ?_
      refine xr_i2l C dL_law_210 ?_
      refine xr_lcmp C dL_law_211 ?_
      refine xr_if_eq (tgt := 217) C dL_law_212 (by decide) hR (fun hR => ?_) (fun hR => ?_)
      · refine xr_goto (tgt := 1391) C dL_law_217 (by decide) ?_
        exact xr_sub (lv9 := [some (.ref b), some (.ref (xg_ad G 350)), some (.ref (xg_ad G 351)), some (.ref (xg_ad G 358)), some (.int a4), none, none, none, none]) (And.intro rfl (And.intro rfl (And.intro rfl (And.intro rfl (And.intro rfl trivial))))) (K _ hR _ _ (by omega) (by omega))
      · refine xr_iconst (v := 0) C dL_law_215 (by decide) ?_
        exact absurd hR (fun z => by cases z)
  · refine xr_iconst (v := 0) C dL_law_198 (by decide) ?_
    exact absurd hR (fun z => by cases z)
set_option maxHeartbeats 4000000 in
set_option maxRecDepth 100000 in
theorem lwp_1 {p : Program} {l : Launch} {e : Env} {s : State} {m : MethodId} {args : Array Value} {below : List Frame} {meth : Method} {c : Code} {G : xw_G} (C : xj_C p s m args meth c G RL cL_law 9) {b L : Nat} {xs : Nat → Int32} (hX : va_X b L xs s s.heap) (hbl : b < s.heap.size) (hz : xg_z G = s.heap.size) (hN : xg_N G = 359) (hl : l.stackTraces = false) {ce sl : Nat} (hce : ce + 9 ≤ 601024) (hsl : sl + 64 ≤ 7293034) {Q : State → Prop} {q : xw_M} {a4 : Int32}
    (K : ∀ h' : xw_M, some h' = some q → ∀ ce' sl' : Nat, ce' ≤ ce + 9 → sl' ≤ sl + 64 → xj_X p l e room_1 s m args below meth c G 9 ce' sl' Q h' [some (.ref b), some (.ref (xg_ad G 350)), some (.ref (xg_ad G 351)), some (.ref (xg_ad G 358)), some (.int a4), none, none, none, none] 1391 []) {h : xw_M} (hR : lwc_1 xs L a4 h = some q) : xj_X p l e room_1 s m args below meth c G 9 ce sl Q h [some (.ref b), some (.ref (xg_ad G 350)), some (.ref (xg_ad G 351)), some (.ref (xg_ad G 358)), some (.int a4), none, none, none, none] 220 [] := by
  unfold lwc_1 at hR
  refine xr_aload_n C dL_law_220 rfl ?_
  refine xr_aload_n C dL_law_221 rfl ?_
  refine xr_callW C (st := []) [.ref (xg_ad G 350), .ref (xg_ad G 358)] cw_86 (fun _ zz9 => mwL_addFiber l G hl kd_350 kd_358 zz9) rfl ⟨Nat.le_of_ble_eq_true rfl, Nat.le_of_ble_eq_true rfl⟩ (Nat.le_of_ble_eq_true rfl) ⟨by show _ ≤ 601024; omega, by show _ ≤ 7293034; omega⟩ rfl dL_law_222 hR (fun r1 hr1 hR => ?_)
  refine xr_istore C dL_law_225 rfl (by decide) ?_
  refine xr_aload_n C dL_law_227 rfl ?_
  refine xr_callVi C (st := []) [] cv_RL_89 kd_351 (fun _ zz9 => mcX6_addFiber l G kd_351 zz9) rfl ⟨Nat.le_of_ble_eq_true rfl, Nat.le_of_ble_eq_true rfl⟩ (Nat.le_of_ble_eq_true rfl) ⟨by show _ ≤ 601024; omega, by show _ ≤ 7293034; omega⟩ rfl dL_law_228 hR (fun r2 hr2 hR => ?_)
  refine xr_istore C dL_law_231 rfl (by decide) ?_
  refine xr_aload_n C dL_law_233 rfl ?_
  refine xr_callVi C (st := []) [] cv_RL_83 kd_351 (fun _ zz9 => mcX6_thrown l G kd_351 zz9) rfl ⟨Nat.le_of_ble_eq_true rfl, Nat.le_of_ble_eq_true rfl⟩ (Nat.le_of_ble_eq_true rfl) ⟨by show _ ≤ 601024; omega, by show _ ≤ 7293034; omega⟩ rfl dL_law_234 hR (fun r3 hr3 hR => ?_)
  refine xr_iload C dL_law_237 rfl ?_
  refine xr_icmp_eq (tgt := 244) C dL_law_239 (by decide) hR (fun hR => ?_) (fun hR => ?_)
  · refine xr_iload C dL_law_244 rfl ?_
    refine xr_if_ne (tgt := 261) C dL_law_246 (by decide) hR (fun hR => ?_) (fun hR => ?_)
    · refine xr_goto (tgt := 1391) C dL_law_261 (by decide) ?_
      exact xr_sub (lv9 := [some (.ref b), some (.ref (xg_ad G 350)), some (.ref (xg_ad G 351)), some (.ref (xg_ad G 358)), some (.int a4), none, none, none, none]) (And.intro rfl (And.intro rfl (And.intro rfl (And.intro rfl (And.intro rfl trivial))))) (K _ hR _ _ (by omega) (by omega))
    · refine xr_aload_n C dL_law_249 rfl ?_
      refine xr_iconst (v := 0) C dL_law_250 (by decide) ?_
      refine xr_lald C kd_358 (xj_lt15 C kd_358) dL_law_251 ?_
      refine xr_iload C dL_law_252 rfl ?_
      refine xr_i2l C dL_law_254 ?_
      refine xr_lcmp C dL_law_255 ?_
      refine xr_if_eq (tgt := 261) C dL_law_256 (by decide) hR (fun hR => ?_) (fun hR => ?_)
      · refine xr_goto (tgt := 1391) C dL_law_261 (by decide) ?_
        exact xr_sub (lv9 := [some (.ref b), some (.ref (xg_ad G 350)), some (.ref (xg_ad G 351)), some (.ref (xg_ad G 358)), some (.int a4), none, none, none, none]) (And.intro rfl (And.intro rfl (And.intro rfl (And.intro rfl (And.intro rfl trivial))))) (K _ hR _ _ (by omega) (by omega))
      · refine xr_iconst (v := 0) C dL_law_259 (by decide) ?_
        exact absurd hR (fun z => by cases z)
  · refine xr_iconst (v := 0) C dL_law_242 (by decide) ?_
    exact absurd hR (fun z => by cases z)
set_option maxHeartbeats 4000000 in
set_option maxRecDepth 100000 in
theorem lwp_2 {p : Program} {l : Launch} {e : Env} {s : State} {m : MethodId} {args : Array Value} {below : List Frame} {meth : Method} {c : Code} {G : xw_G} (C : xj_C p s m args meth c G RL cL_law 9) {b L : Nat} {xs : Nat → Int32} (hX : va_X b L xs s s.heap) (hbl : b < s.heap.size) (hz : xg_z G = s.heap.size) (hN : xg_N G = 359) (hl : l.stackTraces = false) {ce sl : Nat} (hce : ce + 9 ≤ 601024) (hsl : sl + 64 ≤ 7293034) {Q : State → Prop} {q : xw_M} {a4 : Int32}
    (K : ∀ h' : xw_M, some h' = some q → ∀ ce' sl' : Nat, ce' ≤ ce + 9 → sl' ≤ sl + 64 → xj_X p l e room_1 s m args below meth c G 9 ce' sl' Q h' [some (.ref b), some (.ref (xg_ad G 350)), some (.ref (xg_ad G 351)), some (.ref (xg_ad G 358)), some (.int a4), none, none, none, none] 1391 []) {h : xw_M} (hR : lwc_2 xs L a4 h = some q) : xj_X p l e room_1 s m args below meth c G 9 ce sl Q h [some (.ref b), some (.ref (xg_ad G 350)), some (.ref (xg_ad G 351)), some (.ref (xg_ad G 358)), some (.int a4), none, none, none, none] 264 [] := by
  unfold lwc_2 at hR
  refine xr_aload_n C dL_law_264 rfl ?_
  refine xr_aload_n C dL_law_265 rfl ?_
  refine xr_iload C dL_law_266 rfl ?_
  refine xr_iconst (v := 1) C dL_law_268 (by decide) ?_
  refine xr_iadd C dL_law_269 ?_
  refine xr_sld C hX hbl hz dL_law_270 hR (fun hR => ?_)
  refine xr_aload_n C dL_law_271 rfl ?_
  refine xr_iload C dL_law_272 rfl ?_
  refine xr_iconst (v := 2) C dL_law_274 (by decide) ?_
  refine xr_iadd C dL_law_275 ?_
  refine xr_sld C hX hbl hz dL_law_276 hR (fun hR => ?_)
  refine xr_aload_n C dL_law_277 rfl ?_
  refine xr_iload C dL_law_278 rfl ?_
  refine xr_iconst (v := 3) C dL_law_280 (by decide) ?_
  refine xr_iadd C dL_law_281 ?_
  refine xr_sld C hX hbl hz dL_law_282 hR (fun hR => ?_)
  refine xr_aload_n C dL_law_283 rfl ?_
  refine xr_iload C dL_law_284 rfl ?_
  refine xr_iconst (v := 4) C dL_law_286 (by decide) ?_
  refine xr_iadd C dL_law_287 ?_
  refine xr_sld C hX hbl hz dL_law_288 hR (fun hR => ?_)
  refine xr_aload_n C dL_law_289 rfl ?_
  refine xr_callW C (st := []) [.ref (xg_ad G 350), .int (xs (Int32.toNatClampNeg (a4 + (1 : Int32)))), .int (xs (Int32.toNatClampNeg (a4 + (2 : Int32)))), .int (xs (Int32.toNatClampNeg (a4 + (3 : Int32)))), .int (xs (Int32.toNatClampNeg (a4 + (4 : Int32)))), .ref (xg_ad G 358)] cw_90 (fun _ zz9 => mwL_addStep l G hl kd_350 kd_358 zz9) rfl ⟨Nat.le_of_ble_eq_true rfl, Nat.le_of_ble_eq_true rfl⟩ (Nat.le_of_ble_eq_true rfl) ⟨by show _ ≤ 601024; omega, by show _ ≤ 7293034; omega⟩ rfl dL_law_290 hR (fun r1 hr1 hR => ?_)
  refine xr_istore C dL_law_293 rfl (by decide) ?_
  refine xr_aload_n C dL_law_295 rfl ?_
  refine xr_aload_n C dL_law_296 rfl ?_
  refine xr_iload C dL_law_297 rfl ?_
  refine xr_iconst (v := 1) C dL_law_299 (by decide) ?_
  refine xr_iadd C dL_law_300 ?_
  refine xr_sld C hX hbl hz dL_law_301 hR (fun hR => ?_)
  refine xr_aload_n C dL_law_302 rfl ?_
  refine xr_iload C dL_law_303 rfl ?_
  refine xr_iconst (v := 2) C dL_law_305 (by decide) ?_
  refine xr_iadd C dL_law_306 ?_
  refine xr_sld C hX hbl hz dL_law_307 hR (fun hR => ?_)
  refine xr_aload_n C dL_law_308 rfl ?_
  refine xr_iload C dL_law_309 rfl ?_
  refine xr_iconst (v := 3) C dL_law_311 (by decide) ?_
  refine xr_iadd C dL_law_312 ?_
  refine xr_sld C hX hbl hz dL_law_313 hR (fun hR => ?_)
  refine xr_aload_n C dL_law_314 rfl ?_
  refine xr_iload C dL_law_315 rfl ?_
  refine xr_iconst (v := 4) C dL_law_317 (by decide) ?_
  refine xr_iadd C dL_law_318 ?_
  refine xr_sld C hX hbl hz dL_law_319 hR (fun hR => ?_)
  refine xr_callVi C (st := []) [.int (xs (Int32.toNatClampNeg (a4 + (1 : Int32)))), .int (xs (Int32.toNatClampNeg (a4 + (2 : Int32)))), .int (xs (Int32.toNatClampNeg (a4 + (3 : Int32)))), .int (xs (Int32.toNatClampNeg (a4 + (4 : Int32))))] cv_RL_93 kd_351 (fun _ zz9 => mcX6_addStep l G kd_351 zz9) rfl ⟨Nat.le_of_ble_eq_true rfl, Nat.le_of_ble_eq_true rfl⟩ (Nat.le_of_ble_eq_true rfl) ⟨by show _ ≤ 601024; omega, by show _ ≤ 7293034; omega⟩ rfl dL_law_320 hR (fun r2 hr2 hR => ?_)
  refine xr_istore C dL_law_323 rfl (by decide) ?_
  refine xr_aload_n C dL_law_325 rfl ?_
  refine xr_callVi C (st := []) [] cv_RL_83 kd_351 (fun _ zz9 => mcX6_thrown l G kd_351 zz9) rfl ⟨Nat.le_of_ble_eq_true rfl, Nat.le_of_ble_eq_true rfl⟩ (Nat.le_of_ble_eq_true rfl) ⟨by show _ ≤ 601024; omega, by show _ ≤ 7293034; omega⟩ rfl dL_law_326 hR (fun r3 hr3 hR => ?_)
  refine xr_iload C dL_law_329 rfl ?_
  refine xr_icmp_eq (tgt := 336) C dL_law_331 (by decide) hR (fun hR => ?_) (fun hR => ?_)
  · refine xr_iload C dL_law_336 rfl ?_
    refine xr_if_ne (tgt := 353) C dL_law_338 (by decide) hR (fun hR => ?_) (fun hR => ?_)
    · refine xr_goto (tgt := 1391) C dL_law_353 (by decide) ?_
      exact xr_sub (lv9 := [some (.ref b), some (.ref (xg_ad G 350)), some (.ref (xg_ad G 351)), some (.ref (xg_ad G 358)), some (.int a4), none, none, none, none]) (And.intro rfl (And.intro rfl (And.intro rfl (And.intro rfl (And.intro rfl trivial))))) (K _ hR _ _ (by omega) (by omega))
    · refine xr_aload_n C dL_law_341 rfl ?_
      refine xr_iconst (v := 0) C dL_law_342 (by decide) ?_
      refine xr_lald C kd_358 (xj_lt15 C kd_358) dL_law_343 ?_
      refine xr_iload C dL_law_344 rfl ?_
      refine xr_i2l C dL_law_346 ?_
      refine xr_lcmp C dL_law_347 ?_
      refine xr_if_eq (tgt := 353) C dL_law_348 (by decide) hR (fun hR => ?_) (fun hR => ?_)
      · refine xr_goto (tgt := 1391) C dL_law_353 (by decide) ?_
        exact xr_sub (lv9 := [some (.ref b), some (.ref (xg_ad G 350)), some (.ref (xg_ad G 351)), some (.ref (xg_ad G 358)), some (.int a4), none, none, none, none]) (And.intro rfl (And.intro rfl (And.intro rfl (And.intro rfl (And.intro rfl trivial))))) (K _ hR _ _ (by omega) (by omega))
      · refine xr_iconst (v := 0) C dL_law_351 (by decide) ?_
        exact absurd hR (fun z => by cases z)
  · refine xr_iconst (v := 0) C dL_law_334 (by decide) ?_
    exact absurd hR (fun z => by cases z)
set_option maxHeartbeats 4000000 in
set_option maxRecDepth 100000 in
theorem lwp_3 {p : Program} {l : Launch} {e : Env} {s : State} {m : MethodId} {args : Array Value} {below : List Frame} {meth : Method} {c : Code} {G : xw_G} (C : xj_C p s m args meth c G RL cL_law 9) {b L : Nat} {xs : Nat → Int32} (hX : va_X b L xs s s.heap) (hbl : b < s.heap.size) (hz : xg_z G = s.heap.size) (hN : xg_N G = 359) (hl : l.stackTraces = false) {ce sl : Nat} (hce : ce + 9 ≤ 601024) (hsl : sl + 64 ≤ 7293034) {Q : State → Prop} {q : xw_M} {a4 : Int32}
    (K : ∀ h' : xw_M, some h' = some q → ∀ ce' sl' : Nat, ce' ≤ ce + 9 → sl' ≤ sl + 64 → xj_X p l e room_1 s m args below meth c G 9 ce' sl' Q h' [some (.ref b), some (.ref (xg_ad G 350)), some (.ref (xg_ad G 351)), some (.ref (xg_ad G 358)), some (.int a4), none, none, none, none] 1391 []) {h : xw_M} (hR : lwc_3 xs L a4 h = some q) : xj_X p l e room_1 s m args below meth c G 9 ce sl Q h [some (.ref b), some (.ref (xg_ad G 350)), some (.ref (xg_ad G 351)), some (.ref (xg_ad G 358)), some (.int a4), none, none, none, none] 356 [] := by
  unfold lwc_3 at hR
  refine xr_aload_n C dL_law_356 rfl ?_
  refine xr_aload_n C dL_law_357 rfl ?_
  refine xr_iload C dL_law_358 rfl ?_
  refine xr_iconst (v := 1) C dL_law_360 (by decide) ?_
  refine xr_iadd C dL_law_361 ?_
  refine xr_sld C hX hbl hz dL_law_362 hR (fun hR => ?_)
  refine xr_aload_n C dL_law_363 rfl ?_
  refine xr_iload C dL_law_364 rfl ?_
  refine xr_iconst (v := 2) C dL_law_366 (by decide) ?_
  refine xr_iadd C dL_law_367 ?_
  refine xr_sld C hX hbl hz dL_law_368 hR (fun hR => ?_)
  refine xr_aload_n C dL_law_369 rfl ?_
  refine xr_callW C (st := []) [.ref (xg_ad G 350), .int (xs (Int32.toNatClampNeg (a4 + (1 : Int32)))), .int (xs (Int32.toNatClampNeg (a4 + (2 : Int32)))), .ref (xg_ad G 358)] cw_94 (fun _ zz9 => mwL_pour l G hl kd_350 kd_358 zz9) rfl ⟨Nat.le_of_ble_eq_true rfl, Nat.le_of_ble_eq_true rfl⟩ (Nat.le_of_ble_eq_true rfl) ⟨by show _ ≤ 601024; omega, by show _ ≤ 7293034; omega⟩ rfl dL_law_370 hR (fun r1 hr1 hR => ?_)
  refine xr_istore C dL_law_373 rfl (by decide) ?_
  refine xr_aload_n C dL_law_375 rfl ?_
  refine xr_aload_n C dL_law_376 rfl ?_
  refine xr_iload C dL_law_377 rfl ?_
  refine xr_iconst (v := 1) C dL_law_379 (by decide) ?_
  refine xr_iadd C dL_law_380 ?_
  refine xr_sld C hX hbl hz dL_law_381 hR (fun hR => ?_)
  refine xr_aload_n C dL_law_382 rfl ?_
  refine xr_iload C dL_law_383 rfl ?_
  refine xr_iconst (v := 2) C dL_law_385 (by decide) ?_
  refine xr_iadd C dL_law_386 ?_
  refine xr_sld C hX hbl hz dL_law_387 hR (fun hR => ?_)
  refine xr_callVi C (st := []) [.int (xs (Int32.toNatClampNeg (a4 + (1 : Int32)))), .int (xs (Int32.toNatClampNeg (a4 + (2 : Int32))))] cv_RL_97 kd_351 (fun _ zz9 => mcX6_pour l G kd_351 zz9) rfl ⟨Nat.le_of_ble_eq_true rfl, Nat.le_of_ble_eq_true rfl⟩ (Nat.le_of_ble_eq_true rfl) ⟨by show _ ≤ 601024; omega, by show _ ≤ 7293034; omega⟩ rfl dL_law_388 hR (fun r2 hr2 hR => ?_)
  refine xr_istore C dL_law_391 rfl (by decide) ?_
  refine xr_aload_n C dL_law_393 rfl ?_
  refine xr_callVi C (st := []) [] cv_RL_83 kd_351 (fun _ zz9 => mcX6_thrown l G kd_351 zz9) rfl ⟨Nat.le_of_ble_eq_true rfl, Nat.le_of_ble_eq_true rfl⟩ (Nat.le_of_ble_eq_true rfl) ⟨by show _ ≤ 601024; omega, by show _ ≤ 7293034; omega⟩ rfl dL_law_394 hR (fun r3 hr3 hR => ?_)
  refine xr_iload C dL_law_397 rfl ?_
  refine xr_icmp_eq (tgt := 404) C dL_law_399 (by decide) hR (fun hR => ?_) (fun hR => ?_)
  · refine xr_iload C dL_law_404 rfl ?_
    refine xr_if_ne (tgt := 421) C dL_law_406 (by decide) hR (fun hR => ?_) (fun hR => ?_)
    · refine xr_goto (tgt := 1391) C dL_law_421 (by decide) ?_
      exact xr_sub (lv9 := [some (.ref b), some (.ref (xg_ad G 350)), some (.ref (xg_ad G 351)), some (.ref (xg_ad G 358)), some (.int a4), none, none, none, none]) (And.intro rfl (And.intro rfl (And.intro rfl (And.intro rfl (And.intro rfl trivial))))) (K _ hR _ _ (by omega) (by omega))
    · refine xr_aload_n C dL_law_409 rfl ?_
      refine xr_iconst (v := 0) C dL_law_410 (by decide) ?_
      refine xr_lald C kd_358 (xj_lt15 C kd_358) dL_law_411 ?_
      refine xr_iload C dL_law_412 rfl ?_
      refine xr_i2l C dL_law_414 ?_
      refine xr_lcmp C dL_law_415 ?_
      refine xr_if_eq (tgt := 421) C dL_law_416 (by decide) hR (fun hR => ?_) (fun hR => ?_)
      · refine xr_goto (tgt := 1391) C dL_law_421 (by decide) ?_
        exact xr_sub (lv9 := [some (.ref b), some (.ref (xg_ad G 350)), some (.ref (xg_ad G 351)), some (.ref (xg_ad G 358)), some (.int a4), none, none, none, none]) (And.intro rfl (And.intro rfl (And.intro rfl (And.intro rfl (And.intro rfl trivial))))) (K _ hR _ _ (by omega) (by omega))
      · refine xr_iconst (v := 0) C dL_law_419 (by decide) ?_
        exact absurd hR (fun z => by cases z)
  · refine xr_iconst (v := 0) C dL_law_402 (by decide) ?_
    exact absurd hR (fun z => by cases z)
set_option maxHeartbeats 4000000 in
set_option maxRecDepth 100000 in
theorem lwp_4 {p : Program} {l : Launch} {e : Env} {s : State} {m : MethodId} {args : Array Value} {below : List Frame} {meth : Method} {c : Code} {G : xw_G} (C : xj_C p s m args meth c G RL cL_law 9) {b L : Nat} {xs : Nat → Int32} (hX : va_X b L xs s s.heap) (hbl : b < s.heap.size) (hz : xg_z G = s.heap.size) (hN : xg_N G = 359) (hl : l.stackTraces = false) {ce sl : Nat} (hce : ce + 9 ≤ 601024) (hsl : sl + 64 ≤ 7293034) {Q : State → Prop} {q : xw_M} {a4 : Int32}
    (K : ∀ h' : xw_M, some h' = some q → ∀ ce' sl' : Nat, ce' ≤ ce + 9 → sl' ≤ sl + 64 → xj_X p l e room_1 s m args below meth c G 9 ce' sl' Q h' [some (.ref b), some (.ref (xg_ad G 350)), some (.ref (xg_ad G 351)), some (.ref (xg_ad G 358)), some (.int a4), none, none, none, none] 1391 []) {h : xw_M} (hR : lwc_4 xs L a4 h = some q) : xj_X p l e room_1 s m args below meth c G 9 ce sl Q h [some (.ref b), some (.ref (xg_ad G 350)), some (.ref (xg_ad G 351)), some (.ref (xg_ad G 358)), some (.int a4), none, none, none, none] 424 [] := by
  unfold lwc_4 at hR
  refine xr_aload_n C dL_law_424 rfl ?_
  refine xr_aload_n C dL_law_425 rfl ?_
  refine xr_iload C dL_law_426 rfl ?_
  refine xr_iconst (v := 1) C dL_law_428 (by decide) ?_
  refine xr_iadd C dL_law_429 ?_
  refine xr_sld C hX hbl hz dL_law_430 hR (fun hR => ?_)
  refine xr_aload_n C dL_law_431 rfl ?_
  refine xr_callW C (st := []) [.ref (xg_ad G 350), .int (xs (Int32.toNatClampNeg (a4 + (1 : Int32)))), .ref (xg_ad G 358)] cw_98 (fun _ zz9 => mwL_run l G hl kd_350 kd_358 zz9) rfl ⟨Nat.le_of_ble_eq_true rfl, Nat.le_of_ble_eq_true rfl⟩ (Nat.le_of_ble_eq_true rfl) ⟨by show _ ≤ 601024; omega, by show _ ≤ 7293034; omega⟩ rfl dL_law_432 hR (fun r1 hr1 hR => ?_)
  refine xr_istore C dL_law_435 rfl (by decide) ?_
  refine xr_aload_n C dL_law_437 rfl ?_
  refine xr_aload_n C dL_law_438 rfl ?_
  refine xr_iload C dL_law_439 rfl ?_
  refine xr_iconst (v := 1) C dL_law_441 (by decide) ?_
  refine xr_iadd C dL_law_442 ?_
  refine xr_sld C hX hbl hz dL_law_443 hR (fun hR => ?_)
  refine xr_callVi C (st := []) [.int (xs (Int32.toNatClampNeg (a4 + (1 : Int32))))] cv_RL_100 kd_351 (fun _ zz9 => mcX6_run l G kd_351 zz9) rfl ⟨Nat.le_of_ble_eq_true rfl, Nat.le_of_ble_eq_true rfl⟩ (Nat.le_of_ble_eq_true rfl) ⟨by show _ ≤ 601024; omega, by show _ ≤ 7293034; omega⟩ rfl dL_law_444 hR (fun r2 hr2 hR => ?_)
  refine xr_istore C dL_law_447 rfl (by decide) ?_
  refine xr_aload_n C dL_law_449 rfl ?_
  refine xr_callVi C (st := []) [] cv_RL_83 kd_351 (fun _ zz9 => mcX6_thrown l G kd_351 zz9) rfl ⟨Nat.le_of_ble_eq_true rfl, Nat.le_of_ble_eq_true rfl⟩ (Nat.le_of_ble_eq_true rfl) ⟨by show _ ≤ 601024; omega, by show _ ≤ 7293034; omega⟩ rfl dL_law_450 hR (fun r3 hr3 hR => ?_)
  refine xr_iload C dL_law_453 rfl ?_
  refine xr_icmp_eq (tgt := 460) C dL_law_455 (by decide) hR (fun hR => ?_) (fun hR => ?_)
  · refine xr_iload C dL_law_460 rfl ?_
    refine xr_if_ne (tgt := 477) C dL_law_462 (by decide) hR (fun hR => ?_) (fun hR => ?_)
    · refine xr_goto (tgt := 1391) C dL_law_477 (by decide) ?_
      exact xr_sub (lv9 := [some (.ref b), some (.ref (xg_ad G 350)), some (.ref (xg_ad G 351)), some (.ref (xg_ad G 358)), some (.int a4), none, none, none, none]) (And.intro rfl (And.intro rfl (And.intro rfl (And.intro rfl (And.intro rfl trivial))))) (K _ hR _ _ (by omega) (by omega))
    · refine xr_aload_n C dL_law_465 rfl ?_
      refine xr_iconst (v := 0) C dL_law_466 (by decide) ?_
      refine xr_lald C kd_358 (xj_lt15 C kd_358) dL_law_467 ?_
      refine xr_iload C dL_law_468 rfl ?_
      refine xr_i2l C dL_law_470 ?_
      refine xr_lcmp C dL_law_471 ?_
      refine xr_if_eq (tgt := 477) C dL_law_472 (by decide) hR (fun hR => ?_) (fun hR => ?_)
      · refine xr_goto (tgt := 1391) C dL_law_477 (by decide) ?_
        exact xr_sub (lv9 := [some (.ref b), some (.ref (xg_ad G 350)), some (.ref (xg_ad G 351)), some (.ref (xg_ad G 358)), some (.int a4), none, none, none, none]) (And.intro rfl (And.intro rfl (And.intro rfl (And.intro rfl (And.intro rfl trivial))))) (K _ hR _ _ (by omega) (by omega))
      · refine xr_iconst (v := 0) C dL_law_475 (by decide) ?_
        exact absurd hR (fun z => by cases z)
  · refine xr_iconst (v := 0) C dL_law_458 (by decide) ?_
    exact absurd hR (fun z => by cases z)
set_option maxHeartbeats 4000000 in
set_option maxRecDepth 100000 in
theorem lwp_5 {p : Program} {l : Launch} {e : Env} {s : State} {m : MethodId} {args : Array Value} {below : List Frame} {meth : Method} {c : Code} {G : xw_G} (C : xj_C p s m args meth c G RL cL_law 9) {b L : Nat} {xs : Nat → Int32} (hX : va_X b L xs s s.heap) (hbl : b < s.heap.size) (hz : xg_z G = s.heap.size) (hN : xg_N G = 359) (hl : l.stackTraces = false) {ce sl : Nat} (hce : ce + 9 ≤ 601024) (hsl : sl + 64 ≤ 7293034) {Q : State → Prop} {q : xw_M} {a4 : Int32}
    (K : ∀ h' : xw_M, some h' = some q → ∀ ce' sl' : Nat, ce' ≤ ce + 9 → sl' ≤ sl + 64 → xj_X p l e room_1 s m args below meth c G 9 ce' sl' Q h' [some (.ref b), some (.ref (xg_ad G 350)), some (.ref (xg_ad G 351)), some (.ref (xg_ad G 358)), some (.int a4), none, none, none, none] 1391 []) {h : xw_M} (hR : lwc_5 xs L a4 h = some q) : xj_X p l e room_1 s m args below meth c G 9 ce sl Q h [some (.ref b), some (.ref (xg_ad G 350)), some (.ref (xg_ad G 351)), some (.ref (xg_ad G 358)), some (.int a4), none, none, none, none] 480 [] := by
  unfold lwc_5 at hR
  refine xr_aload_n C dL_law_480 rfl ?_
  refine xr_callVi C (st := []) [] cv_RL_101 kd_350 (fun _ zz9 => mcX5_time l G kd_350 zz9) rfl ⟨Nat.le_of_ble_eq_true rfl, Nat.le_of_ble_eq_true rfl⟩ (Nat.le_of_ble_eq_true rfl) ⟨by show _ ≤ 601024; omega, by show _ ≤ 7293034; omega⟩ rfl dL_law_481 hR (fun r1 hr1 hR => ?_)
  refine xr_aload_n C dL_law_484 rfl ?_
  refine xr_callVi C (st := [.int r1.2]) [] cv_RL_104 kd_351 (fun _ zz9 => mcX6_time l G kd_351 zz9) rfl ⟨Nat.le_of_ble_eq_true rfl, Nat.le_of_ble_eq_true rfl⟩ (Nat.le_of_ble_eq_true rfl) ⟨by show _ ≤ 601024; omega, by show _ ≤ 7293034; omega⟩ rfl dL_law_485 hR (fun r2 hr2 hR => ?_)
  refine xr_icmp_eq (tgt := 1391) C dL_law_488 (by decide) hR (fun hR => ?_) (fun hR => ?_)
  · exact xr_sub (lv9 := [some (.ref b), some (.ref (xg_ad G 350)), some (.ref (xg_ad G 351)), some (.ref (xg_ad G 358)), some (.int a4), none, none, none, none]) (And.intro rfl (And.intro rfl (And.intro rfl (And.intro rfl (And.intro rfl trivial))))) (K _ hR _ _ (by omega) (by omega))
  · refine xr_iconst (v := 0) C dL_law_491 (by decide) ?_
    exact absurd hR (fun z => by cases z)
set_option maxHeartbeats 4000000 in
set_option maxRecDepth 100000 in
theorem lwp_6 {p : Program} {l : Launch} {e : Env} {s : State} {m : MethodId} {args : Array Value} {below : List Frame} {meth : Method} {c : Code} {G : xw_G} (C : xj_C p s m args meth c G RL cL_law 9) {b L : Nat} {xs : Nat → Int32} (hX : va_X b L xs s s.heap) (hbl : b < s.heap.size) (hz : xg_z G = s.heap.size) (hN : xg_N G = 359) (hl : l.stackTraces = false) {ce sl : Nat} (hce : ce + 9 ≤ 601024) (hsl : sl + 64 ≤ 7293034) {Q : State → Prop} {q : xw_M} {a4 : Int32}
    (K : ∀ h' : xw_M, some h' = some q → ∀ ce' sl' : Nat, ce' ≤ ce + 9 → sl' ≤ sl + 64 → xj_X p l e room_1 s m args below meth c G 9 ce' sl' Q h' [some (.ref b), some (.ref (xg_ad G 350)), some (.ref (xg_ad G 351)), some (.ref (xg_ad G 358)), some (.int a4), none, none, none, none] 1391 []) {h : xw_M} (hR : lwc_6 xs L a4 h = some q) : xj_X p l e room_1 s m args below meth c G 9 ce sl Q h [some (.ref b), some (.ref (xg_ad G 350)), some (.ref (xg_ad G 351)), some (.ref (xg_ad G 358)), some (.int a4), none, none, none, none] 493 [] := by
  unfold lwc_6 at hR
  refine xr_aload_n C dL_law_493 rfl ?_
  refine xr_callVi C (st := []) [] cv_RL_105 kd_350 (fun _ zz9 => mcX5_channels l G kd_350 zz9) rfl ⟨Nat.le_of_ble_eq_true rfl, Nat.le_of_ble_eq_true rfl⟩ (Nat.le_of_ble_eq_true rfl) ⟨by show _ ≤ 601024; omega, by show _ ≤ 7293034; omega⟩ rfl dL_law_494 hR (fun r1 hr1 hR => ?_)
  refine xr_aload_n C dL_law_497 rfl ?_
  refine xr_callVi C (st := [.int r1.2]) [] cv_RL_108 kd_351 (fun _ zz9 => mcX6_channels l G kd_351 zz9) rfl ⟨Nat.le_of_ble_eq_true rfl, Nat.le_of_ble_eq_true rfl⟩ (Nat.le_of_ble_eq_true rfl) ⟨by show _ ≤ 601024; omega, by show _ ≤ 7293034; omega⟩ rfl dL_law_498 hR (fun r2 hr2 hR => ?_)
  refine xr_icmp_eq (tgt := 1391) C dL_law_501 (by decide) hR (fun hR => ?_) (fun hR => ?_)
  · exact xr_sub (lv9 := [some (.ref b), some (.ref (xg_ad G 350)), some (.ref (xg_ad G 351)), some (.ref (xg_ad G 358)), some (.int a4), none, none, none, none]) (And.intro rfl (And.intro rfl (And.intro rfl (And.intro rfl (And.intro rfl trivial))))) (K _ hR _ _ (by omega) (by omega))
  · refine xr_iconst (v := 0) C dL_law_504 (by decide) ?_
    exact absurd hR (fun z => by cases z)
set_option maxHeartbeats 4000000 in
set_option maxRecDepth 100000 in
theorem lwp_7 {p : Program} {l : Launch} {e : Env} {s : State} {m : MethodId} {args : Array Value} {below : List Frame} {meth : Method} {c : Code} {G : xw_G} (C : xj_C p s m args meth c G RL cL_law 9) {b L : Nat} {xs : Nat → Int32} (hX : va_X b L xs s s.heap) (hbl : b < s.heap.size) (hz : xg_z G = s.heap.size) (hN : xg_N G = 359) (hl : l.stackTraces = false) {ce sl : Nat} (hce : ce + 9 ≤ 601024) (hsl : sl + 64 ≤ 7293034) {Q : State → Prop} {q : xw_M} {a4 : Int32}
    (K : ∀ h' : xw_M, some h' = some q → ∀ ce' sl' : Nat, ce' ≤ ce + 9 → sl' ≤ sl + 64 → xj_X p l e room_1 s m args below meth c G 9 ce' sl' Q h' [some (.ref b), some (.ref (xg_ad G 350)), some (.ref (xg_ad G 351)), some (.ref (xg_ad G 358)), some (.int a4), none, none, none, none] 1391 []) {h : xw_M} (hR : lwc_7 xs L a4 h = some q) : xj_X p l e room_1 s m args below meth c G 9 ce sl Q h [some (.ref b), some (.ref (xg_ad G 350)), some (.ref (xg_ad G 351)), some (.ref (xg_ad G 358)), some (.int a4), none, none, none, none] 506 [] := by
  unfold lwc_7 at hR
  refine xr_aload_n C dL_law_506 rfl ?_
  refine xr_callVi C (st := []) [] cv_RL_109 kd_350 (fun _ zz9 => mcX5_fibers l G kd_350 zz9) rfl ⟨Nat.le_of_ble_eq_true rfl, Nat.le_of_ble_eq_true rfl⟩ (Nat.le_of_ble_eq_true rfl) ⟨by show _ ≤ 601024; omega, by show _ ≤ 7293034; omega⟩ rfl dL_law_507 hR (fun r1 hr1 hR => ?_)
  refine xr_aload_n C dL_law_510 rfl ?_
  refine xr_callVi C (st := [.int r1.2]) [] cv_RL_112 kd_351 (fun _ zz9 => mcX6_fibers l G kd_351 zz9) rfl ⟨Nat.le_of_ble_eq_true rfl, Nat.le_of_ble_eq_true rfl⟩ (Nat.le_of_ble_eq_true rfl) ⟨by show _ ≤ 601024; omega, by show _ ≤ 7293034; omega⟩ rfl dL_law_511 hR (fun r2 hr2 hR => ?_)
  refine xr_icmp_eq (tgt := 1391) C dL_law_514 (by decide) hR (fun hR => ?_) (fun hR => ?_)
  · exact xr_sub (lv9 := [some (.ref b), some (.ref (xg_ad G 350)), some (.ref (xg_ad G 351)), some (.ref (xg_ad G 358)), some (.int a4), none, none, none, none]) (And.intro rfl (And.intro rfl (And.intro rfl (And.intro rfl (And.intro rfl trivial))))) (K _ hR _ _ (by omega) (by omega))
  · refine xr_iconst (v := 0) C dL_law_517 (by decide) ?_
    exact absurd hR (fun z => by cases z)
set_option maxHeartbeats 4000000 in
set_option maxRecDepth 100000 in
theorem lwp_8 {p : Program} {l : Launch} {e : Env} {s : State} {m : MethodId} {args : Array Value} {below : List Frame} {meth : Method} {c : Code} {G : xw_G} (C : xj_C p s m args meth c G RL cL_law 9) {b L : Nat} {xs : Nat → Int32} (hX : va_X b L xs s s.heap) (hbl : b < s.heap.size) (hz : xg_z G = s.heap.size) (hN : xg_N G = 359) (hl : l.stackTraces = false) {ce sl : Nat} (hce : ce + 9 ≤ 601024) (hsl : sl + 64 ≤ 7293034) {Q : State → Prop} {q : xw_M} {a4 : Int32}
    (K : ∀ h' : xw_M, some h' = some q → ∀ ce' sl' : Nat, ce' ≤ ce + 9 → sl' ≤ sl + 64 → xj_X p l e room_1 s m args below meth c G 9 ce' sl' Q h' [some (.ref b), some (.ref (xg_ad G 350)), some (.ref (xg_ad G 351)), some (.ref (xg_ad G 358)), some (.int a4), none, none, none, none] 1391 []) {h : xw_M} (hR : lwc_8 xs L a4 h = some q) : xj_X p l e room_1 s m args below meth c G 9 ce sl Q h [some (.ref b), some (.ref (xg_ad G 350)), some (.ref (xg_ad G 351)), some (.ref (xg_ad G 358)), some (.int a4), none, none, none, none] 519 [] := by
  unfold lwc_8 at hR
  refine xr_aload_n C dL_law_519 rfl ?_
  refine xr_callVi C (st := []) [] cv_RL_113 kd_350 (fun _ zz9 => mcX5_done l G kd_350 zz9) rfl ⟨Nat.le_of_ble_eq_true rfl, Nat.le_of_ble_eq_true rfl⟩ (Nat.le_of_ble_eq_true rfl) ⟨by show _ ≤ 601024; omega, by show _ ≤ 7293034; omega⟩ rfl dL_law_520 hR (fun r1 hr1 hR => ?_)
  refine xr_aload_n C dL_law_523 rfl ?_
  refine xr_callVi C (st := [.int r1.2]) [] cv_RL_116 kd_351 (fun _ zz9 => mcX6_done_ l G kd_351 zz9) rfl ⟨Nat.le_of_ble_eq_true rfl, Nat.le_of_ble_eq_true rfl⟩ (Nat.le_of_ble_eq_true rfl) ⟨by show _ ≤ 601024; omega, by show _ ≤ 7293034; omega⟩ rfl dL_law_524 hR (fun r2 hr2 hR => ?_)
  refine xr_icmp_eq (tgt := 1391) C dL_law_527 (by decide) hR (fun hR => ?_) (fun hR => ?_)
  · exact xr_sub (lv9 := [some (.ref b), some (.ref (xg_ad G 350)), some (.ref (xg_ad G 351)), some (.ref (xg_ad G 358)), some (.int a4), none, none, none, none]) (And.intro rfl (And.intro rfl (And.intro rfl (And.intro rfl (And.intro rfl trivial))))) (K _ hR _ _ (by omega) (by omega))
  · refine xr_iconst (v := 0) C dL_law_530 (by decide) ?_
    exact absurd hR (fun z => by cases z)
set_option maxHeartbeats 4000000 in
set_option maxRecDepth 100000 in
theorem lwp_9 {p : Program} {l : Launch} {e : Env} {s : State} {m : MethodId} {args : Array Value} {below : List Frame} {meth : Method} {c : Code} {G : xw_G} (C : xj_C p s m args meth c G RL cL_law 9) {b L : Nat} {xs : Nat → Int32} (hX : va_X b L xs s s.heap) (hbl : b < s.heap.size) (hz : xg_z G = s.heap.size) (hN : xg_N G = 359) (hl : l.stackTraces = false) {ce sl : Nat} (hce : ce + 9 ≤ 601024) (hsl : sl + 64 ≤ 7293034) {Q : State → Prop} {q : xw_M} {a4 : Int32}
    (K : ∀ h' : xw_M, some h' = some q → ∀ ce' sl' : Nat, ce' ≤ ce + 9 → sl' ≤ sl + 64 → xj_X p l e room_1 s m args below meth c G 9 ce' sl' Q h' [some (.ref b), some (.ref (xg_ad G 350)), some (.ref (xg_ad G 351)), some (.ref (xg_ad G 358)), some (.int a4), none, none, none, none] 1391 []) {h : xw_M} (hR : lwc_9 xs L a4 h = some q) : xj_X p l e room_1 s m args below meth c G 9 ce sl Q h [some (.ref b), some (.ref (xg_ad G 350)), some (.ref (xg_ad G 351)), some (.ref (xg_ad G 358)), some (.int a4), none, none, none, none] 532 [] := by
  unfold lwc_9 at hR
  refine xr_aload_n C dL_law_532 rfl ?_
  refine xr_callVi C (st := []) [] cv_RL_117 kd_350 (fun _ zz9 => mcX5_idleTurns l G kd_350 zz9) rfl ⟨Nat.le_of_ble_eq_true rfl, Nat.le_of_ble_eq_true rfl⟩ (Nat.le_of_ble_eq_true rfl) ⟨by show _ ≤ 601024; omega, by show _ ≤ 7293034; omega⟩ rfl dL_law_533 hR (fun r1 hr1 hR => ?_)
  refine xr_aload_n C dL_law_536 rfl ?_
  refine xr_callVi C (st := [.int r1.2]) [] cv_RL_120 kd_351 (fun _ zz9 => mcX6_idleTurns l G kd_351 zz9) rfl ⟨Nat.le_of_ble_eq_true rfl, Nat.le_of_ble_eq_true rfl⟩ (Nat.le_of_ble_eq_true rfl) ⟨by show _ ≤ 601024; omega, by show _ ≤ 7293034; omega⟩ rfl dL_law_537 hR (fun r2 hr2 hR => ?_)
  refine xr_icmp_eq (tgt := 1391) C dL_law_540 (by decide) hR (fun hR => ?_) (fun hR => ?_)
  · exact xr_sub (lv9 := [some (.ref b), some (.ref (xg_ad G 350)), some (.ref (xg_ad G 351)), some (.ref (xg_ad G 358)), some (.int a4), none, none, none, none]) (And.intro rfl (And.intro rfl (And.intro rfl (And.intro rfl (And.intro rfl trivial))))) (K _ hR _ _ (by omega) (by omega))
  · refine xr_iconst (v := 0) C dL_law_543 (by decide) ?_
    exact absurd hR (fun z => by cases z)
set_option maxHeartbeats 4000000 in
set_option maxRecDepth 100000 in
theorem lwp_10 {p : Program} {l : Launch} {e : Env} {s : State} {m : MethodId} {args : Array Value} {below : List Frame} {meth : Method} {c : Code} {G : xw_G} (C : xj_C p s m args meth c G RL cL_law 9) {b L : Nat} {xs : Nat → Int32} (hX : va_X b L xs s s.heap) (hbl : b < s.heap.size) (hz : xg_z G = s.heap.size) (hN : xg_N G = 359) (hl : l.stackTraces = false) {ce sl : Nat} (hce : ce + 9 ≤ 601024) (hsl : sl + 64 ≤ 7293034) {Q : State → Prop} {q : xw_M} {a4 : Int32}
    (K : ∀ h' : xw_M, some h' = some q → ∀ ce' sl' : Nat, ce' ≤ ce + 9 → sl' ≤ sl + 64 → xj_X p l e room_1 s m args below meth c G 9 ce' sl' Q h' [some (.ref b), some (.ref (xg_ad G 350)), some (.ref (xg_ad G 351)), some (.ref (xg_ad G 358)), some (.int a4), none, none, none, none] 1391 []) {h : xw_M} (hR : lwc_10 xs L a4 h = some q) : xj_X p l e room_1 s m args below meth c G 9 ce sl Q h [some (.ref b), some (.ref (xg_ad G 350)), some (.ref (xg_ad G 351)), some (.ref (xg_ad G 358)), some (.int a4), none, none, none, none] 545 [] := by
  unfold lwc_10 at hR
  refine xr_aload_n C dL_law_545 rfl ?_
  refine xr_callVi C (st := []) [] cv_RL_121 kd_350 (fun _ zz9 => mcX5_next l G kd_350 zz9) rfl ⟨Nat.le_of_ble_eq_true rfl, Nat.le_of_ble_eq_true rfl⟩ (Nat.le_of_ble_eq_true rfl) ⟨by show _ ≤ 601024; omega, by show _ ≤ 7293034; omega⟩ rfl dL_law_546 hR (fun r1 hr1 hR => ?_)
  refine xr_aload_n C dL_law_549 rfl ?_
  refine xr_callVi C (st := [.int r1.2]) [] cv_RL_124 kd_351 (fun _ zz9 => mcX6_next l G kd_351 zz9) rfl ⟨Nat.le_of_ble_eq_true rfl, Nat.le_of_ble_eq_true rfl⟩ (Nat.le_of_ble_eq_true rfl) ⟨by show _ ≤ 601024; omega, by show _ ≤ 7293034; omega⟩ rfl dL_law_550 hR (fun r2 hr2 hR => ?_)
  refine xr_icmp_eq (tgt := 1391) C dL_law_553 (by decide) hR (fun hR => ?_) (fun hR => ?_)
  · exact xr_sub (lv9 := [some (.ref b), some (.ref (xg_ad G 350)), some (.ref (xg_ad G 351)), some (.ref (xg_ad G 358)), some (.int a4), none, none, none, none]) (And.intro rfl (And.intro rfl (And.intro rfl (And.intro rfl (And.intro rfl trivial))))) (K _ hR _ _ (by omega) (by omega))
  · refine xr_iconst (v := 0) C dL_law_556 (by decide) ?_
    exact absurd hR (fun z => by cases z)
set_option maxHeartbeats 4000000 in
set_option maxRecDepth 100000 in
theorem lwp_11 {p : Program} {l : Launch} {e : Env} {s : State} {m : MethodId} {args : Array Value} {below : List Frame} {meth : Method} {c : Code} {G : xw_G} (C : xj_C p s m args meth c G RL cL_law 9) {b L : Nat} {xs : Nat → Int32} (hX : va_X b L xs s s.heap) (hbl : b < s.heap.size) (hz : xg_z G = s.heap.size) (hN : xg_N G = 359) (hl : l.stackTraces = false) {ce sl : Nat} (hce : ce + 9 ≤ 601024) (hsl : sl + 64 ≤ 7293034) {Q : State → Prop} {q : xw_M} {a4 : Int32}
    (K : ∀ h' : xw_M, some h' = some q → ∀ ce' sl' : Nat, ce' ≤ ce + 9 → sl' ≤ sl + 64 → xj_X p l e room_1 s m args below meth c G 9 ce' sl' Q h' [some (.ref b), some (.ref (xg_ad G 350)), some (.ref (xg_ad G 351)), some (.ref (xg_ad G 358)), some (.int a4), none, none, none, none] 1391 []) {h : xw_M} (hR : lwc_11 xs L a4 h = some q) : xj_X p l e room_1 s m args below meth c G 9 ce sl Q h [some (.ref b), some (.ref (xg_ad G 350)), some (.ref (xg_ad G 351)), some (.ref (xg_ad G 358)), some (.int a4), none, none, none, none] 558 [] := by
  unfold lwc_11 at hR
  refine xr_aload_n C dL_law_558 rfl ?_
  refine xr_callVi C (st := []) [] cv_RL_125 kd_350 (fun _ zz9 => mcX5_isStuck l G kd_350 zz9) rfl ⟨Nat.le_of_ble_eq_true rfl, Nat.le_of_ble_eq_true rfl⟩ (Nat.le_of_ble_eq_true rfl) ⟨by show _ ≤ 601024; omega, by show _ ≤ 7293034; omega⟩ rfl dL_law_559 hR (fun r1 hr1 hR => ?_)
  refine xr_aload_n C dL_law_562 rfl ?_
  refine xr_callVi C (st := [.int r1.2]) [] cv_RL_129 kd_351 (fun _ zz9 => mcX6_isStuck l G kd_351 zz9) rfl ⟨Nat.le_of_ble_eq_true rfl, Nat.le_of_ble_eq_true rfl⟩ (Nat.le_of_ble_eq_true rfl) ⟨by show _ ≤ 601024; omega, by show _ ≤ 7293034; omega⟩ rfl dL_law_563 hR (fun r2 hr2 hR => ?_)
  refine xr_icmp_eq (tgt := 1391) C dL_law_566 (by decide) hR (fun hR => ?_) (fun hR => ?_)
  · exact xr_sub (lv9 := [some (.ref b), some (.ref (xg_ad G 350)), some (.ref (xg_ad G 351)), some (.ref (xg_ad G 358)), some (.int a4), none, none, none, none]) (And.intro rfl (And.intro rfl (And.intro rfl (And.intro rfl (And.intro rfl trivial))))) (K _ hR _ _ (by omega) (by omega))
  · refine xr_iconst (v := 0) C dL_law_569 (by decide) ?_
    exact absurd hR (fun z => by cases z)
set_option maxHeartbeats 4000000 in
set_option maxRecDepth 100000 in
theorem lwp_12 {p : Program} {l : Launch} {e : Env} {s : State} {m : MethodId} {args : Array Value} {below : List Frame} {meth : Method} {c : Code} {G : xw_G} (C : xj_C p s m args meth c G RL cL_law 9) {b L : Nat} {xs : Nat → Int32} (hX : va_X b L xs s s.heap) (hbl : b < s.heap.size) (hz : xg_z G = s.heap.size) (hN : xg_N G = 359) (hl : l.stackTraces = false) {ce sl : Nat} (hce : ce + 9 ≤ 601024) (hsl : sl + 64 ≤ 7293034) {Q : State → Prop} {q : xw_M} {a4 : Int32}
    (K : ∀ h' : xw_M, some h' = some q → ∀ ce' sl' : Nat, ce' ≤ ce + 9 → sl' ≤ sl + 64 → xj_X p l e room_1 s m args below meth c G 9 ce' sl' Q h' [some (.ref b), some (.ref (xg_ad G 350)), some (.ref (xg_ad G 351)), some (.ref (xg_ad G 358)), some (.int a4), none, none, none, none] 1391 []) {h : xw_M} (hR : lwc_12 xs L a4 h = some q) : xj_X p l e room_1 s m args below meth c G 9 ce sl Q h [some (.ref b), some (.ref (xg_ad G 350)), some (.ref (xg_ad G 351)), some (.ref (xg_ad G 358)), some (.int a4), none, none, none, none] 571 [] := by
  unfold lwc_12 at hR
  refine xr_aload_n C dL_law_571 rfl ?_
  refine xr_aload_n C dL_law_572 rfl ?_
  refine xr_iload C dL_law_573 rfl ?_
  refine xr_iconst (v := 1) C dL_law_575 (by decide) ?_
  refine xr_iadd C dL_law_576 ?_
  refine xr_sld C hX hbl hz dL_law_577 hR (fun hR => ?_)
  refine xr_aload_n C dL_law_578 rfl ?_
  refine xr_callW C (st := []) [.ref (xg_ad G 350), .int (xs (Int32.toNatClampNeg (a4 + (1 : Int32)))), .ref (xg_ad G 358)] cw_130 (fun _ zz9 => mwL_held l G hl kd_350 kd_358 zz9) rfl ⟨Nat.le_of_ble_eq_true rfl, Nat.le_of_ble_eq_true rfl⟩ (Nat.le_of_ble_eq_true rfl) ⟨by show _ ≤ 601024; omega, by show _ ≤ 7293034; omega⟩ rfl dL_law_579 hR (fun r1 hr1 hR => ?_)
  refine xr_istore C dL_law_582 rfl (by decide) ?_
  refine xr_aload_n C dL_law_584 rfl ?_
  refine xr_aload_n C dL_law_585 rfl ?_
  refine xr_iload C dL_law_586 rfl ?_
  refine xr_iconst (v := 1) C dL_law_588 (by decide) ?_
  refine xr_iadd C dL_law_589 ?_
  refine xr_sld C hX hbl hz dL_law_590 hR (fun hR => ?_)
  refine xr_callVi C (st := []) [.int (xs (Int32.toNatClampNeg (a4 + (1 : Int32))))] cv_RL_132 kd_351 (fun _ zz9 => mcX6_held l G kd_351 zz9) rfl ⟨Nat.le_of_ble_eq_true rfl, Nat.le_of_ble_eq_true rfl⟩ (Nat.le_of_ble_eq_true rfl) ⟨by show _ ≤ 601024; omega, by show _ ≤ 7293034; omega⟩ rfl dL_law_591 hR (fun r2 hr2 hR => ?_)
  refine xr_istore C dL_law_594 rfl (by decide) ?_
  refine xr_aload_n C dL_law_596 rfl ?_
  refine xr_callVi C (st := []) [] cv_RL_83 kd_351 (fun _ zz9 => mcX6_thrown l G kd_351 zz9) rfl ⟨Nat.le_of_ble_eq_true rfl, Nat.le_of_ble_eq_true rfl⟩ (Nat.le_of_ble_eq_true rfl) ⟨by show _ ≤ 601024; omega, by show _ ≤ 7293034; omega⟩ rfl dL_law_597 hR (fun r3 hr3 hR => ?_)
  refine xr_iload C dL_law_600 rfl ?_
  refine xr_icmp_eq (tgt := 607) C dL_law_602 (by decide) hR (fun hR => ?_) (fun hR => ?_)
  · refine xr_iload C dL_law_607 rfl ?_
    refine xr_if_ne (tgt := 624) C dL_law_609 (by decide) hR (fun hR => ?_) (fun hR => ?_)
    · refine xr_goto (tgt := 1391) C dL_law_624 (by decide) ?_
      exact xr_sub (lv9 := [some (.ref b), some (.ref (xg_ad G 350)), some (.ref (xg_ad G 351)), some (.ref (xg_ad G 358)), some (.int a4), none, none, none, none]) (And.intro rfl (And.intro rfl (And.intro rfl (And.intro rfl (And.intro rfl trivial))))) (K _ hR _ _ (by omega) (by omega))
    · refine xr_aload_n C dL_law_612 rfl ?_
      refine xr_iconst (v := 0) C dL_law_613 (by decide) ?_
      refine xr_lald C kd_358 (xj_lt15 C kd_358) dL_law_614 ?_
      refine xr_iload C dL_law_615 rfl ?_
      refine xr_i2l C dL_law_617 ?_
      refine xr_lcmp C dL_law_618 ?_
      refine xr_if_eq (tgt := 624) C dL_law_619 (by decide) hR (fun hR => ?_) (fun hR => ?_)
      · refine xr_goto (tgt := 1391) C dL_law_624 (by decide) ?_
        exact xr_sub (lv9 := [some (.ref b), some (.ref (xg_ad G 350)), some (.ref (xg_ad G 351)), some (.ref (xg_ad G 358)), some (.int a4), none, none, none, none]) (And.intro rfl (And.intro rfl (And.intro rfl (And.intro rfl (And.intro rfl trivial))))) (K _ hR _ _ (by omega) (by omega))
      · refine xr_iconst (v := 0) C dL_law_622 (by decide) ?_
        exact absurd hR (fun z => by cases z)
  · refine xr_iconst (v := 0) C dL_law_605 (by decide) ?_
    exact absurd hR (fun z => by cases z)
set_option maxHeartbeats 4000000 in
set_option maxRecDepth 100000 in
theorem lwp_13 {p : Program} {l : Launch} {e : Env} {s : State} {m : MethodId} {args : Array Value} {below : List Frame} {meth : Method} {c : Code} {G : xw_G} (C : xj_C p s m args meth c G RL cL_law 9) {b L : Nat} {xs : Nat → Int32} (hX : va_X b L xs s s.heap) (hbl : b < s.heap.size) (hz : xg_z G = s.heap.size) (hN : xg_N G = 359) (hl : l.stackTraces = false) {ce sl : Nat} (hce : ce + 9 ≤ 601024) (hsl : sl + 64 ≤ 7293034) {Q : State → Prop} {q : xw_M} {a4 : Int32}
    (K : ∀ h' : xw_M, some h' = some q → ∀ ce' sl' : Nat, ce' ≤ ce + 9 → sl' ≤ sl + 64 → xj_X p l e room_1 s m args below meth c G 9 ce' sl' Q h' [some (.ref b), some (.ref (xg_ad G 350)), some (.ref (xg_ad G 351)), some (.ref (xg_ad G 358)), some (.int a4), none, none, none, none] 1391 []) {h : xw_M} (hR : lwc_13 xs L a4 h = some q) : xj_X p l e room_1 s m args below meth c G 9 ce sl Q h [some (.ref b), some (.ref (xg_ad G 350)), some (.ref (xg_ad G 351)), some (.ref (xg_ad G 358)), some (.int a4), none, none, none, none] 627 [] := by
  unfold lwc_13 at hR
  refine xr_aload_n C dL_law_627 rfl ?_
  refine xr_aload_n C dL_law_628 rfl ?_
  refine xr_iload C dL_law_629 rfl ?_
  refine xr_iconst (v := 1) C dL_law_631 (by decide) ?_
  refine xr_iadd C dL_law_632 ?_
  refine xr_sld C hX hbl hz dL_law_633 hR (fun hR => ?_)
  refine xr_aload_n C dL_law_634 rfl ?_
  refine xr_iload C dL_law_635 rfl ?_
  refine xr_iconst (v := 2) C dL_law_637 (by decide) ?_
  refine xr_iadd C dL_law_638 ?_
  refine xr_sld C hX hbl hz dL_law_639 hR (fun hR => ?_)
  refine xr_aload_n C dL_law_640 rfl ?_
  refine xr_callW C (st := []) [.ref (xg_ad G 350), .int (xs (Int32.toNatClampNeg (a4 + (1 : Int32)))), .int (xs (Int32.toNatClampNeg (a4 + (2 : Int32)))), .ref (xg_ad G 358)] cw_133 (fun _ zz9 => mwL_valueAt l G hl kd_350 kd_358 zz9) rfl ⟨Nat.le_of_ble_eq_true rfl, Nat.le_of_ble_eq_true rfl⟩ (Nat.le_of_ble_eq_true rfl) ⟨by show _ ≤ 601024; omega, by show _ ≤ 7293034; omega⟩ rfl dL_law_641 hR (fun r1 hr1 hR => ?_)
  refine xr_istore C dL_law_644 rfl (by decide) ?_
  refine xr_aload_n C dL_law_646 rfl ?_
  refine xr_aload_n C dL_law_647 rfl ?_
  refine xr_iload C dL_law_648 rfl ?_
  refine xr_iconst (v := 1) C dL_law_650 (by decide) ?_
  refine xr_iadd C dL_law_651 ?_
  refine xr_sld C hX hbl hz dL_law_652 hR (fun hR => ?_)
  refine xr_aload_n C dL_law_653 rfl ?_
  refine xr_iload C dL_law_654 rfl ?_
  refine xr_iconst (v := 2) C dL_law_656 (by decide) ?_
  refine xr_iadd C dL_law_657 ?_
  refine xr_sld C hX hbl hz dL_law_658 hR (fun hR => ?_)
  refine xr_callVi C (st := []) [.int (xs (Int32.toNatClampNeg (a4 + (1 : Int32)))), .int (xs (Int32.toNatClampNeg (a4 + (2 : Int32))))] cv_RL_135 kd_351 (fun _ zz9 => mcX6_valueAt l G kd_351 zz9) rfl ⟨Nat.le_of_ble_eq_true rfl, Nat.le_of_ble_eq_true rfl⟩ (Nat.le_of_ble_eq_true rfl) ⟨by show _ ≤ 601024; omega, by show _ ≤ 7293034; omega⟩ rfl dL_law_659 hR (fun r2 hr2 hR => ?_)
  refine xr_istore C dL_law_662 rfl (by decide) ?_
  refine xr_aload_n C dL_law_664 rfl ?_
  refine xr_callVi C (st := []) [] cv_RL_83 kd_351 (fun _ zz9 => mcX6_thrown l G kd_351 zz9) rfl ⟨Nat.le_of_ble_eq_true rfl, Nat.le_of_ble_eq_true rfl⟩ (Nat.le_of_ble_eq_true rfl) ⟨by show _ ≤ 601024; omega, by show _ ≤ 7293034; omega⟩ rfl dL_law_665 hR (fun r3 hr3 hR => ?_)
  refine xr_iload C dL_law_668 rfl ?_
  refine xr_icmp_eq (tgt := 675) C dL_law_670 (by decide) hR (fun hR => ?_) (fun hR => ?_)
  · refine xr_iload C dL_law_675 rfl ?_
    refine xr_if_ne (tgt := 692) C dL_law_677 (by decide) hR (fun hR => ?_) (fun hR => ?_)
    · refine xr_goto (tgt := 1391) C dL_law_692 (by decide) ?_
      exact xr_sub (lv9 := [some (.ref b), some (.ref (xg_ad G 350)), some (.ref (xg_ad G 351)), some (.ref (xg_ad G 358)), some (.int a4), none, none, none, none]) (And.intro rfl (And.intro rfl (And.intro rfl (And.intro rfl (And.intro rfl trivial))))) (K _ hR _ _ (by omega) (by omega))
    · refine xr_aload_n C dL_law_680 rfl ?_
      refine xr_iconst (v := 0) C dL_law_681 (by decide) ?_
      refine xr_lald C kd_358 (xj_lt15 C kd_358) dL_law_682 ?_
      refine xr_iload C dL_law_683 rfl ?_
      refine xr_i2l C dL_law_685 ?_
      refine xr_lcmp C dL_law_686 ?_
      refine xr_if_eq (tgt := 692) C dL_law_687 (by decide) hR (fun hR => ?_) (fun hR => ?_)
      · refine xr_goto (tgt := 1391) C dL_law_692 (by decide) ?_
        exact xr_sub (lv9 := [some (.ref b), some (.ref (xg_ad G 350)), some (.ref (xg_ad G 351)), some (.ref (xg_ad G 358)), some (.int a4), none, none, none, none]) (And.intro rfl (And.intro rfl (And.intro rfl (And.intro rfl (And.intro rfl trivial))))) (K _ hR _ _ (by omega) (by omega))
      · refine xr_iconst (v := 0) C dL_law_690 (by decide) ?_
        exact absurd hR (fun z => by cases z)
  · refine xr_iconst (v := 0) C dL_law_673 (by decide) ?_
    exact absurd hR (fun z => by cases z)
set_option maxHeartbeats 4000000 in
set_option maxRecDepth 100000 in
theorem lwp_14 {p : Program} {l : Launch} {e : Env} {s : State} {m : MethodId} {args : Array Value} {below : List Frame} {meth : Method} {c : Code} {G : xw_G} (C : xj_C p s m args meth c G RL cL_law 9) {b L : Nat} {xs : Nat → Int32} (hX : va_X b L xs s s.heap) (hbl : b < s.heap.size) (hz : xg_z G = s.heap.size) (hN : xg_N G = 359) (hl : l.stackTraces = false) {ce sl : Nat} (hce : ce + 9 ≤ 601024) (hsl : sl + 64 ≤ 7293034) {Q : State → Prop} {q : xw_M} {a4 : Int32}
    (K : ∀ h' : xw_M, some h' = some q → ∀ ce' sl' : Nat, ce' ≤ ce + 9 → sl' ≤ sl + 64 → xj_X p l e room_1 s m args below meth c G 9 ce' sl' Q h' [some (.ref b), some (.ref (xg_ad G 350)), some (.ref (xg_ad G 351)), some (.ref (xg_ad G 358)), some (.int a4), none, none, none, none] 1391 []) {h : xw_M} (hR : lwc_14 xs L a4 h = some q) : xj_X p l e room_1 s m args below meth c G 9 ce sl Q h [some (.ref b), some (.ref (xg_ad G 350)), some (.ref (xg_ad G 351)), some (.ref (xg_ad G 358)), some (.int a4), none, none, none, none] 695 [] := by
  unfold lwc_14 at hR
  refine xr_aload_n C dL_law_695 rfl ?_
  refine xr_aload_n C dL_law_696 rfl ?_
  refine xr_iload C dL_law_697 rfl ?_
  refine xr_iconst (v := 1) C dL_law_699 (by decide) ?_
  refine xr_iadd C dL_law_700 ?_
  refine xr_sld C hX hbl hz dL_law_701 hR (fun hR => ?_)
  refine xr_aload_n C dL_law_702 rfl ?_
  refine xr_callW C (st := []) [.ref (xg_ad G 350), .int (xs (Int32.toNatClampNeg (a4 + (1 : Int32)))), .ref (xg_ad G 358)] cw_136 (fun _ zz9 => mwL_sendersAt l G hl kd_350 kd_358 zz9) rfl ⟨Nat.le_of_ble_eq_true rfl, Nat.le_of_ble_eq_true rfl⟩ (Nat.le_of_ble_eq_true rfl) ⟨by show _ ≤ 601024; omega, by show _ ≤ 7293034; omega⟩ rfl dL_law_703 hR (fun r1 hr1 hR => ?_)
  refine xr_istore C dL_law_706 rfl (by decide) ?_
  refine xr_aload_n C dL_law_708 rfl ?_
  refine xr_aload_n C dL_law_709 rfl ?_
  refine xr_iload C dL_law_710 rfl ?_
  refine xr_iconst (v := 1) C dL_law_712 (by decide) ?_
  refine xr_iadd C dL_law_713 ?_
  refine xr_sld C hX hbl hz dL_law_714 hR (fun hR => ?_)
  refine xr_callVi C (st := []) [.int (xs (Int32.toNatClampNeg (a4 + (1 : Int32))))] cv_RL_138 kd_351 (fun _ zz9 => mcX6_sendersAt l G kd_351 zz9) rfl ⟨Nat.le_of_ble_eq_true rfl, Nat.le_of_ble_eq_true rfl⟩ (Nat.le_of_ble_eq_true rfl) ⟨by show _ ≤ 601024; omega, by show _ ≤ 7293034; omega⟩ rfl dL_law_715 hR (fun r2 hr2 hR => ?_)
  refine xr_istore C dL_law_718 rfl (by decide) ?_
  refine xr_aload_n C dL_law_720 rfl ?_
  refine xr_callVi C (st := []) [] cv_RL_83 kd_351 (fun _ zz9 => mcX6_thrown l G kd_351 zz9) rfl ⟨Nat.le_of_ble_eq_true rfl, Nat.le_of_ble_eq_true rfl⟩ (Nat.le_of_ble_eq_true rfl) ⟨by show _ ≤ 601024; omega, by show _ ≤ 7293034; omega⟩ rfl dL_law_721 hR (fun r3 hr3 hR => ?_)
  refine xr_iload C dL_law_724 rfl ?_
  refine xr_icmp_eq (tgt := 731) C dL_law_726 (by decide) hR (fun hR => ?_) (fun hR => ?_)
  · refine xr_iload C dL_law_731 rfl ?_
    refine xr_if_ne (tgt := 748) C dL_law_733 (by decide) hR (fun hR => ?_) (fun hR => ?_)
    · refine xr_goto (tgt := 1391) C dL_law_748 (by decide) ?_
      exact xr_sub (lv9 := [some (.ref b), some (.ref (xg_ad G 350)), some (.ref (xg_ad G 351)), some (.ref (xg_ad G 358)), some (.int a4), none, none, none, none]) (And.intro rfl (And.intro rfl (And.intro rfl (And.intro rfl (And.intro rfl trivial))))) (K _ hR _ _ (by omega) (by omega))
    · refine xr_aload_n C dL_law_736 rfl ?_
      refine xr_iconst (v := 0) C dL_law_737 (by decide) ?_
      refine xr_lald C kd_358 (xj_lt15 C kd_358) dL_law_738 ?_
      refine xr_iload C dL_law_739 rfl ?_
      refine xr_i2l C dL_law_741 ?_
      refine xr_lcmp C dL_law_742 ?_
      refine xr_if_eq (tgt := 748) C dL_law_743 (by decide) hR (fun hR => ?_) (fun hR => ?_)
      · refine xr_goto (tgt := 1391) C dL_law_748 (by decide) ?_
        exact xr_sub (lv9 := [some (.ref b), some (.ref (xg_ad G 350)), some (.ref (xg_ad G 351)), some (.ref (xg_ad G 358)), some (.int a4), none, none, none, none]) (And.intro rfl (And.intro rfl (And.intro rfl (And.intro rfl (And.intro rfl trivial))))) (K _ hR _ _ (by omega) (by omega))
      · refine xr_iconst (v := 0) C dL_law_746 (by decide) ?_
        exact absurd hR (fun z => by cases z)
  · refine xr_iconst (v := 0) C dL_law_729 (by decide) ?_
    exact absurd hR (fun z => by cases z)
set_option maxHeartbeats 4000000 in
set_option maxRecDepth 100000 in
theorem lwp_15 {p : Program} {l : Launch} {e : Env} {s : State} {m : MethodId} {args : Array Value} {below : List Frame} {meth : Method} {c : Code} {G : xw_G} (C : xj_C p s m args meth c G RL cL_law 9) {b L : Nat} {xs : Nat → Int32} (hX : va_X b L xs s s.heap) (hbl : b < s.heap.size) (hz : xg_z G = s.heap.size) (hN : xg_N G = 359) (hl : l.stackTraces = false) {ce sl : Nat} (hce : ce + 9 ≤ 601024) (hsl : sl + 64 ≤ 7293034) {Q : State → Prop} {q : xw_M} {a4 : Int32}
    (K : ∀ h' : xw_M, some h' = some q → ∀ ce' sl' : Nat, ce' ≤ ce + 9 → sl' ≤ sl + 64 → xj_X p l e room_1 s m args below meth c G 9 ce' sl' Q h' [some (.ref b), some (.ref (xg_ad G 350)), some (.ref (xg_ad G 351)), some (.ref (xg_ad G 358)), some (.int a4), none, none, none, none] 1391 []) {h : xw_M} (hR : lwc_15 xs L a4 h = some q) : xj_X p l e room_1 s m args below meth c G 9 ce sl Q h [some (.ref b), some (.ref (xg_ad G 350)), some (.ref (xg_ad G 351)), some (.ref (xg_ad G 358)), some (.int a4), none, none, none, none] 751 [] := by
  unfold lwc_15 at hR
  refine xr_aload_n C dL_law_751 rfl ?_
  refine xr_aload_n C dL_law_752 rfl ?_
  refine xr_iload C dL_law_753 rfl ?_
  refine xr_iconst (v := 1) C dL_law_755 (by decide) ?_
  refine xr_iadd C dL_law_756 ?_
  refine xr_sld C hX hbl hz dL_law_757 hR (fun hR => ?_)
  refine xr_aload_n C dL_law_758 rfl ?_
  refine xr_callW C (st := []) [.ref (xg_ad G 350), .int (xs (Int32.toNatClampNeg (a4 + (1 : Int32)))), .ref (xg_ad G 358)] cw_139 (fun _ zz9 => mwL_takersAt l G hl kd_350 kd_358 zz9) rfl ⟨Nat.le_of_ble_eq_true rfl, Nat.le_of_ble_eq_true rfl⟩ (Nat.le_of_ble_eq_true rfl) ⟨by show _ ≤ 601024; omega, by show _ ≤ 7293034; omega⟩ rfl dL_law_759 hR (fun r1 hr1 hR => ?_)
  refine xr_istore C dL_law_762 rfl (by decide) ?_
  refine xr_aload_n C dL_law_764 rfl ?_
  refine xr_aload_n C dL_law_765 rfl ?_
  refine xr_iload C dL_law_766 rfl ?_
  refine xr_iconst (v := 1) C dL_law_768 (by decide) ?_
  refine xr_iadd C dL_law_769 ?_
  refine xr_sld C hX hbl hz dL_law_770 hR (fun hR => ?_)
  refine xr_callVi C (st := []) [.int (xs (Int32.toNatClampNeg (a4 + (1 : Int32))))] cv_RL_141 kd_351 (fun _ zz9 => mcX6_takersAt l G kd_351 zz9) rfl ⟨Nat.le_of_ble_eq_true rfl, Nat.le_of_ble_eq_true rfl⟩ (Nat.le_of_ble_eq_true rfl) ⟨by show _ ≤ 601024; omega, by show _ ≤ 7293034; omega⟩ rfl dL_law_771 hR (fun r2 hr2 hR => ?_)
  refine xr_istore C dL_law_774 rfl (by decide) ?_
  refine xr_aload_n C dL_law_776 rfl ?_
  refine xr_callVi C (st := []) [] cv_RL_83 kd_351 (fun _ zz9 => mcX6_thrown l G kd_351 zz9) rfl ⟨Nat.le_of_ble_eq_true rfl, Nat.le_of_ble_eq_true rfl⟩ (Nat.le_of_ble_eq_true rfl) ⟨by show _ ≤ 601024; omega, by show _ ≤ 7293034; omega⟩ rfl dL_law_777 hR (fun r3 hr3 hR => ?_)
  refine xr_iload C dL_law_780 rfl ?_
  refine xr_icmp_eq (tgt := 787) C dL_law_782 (by decide) hR (fun hR => ?_) (fun hR => ?_)
  · refine xr_iload C dL_law_787 rfl ?_
    refine xr_if_ne (tgt := 804) C dL_law_789 (by decide) hR (fun hR => ?_) (fun hR => ?_)
    · refine xr_goto (tgt := 1391) C dL_law_804 (by decide) ?_
      exact xr_sub (lv9 := [some (.ref b), some (.ref (xg_ad G 350)), some (.ref (xg_ad G 351)), some (.ref (xg_ad G 358)), some (.int a4), none, none, none, none]) (And.intro rfl (And.intro rfl (And.intro rfl (And.intro rfl (And.intro rfl trivial))))) (K _ hR _ _ (by omega) (by omega))
    · refine xr_aload_n C dL_law_792 rfl ?_
      refine xr_iconst (v := 0) C dL_law_793 (by decide) ?_
      refine xr_lald C kd_358 (xj_lt15 C kd_358) dL_law_794 ?_
      refine xr_iload C dL_law_795 rfl ?_
      refine xr_i2l C dL_law_797 ?_
      refine xr_lcmp C dL_law_798 ?_
      refine xr_if_eq (tgt := 804) C dL_law_799 (by decide) hR (fun hR => ?_) (fun hR => ?_)
      · refine xr_goto (tgt := 1391) C dL_law_804 (by decide) ?_
        exact xr_sub (lv9 := [some (.ref b), some (.ref (xg_ad G 350)), some (.ref (xg_ad G 351)), some (.ref (xg_ad G 358)), some (.int a4), none, none, none, none]) (And.intro rfl (And.intro rfl (And.intro rfl (And.intro rfl (And.intro rfl trivial))))) (K _ hR _ _ (by omega) (by omega))
      · refine xr_iconst (v := 0) C dL_law_802 (by decide) ?_
        exact absurd hR (fun z => by cases z)
  · refine xr_iconst (v := 0) C dL_law_785 (by decide) ?_
    exact absurd hR (fun z => by cases z)
set_option maxHeartbeats 4000000 in
set_option maxRecDepth 100000 in
theorem lwp_16 {p : Program} {l : Launch} {e : Env} {s : State} {m : MethodId} {args : Array Value} {below : List Frame} {meth : Method} {c : Code} {G : xw_G} (C : xj_C p s m args meth c G RL cL_law 9) {b L : Nat} {xs : Nat → Int32} (hX : va_X b L xs s s.heap) (hbl : b < s.heap.size) (hz : xg_z G = s.heap.size) (hN : xg_N G = 359) (hl : l.stackTraces = false) {ce sl : Nat} (hce : ce + 9 ≤ 601024) (hsl : sl + 64 ≤ 7293034) {Q : State → Prop} {q : xw_M} {a4 : Int32}
    (K : ∀ h' : xw_M, some h' = some q → ∀ ce' sl' : Nat, ce' ≤ ce + 9 → sl' ≤ sl + 64 → xj_X p l e room_1 s m args below meth c G 9 ce' sl' Q h' [some (.ref b), some (.ref (xg_ad G 350)), some (.ref (xg_ad G 351)), some (.ref (xg_ad G 358)), some (.int a4), none, none, none, none] 1391 []) {h : xw_M} (hR : lwc_16 xs L a4 h = some q) : xj_X p l e room_1 s m args below meth c G 9 ce sl Q h [some (.ref b), some (.ref (xg_ad G 350)), some (.ref (xg_ad G 351)), some (.ref (xg_ad G 358)), some (.int a4), none, none, none, none] 807 [] := by
  unfold lwc_16 at hR
  refine xr_aload_n C dL_law_807 rfl ?_
  refine xr_aload_n C dL_law_808 rfl ?_
  refine xr_iload C dL_law_809 rfl ?_
  refine xr_iconst (v := 1) C dL_law_811 (by decide) ?_
  refine xr_iadd C dL_law_812 ?_
  refine xr_sld C hX hbl hz dL_law_813 hR (fun hR => ?_)
  refine xr_aload_n C dL_law_814 rfl ?_
  refine xr_callW C (st := []) [.ref (xg_ad G 350), .int (xs (Int32.toNatClampNeg (a4 + (1 : Int32)))), .ref (xg_ad G 358)] cw_142 (fun _ zz9 => mwL_stateOf l G hl kd_350 kd_358 zz9) rfl ⟨Nat.le_of_ble_eq_true rfl, Nat.le_of_ble_eq_true rfl⟩ (Nat.le_of_ble_eq_true rfl) ⟨by show _ ≤ 601024; omega, by show _ ≤ 7293034; omega⟩ rfl dL_law_815 hR (fun r1 hr1 hR => ?_)
  refine xr_istore C dL_law_818 rfl (by decide) ?_
  refine xr_aload_n C dL_law_820 rfl ?_
  refine xr_aload_n C dL_law_821 rfl ?_
  refine xr_iload C dL_law_822 rfl ?_
  refine xr_iconst (v := 1) C dL_law_824 (by decide) ?_
  refine xr_iadd C dL_law_825 ?_
  refine xr_sld C hX hbl hz dL_law_826 hR (fun hR => ?_)
  refine xr_callVi C (st := []) [.int (xs (Int32.toNatClampNeg (a4 + (1 : Int32))))] cv_RL_144 kd_351 (fun _ zz9 => mcX6_stateOf l G kd_351 zz9) rfl ⟨Nat.le_of_ble_eq_true rfl, Nat.le_of_ble_eq_true rfl⟩ (Nat.le_of_ble_eq_true rfl) ⟨by show _ ≤ 601024; omega, by show _ ≤ 7293034; omega⟩ rfl dL_law_827 hR (fun r2 hr2 hR => ?_)
  refine xr_istore C dL_law_830 rfl (by decide) ?_
  refine xr_aload_n C dL_law_832 rfl ?_
  refine xr_callVi C (st := []) [] cv_RL_83 kd_351 (fun _ zz9 => mcX6_thrown l G kd_351 zz9) rfl ⟨Nat.le_of_ble_eq_true rfl, Nat.le_of_ble_eq_true rfl⟩ (Nat.le_of_ble_eq_true rfl) ⟨by show _ ≤ 601024; omega, by show _ ≤ 7293034; omega⟩ rfl dL_law_833 hR (fun r3 hr3 hR => ?_)
  refine xr_iload C dL_law_836 rfl ?_
  refine xr_icmp_eq (tgt := 843) C dL_law_838 (by decide) hR (fun hR => ?_) (fun hR => ?_)
  · refine xr_iload C dL_law_843 rfl ?_
    refine xr_if_ne (tgt := 860) C dL_law_845 (by decide) hR (fun hR => ?_) (fun hR => ?_)
    · refine xr_goto (tgt := 1391) C dL_law_860 (by decide) ?_
      exact xr_sub (lv9 := [some (.ref b), some (.ref (xg_ad G 350)), some (.ref (xg_ad G 351)), some (.ref (xg_ad G 358)), some (.int a4), none, none, none, none]) (And.intro rfl (And.intro rfl (And.intro rfl (And.intro rfl (And.intro rfl trivial))))) (K _ hR _ _ (by omega) (by omega))
    · refine xr_aload_n C dL_law_848 rfl ?_
      refine xr_iconst (v := 0) C dL_law_849 (by decide) ?_
      refine xr_lald C kd_358 (xj_lt15 C kd_358) dL_law_850 ?_
      refine xr_iload C dL_law_851 rfl ?_
      refine xr_i2l C dL_law_853 ?_
      refine xr_lcmp C dL_law_854 ?_
      refine xr_if_eq (tgt := 860) C dL_law_855 (by decide) hR (fun hR => ?_) (fun hR => ?_)
      · refine xr_goto (tgt := 1391) C dL_law_860 (by decide) ?_
        exact xr_sub (lv9 := [some (.ref b), some (.ref (xg_ad G 350)), some (.ref (xg_ad G 351)), some (.ref (xg_ad G 358)), some (.int a4), none, none, none, none]) (And.intro rfl (And.intro rfl (And.intro rfl (And.intro rfl (And.intro rfl trivial))))) (K _ hR _ _ (by omega) (by omega))
      · refine xr_iconst (v := 0) C dL_law_858 (by decide) ?_
        exact absurd hR (fun z => by cases z)
  · refine xr_iconst (v := 0) C dL_law_841 (by decide) ?_
    exact absurd hR (fun z => by cases z)
set_option maxHeartbeats 4000000 in
set_option maxRecDepth 100000 in
theorem lwp_17 {p : Program} {l : Launch} {e : Env} {s : State} {m : MethodId} {args : Array Value} {below : List Frame} {meth : Method} {c : Code} {G : xw_G} (C : xj_C p s m args meth c G RL cL_law 9) {b L : Nat} {xs : Nat → Int32} (hX : va_X b L xs s s.heap) (hbl : b < s.heap.size) (hz : xg_z G = s.heap.size) (hN : xg_N G = 359) (hl : l.stackTraces = false) {ce sl : Nat} (hce : ce + 9 ≤ 601024) (hsl : sl + 64 ≤ 7293034) {Q : State → Prop} {q : xw_M} {a4 : Int32}
    (K : ∀ h' : xw_M, some h' = some q → ∀ ce' sl' : Nat, ce' ≤ ce + 9 → sl' ≤ sl + 64 → xj_X p l e room_1 s m args below meth c G 9 ce' sl' Q h' [some (.ref b), some (.ref (xg_ad G 350)), some (.ref (xg_ad G 351)), some (.ref (xg_ad G 358)), some (.int a4), none, none, none, none] 1391 []) {h : xw_M} (hR : lwc_17 xs L a4 h = some q) : xj_X p l e room_1 s m args below meth c G 9 ce sl Q h [some (.ref b), some (.ref (xg_ad G 350)), some (.ref (xg_ad G 351)), some (.ref (xg_ad G 358)), some (.int a4), none, none, none, none] 863 [] := by
  unfold lwc_17 at hR
  refine xr_aload_n C dL_law_863 rfl ?_
  refine xr_aload_n C dL_law_864 rfl ?_
  refine xr_iload C dL_law_865 rfl ?_
  refine xr_iconst (v := 1) C dL_law_867 (by decide) ?_
  refine xr_iadd C dL_law_868 ?_
  refine xr_sld C hX hbl hz dL_law_869 hR (fun hR => ?_)
  refine xr_aload_n C dL_law_870 rfl ?_
  refine xr_callW C (st := []) [.ref (xg_ad G 350), .int (xs (Int32.toNatClampNeg (a4 + (1 : Int32)))), .ref (xg_ad G 358)] cw_145 (fun _ zz9 => mwL_placeOf l G hl kd_350 kd_358 zz9) rfl ⟨Nat.le_of_ble_eq_true rfl, Nat.le_of_ble_eq_true rfl⟩ (Nat.le_of_ble_eq_true rfl) ⟨by show _ ≤ 601024; omega, by show _ ≤ 7293034; omega⟩ rfl dL_law_871 hR (fun r1 hr1 hR => ?_)
  refine xr_istore C dL_law_874 rfl (by decide) ?_
  refine xr_aload_n C dL_law_876 rfl ?_
  refine xr_aload_n C dL_law_877 rfl ?_
  refine xr_iload C dL_law_878 rfl ?_
  refine xr_iconst (v := 1) C dL_law_880 (by decide) ?_
  refine xr_iadd C dL_law_881 ?_
  refine xr_sld C hX hbl hz dL_law_882 hR (fun hR => ?_)
  refine xr_callVi C (st := []) [.int (xs (Int32.toNatClampNeg (a4 + (1 : Int32))))] cv_RL_147 kd_351 (fun _ zz9 => mcX6_placeOf l G kd_351 zz9) rfl ⟨Nat.le_of_ble_eq_true rfl, Nat.le_of_ble_eq_true rfl⟩ (Nat.le_of_ble_eq_true rfl) ⟨by show _ ≤ 601024; omega, by show _ ≤ 7293034; omega⟩ rfl dL_law_883 hR (fun r2 hr2 hR => ?_)
  refine xr_istore C dL_law_886 rfl (by decide) ?_
  refine xr_aload_n C dL_law_888 rfl ?_
  refine xr_callVi C (st := []) [] cv_RL_83 kd_351 (fun _ zz9 => mcX6_thrown l G kd_351 zz9) rfl ⟨Nat.le_of_ble_eq_true rfl, Nat.le_of_ble_eq_true rfl⟩ (Nat.le_of_ble_eq_true rfl) ⟨by show _ ≤ 601024; omega, by show _ ≤ 7293034; omega⟩ rfl dL_law_889 hR (fun r3 hr3 hR => ?_)
  refine xr_iload C dL_law_892 rfl ?_
  refine xr_icmp_eq (tgt := 899) C dL_law_894 (by decide) hR (fun hR => ?_) (fun hR => ?_)
  · refine xr_iload C dL_law_899 rfl ?_
    refine xr_if_ne (tgt := 916) C dL_law_901 (by decide) hR (fun hR => ?_) (fun hR => ?_)
    · refine xr_goto (tgt := 1391) C dL_law_916 (by decide) ?_
      exact xr_sub (lv9 := [some (.ref b), some (.ref (xg_ad G 350)), some (.ref (xg_ad G 351)), some (.ref (xg_ad G 358)), some (.int a4), none, none, none, none]) (And.intro rfl (And.intro rfl (And.intro rfl (And.intro rfl (And.intro rfl trivial))))) (K _ hR _ _ (by omega) (by omega))
    · refine xr_aload_n C dL_law_904 rfl ?_
      refine xr_iconst (v := 0) C dL_law_905 (by decide) ?_
      refine xr_lald C kd_358 (xj_lt15 C kd_358) dL_law_906 ?_
      refine xr_iload C dL_law_907 rfl ?_
      refine xr_i2l C dL_law_909 ?_
      refine xr_lcmp C dL_law_910 ?_
      refine xr_if_eq (tgt := 916) C dL_law_911 (by decide) hR (fun hR => ?_) (fun hR => ?_)
      · refine xr_goto (tgt := 1391) C dL_law_916 (by decide) ?_
        exact xr_sub (lv9 := [some (.ref b), some (.ref (xg_ad G 350)), some (.ref (xg_ad G 351)), some (.ref (xg_ad G 358)), some (.int a4), none, none, none, none]) (And.intro rfl (And.intro rfl (And.intro rfl (And.intro rfl (And.intro rfl trivial))))) (K _ hR _ _ (by omega) (by omega))
      · refine xr_iconst (v := 0) C dL_law_914 (by decide) ?_
        exact absurd hR (fun z => by cases z)
  · refine xr_iconst (v := 0) C dL_law_897 (by decide) ?_
    exact absurd hR (fun z => by cases z)
set_option maxHeartbeats 4000000 in
set_option maxRecDepth 100000 in
theorem lwp_18 {p : Program} {l : Launch} {e : Env} {s : State} {m : MethodId} {args : Array Value} {below : List Frame} {meth : Method} {c : Code} {G : xw_G} (C : xj_C p s m args meth c G RL cL_law 9) {b L : Nat} {xs : Nat → Int32} (hX : va_X b L xs s s.heap) (hbl : b < s.heap.size) (hz : xg_z G = s.heap.size) (hN : xg_N G = 359) (hl : l.stackTraces = false) {ce sl : Nat} (hce : ce + 9 ≤ 601024) (hsl : sl + 64 ≤ 7293034) {Q : State → Prop} {q : xw_M} {a4 : Int32}
    (K : ∀ h' : xw_M, some h' = some q → ∀ ce' sl' : Nat, ce' ≤ ce + 9 → sl' ≤ sl + 64 → xj_X p l e room_1 s m args below meth c G 9 ce' sl' Q h' [some (.ref b), some (.ref (xg_ad G 350)), some (.ref (xg_ad G 351)), some (.ref (xg_ad G 358)), some (.int a4), none, none, none, none] 1391 []) {h : xw_M} (hR : lwc_18 xs L a4 h = some q) : xj_X p l e room_1 s m args below meth c G 9 ce sl Q h [some (.ref b), some (.ref (xg_ad G 350)), some (.ref (xg_ad G 351)), some (.ref (xg_ad G 358)), some (.int a4), none, none, none, none] 919 [] := by
  unfold lwc_18 at hR
  refine xr_aload_n C dL_law_919 rfl ?_
  refine xr_aload_n C dL_law_920 rfl ?_
  refine xr_iload C dL_law_921 rfl ?_
  refine xr_iconst (v := 1) C dL_law_923 (by decide) ?_
  refine xr_iadd C dL_law_924 ?_
  refine xr_sld C hX hbl hz dL_law_925 hR (fun hR => ?_)
  refine xr_aload_n C dL_law_926 rfl ?_
  refine xr_callW C (st := []) [.ref (xg_ad G 350), .int (xs (Int32.toNatClampNeg (a4 + (1 : Int32)))), .ref (xg_ad G 358)] cw_148 (fun _ zz9 => mwL_sumOf l G hl kd_350 kd_358 zz9) rfl ⟨Nat.le_of_ble_eq_true rfl, Nat.le_of_ble_eq_true rfl⟩ (Nat.le_of_ble_eq_true rfl) ⟨by show _ ≤ 601024; omega, by show _ ≤ 7293034; omega⟩ rfl dL_law_927 hR (fun r1 hr1 hR => ?_)
  refine xr_istore C dL_law_930 rfl (by decide) ?_
  refine xr_aload_n C dL_law_932 rfl ?_
  refine xr_aload_n C dL_law_933 rfl ?_
  refine xr_iload C dL_law_934 rfl ?_
  refine xr_iconst (v := 1) C dL_law_936 (by decide) ?_
  refine xr_iadd C dL_law_937 ?_
  refine xr_sld C hX hbl hz dL_law_938 hR (fun hR => ?_)
  refine xr_callVi C (st := []) [.int (xs (Int32.toNatClampNeg (a4 + (1 : Int32))))] cv_RL_150 kd_351 (fun _ zz9 => mcX6_sumOf l G kd_351 zz9) rfl ⟨Nat.le_of_ble_eq_true rfl, Nat.le_of_ble_eq_true rfl⟩ (Nat.le_of_ble_eq_true rfl) ⟨by show _ ≤ 601024; omega, by show _ ≤ 7293034; omega⟩ rfl dL_law_939 hR (fun r2 hr2 hR => ?_)
  refine xr_istore C dL_law_942 rfl (by decide) ?_
  refine xr_aload_n C dL_law_944 rfl ?_
  refine xr_callVi C (st := []) [] cv_RL_83 kd_351 (fun _ zz9 => mcX6_thrown l G kd_351 zz9) rfl ⟨Nat.le_of_ble_eq_true rfl, Nat.le_of_ble_eq_true rfl⟩ (Nat.le_of_ble_eq_true rfl) ⟨by show _ ≤ 601024; omega, by show _ ≤ 7293034; omega⟩ rfl dL_law_945 hR (fun r3 hr3 hR => ?_)
  refine xr_iload C dL_law_948 rfl ?_
  refine xr_icmp_eq (tgt := 955) C dL_law_950 (by decide) hR (fun hR => ?_) (fun hR => ?_)
  · refine xr_iload C dL_law_955 rfl ?_
    refine xr_if_ne (tgt := 972) C dL_law_957 (by decide) hR (fun hR => ?_) (fun hR => ?_)
    · refine xr_goto (tgt := 1391) C dL_law_972 (by decide) ?_
      exact xr_sub (lv9 := [some (.ref b), some (.ref (xg_ad G 350)), some (.ref (xg_ad G 351)), some (.ref (xg_ad G 358)), some (.int a4), none, none, none, none]) (And.intro rfl (And.intro rfl (And.intro rfl (And.intro rfl (And.intro rfl trivial))))) (K _ hR _ _ (by omega) (by omega))
    · refine xr_aload_n C dL_law_960 rfl ?_
      refine xr_iconst (v := 0) C dL_law_961 (by decide) ?_
      refine xr_lald C kd_358 (xj_lt15 C kd_358) dL_law_962 ?_
      refine xr_iload C dL_law_963 rfl ?_
      refine xr_i2l C dL_law_965 ?_
      refine xr_lcmp C dL_law_966 ?_
      refine xr_if_eq (tgt := 972) C dL_law_967 (by decide) hR (fun hR => ?_) (fun hR => ?_)
      · refine xr_goto (tgt := 1391) C dL_law_972 (by decide) ?_
        exact xr_sub (lv9 := [some (.ref b), some (.ref (xg_ad G 350)), some (.ref (xg_ad G 351)), some (.ref (xg_ad G 358)), some (.int a4), none, none, none, none]) (And.intro rfl (And.intro rfl (And.intro rfl (And.intro rfl (And.intro rfl trivial))))) (K _ hR _ _ (by omega) (by omega))
      · refine xr_iconst (v := 0) C dL_law_970 (by decide) ?_
        exact absurd hR (fun z => by cases z)
  · refine xr_iconst (v := 0) C dL_law_953 (by decide) ?_
    exact absurd hR (fun z => by cases z)
set_option maxHeartbeats 4000000 in
set_option maxRecDepth 100000 in
theorem lwp_19 {p : Program} {l : Launch} {e : Env} {s : State} {m : MethodId} {args : Array Value} {below : List Frame} {meth : Method} {c : Code} {G : xw_G} (C : xj_C p s m args meth c G RL cL_law 9) {b L : Nat} {xs : Nat → Int32} (hX : va_X b L xs s s.heap) (hbl : b < s.heap.size) (hz : xg_z G = s.heap.size) (hN : xg_N G = 359) (hl : l.stackTraces = false) {ce sl : Nat} (hce : ce + 9 ≤ 601024) (hsl : sl + 64 ≤ 7293034) {Q : State → Prop} {q : xw_M} {a4 : Int32}
    (K : ∀ h' : xw_M, some h' = some q → ∀ ce' sl' : Nat, ce' ≤ ce + 9 → sl' ≤ sl + 64 → xj_X p l e room_1 s m args below meth c G 9 ce' sl' Q h' [some (.ref b), some (.ref (xg_ad G 350)), some (.ref (xg_ad G 351)), some (.ref (xg_ad G 358)), some (.int a4), none, none, none, none] 1391 []) {h : xw_M} (hR : lwc_19 xs L a4 h = some q) : xj_X p l e room_1 s m args below meth c G 9 ce sl Q h [some (.ref b), some (.ref (xg_ad G 350)), some (.ref (xg_ad G 351)), some (.ref (xg_ad G 358)), some (.int a4), none, none, none, none] 975 [] := by
  unfold lwc_19 at hR
  refine xr_aload_n C dL_law_975 rfl ?_
  refine xr_aload_n C dL_law_976 rfl ?_
  refine xr_iload C dL_law_977 rfl ?_
  refine xr_iconst (v := 1) C dL_law_979 (by decide) ?_
  refine xr_iadd C dL_law_980 ?_
  refine xr_sld C hX hbl hz dL_law_981 hR (fun hR => ?_)
  refine xr_aload_n C dL_law_982 rfl ?_
  refine xr_callW C (st := []) [.ref (xg_ad G 350), .int (xs (Int32.toNatClampNeg (a4 + (1 : Int32)))), .ref (xg_ad G 358)] cw_151 (fun _ zz9 => mwL_stepsDone l G hl kd_350 kd_358 zz9) rfl ⟨Nat.le_of_ble_eq_true rfl, Nat.le_of_ble_eq_true rfl⟩ (Nat.le_of_ble_eq_true rfl) ⟨by show _ ≤ 601024; omega, by show _ ≤ 7293034; omega⟩ rfl dL_law_983 hR (fun r1 hr1 hR => ?_)
  refine xr_istore C dL_law_986 rfl (by decide) ?_
  refine xr_aload_n C dL_law_988 rfl ?_
  refine xr_aload_n C dL_law_989 rfl ?_
  refine xr_iload C dL_law_990 rfl ?_
  refine xr_iconst (v := 1) C dL_law_992 (by decide) ?_
  refine xr_iadd C dL_law_993 ?_
  refine xr_sld C hX hbl hz dL_law_994 hR (fun hR => ?_)
  refine xr_callVi C (st := []) [.int (xs (Int32.toNatClampNeg (a4 + (1 : Int32))))] cv_RL_153 kd_351 (fun _ zz9 => mcX6_stepsDone l G kd_351 zz9) rfl ⟨Nat.le_of_ble_eq_true rfl, Nat.le_of_ble_eq_true rfl⟩ (Nat.le_of_ble_eq_true rfl) ⟨by show _ ≤ 601024; omega, by show _ ≤ 7293034; omega⟩ rfl dL_law_995 hR (fun r2 hr2 hR => ?_)
  refine xr_istore C dL_law_998 rfl (by decide) ?_
  refine xr_aload_n C dL_law_1000 rfl ?_
  refine xr_callVi C (st := []) [] cv_RL_83 kd_351 (fun _ zz9 => mcX6_thrown l G kd_351 zz9) rfl ⟨Nat.le_of_ble_eq_true rfl, Nat.le_of_ble_eq_true rfl⟩ (Nat.le_of_ble_eq_true rfl) ⟨by show _ ≤ 601024; omega, by show _ ≤ 7293034; omega⟩ rfl dL_law_1001 hR (fun r3 hr3 hR => ?_)
  refine xr_iload C dL_law_1004 rfl ?_
  refine xr_icmp_eq (tgt := 1011) C dL_law_1006 (by decide) hR (fun hR => ?_) (fun hR => ?_)
  · refine xr_iload C dL_law_1011 rfl ?_
    refine xr_if_ne (tgt := 1028) C dL_law_1013 (by decide) hR (fun hR => ?_) (fun hR => ?_)
    · refine xr_goto (tgt := 1391) C dL_law_1028 (by decide) ?_
      exact xr_sub (lv9 := [some (.ref b), some (.ref (xg_ad G 350)), some (.ref (xg_ad G 351)), some (.ref (xg_ad G 358)), some (.int a4), none, none, none, none]) (And.intro rfl (And.intro rfl (And.intro rfl (And.intro rfl (And.intro rfl trivial))))) (K _ hR _ _ (by omega) (by omega))
    · refine xr_aload_n C dL_law_1016 rfl ?_
      refine xr_iconst (v := 0) C dL_law_1017 (by decide) ?_
      refine xr_lald C kd_358 (xj_lt15 C kd_358) dL_law_1018 ?_
      refine xr_iload C dL_law_1019 rfl ?_
      refine xr_i2l C dL_law_1021 ?_
      refine xr_lcmp C dL_law_1022 ?_
      refine xr_if_eq (tgt := 1028) C dL_law_1023 (by decide) hR (fun hR => ?_) (fun hR => ?_)
      · refine xr_goto (tgt := 1391) C dL_law_1028 (by decide) ?_
        exact xr_sub (lv9 := [some (.ref b), some (.ref (xg_ad G 350)), some (.ref (xg_ad G 351)), some (.ref (xg_ad G 358)), some (.int a4), none, none, none, none]) (And.intro rfl (And.intro rfl (And.intro rfl (And.intro rfl (And.intro rfl trivial))))) (K _ hR _ _ (by omega) (by omega))
      · refine xr_iconst (v := 0) C dL_law_1026 (by decide) ?_
        exact absurd hR (fun z => by cases z)
  · refine xr_iconst (v := 0) C dL_law_1009 (by decide) ?_
    exact absurd hR (fun z => by cases z)
set_option maxHeartbeats 4000000 in
set_option maxRecDepth 100000 in
theorem lwp_20 {p : Program} {l : Launch} {e : Env} {s : State} {m : MethodId} {args : Array Value} {below : List Frame} {meth : Method} {c : Code} {G : xw_G} (C : xj_C p s m args meth c G RL cL_law 9) {b L : Nat} {xs : Nat → Int32} (hX : va_X b L xs s s.heap) (hbl : b < s.heap.size) (hz : xg_z G = s.heap.size) (hN : xg_N G = 359) (hl : l.stackTraces = false) {ce sl : Nat} (hce : ce + 9 ≤ 601024) (hsl : sl + 64 ≤ 7293034) {Q : State → Prop} {q : xw_M} {a4 : Int32}
    (K : ∀ h' : xw_M, some h' = some q → ∀ ce' sl' : Nat, ce' ≤ ce + 9 → sl' ≤ sl + 64 → xj_X p l e room_1 s m args below meth c G 9 ce' sl' Q h' [some (.ref b), some (.ref (xg_ad G 350)), some (.ref (xg_ad G 351)), some (.ref (xg_ad G 358)), some (.int a4), none, none, none, none] 1391 []) {h : xw_M} (hR : lwc_20 xs L a4 h = some q) : xj_X p l e room_1 s m args below meth c G 9 ce sl Q h [some (.ref b), some (.ref (xg_ad G 350)), some (.ref (xg_ad G 351)), some (.ref (xg_ad G 358)), some (.int a4), none, none, none, none] 1031 [] := by
  unfold lwc_20 at hR
  refine xr_aload_n C dL_law_1031 rfl ?_
  refine xr_aload_n C dL_law_1032 rfl ?_
  refine xr_iload C dL_law_1033 rfl ?_
  refine xr_iconst (v := 1) C dL_law_1035 (by decide) ?_
  refine xr_iadd C dL_law_1036 ?_
  refine xr_sld C hX hbl hz dL_law_1037 hR (fun hR => ?_)
  refine xr_aload_n C dL_law_1038 rfl ?_
  refine xr_callW C (st := []) [.ref (xg_ad G 350), .int (xs (Int32.toNatClampNeg (a4 + (1 : Int32)))), .ref (xg_ad G 358)] cw_154 (fun _ zz9 => mwL_turnsOf l G hl kd_350 kd_358 zz9) rfl ⟨Nat.le_of_ble_eq_true rfl, Nat.le_of_ble_eq_true rfl⟩ (Nat.le_of_ble_eq_true rfl) ⟨by show _ ≤ 601024; omega, by show _ ≤ 7293034; omega⟩ rfl dL_law_1039 hR (fun r1 hr1 hR => ?_)
  refine xr_istore C dL_law_1042 rfl (by decide) ?_
  refine xr_aload_n C dL_law_1044 rfl ?_
  refine xr_aload_n C dL_law_1045 rfl ?_
  refine xr_iload C dL_law_1046 rfl ?_
  refine xr_iconst (v := 1) C dL_law_1048 (by decide) ?_
  refine xr_iadd C dL_law_1049 ?_
  refine xr_sld C hX hbl hz dL_law_1050 hR (fun hR => ?_)
  refine xr_callVi C (st := []) [.int (xs (Int32.toNatClampNeg (a4 + (1 : Int32))))] cv_RL_156 kd_351 (fun _ zz9 => mcX6_turnsOf l G kd_351 zz9) rfl ⟨Nat.le_of_ble_eq_true rfl, Nat.le_of_ble_eq_true rfl⟩ (Nat.le_of_ble_eq_true rfl) ⟨by show _ ≤ 601024; omega, by show _ ≤ 7293034; omega⟩ rfl dL_law_1051 hR (fun r2 hr2 hR => ?_)
  refine xr_istore C dL_law_1054 rfl (by decide) ?_
  refine xr_aload_n C dL_law_1056 rfl ?_
  refine xr_callVi C (st := []) [] cv_RL_83 kd_351 (fun _ zz9 => mcX6_thrown l G kd_351 zz9) rfl ⟨Nat.le_of_ble_eq_true rfl, Nat.le_of_ble_eq_true rfl⟩ (Nat.le_of_ble_eq_true rfl) ⟨by show _ ≤ 601024; omega, by show _ ≤ 7293034; omega⟩ rfl dL_law_1057 hR (fun r3 hr3 hR => ?_)
  refine xr_iload C dL_law_1060 rfl ?_
  refine xr_icmp_eq (tgt := 1067) C dL_law_1062 (by decide) hR (fun hR => ?_) (fun hR => ?_)
  · refine xr_iload C dL_law_1067 rfl ?_
    refine xr_if_ne (tgt := 1084) C dL_law_1069 (by decide) hR (fun hR => ?_) (fun hR => ?_)
    · refine xr_goto (tgt := 1391) C dL_law_1084 (by decide) ?_
      exact xr_sub (lv9 := [some (.ref b), some (.ref (xg_ad G 350)), some (.ref (xg_ad G 351)), some (.ref (xg_ad G 358)), some (.int a4), none, none, none, none]) (And.intro rfl (And.intro rfl (And.intro rfl (And.intro rfl (And.intro rfl trivial))))) (K _ hR _ _ (by omega) (by omega))
    · refine xr_aload_n C dL_law_1072 rfl ?_
      refine xr_iconst (v := 0) C dL_law_1073 (by decide) ?_
      refine xr_lald C kd_358 (xj_lt15 C kd_358) dL_law_1074 ?_
      refine xr_iload C dL_law_1075 rfl ?_
      refine xr_i2l C dL_law_1077 ?_
      refine xr_lcmp C dL_law_1078 ?_
      refine xr_if_eq (tgt := 1084) C dL_law_1079 (by decide) hR (fun hR => ?_) (fun hR => ?_)
      · refine xr_goto (tgt := 1391) C dL_law_1084 (by decide) ?_
        exact xr_sub (lv9 := [some (.ref b), some (.ref (xg_ad G 350)), some (.ref (xg_ad G 351)), some (.ref (xg_ad G 358)), some (.int a4), none, none, none, none]) (And.intro rfl (And.intro rfl (And.intro rfl (And.intro rfl (And.intro rfl trivial))))) (K _ hR _ _ (by omega) (by omega))
      · refine xr_iconst (v := 0) C dL_law_1082 (by decide) ?_
        exact absurd hR (fun z => by cases z)
  · refine xr_iconst (v := 0) C dL_law_1065 (by decide) ?_
    exact absurd hR (fun z => by cases z)
set_option maxHeartbeats 4000000 in
set_option maxRecDepth 100000 in
theorem lwp_21 {p : Program} {l : Launch} {e : Env} {s : State} {m : MethodId} {args : Array Value} {below : List Frame} {meth : Method} {c : Code} {G : xw_G} (C : xj_C p s m args meth c G RL cL_law 9) {b L : Nat} {xs : Nat → Int32} (hX : va_X b L xs s s.heap) (hbl : b < s.heap.size) (hz : xg_z G = s.heap.size) (hN : xg_N G = 359) (hl : l.stackTraces = false) {ce sl : Nat} (hce : ce + 9 ≤ 601024) (hsl : sl + 64 ≤ 7293034) {Q : State → Prop} {q : xw_M} {a4 : Int32}
    (K : ∀ h' : xw_M, some h' = some q → ∀ ce' sl' : Nat, ce' ≤ ce + 9 → sl' ≤ sl + 64 → xj_X p l e room_1 s m args below meth c G 9 ce' sl' Q h' [some (.ref b), some (.ref (xg_ad G 350)), some (.ref (xg_ad G 351)), some (.ref (xg_ad G 358)), some (.int a4), none, none, none, none] 1391 []) {h : xw_M} (hR : lwc_21 xs L a4 h = some q) : xj_X p l e room_1 s m args below meth c G 9 ce sl Q h [some (.ref b), some (.ref (xg_ad G 350)), some (.ref (xg_ad G 351)), some (.ref (xg_ad G 358)), some (.int a4), none, none, none, none] 1087 [] := by
  unfold lwc_21 at hR
  refine xr_aload_n C dL_law_1087 rfl ?_
  refine xr_aload_n C dL_law_1088 rfl ?_
  refine xr_iload C dL_law_1089 rfl ?_
  refine xr_iconst (v := 1) C dL_law_1091 (by decide) ?_
  refine xr_iadd C dL_law_1092 ?_
  refine xr_sld C hX hbl hz dL_law_1093 hR (fun hR => ?_)
  refine xr_aload_n C dL_law_1094 rfl ?_
  refine xr_callW C (st := []) [.ref (xg_ad G 350), .int (xs (Int32.toNatClampNeg (a4 + (1 : Int32)))), .ref (xg_ad G 358)] cw_157 (fun _ zz9 => mwL_placeInLine l G hl kd_350 kd_358 zz9) rfl ⟨Nat.le_of_ble_eq_true rfl, Nat.le_of_ble_eq_true rfl⟩ (Nat.le_of_ble_eq_true rfl) ⟨by show _ ≤ 601024; omega, by show _ ≤ 7293034; omega⟩ rfl dL_law_1095 hR (fun r1 hr1 hR => ?_)
  refine xr_istore C dL_law_1098 rfl (by decide) ?_
  refine xr_aload_n C dL_law_1100 rfl ?_
  refine xr_aload_n C dL_law_1101 rfl ?_
  refine xr_iload C dL_law_1102 rfl ?_
  refine xr_iconst (v := 1) C dL_law_1104 (by decide) ?_
  refine xr_iadd C dL_law_1105 ?_
  refine xr_sld C hX hbl hz dL_law_1106 hR (fun hR => ?_)
  refine xr_callVi C (st := []) [.int (xs (Int32.toNatClampNeg (a4 + (1 : Int32))))] cv_RL_159 kd_351 (fun _ zz9 => mcX6_placeInLine l G kd_351 zz9) rfl ⟨Nat.le_of_ble_eq_true rfl, Nat.le_of_ble_eq_true rfl⟩ (Nat.le_of_ble_eq_true rfl) ⟨by show _ ≤ 601024; omega, by show _ ≤ 7293034; omega⟩ rfl dL_law_1107 hR (fun r2 hr2 hR => ?_)
  refine xr_istore C dL_law_1110 rfl (by decide) ?_
  refine xr_aload_n C dL_law_1112 rfl ?_
  refine xr_callVi C (st := []) [] cv_RL_83 kd_351 (fun _ zz9 => mcX6_thrown l G kd_351 zz9) rfl ⟨Nat.le_of_ble_eq_true rfl, Nat.le_of_ble_eq_true rfl⟩ (Nat.le_of_ble_eq_true rfl) ⟨by show _ ≤ 601024; omega, by show _ ≤ 7293034; omega⟩ rfl dL_law_1113 hR (fun r3 hr3 hR => ?_)
  refine xr_iload C dL_law_1116 rfl ?_
  refine xr_icmp_eq (tgt := 1123) C dL_law_1118 (by decide) hR (fun hR => ?_) (fun hR => ?_)
  · refine xr_iload C dL_law_1123 rfl ?_
    refine xr_if_ne (tgt := 1140) C dL_law_1125 (by decide) hR (fun hR => ?_) (fun hR => ?_)
    · refine xr_goto (tgt := 1391) C dL_law_1140 (by decide) ?_
      exact xr_sub (lv9 := [some (.ref b), some (.ref (xg_ad G 350)), some (.ref (xg_ad G 351)), some (.ref (xg_ad G 358)), some (.int a4), none, none, none, none]) (And.intro rfl (And.intro rfl (And.intro rfl (And.intro rfl (And.intro rfl trivial))))) (K _ hR _ _ (by omega) (by omega))
    · refine xr_aload_n C dL_law_1128 rfl ?_
      refine xr_iconst (v := 0) C dL_law_1129 (by decide) ?_
      refine xr_lald C kd_358 (xj_lt15 C kd_358) dL_law_1130 ?_
      refine xr_iload C dL_law_1131 rfl ?_
      refine xr_i2l C dL_law_1133 ?_
      refine xr_lcmp C dL_law_1134 ?_
      refine xr_if_eq (tgt := 1140) C dL_law_1135 (by decide) hR (fun hR => ?_) (fun hR => ?_)
      · refine xr_goto (tgt := 1391) C dL_law_1140 (by decide) ?_
        exact xr_sub (lv9 := [some (.ref b), some (.ref (xg_ad G 350)), some (.ref (xg_ad G 351)), some (.ref (xg_ad G 358)), some (.int a4), none, none, none, none]) (And.intro rfl (And.intro rfl (And.intro rfl (And.intro rfl (And.intro rfl trivial))))) (K _ hR _ _ (by omega) (by omega))
      · refine xr_iconst (v := 0) C dL_law_1138 (by decide) ?_
        exact absurd hR (fun z => by cases z)
  · refine xr_iconst (v := 0) C dL_law_1121 (by decide) ?_
    exact absurd hR (fun z => by cases z)
set_option maxHeartbeats 4000000 in
set_option maxRecDepth 100000 in
theorem lwp_22 {p : Program} {l : Launch} {e : Env} {s : State} {m : MethodId} {args : Array Value} {below : List Frame} {meth : Method} {c : Code} {G : xw_G} (C : xj_C p s m args meth c G RL cL_law 9) {b L : Nat} {xs : Nat → Int32} (hX : va_X b L xs s s.heap) (hbl : b < s.heap.size) (hz : xg_z G = s.heap.size) (hN : xg_N G = 359) (hl : l.stackTraces = false) {ce sl : Nat} (hce : ce + 9 ≤ 601024) (hsl : sl + 64 ≤ 7293034) {Q : State → Prop} {q : xw_M} {a4 : Int32}
    (K : ∀ h' : xw_M, some h' = some q → ∀ ce' sl' : Nat, ce' ≤ ce + 9 → sl' ≤ sl + 64 → xj_X p l e room_1 s m args below meth c G 9 ce' sl' Q h' [some (.ref b), some (.ref (xg_ad G 350)), some (.ref (xg_ad G 351)), some (.ref (xg_ad G 358)), some (.int a4), none, none, none, none] 1391 []) {h : xw_M} (hR : lwc_22 xs L a4 h = some q) : xj_X p l e room_1 s m args below meth c G 9 ce sl Q h [some (.ref b), some (.ref (xg_ad G 350)), some (.ref (xg_ad G 351)), some (.ref (xg_ad G 358)), some (.int a4), none, none, none, none] 1143 [] := by
  unfold lwc_22 at hR
  refine xr_aload_n C dL_law_1143 rfl ?_
  refine xr_aload_n C dL_law_1144 rfl ?_
  refine xr_iload C dL_law_1145 rfl ?_
  refine xr_iconst (v := 1) C dL_law_1147 (by decide) ?_
  refine xr_iadd C dL_law_1148 ?_
  refine xr_sld C hX hbl hz dL_law_1149 hR (fun hR => ?_)
  refine xr_aload_n C dL_law_1150 rfl ?_
  refine xr_callW C (st := []) [.ref (xg_ad G 350), .int (xs (Int32.toNatClampNeg (a4 + (1 : Int32)))), .ref (xg_ad G 358)] cw_160 (fun _ zz9 => mwL_turnsUntilDone l G hl kd_350 kd_358 zz9) rfl ⟨Nat.le_of_ble_eq_true rfl, Nat.le_of_ble_eq_true rfl⟩ (Nat.le_of_ble_eq_true rfl) ⟨by show _ ≤ 601024; omega, by show _ ≤ 7293034; omega⟩ rfl dL_law_1151 hR (fun r1 hr1 hR => ?_)
  refine xr_istore C dL_law_1154 rfl (by decide) ?_
  refine xr_aload_n C dL_law_1156 rfl ?_
  refine xr_aload_n C dL_law_1157 rfl ?_
  refine xr_iload C dL_law_1158 rfl ?_
  refine xr_iconst (v := 1) C dL_law_1160 (by decide) ?_
  refine xr_iadd C dL_law_1161 ?_
  refine xr_sld C hX hbl hz dL_law_1162 hR (fun hR => ?_)
  refine xr_callVi C (st := []) [.int (xs (Int32.toNatClampNeg (a4 + (1 : Int32))))] cv_RL_162 kd_351 (fun _ zz9 => mcX6_turnsUntilDone l G kd_351 zz9) rfl ⟨Nat.le_of_ble_eq_true rfl, Nat.le_of_ble_eq_true rfl⟩ (Nat.le_of_ble_eq_true rfl) ⟨by show _ ≤ 601024; omega, by show _ ≤ 7293034; omega⟩ rfl dL_law_1163 hR (fun r2 hr2 hR => ?_)
  refine xr_istore C dL_law_1166 rfl (by decide) ?_
  refine xr_aload_n C dL_law_1168 rfl ?_
  refine xr_callVi C (st := []) [] cv_RL_83 kd_351 (fun _ zz9 => mcX6_thrown l G kd_351 zz9) rfl ⟨Nat.le_of_ble_eq_true rfl, Nat.le_of_ble_eq_true rfl⟩ (Nat.le_of_ble_eq_true rfl) ⟨by show _ ≤ 601024; omega, by show _ ≤ 7293034; omega⟩ rfl dL_law_1169 hR (fun r3 hr3 hR => ?_)
  refine xr_iload C dL_law_1172 rfl ?_
  refine xr_icmp_eq (tgt := 1179) C dL_law_1174 (by decide) hR (fun hR => ?_) (fun hR => ?_)
  · refine xr_iload C dL_law_1179 rfl ?_
    refine xr_if_ne (tgt := 1196) C dL_law_1181 (by decide) hR (fun hR => ?_) (fun hR => ?_)
    · refine xr_goto (tgt := 1391) C dL_law_1196 (by decide) ?_
      exact xr_sub (lv9 := [some (.ref b), some (.ref (xg_ad G 350)), some (.ref (xg_ad G 351)), some (.ref (xg_ad G 358)), some (.int a4), none, none, none, none]) (And.intro rfl (And.intro rfl (And.intro rfl (And.intro rfl (And.intro rfl trivial))))) (K _ hR _ _ (by omega) (by omega))
    · refine xr_aload_n C dL_law_1184 rfl ?_
      refine xr_iconst (v := 0) C dL_law_1185 (by decide) ?_
      refine xr_lald C kd_358 (xj_lt15 C kd_358) dL_law_1186 ?_
      refine xr_iload C dL_law_1187 rfl ?_
      refine xr_i2l C dL_law_1189 ?_
      refine xr_lcmp C dL_law_1190 ?_
      refine xr_if_eq (tgt := 1196) C dL_law_1191 (by decide) hR (fun hR => ?_) (fun hR => ?_)
      · refine xr_goto (tgt := 1391) C dL_law_1196 (by decide) ?_
        exact xr_sub (lv9 := [some (.ref b), some (.ref (xg_ad G 350)), some (.ref (xg_ad G 351)), some (.ref (xg_ad G 358)), some (.int a4), none, none, none, none]) (And.intro rfl (And.intro rfl (And.intro rfl (And.intro rfl (And.intro rfl trivial))))) (K _ hR _ _ (by omega) (by omega))
      · refine xr_iconst (v := 0) C dL_law_1194 (by decide) ?_
        exact absurd hR (fun z => by cases z)
  · refine xr_iconst (v := 0) C dL_law_1177 (by decide) ?_
    exact absurd hR (fun z => by cases z)
set_option maxHeartbeats 4000000 in
set_option maxRecDepth 100000 in
theorem lwp_23 {p : Program} {l : Launch} {e : Env} {s : State} {m : MethodId} {args : Array Value} {below : List Frame} {meth : Method} {c : Code} {G : xw_G} (C : xj_C p s m args meth c G RL cL_law 9) {b L : Nat} {xs : Nat → Int32} (hX : va_X b L xs s s.heap) (hbl : b < s.heap.size) (hz : xg_z G = s.heap.size) (hN : xg_N G = 359) (hl : l.stackTraces = false) {ce sl : Nat} (hce : ce + 9 ≤ 601024) (hsl : sl + 64 ≤ 7293034) {Q : State → Prop} {q : xw_M} {a4 : Int32}
    (K : ∀ h' : xw_M, some h' = some q → ∀ ce' sl' : Nat, ce' ≤ ce + 9 → sl' ≤ sl + 64 → xj_X p l e room_1 s m args below meth c G 9 ce' sl' Q h' [some (.ref b), some (.ref (xg_ad G 350)), some (.ref (xg_ad G 351)), some (.ref (xg_ad G 358)), some (.int a4), none, none, none, none] 1391 []) {h : xw_M} (hR : lwc_23 xs L a4 h = some q) : xj_X p l e room_1 s m args below meth c G 9 ce sl Q h [some (.ref b), some (.ref (xg_ad G 350)), some (.ref (xg_ad G 351)), some (.ref (xg_ad G 358)), some (.int a4), none, none, none, none] 1199 [] := by
  unfold lwc_23 at hR
  refine xr_aload_n C dL_law_1199 rfl ?_
  refine xr_callVi C (st := []) [] cv_RL_163 kd_350 (fun _ zz9 => mcX5_turnsUntilStuck l G kd_350 zz9) rfl ⟨Nat.le_of_ble_eq_true rfl, Nat.le_of_ble_eq_true rfl⟩ (Nat.le_of_ble_eq_true rfl) ⟨by show _ ≤ 601024; omega, by show _ ≤ 7293034; omega⟩ rfl dL_law_1200 hR (fun r1 hr1 hR => ?_)
  refine xr_aload_n C dL_law_1203 rfl ?_
  refine xr_callVi C (st := [.int r1.2]) [] cv_RL_166 kd_351 (fun _ zz9 => mcX6_turnsUntilStuck l G kd_351 zz9) rfl ⟨Nat.le_of_ble_eq_true rfl, Nat.le_of_ble_eq_true rfl⟩ (Nat.le_of_ble_eq_true rfl) ⟨by show _ ≤ 601024; omega, by show _ ≤ 7293034; omega⟩ rfl dL_law_1204 hR (fun r2 hr2 hR => ?_)
  refine xr_icmp_eq (tgt := 1391) C dL_law_1207 (by decide) hR (fun hR => ?_) (fun hR => ?_)
  · exact xr_sub (lv9 := [some (.ref b), some (.ref (xg_ad G 350)), some (.ref (xg_ad G 351)), some (.ref (xg_ad G 358)), some (.int a4), none, none, none, none]) (And.intro rfl (And.intro rfl (And.intro rfl (And.intro rfl (And.intro rfl trivial))))) (K _ hR _ _ (by omega) (by omega))
  · refine xr_iconst (v := 0) C dL_law_1210 (by decide) ?_
    exact absurd hR (fun z => by cases z)
set_option maxHeartbeats 4000000 in
set_option maxRecDepth 100000 in
theorem lwp_24 {p : Program} {l : Launch} {e : Env} {s : State} {m : MethodId} {args : Array Value} {below : List Frame} {meth : Method} {c : Code} {G : xw_G} (C : xj_C p s m args meth c G RL cL_law 9) {b L : Nat} {xs : Nat → Int32} (hX : va_X b L xs s s.heap) (hbl : b < s.heap.size) (hz : xg_z G = s.heap.size) (hN : xg_N G = 359) (hl : l.stackTraces = false) {ce sl : Nat} (hce : ce + 9 ≤ 601024) (hsl : sl + 64 ≤ 7293034) {Q : State → Prop} {q : xw_M} {a4 : Int32}
    (K : ∀ h' : xw_M, some h' = some q → ∀ ce' sl' : Nat, ce' ≤ ce + 9 → sl' ≤ sl + 64 → xj_X p l e room_1 s m args below meth c G 9 ce' sl' Q h' [some (.ref b), some (.ref (xg_ad G 350)), some (.ref (xg_ad G 351)), some (.ref (xg_ad G 358)), some (.int a4), none, none, none, none] 1391 []) {h : xw_M} (hR : lwc_24 xs L a4 h = some q) : xj_X p l e room_1 s m args below meth c G 9 ce sl Q h [some (.ref b), some (.ref (xg_ad G 350)), some (.ref (xg_ad G 351)), some (.ref (xg_ad G 358)), some (.int a4), none, none, none, none] 1212 [] := by
  unfold lwc_24 at hR
  refine xr_aload_n C dL_law_1212 rfl ?_
  refine xr_aload_n C dL_law_1213 rfl ?_
  refine xr_iload C dL_law_1214 rfl ?_
  refine xr_iconst (v := 1) C dL_law_1216 (by decide) ?_
  refine xr_iadd C dL_law_1217 ?_
  refine xr_sld C hX hbl hz dL_law_1218 hR (fun hR => ?_)
  refine xr_aload_n C dL_law_1219 rfl ?_
  refine xr_iload C dL_law_1220 rfl ?_
  refine xr_iconst (v := 2) C dL_law_1222 (by decide) ?_
  refine xr_iadd C dL_law_1223 ?_
  refine xr_sld C hX hbl hz dL_law_1224 hR (fun hR => ?_)
  refine xr_aload_n C dL_law_1225 rfl ?_
  refine xr_callW C (st := []) [.ref (xg_ad G 350), .int (xs (Int32.toNatClampNeg (a4 + (1 : Int32)))), .int (xs (Int32.toNatClampNeg (a4 + (2 : Int32)))), .ref (xg_ad G 358)] cw_167 (fun _ zz9 => mwL_sumIn l G hl kd_350 kd_358 zz9) rfl ⟨Nat.le_of_ble_eq_true rfl, Nat.le_of_ble_eq_true rfl⟩ (Nat.le_of_ble_eq_true rfl) ⟨by show _ ≤ 601024; omega, by show _ ≤ 7293034; omega⟩ rfl dL_law_1226 hR (fun r1 hr1 hR => ?_)
  refine xr_istore C dL_law_1229 rfl (by decide) ?_
  refine xr_aload_n C dL_law_1231 rfl ?_
  refine xr_aload_n C dL_law_1232 rfl ?_
  refine xr_iload C dL_law_1233 rfl ?_
  refine xr_iconst (v := 1) C dL_law_1235 (by decide) ?_
  refine xr_iadd C dL_law_1236 ?_
  refine xr_sld C hX hbl hz dL_law_1237 hR (fun hR => ?_)
  refine xr_aload_n C dL_law_1238 rfl ?_
  refine xr_iload C dL_law_1239 rfl ?_
  refine xr_iconst (v := 2) C dL_law_1241 (by decide) ?_
  refine xr_iadd C dL_law_1242 ?_
  refine xr_sld C hX hbl hz dL_law_1243 hR (fun hR => ?_)
  refine xr_callVi C (st := []) [.int (xs (Int32.toNatClampNeg (a4 + (1 : Int32)))), .int (xs (Int32.toNatClampNeg (a4 + (2 : Int32))))] cv_RL_169 kd_351 (fun _ zz9 => mcX6_sumIn l G kd_351 zz9) rfl ⟨Nat.le_of_ble_eq_true rfl, Nat.le_of_ble_eq_true rfl⟩ (Nat.le_of_ble_eq_true rfl) ⟨by show _ ≤ 601024; omega, by show _ ≤ 7293034; omega⟩ rfl dL_law_1244 hR (fun r2 hr2 hR => ?_)
  refine xr_istore C dL_law_1247 rfl (by decide) ?_
  refine xr_aload_n C dL_law_1249 rfl ?_
  refine xr_callVi C (st := []) [] cv_RL_83 kd_351 (fun _ zz9 => mcX6_thrown l G kd_351 zz9) rfl ⟨Nat.le_of_ble_eq_true rfl, Nat.le_of_ble_eq_true rfl⟩ (Nat.le_of_ble_eq_true rfl) ⟨by show _ ≤ 601024; omega, by show _ ≤ 7293034; omega⟩ rfl dL_law_1250 hR (fun r3 hr3 hR => ?_)
  refine xr_iload C dL_law_1253 rfl ?_
  refine xr_icmp_eq (tgt := 1260) C dL_law_1255 (by decide) hR (fun hR => ?_) (fun hR => ?_)
  · refine xr_iload C dL_law_1260 rfl ?_
    refine xr_if_ne (tgt := 1277) C dL_law_1262 (by decide) hR (fun hR => ?_) (fun hR => ?_)
    · refine xr_goto (tgt := 1391) C dL_law_1277 (by decide) ?_
      exact xr_sub (lv9 := [some (.ref b), some (.ref (xg_ad G 350)), some (.ref (xg_ad G 351)), some (.ref (xg_ad G 358)), some (.int a4), none, none, none, none]) (And.intro rfl (And.intro rfl (And.intro rfl (And.intro rfl (And.intro rfl trivial))))) (K _ hR _ _ (by omega) (by omega))
    · refine xr_aload_n C dL_law_1265 rfl ?_
      refine xr_iconst (v := 0) C dL_law_1266 (by decide) ?_
      refine xr_lald C kd_358 (xj_lt15 C kd_358) dL_law_1267 ?_
      refine xr_iload C dL_law_1268 rfl ?_
      refine xr_i2l C dL_law_1270 ?_
      refine xr_lcmp C dL_law_1271 ?_
      refine xr_if_eq (tgt := 1277) C dL_law_1272 (by decide) hR (fun hR => ?_) (fun hR => ?_)
      · refine xr_goto (tgt := 1391) C dL_law_1277 (by decide) ?_
        exact xr_sub (lv9 := [some (.ref b), some (.ref (xg_ad G 350)), some (.ref (xg_ad G 351)), some (.ref (xg_ad G 358)), some (.int a4), none, none, none, none]) (And.intro rfl (And.intro rfl (And.intro rfl (And.intro rfl (And.intro rfl trivial))))) (K _ hR _ _ (by omega) (by omega))
      · refine xr_iconst (v := 0) C dL_law_1275 (by decide) ?_
        exact absurd hR (fun z => by cases z)
  · refine xr_iconst (v := 0) C dL_law_1258 (by decide) ?_
    exact absurd hR (fun z => by cases z)
set_option maxHeartbeats 4000000 in
set_option maxRecDepth 100000 in
theorem lwp_25 {p : Program} {l : Launch} {e : Env} {s : State} {m : MethodId} {args : Array Value} {below : List Frame} {meth : Method} {c : Code} {G : xw_G} (C : xj_C p s m args meth c G RL cL_law 9) {b L : Nat} {xs : Nat → Int32} (hX : va_X b L xs s s.heap) (hbl : b < s.heap.size) (hz : xg_z G = s.heap.size) (hN : xg_N G = 359) (hl : l.stackTraces = false) {ce sl : Nat} (hce : ce + 9 ≤ 601024) (hsl : sl + 64 ≤ 7293034) {Q : State → Prop} {q : xw_M} {a4 : Int32}
    (K : ∀ h' : xw_M, some h' = some q → ∀ ce' sl' : Nat, ce' ≤ ce + 9 → sl' ≤ sl + 64 → xj_X p l e room_1 s m args below meth c G 9 ce' sl' Q h' [some (.ref b), some (.ref (xg_ad G 350)), some (.ref (xg_ad G 351)), some (.ref (xg_ad G 358)), some (.int a4), none, none, none, none] 1391 []) {h : xw_M} (hR : lwc_25 xs L a4 h = some q) : xj_X p l e room_1 s m args below meth c G 9 ce sl Q h [some (.ref b), some (.ref (xg_ad G 350)), some (.ref (xg_ad G 351)), some (.ref (xg_ad G 358)), some (.int a4), none, none, none, none] 1280 [] := by
  unfold lwc_25 at hR
  refine xr_aload_n C dL_law_1280 rfl ?_
  refine xr_aload_n C dL_law_1281 rfl ?_
  refine xr_iload C dL_law_1282 rfl ?_
  refine xr_iconst (v := 1) C dL_law_1284 (by decide) ?_
  refine xr_iadd C dL_law_1285 ?_
  refine xr_sld C hX hbl hz dL_law_1286 hR (fun hR => ?_)
  refine xr_aload_n C dL_law_1287 rfl ?_
  refine xr_callW C (st := []) [.ref (xg_ad G 350), .int (xs (Int32.toNatClampNeg (a4 + (1 : Int32)))), .ref (xg_ad G 358)] cw_170 (fun _ zz9 => mwL_placesWanted l G hl kd_350 kd_358 zz9) rfl ⟨Nat.le_of_ble_eq_true rfl, Nat.le_of_ble_eq_true rfl⟩ (Nat.le_of_ble_eq_true rfl) ⟨by show _ ≤ 601024; omega, by show _ ≤ 7293034; omega⟩ rfl dL_law_1288 hR (fun r1 hr1 hR => ?_)
  refine xr_istore C dL_law_1291 rfl (by decide) ?_
  refine xr_aload_n C dL_law_1293 rfl ?_
  refine xr_aload_n C dL_law_1294 rfl ?_
  refine xr_iload C dL_law_1295 rfl ?_
  refine xr_iconst (v := 1) C dL_law_1297 (by decide) ?_
  refine xr_iadd C dL_law_1298 ?_
  refine xr_sld C hX hbl hz dL_law_1299 hR (fun hR => ?_)
  refine xr_callVi C (st := []) [.int (xs (Int32.toNatClampNeg (a4 + (1 : Int32))))] cv_RL_172 kd_351 (fun _ zz9 => mcX6_placesWanted l G kd_351 zz9) rfl ⟨Nat.le_of_ble_eq_true rfl, Nat.le_of_ble_eq_true rfl⟩ (Nat.le_of_ble_eq_true rfl) ⟨by show _ ≤ 601024; omega, by show _ ≤ 7293034; omega⟩ rfl dL_law_1300 hR (fun r2 hr2 hR => ?_)
  refine xr_istore C dL_law_1303 rfl (by decide) ?_
  refine xr_aload_n C dL_law_1305 rfl ?_
  refine xr_callVi C (st := []) [] cv_RL_83 kd_351 (fun _ zz9 => mcX6_thrown l G kd_351 zz9) rfl ⟨Nat.le_of_ble_eq_true rfl, Nat.le_of_ble_eq_true rfl⟩ (Nat.le_of_ble_eq_true rfl) ⟨by show _ ≤ 601024; omega, by show _ ≤ 7293034; omega⟩ rfl dL_law_1306 hR (fun r3 hr3 hR => ?_)
  refine xr_iload C dL_law_1309 rfl ?_
  refine xr_icmp_eq (tgt := 1316) C dL_law_1311 (by decide) hR (fun hR => ?_) (fun hR => ?_)
  · refine xr_iload C dL_law_1316 rfl ?_
    refine xr_if_ne (tgt := 1333) C dL_law_1318 (by decide) hR (fun hR => ?_) (fun hR => ?_)
    · refine xr_goto (tgt := 1391) C dL_law_1333 (by decide) ?_
      exact xr_sub (lv9 := [some (.ref b), some (.ref (xg_ad G 350)), some (.ref (xg_ad G 351)), some (.ref (xg_ad G 358)), some (.int a4), none, none, none, none]) (And.intro rfl (And.intro rfl (And.intro rfl (And.intro rfl (And.intro rfl trivial))))) (K _ hR _ _ (by omega) (by omega))
    · refine xr_aload_n C dL_law_1321 rfl ?_
      refine xr_iconst (v := 0) C dL_law_1322 (by decide) ?_
      refine xr_lald C kd_358 (xj_lt15 C kd_358) dL_law_1323 ?_
      refine xr_iload C dL_law_1324 rfl ?_
      refine xr_i2l C dL_law_1326 ?_
      refine xr_lcmp C dL_law_1327 ?_
      refine xr_if_eq (tgt := 1333) C dL_law_1328 (by decide) hR (fun hR => ?_) (fun hR => ?_)
      · refine xr_goto (tgt := 1391) C dL_law_1333 (by decide) ?_
        exact xr_sub (lv9 := [some (.ref b), some (.ref (xg_ad G 350)), some (.ref (xg_ad G 351)), some (.ref (xg_ad G 358)), some (.int a4), none, none, none, none]) (And.intro rfl (And.intro rfl (And.intro rfl (And.intro rfl (And.intro rfl trivial))))) (K _ hR _ _ (by omega) (by omega))
      · refine xr_iconst (v := 0) C dL_law_1331 (by decide) ?_
        exact absurd hR (fun z => by cases z)
  · refine xr_iconst (v := 0) C dL_law_1314 (by decide) ?_
    exact absurd hR (fun z => by cases z)
set_option maxHeartbeats 4000000 in
set_option maxRecDepth 100000 in
theorem lwp_27 {p : Program} {l : Launch} {e : Env} {s : State} {m : MethodId} {args : Array Value} {below : List Frame} {meth : Method} {c : Code} {G : xw_G} (C : xj_C p s m args meth c G RL cL_law 9) {b L : Nat} {xs : Nat → Int32} (hX : va_X b L xs s s.heap) (hbl : b < s.heap.size) (hz : xg_z G = s.heap.size) (hN : xg_N G = 359) (hl : l.stackTraces = false) {ce sl : Nat} (hce : ce + 9 ≤ 601024) (hsl : sl + 64 ≤ 7293034) {Q : State → Prop} {q : xw_M} {a4 : Int32}
    (K : ∀ h' : xw_M, some h' = some q → ∀ ce' sl' : Nat, ce' ≤ ce + 9 → sl' ≤ sl + 64 → xj_X p l e room_1 s m args below meth c G 9 ce' sl' Q h' [some (.ref b), some (.ref (xg_ad G 350)), some (.ref (xg_ad G 351)), some (.ref (xg_ad G 358)), some (.int a4), none, none, none, none] 1391 []) {h : xw_M} (hR : lwc_27 xs L a4 h = some q) : xj_X p l e room_1 s m args below meth c G 9 ce sl Q h [some (.ref b), some (.ref (xg_ad G 350)), some (.ref (xg_ad G 351)), some (.ref (xg_ad G 358)), some (.int a4), none, none, none, none] 1377 [] := by
  unfold lwc_27 at hR
  refine xr_aload_n C dL_law_1377 rfl ?_
  refine xr_callRl9 C (st := []) [] cv_RL_178 kd_350 (fun _ zz9 zq9 => mcX5_digest l G kd_350 zz9 zq9) rfl ⟨Nat.le_of_ble_eq_true rfl, Nat.le_of_ble_eq_true rfl⟩ (Nat.le_of_ble_eq_true rfl) ⟨by show _ ≤ 601024; omega, by show _ ≤ 7293034; omega⟩ rfl dL_law_1378 hR (fun r1 hr1 hR => ?_)
  refine xr_aload_n C dL_law_1381 rfl ?_
  refine xr_callD (n := 0) (na := 0) C (st := [.long r1.2.1]) cv_RL_182 kd_351 (fun _ zz9 => mcX6_digest l G hN zz9) ⟨Nat.le_of_ble_eq_true rfl, Nat.le_of_ble_eq_true rfl⟩ (Nat.le_of_ble_eq_true rfl) ⟨by show _ ≤ 601024; omega, by show _ ≤ 7293034; omega⟩ rfl dL_law_1382 hR (fun r2 hr2 hR => ?_)
  refine xr_lcmp C dL_law_1385 ?_
  refine xr_if_eq (tgt := 1391) C dL_law_1386 (by decide) hR (fun hR => ?_) (fun hR => ?_)
  · exact xr_sub (lv9 := [some (.ref b), some (.ref (xg_ad G 350)), some (.ref (xg_ad G 351)), some (.ref (xg_ad G 358)), some (.int a4), none, none, none, none]) (And.intro rfl (And.intro rfl (And.intro rfl (And.intro rfl (And.intro rfl trivial))))) (K _ hR _ _ (by omega) (by omega))
  · refine xr_iconst (v := 0) C dL_law_1389 (by decide) ?_
    exact absurd hR (fun z => by cases z)
end
