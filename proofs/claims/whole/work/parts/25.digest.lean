section
def mX6_digest_b357 (K246 : xw_M → Int64 → Int32 → Option (xw_M × Int64)) (k0 : Nat) (a4 : Int32) (k6 : Nat) (a7 : Int32) : Nat → xw_M → Int64 → Int32 → Option (xw_M × Int64)
  | 0, _, _, _ => none
  | n + 1, h, w2, a8 => (if a7 ≤ a8 then K246 h (w2) ((a4 + 1)) else if xo_ix a8 7 = true then mX6_digest_b357 K246 k0 a4 k6 a7 n h (((w2 * (31 : Int64)) + (Int32.toInt64 (h k6 (Int32.toNatClampNeg a8))))) ((a8 + 1)) else none)
def mX6_digest_b246  (k0 : Nat) : Nat → xw_M → Int64 → Int32 → Option (xw_M × Int64)
  | 0, _, _, _ => none
  | n + 1, h, w2, a4 => (if (h k0 2) ≤ a4 then some (h, w2) else if xo_ix a4 8 = true then (xo_let (xw_z h 360) fun h15 => if xo_ix ((12 : Int32) + a4) 204 = true then xo_let (xw_st h15 360 (Int32.toNatClampNeg (0 : Int32)) (h15 (k0 + 5) (Int32.toNatClampNeg ((12 : Int32) + a4)))) fun h16 => if xo_ix ((20 : Int32) + a4) 204 = true then xo_let (xw_st h16 360 (Int32.toNatClampNeg (1 : Int32)) (h16 (k0 + 5) (Int32.toNatClampNeg ((20 : Int32) + a4)))) fun h17 => if xo_ix ((28 : Int32) + a4) 204 = true then xo_let (xw_st h17 360 (Int32.toNatClampNeg (2 : Int32)) (h17 (k0 + 5) (Int32.toNatClampNeg ((28 : Int32) + a4)))) fun h18 => if xo_ix ((36 : Int32) + a4) 204 = true then xo_let (xw_st h18 360 (Int32.toNatClampNeg (3 : Int32)) (h18 (k0 + 5) (Int32.toNatClampNeg ((36 : Int32) + a4)))) fun h19 => if xo_ix ((44 : Int32) + a4) 204 = true then xo_let (xw_st h19 360 (Int32.toNatClampNeg (4 : Int32)) (h19 (k0 + 5) (Int32.toNatClampNeg ((44 : Int32) + a4)))) fun h20 => (mX6_inLine k0 a4 h20).bind fun r21 => xo_let (xw_st r21.1 360 (Int32.toNatClampNeg (5 : Int32)) r21.2) fun h22 => (mX6_untilDone k0 a4 h22).bind fun r23 => xo_let (xw_st r23.1 360 (Int32.toNatClampNeg (6 : Int32)) r23.2) fun h24 => mX6_digest_b357 (mX6_digest_b246  k0 n) (k0) (a4) (360) ((7 : Int32)) xo_n h24 (w2) ((0 : Int32)) else none else none else none else none else none) else none)
def mX6_digest_b155 (K129 : xw_M → Int64 → Int32 → Option (xw_M × Int64)) (k0 : Nat) (a4 : Int32) : Nat → xw_M → Int64 → Int32 → Option (xw_M × Int64)
  | 0, _, _, _ => none
  | n + 1, h, w2, a5 => (mX6_heldIn k0 a4 h).bind fun r26 => (if r26.2 ≤ a5 then (mX6_waiting k0 a4 (1 : Int32) r26.1).bind fun r27 => (mX6_waiting k0 a4 (2 : Int32) r27.1).bind fun r28 => (mX6_roomFor k0 a4 r28.1).bind fun r29 => K129 r29.1 (((((((w2 * (31 : Int64)) + (Int32.toInt64 r27.2)) * (31 : Int64)) + (Int32.toInt64 r28.2)) * (31 : Int64)) + (Int32.toInt64 r29.2))) ((a4 + 1)) else if xo_ix (((172 : Int32) + ((8 : Int32) * a4)) + a5) 204 = true then mX6_digest_b155 K129 k0 a4 n r26.1 (((w2 * (31 : Int64)) + (Int32.toInt64 (r26.1 (k0 + 5) (Int32.toNatClampNeg (((172 : Int32) + ((8 : Int32) * a4)) + a5)))))) ((a5 + 1)) else none)
def mX6_digest_b129  (k0 : Nat) : Nat → xw_M → Int64 → Int32 → Option (xw_M × Int64)
  | 0, _, _, _ => none
  | n + 1, h, w2, a4 => (if (h k0 1) ≤ a4 then mX6_digest_b246  (k0) xo_n h (w2) ((0 : Int32)) else (mX6_heldIn k0 a4 h).bind fun r25 => mX6_digest_b155 (mX6_digest_b129  k0 n) (k0) (a4) xo_n r25.1 (((w2 * (31 : Int64)) + (Int32.toInt64 r25.2))) ((0 : Int32)))
def mX6_digest_b96  (k0 : Nat) (k4 : Nat) (a5 : Int32) : Nat → xw_M → Int64 → Int32 → Option (xw_M × Int64)
  | 0, _, _, _ => none
  | n + 1, h, w2, a6 => (if a5 ≤ a6 then mX6_digest_b129  (k0) xo_n h (w2) ((0 : Int32)) else if xo_ix a6 8 = true then mX6_digest_b96  k0 k4 a5 n h (((w2 * (31 : Int64)) + (Int32.toInt64 (h k4 (Int32.toNatClampNeg a6))))) ((a6 + 1)) else none)
def mX6_digest_b71  (k0 : Nat) (h : xw_M) (as0 : Int32) (as1 : Int32) (ks2 : Nat) (ks3 : Nat) : Option (xw_M × Int64) := if xo_ix as1 8 = true then (xo_let (xw_st h ks2 (Int32.toNatClampNeg as1) as0) fun h12 => (mX6_untilStuck k0 h12).bind fun r13 => xo_let (xw_st r13.1 ks3 (Int32.toNatClampNeg (7 : Int32)) r13.2) fun h14 => mX6_digest_b96  (k0) (ks3) ((8 : Int32)) xo_n h14 ((2213 : Int64)) ((0 : Int32))) else none
def mX6_digest (k0 : Nat) (h : xw_M) : Option (xw_M × Int64) := xo_let (xw_st h k0 0 (0 : Int32)) fun h1 => xo_let (xw_z h1 359) fun h2 => xo_let (xw_st h2 359 (Int32.toNatClampNeg (0 : Int32)) (h2 (k0 + 5) (Int32.toNatClampNeg (0 : Int32)))) fun h3 => xo_let (xw_st h3 359 (Int32.toNatClampNeg (1 : Int32)) (h3 k0 1)) fun h4 => xo_let (xw_st h4 359 (Int32.toNatClampNeg (2 : Int32)) (h4 k0 2)) fun h5 => (mX6_inState k0 (5 : Int32) h5).bind fun r6 => xo_let (xw_st r6.1 359 (Int32.toNatClampNeg (3 : Int32)) r6.2) fun h7 => xo_let (xw_st h7 359 (Int32.toNatClampNeg (4 : Int32)) (h7 (k0 + 5) (Int32.toNatClampNeg (1 : Int32)))) fun h8 => (mX6_first k0 h8).bind fun r9 => xo_let (xw_st r9.1 359 (Int32.toNatClampNeg (5 : Int32)) r9.2) fun h10 => (mX6_stuck k0 h10).bind fun r11 => (if r11.2 = 0 then mX6_digest_b71  (k0) r11.1 ((0 : Int32)) ((6 : Int32)) (359) (359) else mX6_digest_b71  (k0) r11.1 ((1 : Int32)) ((6 : Int32)) (359) (359))
set_option maxHeartbeats 4000000 in
set_option maxRecDepth 100000 in
theorem mbX6_digest_b357 {p : Program} {l : Launch} {e : Env} {s : State} {m : MethodId} {args : Array Value} {below : List Frame} {meth : Method} {c : Code} {G : xw_G} (C : xj_C p s m args meth c G RX6 cX6_digest 10) (hr : meth.sig.returnType = (some .long)) {q : xw_M × Int64} {Q : State → Prop} {ce sl : Nat} (hce : ce ≤ 9) (hsl : sl ≤ 64) {K246 : xw_M → Int64 → Int32 → Option (xw_M × Int64)}  {a4 : Int32} {k6 : Nat} {a7 : Int32} (hK246 : ∀ (h : xw_M) (w2 : Int64), K246 h w2 (a4 + 1) = some q → xj_X p l e { frames := 7, cells := 9, slots := 64, locals := 161 } s m args below meth c G 10 ce sl Q h [some (.ref (xg_ad G 351)), none, some (.long w2), none, some (.int (a4 + 1)), none, none, none, none, none] 246 [])  (hk6 : xw_kd k6 = 14) (hN6 : k6 < xg_N G) : ∀ (n : Nat) (h : xw_M) (w2 : Int64) (a8 : Int32), mX6_digest_b357 K246 351 a4 k6 a7 n h w2 a8 = some q → xj_X p l e { frames := 7, cells := 9, slots := 64, locals := 161 } s m args below meth c G 10 ce sl Q h [some (.ref (xg_ad G 351)), none, some (.long w2), none, some (.int a4), none, some (.ref (xg_ad G k6)), some (.int a7), some (.int a8), none] 357 [] := by
  intro n
  induction n with
  | zero => intro h w2 a8 hR; exact absurd (show (none : Option (xw_M × Int64)) = some q from hR) (fun z => by cases z)
  | succ n ih =>
    intro h w2 a8 hR
    rw [mX6_digest_b357.eq_2] at hR
    refine xr_iload C dX6_digest_357 rfl ?_
    refine xr_iload C dX6_digest_359 rfl ?_
    refine xr_icmp_ge (tgt := 387) C dX6_digest_361 (by decide) hR (fun hR => ?_) (fun hR => ?_)
    · refine xr_iinc (v := 1) C dX6_digest_387 rfl (by decide) rfl (by decide) ?_
      refine xr_goto (tgt := 246) C dX6_digest_390 (by decide) ?_
      exact xr_sub (lv9 := [some (.ref (xg_ad G 351)), none, some (.long w2), none, some (.int (a4 + 1)), none, none, none, none, none]) (And.intro rfl (And.intro rfl (And.intro rfl trivial))) (hK246 _ _ hR)
    · refine xr_aload C dX6_digest_364 rfl ?_
      refine xr_iload C dX6_digest_366 rfl ?_
      refine xr_iald C hk6 hN6 rfl dX6_digest_368 hR (fun hR => ?_)
      refine xr_istore C dX6_digest_369 rfl (by decide) ?_
      refine xr_lload_n C dX6_digest_371 rfl ?_
      refine xr_ldc2 (v := 31) C dX6_digest_372 (lw_g_in (by decide +kernel) (by decide +kernel)) ?_
      refine xr_lmul C dX6_digest_375 ?_
      refine xr_iload C dX6_digest_376 rfl ?_
      refine xr_i2l C dX6_digest_378 ?_
      refine xr_ladd C dX6_digest_379 ?_
      refine xr_lstore_n C dX6_digest_380 rfl (by decide) ?_
      refine xr_iinc (v := 1) C dX6_digest_381 rfl (by decide) rfl (by decide) ?_
      refine xr_goto (tgt := 357) C dX6_digest_384 (by decide) ?_
      exact xr_sub (lv9 := [some (.ref (xg_ad G 351)), none, some (.long ((w2 * (31 : Int64)) + (Int32.toInt64 (h k6 (Int32.toNatClampNeg a8))))), none, some (.int a4), none, some (.ref (xg_ad G k6)), some (.int a7), some (.int (a8 + 1)), none]) (And.intro rfl (And.intro rfl (And.intro rfl (And.intro rfl (And.intro rfl (And.intro rfl trivial)))))) (ih _ _ _  hR)
set_option maxHeartbeats 4000000 in
set_option maxRecDepth 100000 in
theorem mbX6_digest_b246 {p : Program} {l : Launch} {e : Env} {s : State} {m : MethodId} {args : Array Value} {below : List Frame} {meth : Method} {c : Code} {G : xw_G} (C : xj_C p s m args meth c G RX6 cX6_digest 10) (hr : meth.sig.returnType = (some .long)) (hN : xg_N G = 360) {q : xw_M × Int64}    : ∀ (n : Nat) (h : xw_M) (w2 : Int64) (a4 : Int32) (ce sl : Nat) (hv : ce = 1 + a4.toNatClampNeg ∧ sl = 8 + 7 * a4.toNatClampNeg ∧ a4.toNatClampNeg ≤ 8), mX6_digest_b246  351 n h w2 a4 = some q → xj_X p l e { frames := 7, cells := 9, slots := 64, locals := 161 } s m args below meth c G 10 ce sl (MQ below (xw_Q G (some (.long q.2)) q.1) args s 9 64 (xg_A G)) h [some (.ref (xg_ad G 351)), none, some (.long w2), none, some (.int a4), none, none, none, none, none] 246 [] := by
  intro n
  induction n with
  | zero => intro h w2 a4 ce sl hv hR; exact absurd (show (none : Option (xw_M × Int64)) = some q from hR) (fun z => by cases z)
  | succ n ih =>
    intro h w2 a4 ce sl hv hR
    rw [mX6_digest_b246.eq_2] at hR
    refine xr_iload C dX6_digest_246 rfl ?_
    refine xr_aload_n C dX6_digest_248 rfl ?_
    refine xr_get C kd_351 fl_RX6_39 rfl dX6_digest_249 ?_
    refine xr_icmp_ge (tgt := 393) C dX6_digest_252 (by decide) hR (fun hR => ?_) (fun hR => ?_)
    · refine xr_lload_n C dX6_digest_393 rfl ?_
      refine xr_widen (k := 9) (n := 64) (by omega) (by omega) ?_
      exact xr_lret C hr dX6_digest_394 hR
    · refine xr_bipush (v := 7) C dX6_digest_255 (by decide) ?_
      refine xo_if hR (fun hx9 hR => ?_) (fun _ hR => by cases hR)
      obtain ⟨hx8, hx7⟩ := xw_nat1 hx9
      refine xr_newi C hN (by decide) kd_360 rfl (by decide) (by decide) (by decide) (by show ce + 1 ≤ 9; omega) (by show sl + 7 ≤ 64; omega) dX6_digest_257 (lw_g_in (by decide +kernel) (by decide +kernel)) (fun x9 C => ?_)
      obtain ⟨h15, hh15⟩ : ∃ z, z = xw_z h 360 := ⟨_, rfl⟩
      rw [← hh15] at hR ⊢
      have ih := fun (h : xw_M) (w2 : Int64) hR => xr_drop (k := 360) (x := x9) hN (by decide) (ih h w2 (a4 + 1) (ce + 1) (sl + 7) ⟨by omega, by omega, by omega⟩ hR)
      have had : xg_ad G 351 = xg_ad (xg_new G 360 x9) 351 := (xg_new_ad (by decide)).symm
      have hN0 : 360 < xg_N (xg_new G 360 x9) := Nat.lt_succ_self 360
      rw [had] at ih ⊢
      generalize xg_new G 360 x9 = G2 at C ih hN0 ⊢
      have hR := hR
      refine xr_dup C dX6_digest_259 rfl ?_
      refine xr_iconst (v := 0) C dX6_digest_260 (by decide) ?_
      refine xr_aload_n C dX6_digest_261 rfl ?_
      refine xr_get C kd_351 fl_RX6_22 rfl dX6_digest_262 ?_
      refine xr_bipush (v := 12) C dX6_digest_265 (by decide) ?_
      refine xr_iload C dX6_digest_267 rfl ?_
      refine xr_iadd C dX6_digest_269 ?_
      refine xr_iald C (kp_6_7 kd_351) (xj_ltN C (kp_6_7 kd_351) (by decide)) rfl dX6_digest_270 hR (fun hR => ?_)
      refine xr_iastLC C kd_360 hN0 rfl (by decide) dX6_digest_271 hR (fun h16 hR => ?_)
      refine xr_dup C dX6_digest_272 rfl ?_
      refine xr_iconst (v := 1) C dX6_digest_273 (by decide) ?_
      refine xr_aload_n C dX6_digest_274 rfl ?_
      refine xr_get C kd_351 fl_RX6_22 rfl dX6_digest_275 ?_
      refine xr_bipush (v := 20) C dX6_digest_278 (by decide) ?_
      refine xr_iload C dX6_digest_280 rfl ?_
      refine xr_iadd C dX6_digest_282 ?_
      refine xr_iald C (kp_6_7 kd_351) (xj_ltN C (kp_6_7 kd_351) (by decide)) rfl dX6_digest_283 hR (fun hR => ?_)
      refine xr_iastLC C kd_360 hN0 rfl (by decide) dX6_digest_284 hR (fun h17 hR => ?_)
      refine xr_dup C dX6_digest_285 rfl ?_
      refine xr_iconst (v := 2) C dX6_digest_286 (by decide) ?_
      refine xr_aload_n C dX6_digest_287 rfl ?_
      refine xr_get C kd_351 fl_RX6_22 rfl dX6_digest_288 ?_
      refine xr_bipush (v := 28) C dX6_digest_291 (by decide) ?_
      refine xr_iload C dX6_digest_293 rfl ?_
      refine xr_iadd C dX6_digest_295 ?_
      refine xr_iald C (kp_6_7 kd_351) (xj_ltN C (kp_6_7 kd_351) (by decide)) rfl dX6_digest_296 hR (fun hR => ?_)
      refine xr_iastLC C kd_360 hN0 rfl (by decide) dX6_digest_297 hR (fun h18 hR => ?_)
      refine xr_dup C dX6_digest_298 rfl ?_
      refine xr_iconst (v := 3) C dX6_digest_299 (by decide) ?_
      refine xr_aload_n C dX6_digest_300 rfl ?_
      refine xr_get C kd_351 fl_RX6_22 rfl dX6_digest_301 ?_
      refine xr_bipush (v := 36) C dX6_digest_304 (by decide) ?_
      refine xr_iload C dX6_digest_306 rfl ?_
      refine xr_iadd C dX6_digest_308 ?_
      refine xr_iald C (kp_6_7 kd_351) (xj_ltN C (kp_6_7 kd_351) (by decide)) rfl dX6_digest_309 hR (fun hR => ?_)
      refine xr_iastLC C kd_360 hN0 rfl (by decide) dX6_digest_310 hR (fun h19 hR => ?_)
      refine xr_dup C dX6_digest_311 rfl ?_
      refine xr_iconst (v := 4) C dX6_digest_312 (by decide) ?_
      refine xr_aload_n C dX6_digest_313 rfl ?_
      refine xr_get C kd_351 fl_RX6_22 rfl dX6_digest_314 ?_
      refine xr_bipush (v := 44) C dX6_digest_317 (by decide) ?_
      refine xr_iload C dX6_digest_319 rfl ?_
      refine xr_iadd C dX6_digest_321 ?_
      refine xr_iald C (kp_6_7 kd_351) (xj_ltN C (kp_6_7 kd_351) (by decide)) rfl dX6_digest_322 hR (fun hR => ?_)
      refine xr_iastLC C kd_360 hN0 rfl (by decide) dX6_digest_323 hR (fun h20 hR => ?_)
      refine xr_dup C dX6_digest_324 rfl ?_
      refine xr_iconst (v := 5) C dX6_digest_325 (by decide) ?_
      refine xr_aload_n C dX6_digest_326 rfl ?_
      refine xr_iload C dX6_digest_327 rfl ?_
      refine xr_callVi C (st := [.int (5 : Int32), .ref (xg_ad G2 360), .ref (xg_ad G2 360)]) [.int a4] cv_RX6_119 kd_351 (fun _ zz9 => mcX6_inLine l G2 kd_351 zz9) rfl ⟨Nat.le_of_ble_eq_true rfl, Nat.le_of_ble_eq_true rfl⟩ (Nat.le_of_ble_eq_true rfl) ⟨by show ce + 1 ≤ 9; omega, by show sl + 7 ≤ 64; omega⟩ rfl dX6_digest_329 hR (fun r21 hr21 hR => ?_)
      refine xr_iastLC C kd_360 hN0 rfl (by decide) dX6_digest_332 hR (fun h22 hR => ?_)
      refine xr_dup C dX6_digest_333 rfl ?_
      refine xr_bipush (v := 6) C dX6_digest_334 (by decide) ?_
      refine xr_aload_n C dX6_digest_336 rfl ?_
      refine xr_iload C dX6_digest_337 rfl ?_
      refine xr_callVi C (st := [.int (6 : Int32), .ref (xg_ad G2 360), .ref (xg_ad G2 360)]) [.int a4] cv_RX6_128 kd_351 (fun _ zz9 => mcX6_untilDone l G2 kd_351 zz9) rfl ⟨Nat.le_of_ble_eq_true rfl, Nat.le_of_ble_eq_true rfl⟩ (Nat.le_of_ble_eq_true rfl) ⟨by show ce + 1 ≤ 9; omega, by show sl + 7 ≤ 64; omega⟩ rfl dX6_digest_339 hR (fun r23 hr23 hR => ?_)
      refine xr_iastLC C kd_360 hN0 rfl (by decide) dX6_digest_342 hR (fun h24 hR => ?_)
      refine xr_astore C dX6_digest_343 rfl (by decide) ?_
      refine xr_aload C dX6_digest_345 rfl ?_
      refine xr_astore C dX6_digest_347 rfl (by decide) ?_
      refine xr_aload C dX6_digest_349 rfl ?_
      refine xr_alen (v := 7) C kd_360 hN0 rfl (by decide) dX6_digest_351 ?_
      refine xr_istore C dX6_digest_352 rfl (by decide) ?_
      refine xr_iconst (v := 0) C dX6_digest_354 (by decide) ?_
      refine xr_istore C dX6_digest_355 rfl (by decide) ?_
      exact xr_sub (lv9 := [some (.ref (xg_ad G2 351)), none, some (.long w2), none, some (.int a4), none, some (.ref (xg_ad G2 360)), some (.int (7 : Int32)), some (.int (0 : Int32)), none]) (And.intro rfl (And.intro rfl (And.intro rfl (And.intro rfl (And.intro rfl (And.intro rfl trivial)))))) (mbX6_digest_b357 C hr (by omega) (by omega) ih kd_360 hN0 _ _ _ _ hR)
set_option maxHeartbeats 4000000 in
set_option maxRecDepth 100000 in
theorem mbX6_digest_b155 {p : Program} {l : Launch} {e : Env} {s : State} {m : MethodId} {args : Array Value} {below : List Frame} {meth : Method} {c : Code} {G : xw_G} (C : xj_C p s m args meth c G RX6 cX6_digest 10) (hr : meth.sig.returnType = (some .long)) {q : xw_M × Int64} {Q : State → Prop} {ce sl : Nat} (hce : ce ≤ 9) (hsl : sl ≤ 64) {K129 : xw_M → Int64 → Int32 → Option (xw_M × Int64)}  {a4 : Int32} (hK129 : ∀ (h : xw_M) (w2 : Int64) (a4 : Int32), K129 h w2 a4 = some q → xj_X p l e { frames := 7, cells := 9, slots := 64, locals := 161 } s m args below meth c G 10 ce sl Q h [some (.ref (xg_ad G 351)), none, some (.long w2), none, some (.int a4), none, none, none, none, none] 129 [])  : ∀ (n : Nat) (h : xw_M) (w2 : Int64) (a5 : Int32), mX6_digest_b155 K129 351 a4 n h w2 a5 = some q → xj_X p l e { frames := 7, cells := 9, slots := 64, locals := 161 } s m args below meth c G 10 ce sl Q h [some (.ref (xg_ad G 351)), none, some (.long w2), none, some (.int a4), some (.int a5), none, none, none, none] 155 [] := by
  intro n
  induction n with
  | zero => intro h w2 a5 hR; exact absurd (show (none : Option (xw_M × Int64)) = some q from hR) (fun z => by cases z)
  | succ n ih =>
    intro h w2 a5 hR
    rw [mX6_digest_b155.eq_2] at hR
    refine xr_iload C dX6_digest_155 rfl ?_
    refine xr_aload_n C dX6_digest_157 rfl ?_
    refine xr_iload C dX6_digest_158 rfl ?_
    refine xr_callVi C (st := [.int a5]) [.int a4] cv_RX6_109 kd_351 (fun _ zz9 => mcX6_heldIn l G kd_351 zz9) rfl ⟨Nat.le_of_ble_eq_true rfl, Nat.le_of_ble_eq_true rfl⟩ (Nat.le_of_ble_eq_true rfl) ⟨hce, hsl⟩ rfl dX6_digest_160 hR (fun r26 hr26 hR => ?_)
    refine xr_icmp_ge (tgt := 197) C dX6_digest_163 (by decide) hR (fun hR => ?_) (fun hR => ?_)
    · refine xr_lload_n C dX6_digest_197 rfl ?_
      refine xr_ldc2 (v := 31) C dX6_digest_198 (lw_g_in (by decide +kernel) (by decide +kernel)) ?_
      refine xr_lmul C dX6_digest_201 ?_
      refine xr_aload_n C dX6_digest_202 rfl ?_
      refine xr_iload C dX6_digest_203 rfl ?_
      refine xr_iconst (v := 1) C dX6_digest_205 (by decide) ?_
      refine xr_callVi C (st := [.long (w2 * (31 : Int64))]) [.int a4, .int (1 : Int32)] cv_RX6_112 kd_351 (fun _ zz9 => mcX6_waiting l G kd_351 zz9) rfl ⟨Nat.le_of_ble_eq_true rfl, Nat.le_of_ble_eq_true rfl⟩ (Nat.le_of_ble_eq_true rfl) ⟨hce, hsl⟩ rfl dX6_digest_206 hR (fun r27 hr27 hR => ?_)
      refine xr_i2l C dX6_digest_209 ?_
      refine xr_ladd C dX6_digest_210 ?_
      refine xr_ldc2 (v := 31) C dX6_digest_211 (lw_g_in (by decide +kernel) (by decide +kernel)) ?_
      refine xr_lmul C dX6_digest_214 ?_
      refine xr_aload_n C dX6_digest_215 rfl ?_
      refine xr_iload C dX6_digest_216 rfl ?_
      refine xr_iconst (v := 2) C dX6_digest_218 (by decide) ?_
      refine xr_callVi C (st := [.long (((w2 * (31 : Int64)) + (Int32.toInt64 r27.2)) * (31 : Int64))]) [.int a4, .int (2 : Int32)] cv_RX6_112 kd_351 (fun _ zz9 => mcX6_waiting l G kd_351 zz9) rfl ⟨Nat.le_of_ble_eq_true rfl, Nat.le_of_ble_eq_true rfl⟩ (Nat.le_of_ble_eq_true rfl) ⟨hce, hsl⟩ rfl dX6_digest_219 hR (fun r28 hr28 hR => ?_)
      refine xr_i2l C dX6_digest_222 ?_
      refine xr_ladd C dX6_digest_223 ?_
      refine xr_ldc2 (v := 31) C dX6_digest_224 (lw_g_in (by decide +kernel) (by decide +kernel)) ?_
      refine xr_lmul C dX6_digest_227 ?_
      refine xr_aload_n C dX6_digest_228 rfl ?_
      refine xr_iload C dX6_digest_229 rfl ?_
      refine xr_callVi C (st := [.long (((((w2 * (31 : Int64)) + (Int32.toInt64 r27.2)) * (31 : Int64)) + (Int32.toInt64 r28.2)) * (31 : Int64))]) [.int a4] cv_RX6_134 kd_351 (fun _ zz9 => mcX6_roomFor l G kd_351 zz9) rfl ⟨Nat.le_of_ble_eq_true rfl, Nat.le_of_ble_eq_true rfl⟩ (Nat.le_of_ble_eq_true rfl) ⟨hce, hsl⟩ rfl dX6_digest_231 hR (fun r29 hr29 hR => ?_)
      refine xr_i2l C dX6_digest_234 ?_
      refine xr_ladd C dX6_digest_235 ?_
      refine xr_lstore_n C dX6_digest_236 rfl (by decide) ?_
      refine xr_iinc (v := 1) C dX6_digest_237 rfl (by decide) rfl (by decide) ?_
      refine xr_goto (tgt := 129) C dX6_digest_240 (by decide) ?_
      exact xr_sub (lv9 := [some (.ref (xg_ad G 351)), none, some (.long ((((((w2 * (31 : Int64)) + (Int32.toInt64 r27.2)) * (31 : Int64)) + (Int32.toInt64 r28.2)) * (31 : Int64)) + (Int32.toInt64 r29.2))), none, some (.int (a4 + 1)), none, none, none, none, none]) (And.intro rfl (And.intro rfl (And.intro rfl trivial))) (hK129 _ _ _  hR)
    · refine xr_lload_n C dX6_digest_166 rfl ?_
      refine xr_ldc2 (v := 31) C dX6_digest_167 (lw_g_in (by decide +kernel) (by decide +kernel)) ?_
      refine xr_lmul C dX6_digest_170 ?_
      refine xr_aload_n C dX6_digest_171 rfl ?_
      refine xr_get C kd_351 fl_RX6_22 rfl dX6_digest_172 ?_
      refine xr_sipush (v := 172) C dX6_digest_175 (by decide) ?_
      refine xr_bipush (v := 8) C dX6_digest_178 (by decide) ?_
      refine xr_iload C dX6_digest_180 rfl ?_
      refine xr_imul C dX6_digest_182 ?_
      refine xr_iadd C dX6_digest_183 ?_
      refine xr_iload C dX6_digest_184 rfl ?_
      refine xr_iadd C dX6_digest_186 ?_
      refine xr_iald C (kp_6_7 kd_351) (xj_ltN C (kp_6_7 kd_351) (by decide)) rfl dX6_digest_187 hR (fun hR => ?_)
      refine xr_i2l C dX6_digest_188 ?_
      refine xr_ladd C dX6_digest_189 ?_
      refine xr_lstore_n C dX6_digest_190 rfl (by decide) ?_
      refine xr_iinc (v := 1) C dX6_digest_191 rfl (by decide) rfl (by decide) ?_
      refine xr_goto (tgt := 155) C dX6_digest_194 (by decide) ?_
      exact xr_sub (lv9 := [some (.ref (xg_ad G 351)), none, some (.long ((w2 * (31 : Int64)) + (Int32.toInt64 (r26.1 (351 + 5) (Int32.toNatClampNeg (((172 : Int32) + ((8 : Int32) * a4)) + a5)))))), none, some (.int a4), some (.int (a5 + 1)), none, none, none, none]) (And.intro rfl (And.intro rfl (And.intro rfl (And.intro rfl trivial)))) (ih _ _ _  hR)
set_option maxHeartbeats 4000000 in
set_option maxRecDepth 100000 in
theorem mbX6_digest_b129 {p : Program} {l : Launch} {e : Env} {s : State} {m : MethodId} {args : Array Value} {below : List Frame} {meth : Method} {c : Code} {G : xw_G} (C : xj_C p s m args meth c G RX6 cX6_digest 10) (hr : meth.sig.returnType = (some .long)) (hN : xg_N G = 360) {q : xw_M × Int64}    : ∀ (n : Nat) (h : xw_M) (w2 : Int64) (a4 : Int32), mX6_digest_b129  351 n h w2 a4 = some q → xj_X p l e { frames := 7, cells := 9, slots := 64, locals := 161 } s m args below meth c G 10 1 8 (MQ below (xw_Q G (some (.long q.2)) q.1) args s 9 64 (xg_A G)) h [some (.ref (xg_ad G 351)), none, some (.long w2), none, some (.int a4), none, none, none, none, none] 129 [] := by
  intro n
  induction n with
  | zero => intro h w2 a4 hR; exact absurd (show (none : Option (xw_M × Int64)) = some q from hR) (fun z => by cases z)
  | succ n ih =>
    intro h w2 a4 hR
    rw [mX6_digest_b129.eq_2] at hR
    refine xr_iload C dX6_digest_129 rfl ?_
    refine xr_aload_n C dX6_digest_131 rfl ?_
    refine xr_get C kd_351 fl_RX6_32 rfl dX6_digest_132 ?_
    refine xr_icmp_ge (tgt := 243) C dX6_digest_135 (by decide) hR (fun hR => ?_) (fun hR => ?_)
    · refine xr_iconst (v := 0) C dX6_digest_243 (by decide) ?_
      refine xr_istore C dX6_digest_244 rfl (by decide) ?_
      exact xr_sub (lv9 := [some (.ref (xg_ad G 351)), none, some (.long w2), none, some (.int (0 : Int32)), none, none, none, none, none]) (And.intro rfl (And.intro rfl (And.intro rfl trivial))) (mbX6_digest_b246 C hr hN _ _ _ _ 1 8 ⟨rfl, rfl, by decide⟩ hR)
    · refine xr_lload_n C dX6_digest_138 rfl ?_
      refine xr_ldc2 (v := 31) C dX6_digest_139 (lw_g_in (by decide +kernel) (by decide +kernel)) ?_
      refine xr_lmul C dX6_digest_142 ?_
      refine xr_aload_n C dX6_digest_143 rfl ?_
      refine xr_iload C dX6_digest_144 rfl ?_
      refine xr_callVi C (st := [.long (w2 * (31 : Int64))]) [.int a4] cv_RX6_109 kd_351 (fun _ zz9 => mcX6_heldIn l G kd_351 zz9) rfl ⟨Nat.le_of_ble_eq_true rfl, Nat.le_of_ble_eq_true rfl⟩ (Nat.le_of_ble_eq_true rfl) ⟨by decide, by decide⟩ rfl dX6_digest_146 hR (fun r25 hr25 hR => ?_)
      refine xr_i2l C dX6_digest_149 ?_
      refine xr_ladd C dX6_digest_150 ?_
      refine xr_lstore_n C dX6_digest_151 rfl (by decide) ?_
      refine xr_iconst (v := 0) C dX6_digest_152 (by decide) ?_
      refine xr_istore C dX6_digest_153 rfl (by decide) ?_
      exact xr_sub (lv9 := [some (.ref (xg_ad G 351)), none, some (.long ((w2 * (31 : Int64)) + (Int32.toInt64 r25.2))), none, some (.int a4), some (.int (0 : Int32)), none, none, none, none]) (And.intro rfl (And.intro rfl (And.intro rfl (And.intro rfl trivial)))) (mbX6_digest_b155 C hr (by decide) (by decide) ih _ _ _ _  hR)
set_option maxHeartbeats 4000000 in
set_option maxRecDepth 100000 in
theorem mbX6_digest_b96 {p : Program} {l : Launch} {e : Env} {s : State} {m : MethodId} {args : Array Value} {below : List Frame} {meth : Method} {c : Code} {G : xw_G} (C : xj_C p s m args meth c G RX6 cX6_digest 10) (hr : meth.sig.returnType = (some .long)) (hN : xg_N G = 360) {q : xw_M × Int64}  {k4 : Nat} {a5 : Int32}   (hk4 : xw_kd k4 = 13) (hN4 : k4 < xg_N G) : ∀ (n : Nat) (h : xw_M) (w2 : Int64) (a6 : Int32), mX6_digest_b96  351 k4 a5 n h w2 a6 = some q → xj_X p l e { frames := 7, cells := 9, slots := 64, locals := 161 } s m args below meth c G 10 1 8 (MQ below (xw_Q G (some (.long q.2)) q.1) args s 9 64 (xg_A G)) h [some (.ref (xg_ad G 351)), none, some (.long w2), none, some (.ref (xg_ad G k4)), some (.int a5), some (.int a6), none, none, none] 96 [] := by
  intro n
  induction n with
  | zero => intro h w2 a6 hR; exact absurd (show (none : Option (xw_M × Int64)) = some q from hR) (fun z => by cases z)
  | succ n ih =>
    intro h w2 a6 hR
    rw [mX6_digest_b96.eq_2] at hR
    refine xr_iload C dX6_digest_96 rfl ?_
    refine xr_iload C dX6_digest_98 rfl ?_
    refine xr_icmp_ge (tgt := 126) C dX6_digest_100 (by decide) hR (fun hR => ?_) (fun hR => ?_)
    · refine xr_iconst (v := 0) C dX6_digest_126 (by decide) ?_
      refine xr_istore C dX6_digest_127 rfl (by decide) ?_
      exact xr_sub (lv9 := [some (.ref (xg_ad G 351)), none, some (.long w2), none, some (.int (0 : Int32)), none, none, none, none, none]) (And.intro rfl (And.intro rfl (And.intro rfl trivial))) (mbX6_digest_b129 C hr hN _ _ _ _  hR)
    · refine xr_aload C dX6_digest_103 rfl ?_
      refine xr_iload C dX6_digest_105 rfl ?_
      refine xr_iald C hk4 hN4 rfl dX6_digest_107 hR (fun hR => ?_)
      refine xr_istore C dX6_digest_108 rfl (by decide) ?_
      refine xr_lload_n C dX6_digest_110 rfl ?_
      refine xr_ldc2 (v := 31) C dX6_digest_111 (lw_g_in (by decide +kernel) (by decide +kernel)) ?_
      refine xr_lmul C dX6_digest_114 ?_
      refine xr_iload C dX6_digest_115 rfl ?_
      refine xr_i2l C dX6_digest_117 ?_
      refine xr_ladd C dX6_digest_118 ?_
      refine xr_lstore_n C dX6_digest_119 rfl (by decide) ?_
      refine xr_iinc (v := 1) C dX6_digest_120 rfl (by decide) rfl (by decide) ?_
      refine xr_goto (tgt := 96) C dX6_digest_123 (by decide) ?_
      exact xr_sub (lv9 := [some (.ref (xg_ad G 351)), none, some (.long ((w2 * (31 : Int64)) + (Int32.toInt64 (h k4 (Int32.toNatClampNeg a6))))), none, some (.ref (xg_ad G k4)), some (.int a5), some (.int (a6 + 1)), none, none, none]) (And.intro rfl (And.intro rfl (And.intro rfl (And.intro rfl (And.intro rfl trivial))))) (ih _ _ _  hR)
set_option maxHeartbeats 4000000 in
set_option maxRecDepth 100000 in
theorem mbX6_digest_b71 {p : Program} {l : Launch} {e : Env} {s : State} {m : MethodId} {args : Array Value} {below : List Frame} {meth : Method} {c : Code} {G : xw_G} (C : xj_C p s m args meth c G RX6 cX6_digest 10) (hr : meth.sig.returnType = (some .long)) (hN : xg_N G = 360) {q : xw_M × Int64}    {h : xw_M} {as0 : Int32} {as1 : Int32} {ks2 : Nat} {ks3 : Nat}  (hks2 : xw_kd ks2 = 13) (hNs2 : ks2 < xg_N G) (hks3 : xw_kd ks3 = 13) (hNs3 : ks3 < xg_N G) (hR : mX6_digest_b71  351 h as0 as1 ks2 ks3 = some q) : xj_X p l e { frames := 7, cells := 9, slots := 64, locals := 161 } s m args below meth c G 10 1 8 (MQ below (xw_Q G (some (.long q.2)) q.1) args s 9 64 (xg_A G)) h [some (.ref (xg_ad G 351)), none, none, none, none, none, none, none, none, none] 71 [.int as0, .int as1, .ref (xg_ad G ks2), .ref (xg_ad G ks3)] := by
  unfold mX6_digest_b71 at hR
  refine xr_iastL C hks2 hNs2 rfl dX6_digest_71 hR (fun h12 hR => ?_)
  refine xr_dup C dX6_digest_72 rfl ?_
  refine xr_bipush (v := 7) C dX6_digest_73 (by decide) ?_
  refine xr_aload_n C dX6_digest_75 rfl ?_
  refine xr_callVi C (st := [.int (7 : Int32), .ref (xg_ad G ks3), .ref (xg_ad G ks3)]) [] cv_RX6_131 kd_351 (fun _ zz9 => mcX6_untilStuck l G kd_351 zz9) rfl ⟨Nat.le_of_ble_eq_true rfl, Nat.le_of_ble_eq_true rfl⟩ (Nat.le_of_ble_eq_true rfl) ⟨by decide, by decide⟩ rfl dX6_digest_76 hR (fun r13 hr13 hR => ?_)
  refine xr_iastLC C hks3 hNs3 rfl (by decide) dX6_digest_79 hR (fun h14 hR => ?_)
  refine xr_astore_n C dX6_digest_80 rfl (by decide) ?_
  refine xr_ldc2 (v := 2213) C dX6_digest_81 (lw_g_in (by decide +kernel) (by decide +kernel)) ?_
  refine xr_lstore_n C dX6_digest_84 rfl (by decide) ?_
  refine xr_aload_n C dX6_digest_85 rfl ?_
  refine xr_astore C dX6_digest_86 rfl (by decide) ?_
  refine xr_aload C dX6_digest_88 rfl ?_
  refine xr_alen (v := 8) C hks3 hNs3 rfl (by decide) dX6_digest_90 ?_
  refine xr_istore C dX6_digest_91 rfl (by decide) ?_
  refine xr_iconst (v := 0) C dX6_digest_93 (by decide) ?_
  refine xr_istore C dX6_digest_94 rfl (by decide) ?_
  exact xr_sub (lv9 := [some (.ref (xg_ad G 351)), none, some (.long (2213 : Int64)), none, some (.ref (xg_ad G ks3)), some (.int (8 : Int32)), some (.int (0 : Int32)), none, none, none]) (And.intro rfl (And.intro rfl (And.intro rfl (And.intro rfl (And.intro rfl trivial))))) (mbX6_digest_b96 C hr hN hks3 hNs3 _ _ _ _  hR)
/-- digest's contract: it makes arrays -/
def xc_D (l : Launch) (G : xw_G) (av : List Value) (h h' : xw_M) (v : Int64) : Prop :=
  Met l yX6_digest (.code yX6_digest cX6_digest 10 (some .long) :: lw_g) { frames := 7, cells := 9, slots := 64, locals := 161 } (va_Pc av (xw_S G h)) (xw_Q G (some (.long v)) h') 9 64 (xg_A G)
theorem xc_ofD {l : Launch} {G : xw_G} {h h' : xw_M} {av : List Value} {v : Int64} (hy : plainName yX6_digest.cls = true) (hcat : av.all (fun v => v.category == 1) = true) (hlen : (lg_sl av).length ≤ 10)
    (body : ∀ (p : Program) (e : Env) (s : State) (m : MethodId) (args : Array Value) (below : List Frame) (meth : Method) (c : Code), xj_C p s m args meth c G yX6_digest.cls cX6_digest 10 → meth.sig.returnType = some .long →
      xj_X p l e { frames := 7, cells := 9, slots := 64, locals := 161 } s m args below meth c G 10 0 0 (MQ below (xw_Q G (some (.long v)) h') args s 9 64 (xg_A G)) h (xc_lv av 10) 0 []) : xc_D l G av h h' v := by
  refine Met.ofW (cc := cX6_digest) (maxL := 10) (ret := some .long) hy rfl ?_
  intro p e s m args below meth c s₁ B hml hv
  obtain ⟨rfl, hP, hK, hG, hX⟩ := hv
  have hts : ∀ w ∈ lw_g, w.before av.toArray s = true := fun w hw => atoms_spec (ws := .code yX6_digest cX6_digest 10 (some .long) :: lw_g) B.pre w (List.mem_cons_of_mem _ hw)
  have hl := lv_entry av (n := 10) hlen
  rw [lg_entry_eq]
  exact body p e s m av.toArray below meth c ⟨B.exec, B.bytes, hml, findClass_of_methodNamed B.named, hts, hK, hG, hX, B.notSynchronized⟩ B.returns s.heap [] _ hP va_S.rf ⟨hl.1, hl.2.1, fun i v hi => hl.2.2 (i, v) (by have h1 := xc_entry av 0 i v hcat (xc_lv_at hi); rwa [Nat.zero_add] at h1)⟩
set_option maxHeartbeats 4000000 in
set_option maxRecDepth 100000 in
theorem mcX6_digest (l : Launch) (G : xw_G)   {h : xw_M} {q : xw_M × Int64} (hN : xg_N G = 359) (hR : mX6_digest 351 h = some q) : xc_D l G [.ref (xg_ad G 351)] h q.1 q.2 := by
  refine xc_ofD (by decide +kernel) rfl (Nat.le_of_ble_eq_true rfl) ?_
  intro p e s m args below meth c C hr
  have C : xj_C p s m args meth c G RX6 cX6_digest 10 := C
  show xj_X p l e { frames := 7, cells := 9, slots := 64, locals := 161 } s m args below meth c G 10 0 0 (MQ below (xw_Q G (some (.long q.2)) q.1) args s 9 64 (xg_A G)) h [some (.ref (xg_ad G 351)), none, none, none, none, none, none, none, none, none] 0 []
  unfold mX6_digest at hR
  refine xr_aload_n C dX6_digest_0 rfl ?_
  refine xr_iconst (v := 0) C dX6_digest_1 (by decide) ?_
  refine xr_putL C kd_351 fl_RX6_28 pf_6_0 dX6_digest_2 hR (fun h1 hR => ?_)
  refine xr_bipush (v := 8) C dX6_digest_5 (by decide) ?_
  refine xr_newi C hN (by decide) kd_359 rfl (by decide) (by decide) (by decide) (by decide) (by decide) dX6_digest_7 (lw_g_in (by decide +kernel) (by decide +kernel)) (fun x9 C => ?_)
  obtain ⟨h2, hh2⟩ : ∃ z, z = xw_z h1 359 := ⟨_, rfl⟩
  have hR := xo_letI hR
  rw [← hh2] at hR ⊢
  have hN9 : 359 < xg_N (xg_new G 359 x9) := Nat.lt_succ_self 359
  have hNN : xg_N (xg_new G 359 x9) = 360 := rfl
  refine xr_Q (Q9 := MQ below (xw_Q (xg_new G 359 x9) (some (.long q.2)) q.1) args s 9 64 (xg_A G)) (fun t ht => by
    obtain ⟨o, a1, a2, ⟨a3, a4, a5⟩, a6⟩ := ht
    exact ⟨o, a1, a2, ⟨a3, xw_drop hN (by decide) a4, a5⟩, a6⟩) ?_
  have had : xg_ad G 351 = xg_ad (xg_new G 359 x9) 351 := (xg_new_ad (by decide)).symm
  have hz : xg_A G = xg_A (xg_new G 359 x9) := rfl
  rw [had, hz]
  generalize xg_new G 359 x9 = G1 at C hN9 hNN ⊢
  refine xr_dup C dX6_digest_9 rfl ?_
  refine xr_iconst (v := 0) C dX6_digest_10 (by decide) ?_
  refine xr_aload_n C dX6_digest_11 rfl ?_
  refine xr_get C kd_351 fl_RX6_22 rfl dX6_digest_12 ?_
  refine xr_iconst (v := 0) C dX6_digest_15 (by decide) ?_
  refine xr_ialdC C (kp_6_7 kd_351) (xj_ltN C (kp_6_7 kd_351) (by decide)) rfl (by decide) dX6_digest_16 ?_
  refine xr_iastLC C kd_359 hN9 rfl (by decide) dX6_digest_17 hR (fun h3 hR => ?_)
  refine xr_dup C dX6_digest_18 rfl ?_
  refine xr_iconst (v := 1) C dX6_digest_19 (by decide) ?_
  refine xr_aload_n C dX6_digest_20 rfl ?_
  refine xr_get C kd_351 fl_RX6_32 rfl dX6_digest_21 ?_
  refine xr_iastLC C kd_359 hN9 rfl (by decide) dX6_digest_24 hR (fun h4 hR => ?_)
  refine xr_dup C dX6_digest_25 rfl ?_
  refine xr_iconst (v := 2) C dX6_digest_26 (by decide) ?_
  refine xr_aload_n C dX6_digest_27 rfl ?_
  refine xr_get C kd_351 fl_RX6_39 rfl dX6_digest_28 ?_
  refine xr_iastLC C kd_359 hN9 rfl (by decide) dX6_digest_31 hR (fun h5 hR => ?_)
  refine xr_dup C dX6_digest_32 rfl ?_
  refine xr_iconst (v := 3) C dX6_digest_33 (by decide) ?_
  refine xr_aload_n C dX6_digest_34 rfl ?_
  refine xr_iconst (v := 5) C dX6_digest_35 (by decide) ?_
  refine xr_callVi C (st := [.int (3 : Int32), .ref (xg_ad G1 359), .ref (xg_ad G1 359)]) [.int (5 : Int32)] cv_RX6_98 kd_351 (fun _ zz9 => mcX6_inState l G1 kd_351 zz9) rfl ⟨Nat.le_of_ble_eq_true rfl, Nat.le_of_ble_eq_true rfl⟩ (Nat.le_of_ble_eq_true rfl) ⟨by decide, by decide⟩ rfl dX6_digest_36 hR (fun r6 hr6 hR => ?_)
  refine xr_iastLC C kd_359 hN9 rfl (by decide) dX6_digest_39 hR (fun h7 hR => ?_)
  refine xr_dup C dX6_digest_40 rfl ?_
  refine xr_iconst (v := 4) C dX6_digest_41 (by decide) ?_
  refine xr_aload_n C dX6_digest_42 rfl ?_
  refine xr_get C kd_351 fl_RX6_22 rfl dX6_digest_43 ?_
  refine xr_iconst (v := 1) C dX6_digest_46 (by decide) ?_
  refine xr_ialdC C (kp_6_7 kd_351) (xj_ltN C (kp_6_7 kd_351) (by decide)) rfl (by decide) dX6_digest_47 ?_
  refine xr_iastLC C kd_359 hN9 rfl (by decide) dX6_digest_48 hR (fun h8 hR => ?_)
  refine xr_dup C dX6_digest_49 rfl ?_
  refine xr_iconst (v := 5) C dX6_digest_50 (by decide) ?_
  refine xr_aload_n C dX6_digest_51 rfl ?_
  refine xr_callVi C (st := [.int (5 : Int32), .ref (xg_ad G1 359), .ref (xg_ad G1 359)]) [] cv_RX6_101 kd_351 (fun _ zz9 => mcX6_first l G1 kd_351 zz9) rfl ⟨Nat.le_of_ble_eq_true rfl, Nat.le_of_ble_eq_true rfl⟩ (Nat.le_of_ble_eq_true rfl) ⟨by decide, by decide⟩ rfl dX6_digest_52 hR (fun r9 hr9 hR => ?_)
  refine xr_iastLC C kd_359 hN9 rfl (by decide) dX6_digest_55 hR (fun h10 hR => ?_)
  refine xr_dup C dX6_digest_56 rfl ?_
  refine xr_bipush (v := 6) C dX6_digest_57 (by decide) ?_
  refine xr_aload_n C dX6_digest_59 rfl ?_
  refine xr_callVi C (st := [.int (6 : Int32), .ref (xg_ad G1 359), .ref (xg_ad G1 359)]) [] cv_RX6_105 kd_351 (fun _ zz9 => mcX6_stuck l G1 kd_351 zz9) rfl ⟨Nat.le_of_ble_eq_true rfl, Nat.le_of_ble_eq_true rfl⟩ (Nat.le_of_ble_eq_true rfl) ⟨by decide, by decide⟩ rfl dX6_digest_60 hR (fun r11 hr11 hR => ?_)
  refine xr_if_eq (tgt := 70) C dX6_digest_63 (by decide) hR (fun hR => ?_) (fun hR => ?_)
  · refine xr_iconst (v := 0) C dX6_digest_70 (by decide) ?_
    exact xr_sub (lv9 := [some (.ref (xg_ad G1 351)), none, none, none, none, none, none, none, none, none]) (And.intro rfl trivial) (mbX6_digest_b71 C hr hNN kd_359 hN9 kd_359 hN9 hR)
  · refine xr_iconst (v := 1) C dX6_digest_66 (by decide) ?_
    refine xr_goto (tgt := 71) C dX6_digest_67 (by decide) ?_
    exact xr_sub (lv9 := [some (.ref (xg_ad G1 351)), none, none, none, none, none, none, none, none, none]) (And.intro rfl trivial) (mbX6_digest_b71 C hr hNN kd_359 hN9 kd_359 hN9 hR)
end
