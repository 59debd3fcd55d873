section
def mX6_thrown (k0 : Nat) (h : xw_M) : Option (xw_M × Int32) := some (h, (h k0 0))
set_option maxHeartbeats 4000000 in
set_option maxRecDepth 100000 in
theorem mcX6_thrown (l : Launch) (G : xw_G) {k0 : Nat} (hk0 : xw_kd k0 = 6) {h : xw_M} {q : xw_M × Int32} (hR : mX6_thrown k0 h = some q) : xc_M l G yX6_thrown cX6_thrown 1 (some .int) 0 0 [.ref (xg_ad G k0)] h q.1 (some (.int q.2)) := by
  refine xc_of (by decide +kernel) rfl (Nat.le_of_ble_eq_true rfl) ?_
  intro p e s m args below meth c C hr
  have C : xj_C p s m args meth c G RX6 cX6_thrown 1 := C
  show xj_X p l e { frames := 0, cells := 0, slots := 0, locals := 0 } s m args below meth c G 1 0 0 (MQ below (xw_Q G (some (.int q.2)) q.1) args s 0 0 (xg_A G)) h [some (.ref (xg_ad G k0))] 0 []
  unfold mX6_thrown at hR
  refine xr_aload_n C dX6_thrown_0 rfl ?_
  refine xr_get C hk0 fl_RX6_28 rfl dX6_thrown_1 ?_
  exact xr_iret C hr dX6_thrown_4 hR
end
section
def mX6_no (k0 : Nat) (a1 : Int32) (h : xw_M) : Option (xw_M × Int32) := xo_let (xw_st h k0 0 a1) fun h1 => some (h1, (0 : Int32))
set_option maxHeartbeats 4000000 in
set_option maxRecDepth 100000 in
theorem mcX6_no (l : Launch) (G : xw_G) {k0 : Nat} {a1 : Int32} (hk0 : xw_kd k0 = 6) {h : xw_M} {q : xw_M × Int32} (hR : mX6_no k0 a1 h = some q) : xc_M l G yX6_no cX6_no 2 (some .int) 0 0 [.ref (xg_ad G k0), .int a1] h q.1 (some (.int q.2)) := by
  refine xc_of (by decide +kernel) rfl (Nat.le_of_ble_eq_true rfl) ?_
  intro p e s m args below meth c C hr
  have C : xj_C p s m args meth c G RX6 cX6_no 2 := C
  show xj_X p l e { frames := 0, cells := 0, slots := 0, locals := 0 } s m args below meth c G 2 0 0 (MQ below (xw_Q G (some (.int q.2)) q.1) args s 0 0 (xg_A G)) h [some (.ref (xg_ad G k0)), some (.int a1)] 0 []
  unfold mX6_no at hR
  refine xr_aload_n C dX6_no_0 rfl ?_
  refine xr_iload_n C dX6_no_1 rfl ?_
  refine xr_putL C hk0 fl_RX6_28 pf_6_0 dX6_no_2 hR (fun h1 hR => ?_)
  refine xr_iconst (v := 0) C dX6_no_5 (by decide) ?_
  exact xr_iret C hr dX6_no_6 hR
end
section
def mX6_ok (k0 : Nat) (a1 : Int32) (h : xw_M) : Option (xw_M × Int32) := xo_let (xw_st h k0 0 (0 : Int32)) fun h1 => some (h1, a1)
set_option maxHeartbeats 4000000 in
set_option maxRecDepth 100000 in
theorem mcX6_ok (l : Launch) (G : xw_G) {k0 : Nat} {a1 : Int32} (hk0 : xw_kd k0 = 6) {h : xw_M} {q : xw_M × Int32} (hR : mX6_ok k0 a1 h = some q) : xc_M l G yX6_ok cX6_ok 2 (some .int) 0 0 [.ref (xg_ad G k0), .int a1] h q.1 (some (.int q.2)) := by
  refine xc_of (by decide +kernel) rfl (Nat.le_of_ble_eq_true rfl) ?_
  intro p e s m args below meth c C hr
  have C : xj_C p s m args meth c G RX6 cX6_ok 2 := C
  show xj_X p l e { frames := 0, cells := 0, slots := 0, locals := 0 } s m args below meth c G 2 0 0 (MQ below (xw_Q G (some (.int q.2)) q.1) args s 0 0 (xg_A G)) h [some (.ref (xg_ad G k0)), some (.int a1)] 0 []
  unfold mX6_ok at hR
  refine xr_aload_n C dX6_ok_0 rfl ?_
  refine xr_iconst (v := 0) C dX6_ok_1 (by decide) ?_
  refine xr_putL C hk0 fl_RX6_28 pf_6_0 dX6_ok_2 hR (fun h1 hR => ?_)
  refine xr_iload_n C dX6_ok_5 rfl ?_
  exact xr_iret C hr dX6_ok_6 hR
end
section
def mX6_isFrom (a0 : Int32) (a1 : Int32) (a2 : Int32) (h : xw_M) : Option (xw_M × Int32) := (if a0 < a1 then some (h, (0 : Int32)) else (if a2 < a0 then some (h, (0 : Int32)) else some (h, (1 : Int32))))
set_option maxHeartbeats 4000000 in
set_option maxRecDepth 100000 in
theorem mcX6_isFrom (l : Launch) (G : xw_G) {a0 : Int32} {a1 : Int32} {a2 : Int32}  {h : xw_M} {q : xw_M × Int32} (hR : mX6_isFrom a0 a1 a2 h = some q) : xc_M l G yX6_isFrom cX6_isFrom 3 (some .boolean) 0 0 [.int a0, .int a1, .int a2] h q.1 (some (.int q.2)) := by
  refine xc_of (by decide +kernel) rfl (Nat.le_of_ble_eq_true rfl) ?_
  intro p e s m args below meth c C hr
  have C : xj_C p s m args meth c G RX6 cX6_isFrom 3 := C
  show xj_X p l e { frames := 0, cells := 0, slots := 0, locals := 0 } s m args below meth c G 3 0 0 (MQ below (xw_Q G (some (.int q.2)) q.1) args s 0 0 (xg_A G)) h [some (.int a0), some (.int a1), some (.int a2)] 0 []
  unfold mX6_isFrom at hR
  refine xr_iload_n C dX6_isFrom_0 rfl ?_
  refine xr_iload_n C dX6_isFrom_1 rfl ?_
  refine xr_icmp_lt (tgt := 14) C dX6_isFrom_2 (by decide) hR (fun hR => ?_) (fun hR => ?_)
  · refine xr_iconst (v := 0) C dX6_isFrom_14 (by decide) ?_
    exact xr_zret C hr (Or.inl rfl) dX6_isFrom_15 hR
  · refine xr_iload_n C dX6_isFrom_5 rfl ?_
    refine xr_iload_n C dX6_isFrom_6 rfl ?_
    refine xr_icmp_gt (tgt := 14) C dX6_isFrom_7 (by decide) hR (fun hR => ?_) (fun hR => ?_)
    · refine xr_iconst (v := 0) C dX6_isFrom_14 (by decide) ?_
      exact xr_zret C hr (Or.inl rfl) dX6_isFrom_15 hR
    · refine xr_iconst (v := 1) C dX6_isFrom_10 (by decide) ?_
      refine xr_goto (tgt := 15) C dX6_isFrom_11 (by decide) ?_
      exact xr_zret C hr (Or.inr rfl) dX6_isFrom_15 hR
end
section
def mX6_isChannel (k0 : Nat) (a1 : Int32) (h : xw_M) : Option (xw_M × Int32) := (mX6_isFrom a1 (0 : Int32) ((h k0 1) - (1 : Int32)) h).bind fun r1 => (if r1.2 = 0 ∨ r1.2 = 1 then some (r1.1, r1.2) else none)
set_option maxHeartbeats 4000000 in
set_option maxRecDepth 100000 in
theorem mcX6_isChannel (l : Launch) (G : xw_G) {k0 : Nat} {a1 : Int32} (hk0 : xw_kd k0 = 6) {h : xw_M} {q : xw_M × Int32} (hR : mX6_isChannel k0 a1 h = some q) : xc_M l G yX6_isChannel cX6_isChannel 2 (some .boolean) 1 22 [.ref (xg_ad G k0), .int a1] h q.1 (some (.int q.2)) := by
  refine xc_of (by decide +kernel) rfl (Nat.le_of_ble_eq_true rfl) ?_
  intro p e s m args below meth c C hr
  have C : xj_C p s m args meth c G RX6 cX6_isChannel 2 := C
  show xj_X p l e { frames := 1, cells := 0, slots := 0, locals := 22 } s m args below meth c G 2 0 0 (MQ below (xw_Q G (some (.int q.2)) q.1) args s 0 0 (xg_A G)) h [some (.ref (xg_ad G k0)), some (.int a1)] 0 []
  unfold mX6_isChannel at hR
  refine xr_iload_n C dX6_isChannel_0 rfl ?_
  refine xr_iconst (v := 0) C dX6_isChannel_1 (by decide) ?_
  refine xr_aload_n C dX6_isChannel_2 rfl ?_
  refine xr_get C hk0 fl_RX6_32 rfl dX6_isChannel_3 ?_
  refine xr_iconst (v := 1) C dX6_isChannel_6 (by decide) ?_
  refine xr_isub C dX6_isChannel_7 ?_
  refine xr_callSi C (st := []) [.int a1, .int (0 : Int32), .int ((h k0 1) - (1 : Int32))] cs_RX6_35 (fun _ zz9 => mcX6_isFrom l G  zz9) rfl ⟨Nat.le_of_ble_eq_true rfl, Nat.le_of_ble_eq_true rfl⟩ (Nat.le_of_ble_eq_true rfl) ⟨Nat.zero_le _, Nat.zero_le _⟩ rfl dX6_isChannel_8 hR (fun r1 hr1 hR => ?_)
  exact xr_zretG C hr dX6_isChannel_11 hR
end
section
def mX6_isFiber (k0 : Nat) (a1 : Int32) (h : xw_M) : Option (xw_M × Int32) := (mX6_isFrom a1 (0 : Int32) ((h k0 2) - (1 : Int32)) h).bind fun r1 => (if r1.2 = 0 ∨ r1.2 = 1 then some (r1.1, r1.2) else none)
set_option maxHeartbeats 4000000 in
set_option maxRecDepth 100000 in
theorem mcX6_isFiber (l : Launch) (G : xw_G) {k0 : Nat} {a1 : Int32} (hk0 : xw_kd k0 = 6) {h : xw_M} {q : xw_M × Int32} (hR : mX6_isFiber k0 a1 h = some q) : xc_M l G yX6_isFiber cX6_isFiber 2 (some .boolean) 1 22 [.ref (xg_ad G k0), .int a1] h q.1 (some (.int q.2)) := by
  refine xc_of (by decide +kernel) rfl (Nat.le_of_ble_eq_true rfl) ?_
  intro p e s m args below meth c C hr
  have C : xj_C p s m args meth c G RX6 cX6_isFiber 2 := C
  show xj_X p l e { frames := 1, cells := 0, slots := 0, locals := 22 } s m args below meth c G 2 0 0 (MQ below (xw_Q G (some (.int q.2)) q.1) args s 0 0 (xg_A G)) h [some (.ref (xg_ad G k0)), some (.int a1)] 0 []
  unfold mX6_isFiber at hR
  refine xr_iload_n C dX6_isFiber_0 rfl ?_
  refine xr_iconst (v := 0) C dX6_isFiber_1 (by decide) ?_
  refine xr_aload_n C dX6_isFiber_2 rfl ?_
  refine xr_get C hk0 fl_RX6_39 rfl dX6_isFiber_3 ?_
  refine xr_iconst (v := 1) C dX6_isFiber_6 (by decide) ?_
  refine xr_isub C dX6_isFiber_7 ?_
  refine xr_callSi C (st := []) [.int a1, .int (0 : Int32), .int ((h k0 2) - (1 : Int32))] cs_RX6_35 (fun _ zz9 => mcX6_isFrom l G  zz9) rfl ⟨Nat.le_of_ble_eq_true rfl, Nat.le_of_ble_eq_true rfl⟩ (Nat.le_of_ble_eq_true rfl) ⟨Nat.zero_le _, Nat.zero_le _⟩ rfl dX6_isFiber_8 hR (fun r1 hr1 hR => ?_)
  exact xr_zretG C hr dX6_isFiber_11 hR
end
section
def mX6_keep (k0 : Nat) (h : xw_M) : Option (xw_M × Unit) := if xo_cp (0 : Int32) (0 : Int32) (204 : Int32) 204 204 = true then (xo_let (xw_cp h (k0 + 5) (0 : Int32) (k0 + 6) (0 : Int32) (204 : Int32)) fun h1 => some (h1, ())) else none
set_option maxHeartbeats 4000000 in
set_option maxRecDepth 100000 in
theorem mcX6_keep (l : Launch) (G : xw_G) {k0 : Nat} (hk0 : xw_kd k0 = 6) {h : xw_M} {q : xw_M × Unit} (hR : mX6_keep k0 h = some q) : xc_M l G yX6_keep cX6_keep 1 none 1 40 [.ref (xg_ad G k0)] h q.1 none := by
  refine xc_of (by decide +kernel) rfl (Nat.le_of_ble_eq_true rfl) ?_
  intro p e s m args below meth c C hr
  have C : xj_C p s m args meth c G RX6 cX6_keep 1 := C
  show xj_X p l e { frames := 1, cells := 0, slots := 0, locals := 40 } s m args below meth c G 1 0 0 (MQ below (xw_Q G none q.1) args s 0 0 (xg_A G)) h [some (.ref (xg_ad G k0))] 0 []
  unfold mX6_keep at hR
  refine xr_aload_n C dX6_keep_0 rfl ?_
  refine xr_get C hk0 fl_RX6_22 rfl dX6_keep_1 ?_
  refine xr_iconst (v := 0) C dX6_keep_4 (by decide) ?_
  refine xr_aload_n C dX6_keep_5 rfl ?_
  refine xr_get C hk0 fl_RX6_25 rfl dX6_keep_6 ?_
  refine xr_iconst (v := 0) C dX6_keep_9 (by decide) ?_
  refine xr_sipush (v := 204) C dX6_keep_10 (by decide) ?_
  refine xr_copy C sy_RX6_42 (kp_6_7 hk0) (xj_ltN C (kp_6_7 hk0) (by decide)) rfl (kp_6_8 hk0) (xj_ltN C (kp_6_8 hk0) (by decide)) rfl (by decide) (by decide) dX6_keep_13 hR (fun h1 hR => ?_)
  exact xr_vret C hr dX6_keep_16 hR
end
section
def mX6_bringBack (k0 : Nat) (h : xw_M) : Option (xw_M × Unit) := if xo_cp (0 : Int32) (0 : Int32) (204 : Int32) 204 204 = true then (xo_let (xw_cp h (k0 + 6) (0 : Int32) (k0 + 5) (0 : Int32) (204 : Int32)) fun h1 => some (h1, ())) else none
set_option maxHeartbeats 4000000 in
set_option maxRecDepth 100000 in
theorem mcX6_bringBack (l : Launch) (G : xw_G) {k0 : Nat} (hk0 : xw_kd k0 = 6) {h : xw_M} {q : xw_M × Unit} (hR : mX6_bringBack k0 h = some q) : xc_M l G yX6_bringBack cX6_bringBack 1 none 1 40 [.ref (xg_ad G k0)] h q.1 none := by
  refine xc_of (by decide +kernel) rfl (Nat.le_of_ble_eq_true rfl) ?_
  intro p e s m args below meth c C hr
  have C : xj_C p s m args meth c G RX6 cX6_bringBack 1 := C
  show xj_X p l e { frames := 1, cells := 0, slots := 0, locals := 40 } s m args below meth c G 1 0 0 (MQ below (xw_Q G none q.1) args s 0 0 (xg_A G)) h [some (.ref (xg_ad G k0))] 0 []
  unfold mX6_bringBack at hR
  refine xr_aload_n C dX6_bringBack_0 rfl ?_
  refine xr_get C hk0 fl_RX6_25 rfl dX6_bringBack_1 ?_
  refine xr_iconst (v := 0) C dX6_bringBack_4 (by decide) ?_
  refine xr_aload_n C dX6_bringBack_5 rfl ?_
  refine xr_get C hk0 fl_RX6_22 rfl dX6_bringBack_6 ?_
  refine xr_iconst (v := 0) C dX6_bringBack_9 (by decide) ?_
  refine xr_sipush (v := 204) C dX6_bringBack_10 (by decide) ?_
  refine xr_copy C sy_RX6_42 (kp_6_8 hk0) (xj_ltN C (kp_6_8 hk0) (by decide)) rfl (kp_6_7 hk0) (xj_ltN C (kp_6_7 hk0) (by decide)) rfl (by decide) (by decide) dX6_bringBack_13 hR (fun h1 hR => ?_)
  exact xr_vret C hr dX6_bringBack_16 hR
end
section
def mX6_ready (k0 : Nat) (a1 : Int32) (h : xw_M) : Option (xw_M × Unit) := if xo_ix ((12 : Int32) + a1) 204 = true then (xo_let (xw_st h (k0 + 5) (Int32.toNatClampNeg ((12 : Int32) + a1)) (0 : Int32)) fun h1 => if xo_ix ((4 : Int32) + (h1 (k0 + 5) (Int32.toNatClampNeg (3 : Int32)))) 204 = true then (xo_let (xw_st h1 (k0 + 5) (Int32.toNatClampNeg ((4 : Int32) + (h1 (k0 + 5) (Int32.toNatClampNeg (3 : Int32))))) a1) fun h2 => xo_let (xw_st h2 (k0 + 5) (Int32.toNatClampNeg (3 : Int32)) ((h2 (k0 + 5) (Int32.toNatClampNeg (3 : Int32))) + (1 : Int32))) fun h3 => some (h3, ())) else none) else none
set_option maxHeartbeats 4000000 in
set_option maxRecDepth 100000 in
theorem mcX6_ready (l : Launch) (G : xw_G) {k0 : Nat} {a1 : Int32} (hk0 : xw_kd k0 = 6) {h : xw_M} {q : xw_M × Unit} (hR : mX6_ready k0 a1 h = some q) : xc_M l G yX6_ready cX6_ready 2 none 0 0 [.ref (xg_ad G k0), .int a1] h q.1 none := by
  refine xc_of (by decide +kernel) rfl (Nat.le_of_ble_eq_true rfl) ?_
  intro p e s m args below meth c C hr
  have C : xj_C p s m args meth c G RX6 cX6_ready 2 := C
  show xj_X p l e { frames := 0, cells := 0, slots := 0, locals := 0 } s m args below meth c G 2 0 0 (MQ below (xw_Q G none q.1) args s 0 0 (xg_A G)) h [some (.ref (xg_ad G k0)), some (.int a1)] 0 []
  unfold mX6_ready at hR
  refine xr_aload_n C dX6_ready_0 rfl ?_
  refine xr_get C hk0 fl_RX6_22 rfl dX6_ready_1 ?_
  refine xr_bipush (v := 12) C dX6_ready_4 (by decide) ?_
  refine xr_iload_n C dX6_ready_6 rfl ?_
  refine xr_iadd C dX6_ready_7 ?_
  refine xr_iconst (v := 0) C dX6_ready_8 (by decide) ?_
  refine xr_iastL C (kp_6_7 hk0) (xj_ltN C (kp_6_7 hk0) (by decide)) rfl dX6_ready_9 hR (fun h1 hR => ?_)
  refine xr_aload_n C dX6_ready_10 rfl ?_
  refine xr_get C hk0 fl_RX6_22 rfl dX6_ready_11 ?_
  refine xr_iconst (v := 4) C dX6_ready_14 (by decide) ?_
  refine xr_aload_n C dX6_ready_15 rfl ?_
  refine xr_get C hk0 fl_RX6_22 rfl dX6_ready_16 ?_
  refine xr_iconst (v := 3) C dX6_ready_19 (by decide) ?_
  refine xr_ialdC C (kp_6_7 hk0) (xj_ltN C (kp_6_7 hk0) (by decide)) rfl (by decide) dX6_ready_20 ?_
  refine xr_iadd C dX6_ready_21 ?_
  refine xr_iload_n C dX6_ready_22 rfl ?_
  refine xr_iastL C (kp_6_7 hk0) (xj_ltN C (kp_6_7 hk0) (by decide)) rfl dX6_ready_23 hR (fun h2 hR => ?_)
  refine xr_aload_n C dX6_ready_24 rfl ?_
  refine xr_get C hk0 fl_RX6_22 rfl dX6_ready_25 ?_
  refine xr_iconst (v := 3) C dX6_ready_28 (by decide) ?_
  refine xr_dup2 C dX6_ready_29 rfl rfl ?_
  refine xr_ialdC C (kp_6_7 hk0) (xj_ltN C (kp_6_7 hk0) (by decide)) rfl (by decide) dX6_ready_30 ?_
  refine xr_iconst (v := 1) C dX6_ready_31 (by decide) ?_
  refine xr_iadd C dX6_ready_32 ?_
  refine xr_iastLC C (kp_6_7 hk0) (xj_ltN C (kp_6_7 hk0) (by decide)) rfl (by decide) dX6_ready_33 hR (fun h3 hR => ?_)
  exact xr_vret C hr dX6_ready_34 hR
end
section
def mX6_waits (k0 : Nat) (a1 : Int32) (a2 : Int32) (a3 : Int32) (h : xw_M) : Option (xw_M × Int32) := if xo_ix ((12 : Int32) + a1) 204 = true then (if (h (k0 + 5) (Int32.toNatClampNeg ((12 : Int32) + a1))) = a2 then if xo_ix ((20 : Int32) + a1) 204 = true then if xo_ix (((12 : Int32) * a1) + (h (k0 + 5) (Int32.toNatClampNeg ((20 : Int32) + a1)))) 96 = true then (if (h (k0 + 3) (Int32.toNatClampNeg (((12 : Int32) * a1) + (h (k0 + 5) (Int32.toNatClampNeg ((20 : Int32) + a1)))))) = a3 then some (h, (1 : Int32)) else some (h, (0 : Int32))) else none else none else some (h, (0 : Int32))) else none
set_option maxHeartbeats 4000000 in
set_option maxRecDepth 100000 in
theorem mcX6_waits (l : Launch) (G : xw_G) {k0 : Nat} {a1 : Int32} {a2 : Int32} {a3 : Int32} (hk0 : xw_kd k0 = 6) {h : xw_M} {q : xw_M × Int32} (hR : mX6_waits k0 a1 a2 a3 h = some q) : xc_M l G yX6_waits cX6_waits 4 (some .boolean) 0 0 [.ref (xg_ad G k0), .int a1, .int a2, .int a3] h q.1 (some (.int q.2)) := by
  refine xc_of (by decide +kernel) rfl (Nat.le_of_ble_eq_true rfl) ?_
  intro p e s m args below meth c C hr
  have C : xj_C p s m args meth c G RX6 cX6_waits 4 := C
  show xj_X p l e { frames := 0, cells := 0, slots := 0, locals := 0 } s m args below meth c G 4 0 0 (MQ below (xw_Q G (some (.int q.2)) q.1) args s 0 0 (xg_A G)) h [some (.ref (xg_ad G k0)), some (.int a1), some (.int a2), some (.int a3)] 0 []
  unfold mX6_waits at hR
  refine xr_aload_n C dX6_waits_0 rfl ?_
  refine xr_get C hk0 fl_RX6_22 rfl dX6_waits_1 ?_
  refine xr_bipush (v := 12) C dX6_waits_4 (by decide) ?_
  refine xr_iload_n C dX6_waits_6 rfl ?_
  refine xr_iadd C dX6_waits_7 ?_
  refine xr_iald C (kp_6_7 hk0) (xj_ltN C (kp_6_7 hk0) (by decide)) rfl dX6_waits_8 hR (fun hR => ?_)
  refine xr_iload_n C dX6_waits_9 rfl ?_
  refine xr_icmp_ne (tgt := 40) C dX6_waits_10 (by decide) hR (fun hR => ?_) (fun hR => ?_)
  · refine xr_iconst (v := 0) C dX6_waits_40 (by decide) ?_
    exact xr_zret C hr (Or.inl rfl) dX6_waits_41 hR
  · refine xr_aload_n C dX6_waits_13 rfl ?_
    refine xr_get C hk0 fl_RX6_16 rfl dX6_waits_14 ?_
    refine xr_bipush (v := 12) C dX6_waits_17 (by decide) ?_
    refine xr_iload_n C dX6_waits_19 rfl ?_
    refine xr_imul C dX6_waits_20 ?_
    refine xr_aload_n C dX6_waits_21 rfl ?_
    refine xr_get C hk0 fl_RX6_22 rfl dX6_waits_22 ?_
    refine xr_bipush (v := 20) C dX6_waits_25 (by decide) ?_
    refine xr_iload_n C dX6_waits_27 rfl ?_
    refine xr_iadd C dX6_waits_28 ?_
    refine xr_iald C (kp_6_7 hk0) (xj_ltN C (kp_6_7 hk0) (by decide)) rfl dX6_waits_29 hR (fun hR => ?_)
    refine xr_iadd C dX6_waits_30 ?_
    refine xr_iald C (kp_6_5 hk0) (xj_ltN C (kp_6_5 hk0) (by decide)) rfl dX6_waits_31 hR (fun hR => ?_)
    refine xr_iload_n C dX6_waits_32 rfl ?_
    refine xr_icmp_ne (tgt := 40) C dX6_waits_33 (by decide) hR (fun hR => ?_) (fun hR => ?_)
    · refine xr_iconst (v := 0) C dX6_waits_40 (by decide) ?_
      exact xr_zret C hr (Or.inl rfl) dX6_waits_41 hR
    · refine xr_iconst (v := 1) C dX6_waits_36 (by decide) ?_
      refine xr_goto (tgt := 41) C dX6_waits_37 (by decide) ?_
      exact xr_zret C hr (Or.inr rfl) dX6_waits_41 hR
end
section
def mX6_wake_b55 (K5 : xw_M → Int32 → Int32 → Option (xw_M × Unit)) (k0 : Nat) (a1 : Int32) (a2 : Int32) (a3 : Int32) (a4 : Int32) (h : xw_M)  : Option (xw_M × Unit) := K5 h (a3) ((a4 + 1))
def mX6_wake_b52 (K5 : xw_M → Int32 → Int32 → Option (xw_M × Unit)) (k0 : Nat) (a1 : Int32) (a2 : Int32) (a4 : Int32) (h : xw_M)  : Option (xw_M × Unit) := mX6_wake_b55 (K5) (k0) (a1) (a2) (a4) (a4) h 
def mX6_wake_b5  (k0 : Nat) (a1 : Int32) (a2 : Int32) : Nat → xw_M → Int32 → Int32 → Option (xw_M × Unit)
  | 0, _, _, _ => none
  | n + 1, h, a3, a4 => (if (h k0 2) ≤ a4 then (if a3 = (-1 : Int32) then some (h, ()) else (mX6_ready k0 a3 h).bind fun r1 => some (r1.1, ())) else (mX6_waits k0 a4 a1 a2 h).bind fun r2 => (if r2.2 = 0 then mX6_wake_b55 (mX6_wake_b5  k0 a1 a2 n) (k0) (a1) (a2) (a3) (a4) r2.1  else (if a3 = (-1 : Int32) then mX6_wake_b52 (mX6_wake_b5  k0 a1 a2 n) (k0) (a1) (a2) (a4) r2.1  else if xo_ix ((60 : Int32) + a4) 204 = true then if xo_ix ((60 : Int32) + a3) 204 = true then (if (r2.1 (k0 + 5) (Int32.toNatClampNeg ((60 : Int32) + a3))) ≤ (r2.1 (k0 + 5) (Int32.toNatClampNeg ((60 : Int32) + a4))) then mX6_wake_b55 (mX6_wake_b5  k0 a1 a2 n) (k0) (a1) (a2) (a3) (a4) r2.1  else mX6_wake_b52 (mX6_wake_b5  k0 a1 a2 n) (k0) (a1) (a2) (a4) r2.1 ) else none else none)))
def mX6_wake (k0 : Nat) (a1 : Int32) (a2 : Int32) (h : xw_M) : Option (xw_M × Unit) := mX6_wake_b5  (k0) (a1) (a2) xo_n h ((-1 : Int32)) ((0 : Int32))
set_option maxHeartbeats 4000000 in
set_option maxRecDepth 100000 in
theorem mbX6_wake_b55 {p : Program} {l : Launch} {e : Env} {s : State} {m : MethodId} {args : Array Value} {below : List Frame} {meth : Method} {c : Code} {G : xw_G} (C : xj_C p s m args meth c G RX6 cX6_wake 5) (hr : meth.sig.returnType = none) {q : xw_M × Unit} {K5 : xw_M → Int32 → Int32 → Option (xw_M × Unit)} {k0 : Nat} {a1 : Int32} {a2 : Int32} {a3 : Int32} {a4 : Int32} (hK5 : ∀ (h : xw_M) (a3 : Int32) (a4 : Int32), K5 h a3 a4 = some q → xj_X p l e { frames := 1, cells := 0, slots := 0, locals := 23 } s m args below meth c G 5 0 0 (MQ below (xw_Q G none q.1) args s 0 0 (xg_A G)) h [some (.ref (xg_ad G k0)), some (.int a1), some (.int a2), some (.int a3), some (.int a4)] 5 []) (hk0 : xw_kd k0 = 6) {h : xw_M}   (hR : mX6_wake_b55 K5 k0 a1 a2 a3 a4 h  = some q) : xj_X p l e { frames := 1, cells := 0, slots := 0, locals := 23 } s m args below meth c G 5 0 0 (MQ below (xw_Q G none q.1) args s 0 0 (xg_A G)) h [some (.ref (xg_ad G k0)), some (.int a1), some (.int a2), some (.int a3), some (.int a4)] 55 [] := by
  unfold mX6_wake_b55 at hR
  refine xr_iinc (v := 1) C dX6_wake_55 rfl (by decide) rfl (by decide) ?_
  refine xr_goto (tgt := 5) C dX6_wake_58 (by decide) ?_
  exact xr_sub (lv9 := [some (.ref (xg_ad G k0)), some (.int a1), some (.int a2), some (.int a3), some (.int (a4 + 1))]) (And.intro rfl (And.intro rfl (And.intro rfl (And.intro rfl (And.intro rfl trivial))))) (hK5 _ _ _  hR)
set_option maxHeartbeats 4000000 in
set_option maxRecDepth 100000 in
theorem mbX6_wake_b52 {p : Program} {l : Launch} {e : Env} {s : State} {m : MethodId} {args : Array Value} {below : List Frame} {meth : Method} {c : Code} {G : xw_G} (C : xj_C p s m args meth c G RX6 cX6_wake 5) (hr : meth.sig.returnType = none) {q : xw_M × Unit} {K5 : xw_M → Int32 → Int32 → Option (xw_M × Unit)} {k0 : Nat} {a1 : Int32} {a2 : Int32} {a4 : Int32} (hK5 : ∀ (h : xw_M) (a3 : Int32) (a4 : Int32), K5 h a3 a4 = some q → xj_X p l e { frames := 1, cells := 0, slots := 0, locals := 23 } s m args below meth c G 5 0 0 (MQ below (xw_Q G none q.1) args s 0 0 (xg_A G)) h [some (.ref (xg_ad G k0)), some (.int a1), some (.int a2), some (.int a3), some (.int a4)] 5 []) (hk0 : xw_kd k0 = 6) {h : xw_M}   (hR : mX6_wake_b52 K5 k0 a1 a2 a4 h  = some q) : xj_X p l e { frames := 1, cells := 0, slots := 0, locals := 23 } s m args below meth c G 5 0 0 (MQ below (xw_Q G none q.1) args s 0 0 (xg_A G)) h [some (.ref (xg_ad G k0)), some (.int a1), some (.int a2), none, some (.int a4)] 52 [] := by
  unfold mX6_wake_b52 at hR
  refine xr_iload C dX6_wake_52 rfl ?_
  refine xr_istore_n C dX6_wake_54 rfl (by decide) ?_
  exact xr_sub (lv9 := [some (.ref (xg_ad G k0)), some (.int a1), some (.int a2), some (.int a4), some (.int a4)]) (And.intro rfl (And.intro rfl (And.intro rfl (And.intro rfl (And.intro rfl trivial))))) (mbX6_wake_b55 C hr hK5 hk0  hR)
set_option maxHeartbeats 4000000 in
set_option maxRecDepth 100000 in
theorem mbX6_wake_b5 {p : Program} {l : Launch} {e : Env} {s : State} {m : MethodId} {args : Array Value} {below : List Frame} {meth : Method} {c : Code} {G : xw_G} (C : xj_C p s m args meth c G RX6 cX6_wake 5) (hr : meth.sig.returnType = none) {q : xw_M × Unit} {k0 : Nat} {a1 : Int32} {a2 : Int32}  (hk0 : xw_kd k0 = 6) : ∀ (n : Nat) (h : xw_M) (a3 : Int32) (a4 : Int32), mX6_wake_b5  k0 a1 a2 n h a3 a4 = some q → xj_X p l e { frames := 1, cells := 0, slots := 0, locals := 23 } s m args below meth c G 5 0 0 (MQ below (xw_Q G none q.1) args s 0 0 (xg_A G)) h [some (.ref (xg_ad G k0)), some (.int a1), some (.int a2), some (.int a3), some (.int a4)] 5 [] := by
  intro n
  induction n with
  | zero => intro h a3 a4 hR; exact absurd (show (none : Option (xw_M × Unit)) = some q from hR) (fun z => by cases z)
  | succ n ih =>
    intro h a3 a4 hR
    rw [mX6_wake_b5.eq_2] at hR
    refine xr_iload C dX6_wake_5 rfl ?_
    refine xr_aload_n C dX6_wake_7 rfl ?_
    refine xr_get C hk0 fl_RX6_39 rfl dX6_wake_8 ?_
    refine xr_icmp_ge (tgt := 61) C dX6_wake_11 (by decide) hR (fun hR => ?_) (fun hR => ?_)
    · refine xr_iload_n C dX6_wake_61 rfl ?_
      refine xr_iconst (v := (-1)) C dX6_wake_62 (by decide) ?_
      refine xr_icmp_eq (tgt := 71) C dX6_wake_63 (by decide) hR (fun hR => ?_) (fun hR => ?_)
      · exact xr_vret C hr dX6_wake_71 hR
      · refine xr_aload_n C dX6_wake_66 rfl ?_
        refine xr_iload_n C dX6_wake_67 rfl ?_
        refine xr_callVv C (st := []) [.int a3] cv_RX6_51 hk0 (fun _ zz9 => mcX6_ready l G hk0 zz9) rfl ⟨Nat.le_of_ble_eq_true rfl, Nat.le_of_ble_eq_true rfl⟩ (Nat.le_of_ble_eq_true rfl) ⟨Nat.zero_le _, Nat.zero_le _⟩ rfl dX6_wake_68 hR (fun r1 hr1 hR => ?_)
        exact xr_vret C hr dX6_wake_71 hR
    · refine xr_aload_n C dX6_wake_14 rfl ?_
      refine xr_iload C dX6_wake_15 rfl ?_
      refine xr_iload_n C dX6_wake_17 rfl ?_
      refine xr_iload_n C dX6_wake_18 rfl ?_
      refine xr_callVi C (st := []) [.int a4, .int a1, .int a2] cv_RX6_48 hk0 (fun _ zz9 => mcX6_waits l G hk0 zz9) rfl ⟨Nat.le_of_ble_eq_true rfl, Nat.le_of_ble_eq_true rfl⟩ (Nat.le_of_ble_eq_true rfl) ⟨Nat.zero_le _, Nat.zero_le _⟩ rfl dX6_wake_19 hR (fun r2 hr2 hR => ?_)
      refine xr_if_eq (tgt := 55) C dX6_wake_22 (by decide) hR (fun hR => ?_) (fun hR => ?_)
      · exact xr_sub (lv9 := [some (.ref (xg_ad G k0)), some (.int a1), some (.int a2), some (.int a3), some (.int a4)]) (And.intro rfl (And.intro rfl (And.intro rfl (And.intro rfl (And.intro rfl trivial))))) (mbX6_wake_b55 C hr ih hk0  hR)
      · refine xr_iload_n C dX6_wake_25 rfl ?_
        refine xr_iconst (v := (-1)) C dX6_wake_26 (by decide) ?_
        refine xr_icmp_eq (tgt := 52) C dX6_wake_27 (by decide) hR (fun hR => ?_) (fun hR => ?_)
        · exact xr_sub (lv9 := [some (.ref (xg_ad G k0)), some (.int a1), some (.int a2), none, some (.int a4)]) (And.intro rfl (And.intro rfl (And.intro rfl (And.intro rfl trivial)))) (mbX6_wake_b52 C hr ih hk0  hR)
        · refine xr_aload_n C dX6_wake_30 rfl ?_
          refine xr_get C hk0 fl_RX6_22 rfl dX6_wake_31 ?_
          refine xr_bipush (v := 60) C dX6_wake_34 (by decide) ?_
          refine xr_iload C dX6_wake_36 rfl ?_
          refine xr_iadd C dX6_wake_38 ?_
          refine xr_iald C (kp_6_7 hk0) (xj_ltN C (kp_6_7 hk0) (by decide)) rfl dX6_wake_39 hR (fun hR => ?_)
          refine xr_aload_n C dX6_wake_40 rfl ?_
          refine xr_get C hk0 fl_RX6_22 rfl dX6_wake_41 ?_
          refine xr_bipush (v := 60) C dX6_wake_44 (by decide) ?_
          refine xr_iload_n C dX6_wake_46 rfl ?_
          refine xr_iadd C dX6_wake_47 ?_
          refine xr_iald C (kp_6_7 hk0) (xj_ltN C (kp_6_7 hk0) (by decide)) rfl dX6_wake_48 hR (fun hR => ?_)
          refine xr_icmp_ge (tgt := 55) C dX6_wake_49 (by decide) hR (fun hR => ?_) (fun hR => ?_)
          · exact xr_sub (lv9 := [some (.ref (xg_ad G k0)), some (.int a1), some (.int a2), some (.int a3), some (.int a4)]) (And.intro rfl (And.intro rfl (And.intro rfl (And.intro rfl (And.intro rfl trivial))))) (mbX6_wake_b55 C hr ih hk0  hR)
          · exact xr_sub (lv9 := [some (.ref (xg_ad G k0)), some (.int a1), some (.int a2), none, some (.int a4)]) (And.intro rfl (And.intro rfl (And.intro rfl (And.intro rfl trivial)))) (mbX6_wake_b52 C hr ih hk0  hR)
set_option maxHeartbeats 4000000 in
set_option maxRecDepth 100000 in
theorem mcX6_wake (l : Launch) (G : xw_G) {k0 : Nat} {a1 : Int32} {a2 : Int32} (hk0 : xw_kd k0 = 6) {h : xw_M} {q : xw_M × Unit} (hR : mX6_wake k0 a1 a2 h = some q) : xc_M l G yX6_wake cX6_wake 5 none 1 23 [.ref (xg_ad G k0), .int a1, .int a2] h q.1 none := by
  refine xc_of (by decide +kernel) rfl (Nat.le_of_ble_eq_true rfl) ?_
  intro p e s m args below meth c C hr
  have C : xj_C p s m args meth c G RX6 cX6_wake 5 := C
  show xj_X p l e { frames := 1, cells := 0, slots := 0, locals := 23 } s m args below meth c G 5 0 0 (MQ below (xw_Q G none q.1) args s 0 0 (xg_A G)) h [some (.ref (xg_ad G k0)), some (.int a1), some (.int a2), none, none] 0 []
  unfold mX6_wake at hR
  refine xr_iconst (v := (-1)) C dX6_wake_0 (by decide) ?_
  refine xr_istore_n C dX6_wake_1 rfl (by decide) ?_
  refine xr_iconst (v := 0) C dX6_wake_2 (by decide) ?_
  refine xr_istore C dX6_wake_3 rfl (by decide) ?_
  exact xr_sub (lv9 := [some (.ref (xg_ad G k0)), some (.int a1), some (.int a2), some (.int (-1 : Int32)), some (.int (0 : Int32))]) (And.intro rfl (And.intro rfl (And.intro rfl (And.intro rfl (And.intro rfl trivial))))) (mbX6_wake_b5 C hr  hk0 _ _ _ _  hR)
end
section
def mX6_send (k0 : Nat) (a1 : Int32) (a2 : Int32) (h : xw_M) : Option (xw_M × Unit) := if xo_ix ((168 : Int32) + a1) 204 = true then if xo_ix (((172 : Int32) + ((8 : Int32) * a1)) + (h (k0 + 5) (Int32.toNatClampNeg ((168 : Int32) + a1)))) 204 = true then (xo_let (xw_st h (k0 + 5) (Int32.toNatClampNeg (((172 : Int32) + ((8 : Int32) * a1)) + (h (k0 + 5) (Int32.toNatClampNeg ((168 : Int32) + a1))))) a2) fun h1 => if xo_ix ((168 : Int32) + a1) 204 = true then if xo_ix ((168 : Int32) + a1) 204 = true then (xo_let (xw_st h1 (k0 + 5) (Int32.toNatClampNeg ((168 : Int32) + a1)) ((h1 (k0 + 5) (Int32.toNatClampNeg ((168 : Int32) + a1))) + (1 : Int32))) fun h2 => (mX6_wake k0 (2 : Int32) a1 h2).bind fun r3 => some (r3.1, ())) else none else none) else none else none
set_option maxHeartbeats 4000000 in
set_option maxRecDepth 100000 in
theorem mcX6_send (l : Launch) (G : xw_G) {k0 : Nat} {a1 : Int32} {a2 : Int32} (hk0 : xw_kd k0 = 6) {h : xw_M} {q : xw_M × Unit} (hR : mX6_send k0 a1 a2 h = some q) : xc_M l G yX6_send cX6_send 3 none 2 47 [.ref (xg_ad G k0), .int a1, .int a2] h q.1 none := by
  refine xc_of (by decide +kernel) rfl (Nat.le_of_ble_eq_true rfl) ?_
  intro p e s m args below meth c C hr
  have C : xj_C p s m args meth c G RX6 cX6_send 3 := C
  show xj_X p l e { frames := 2, cells := 0, slots := 0, locals := 47 } s m args below meth c G 3 0 0 (MQ below (xw_Q G none q.1) args s 0 0 (xg_A G)) h [some (.ref (xg_ad G k0)), some (.int a1), some (.int a2)] 0 []
  unfold mX6_send at hR
  refine xr_aload_n C dX6_send_0 rfl ?_
  refine xr_get C hk0 fl_RX6_22 rfl dX6_send_1 ?_
  refine xr_sipush (v := 172) C dX6_send_4 (by decide) ?_
  refine xr_bipush (v := 8) C dX6_send_7 (by decide) ?_
  refine xr_iload_n C dX6_send_9 rfl ?_
  refine xr_imul C dX6_send_10 ?_
  refine xr_iadd C dX6_send_11 ?_
  refine xr_aload_n C dX6_send_12 rfl ?_
  refine xr_get C hk0 fl_RX6_22 rfl dX6_send_13 ?_
  refine xr_sipush (v := 168) C dX6_send_16 (by decide) ?_
  refine xr_iload_n C dX6_send_19 rfl ?_
  refine xr_iadd C dX6_send_20 ?_
  refine xr_iald C (kp_6_7 hk0) (xj_ltN C (kp_6_7 hk0) (by decide)) rfl dX6_send_21 hR (fun hR => ?_)
  refine xr_iadd C dX6_send_22 ?_
  refine xr_iload_n C dX6_send_23 rfl ?_
  refine xr_iastL C (kp_6_7 hk0) (xj_ltN C (kp_6_7 hk0) (by decide)) rfl dX6_send_24 hR (fun h1 hR => ?_)
  refine xr_aload_n C dX6_send_25 rfl ?_
  refine xr_get C hk0 fl_RX6_22 rfl dX6_send_26 ?_
  refine xr_sipush (v := 168) C dX6_send_29 (by decide) ?_
  refine xr_iload_n C dX6_send_32 rfl ?_
  refine xr_iadd C dX6_send_33 ?_
  refine xr_dup2 C dX6_send_34 rfl rfl ?_
  refine xr_iald C (kp_6_7 hk0) (xj_ltN C (kp_6_7 hk0) (by decide)) rfl dX6_send_35 hR (fun hR => ?_)
  refine xr_iconst (v := 1) C dX6_send_36 (by decide) ?_
  refine xr_iadd C dX6_send_37 ?_
  refine xr_iastL C (kp_6_7 hk0) (xj_ltN C (kp_6_7 hk0) (by decide)) rfl dX6_send_38 hR (fun h2 hR => ?_)
  refine xr_aload_n C dX6_send_39 rfl ?_
  refine xr_iconst (v := 2) C dX6_send_40 (by decide) ?_
  refine xr_iload_n C dX6_send_41 rfl ?_
  refine xr_callVv C (st := []) [.int (2 : Int32), .int a1] cv_RX6_55 hk0 (fun _ zz9 => mcX6_wake l G hk0 zz9) rfl ⟨Nat.le_of_ble_eq_true rfl, Nat.le_of_ble_eq_true rfl⟩ (Nat.le_of_ble_eq_true rfl) ⟨Nat.zero_le _, Nat.zero_le _⟩ rfl dX6_send_42 hR (fun r3 hr3 hR => ?_)
  exact xr_vret C hr dX6_send_45 hR
end
section
def mX6_take (k0 : Nat) (a1 : Int32) (h : xw_M) : Option (xw_M × Int32) := if xo_ix ((172 : Int32) + ((8 : Int32) * a1)) 204 = true then if xo_ix ((168 : Int32) + a1) 204 = true then if xo_ix ((168 : Int32) + a1) 204 = true then (xo_let (xw_st h (k0 + 5) (Int32.toNatClampNeg ((168 : Int32) + a1)) ((h (k0 + 5) (Int32.toNatClampNeg ((168 : Int32) + a1))) - (1 : Int32))) fun h1 => if xo_ix ((168 : Int32) + a1) 204 = true then if xo_cp (((172 : Int32) + ((8 : Int32) * a1)) + (1 : Int32)) ((172 : Int32) + ((8 : Int32) * a1)) (h1 (k0 + 5) (Int32.toNatClampNeg ((168 : Int32) + a1))) 204 204 = true then (xo_let (xw_cp h1 (k0 + 5) (((172 : Int32) + ((8 : Int32) * a1)) + (1 : Int32)) (k0 + 5) ((172 : Int32) + ((8 : Int32) * a1)) (h1 (k0 + 5) (Int32.toNatClampNeg ((168 : Int32) + a1)))) fun h2 => (mX6_wake k0 (1 : Int32) a1 h2).bind fun r3 => some (r3.1, (h (k0 + 5) (Int32.toNatClampNeg ((172 : Int32) + ((8 : Int32) * a1)))))) else none else none) else none else none else none
set_option maxHeartbeats 4000000 in
set_option maxRecDepth 100000 in
theorem mcX6_take (l : Launch) (G : xw_G) {k0 : Nat} {a1 : Int32} (hk0 : xw_kd k0 = 6) {h : xw_M} {q : xw_M × Int32} (hR : mX6_take k0 a1 h = some q) : xc_M l G yX6_take cX6_take 4 (some .int) 2 47 [.ref (xg_ad G k0), .int a1] h q.1 (some (.int q.2)) := by
  refine xc_of (by decide +kernel) rfl (Nat.le_of_ble_eq_true rfl) ?_
  intro p e s m args below meth c C hr
  have C : xj_C p s m args meth c G RX6 cX6_take 4 := C
  show xj_X p l e { frames := 2, cells := 0, slots := 0, locals := 47 } s m args below meth c G 4 0 0 (MQ below (xw_Q G (some (.int q.2)) q.1) args s 0 0 (xg_A G)) h [some (.ref (xg_ad G k0)), some (.int a1), none, none] 0 []
  unfold mX6_take at hR
  refine xr_sipush (v := 172) C dX6_take_0 (by decide) ?_
  refine xr_bipush (v := 8) C dX6_take_3 (by decide) ?_
  refine xr_iload_n C dX6_take_5 rfl ?_
  refine xr_imul C dX6_take_6 ?_
  refine xr_iadd C dX6_take_7 ?_
  refine xr_istore_n C dX6_take_8 rfl (by decide) ?_
  refine xr_aload_n C dX6_take_9 rfl ?_
  refine xr_get C hk0 fl_RX6_22 rfl dX6_take_10 ?_
  refine xr_iload_n C dX6_take_13 rfl ?_
  refine xr_iald C (kp_6_7 hk0) (xj_ltN C (kp_6_7 hk0) (by decide)) rfl dX6_take_14 hR (fun hR => ?_)
  refine xr_istore_n C dX6_take_15 rfl (by decide) ?_
  refine xr_aload_n C dX6_take_16 rfl ?_
  refine xr_get C hk0 fl_RX6_22 rfl dX6_take_17 ?_
  refine xr_sipush (v := 168) C dX6_take_20 (by decide) ?_
  refine xr_iload_n C dX6_take_23 rfl ?_
  refine xr_iadd C dX6_take_24 ?_
  refine xr_dup2 C dX6_take_25 rfl rfl ?_
  refine xr_iald C (kp_6_7 hk0) (xj_ltN C (kp_6_7 hk0) (by decide)) rfl dX6_take_26 hR (fun hR => ?_)
  refine xr_iconst (v := 1) C dX6_take_27 (by decide) ?_
  refine xr_isub C dX6_take_28 ?_
  refine xr_iastL C (kp_6_7 hk0) (xj_ltN C (kp_6_7 hk0) (by decide)) rfl dX6_take_29 hR (fun h1 hR => ?_)
  refine xr_aload_n C dX6_take_30 rfl ?_
  refine xr_get C hk0 fl_RX6_22 rfl dX6_take_31 ?_
  refine xr_iload_n C dX6_take_34 rfl ?_
  refine xr_iconst (v := 1) C dX6_take_35 (by decide) ?_
  refine xr_iadd C dX6_take_36 ?_
  refine xr_aload_n C dX6_take_37 rfl ?_
  refine xr_get C hk0 fl_RX6_22 rfl dX6_take_38 ?_
  refine xr_iload_n C dX6_take_41 rfl ?_
  refine xr_aload_n C dX6_take_42 rfl ?_
  refine xr_get C hk0 fl_RX6_22 rfl dX6_take_43 ?_
  refine xr_sipush (v := 168) C dX6_take_46 (by decide) ?_
  refine xr_iload_n C dX6_take_49 rfl ?_
  refine xr_iadd C dX6_take_50 ?_
  refine xr_iald C (kp_6_7 hk0) (xj_ltN C (kp_6_7 hk0) (by decide)) rfl dX6_take_51 hR (fun hR => ?_)
  refine xr_copy C sy_RX6_42 (kp_6_7 hk0) (xj_ltN C (kp_6_7 hk0) (by decide)) rfl (kp_6_7 hk0) (xj_ltN C (kp_6_7 hk0) (by decide)) rfl (by decide) (by decide) dX6_take_52 hR (fun h2 hR => ?_)
  refine xr_aload_n C dX6_take_55 rfl ?_
  refine xr_iconst (v := 1) C dX6_take_56 (by decide) ?_
  refine xr_iload_n C dX6_take_57 rfl ?_
  refine xr_callVv C (st := []) [.int (1 : Int32), .int a1] cv_RX6_55 hk0 (fun _ zz9 => mcX6_wake l G hk0 zz9) rfl ⟨Nat.le_of_ble_eq_true rfl, Nat.le_of_ble_eq_true rfl⟩ (Nat.le_of_ble_eq_true rfl) ⟨Nat.zero_le _, Nat.zero_le _⟩ rfl dX6_take_58 hR (fun r3 hr3 hR => ?_)
  refine xr_iload_n C dX6_take_61 rfl ?_
  exact xr_iret C hr dX6_take_62 hR
end
section
def mX6_waitIn (k0 : Nat) (a1 : Int32) (a2 : Int32) (h : xw_M) : Option (xw_M × Unit) := if xo_ix ((12 : Int32) + a1) 204 = true then (xo_let (xw_st h (k0 + 5) (Int32.toNatClampNeg ((12 : Int32) + a1)) a2) fun h1 => if xo_ix ((60 : Int32) + a1) 204 = true then (xo_let (xw_st h1 (k0 + 5) (Int32.toNatClampNeg ((60 : Int32) + a1)) (h1 (k0 + 5) (Int32.toNatClampNeg (2 : Int32)))) fun h2 => xo_let (xw_st h2 (k0 + 5) (Int32.toNatClampNeg (2 : Int32)) ((h2 (k0 + 5) (Int32.toNatClampNeg (2 : Int32))) + (1 : Int32))) fun h3 => some (h3, ())) else none) else none
set_option maxHeartbeats 4000000 in
set_option maxRecDepth 100000 in
theorem mcX6_waitIn (l : Launch) (G : xw_G) {k0 : Nat} {a1 : Int32} {a2 : Int32} (hk0 : xw_kd k0 = 6) {h : xw_M} {q : xw_M × Unit} (hR : mX6_waitIn k0 a1 a2 h = some q) : xc_M l G yX6_waitIn cX6_waitIn 3 none 0 0 [.ref (xg_ad G k0), .int a1, .int a2] h q.1 none := by
  refine xc_of (by decide +kernel) rfl (Nat.le_of_ble_eq_true rfl) ?_
  intro p e s m args below meth c C hr
  have C : xj_C p s m args meth c G RX6 cX6_waitIn 3 := C
  show xj_X p l e { frames := 0, cells := 0, slots := 0, locals := 0 } s m args below meth c G 3 0 0 (MQ below (xw_Q G none q.1) args s 0 0 (xg_A G)) h [some (.ref (xg_ad G k0)), some (.int a1), some (.int a2)] 0 []
  unfold mX6_waitIn at hR
  refine xr_aload_n C dX6_waitIn_0 rfl ?_
  refine xr_get C hk0 fl_RX6_22 rfl dX6_waitIn_1 ?_
  refine xr_bipush (v := 12) C dX6_waitIn_4 (by decide) ?_
  refine xr_iload_n C dX6_waitIn_6 rfl ?_
  refine xr_iadd C dX6_waitIn_7 ?_
  refine xr_iload_n C dX6_waitIn_8 rfl ?_
  refine xr_iastL C (kp_6_7 hk0) (xj_ltN C (kp_6_7 hk0) (by decide)) rfl dX6_waitIn_9 hR (fun h1 hR => ?_)
  refine xr_aload_n C dX6_waitIn_10 rfl ?_
  refine xr_get C hk0 fl_RX6_22 rfl dX6_waitIn_11 ?_
  refine xr_bipush (v := 60) C dX6_waitIn_14 (by decide) ?_
  refine xr_iload_n C dX6_waitIn_16 rfl ?_
  refine xr_iadd C dX6_waitIn_17 ?_
  refine xr_aload_n C dX6_waitIn_18 rfl ?_
  refine xr_get C hk0 fl_RX6_22 rfl dX6_waitIn_19 ?_
  refine xr_iconst (v := 2) C dX6_waitIn_22 (by decide) ?_
  refine xr_ialdC C (kp_6_7 hk0) (xj_ltN C (kp_6_7 hk0) (by decide)) rfl (by decide) dX6_waitIn_23 ?_
  refine xr_iastL C (kp_6_7 hk0) (xj_ltN C (kp_6_7 hk0) (by decide)) rfl dX6_waitIn_24 hR (fun h2 hR => ?_)
  refine xr_aload_n C dX6_waitIn_25 rfl ?_
  refine xr_get C hk0 fl_RX6_22 rfl dX6_waitIn_26 ?_
  refine xr_iconst (v := 2) C dX6_waitIn_29 (by decide) ?_
  refine xr_dup2 C dX6_waitIn_30 rfl rfl ?_
  refine xr_ialdC C (kp_6_7 hk0) (xj_ltN C (kp_6_7 hk0) (by decide)) rfl (by decide) dX6_waitIn_31 ?_
  refine xr_iconst (v := 1) C dX6_waitIn_32 (by decide) ?_
  refine xr_iadd C dX6_waitIn_33 ?_
  refine xr_iastLC C (kp_6_7 hk0) (xj_ltN C (kp_6_7 hk0) (by decide)) rfl (by decide) dX6_waitIn_34 hR (fun h3 hR => ?_)
  exact xr_vret C hr dX6_waitIn_35 hR
end
section
def mX6_isDone_b145   (h : xw_M) (as0 : Int32) (as1 : Int32) (ks2 : Nat) : Option (xw_M × Int32) := (mX6_send ks2 as1 as0 h).bind fun r2 => some (r2.1, (1 : Int32))
def mX6_isDone_b72  (k0 : Nat) (a1 : Int32) (a2 : Int32) (a3 : Int32) (h : xw_M)  : Option (xw_M × Int32) := if xo_ix ((168 : Int32) + a3) 204 = true then if xo_ix ((164 : Int32) + a3) 204 = true then (if (h (k0 + 5) (Int32.toNatClampNeg ((168 : Int32) + a3))) < (h (k0 + 5) (Int32.toNatClampNeg ((164 : Int32) + a3))) then if xo_ix ((20 : Int32) + a1) 204 = true then if xo_ix ((20 : Int32) + a1) 204 = true then (xo_let (xw_st h (k0 + 5) (Int32.toNatClampNeg ((20 : Int32) + a1)) ((h (k0 + 5) (Int32.toNatClampNeg ((20 : Int32) + a1))) + (1 : Int32))) fun h1 => if xo_ix a2 96 = true then (if (h1 (k0 + 2) (Int32.toNatClampNeg a2)) = 0 then if xo_ix a2 96 = true then mX6_isDone_b145   h1 ((h1 (k0 + 4) (Int32.toNatClampNeg a2))) (a3) (k0) else none else if xo_ix ((28 : Int32) + a1) 204 = true then mX6_isDone_b145   h1 ((h1 (k0 + 5) (Int32.toNatClampNeg ((28 : Int32) + a1)))) (a3) (k0) else none) else none) else none else none else (mX6_waitIn k0 a1 (1 : Int32) h).bind fun r3 => some (r3.1, (0 : Int32))) else none else none
def mX6_isDone_b310  (k0 : Nat) (a1 : Int32) (h : xw_M)  : Option (xw_M × Int32) := if xo_ix ((20 : Int32) + a1) 204 = true then if xo_ix ((20 : Int32) + a1) 204 = true then (xo_let (xw_st h (k0 + 5) (Int32.toNatClampNeg ((20 : Int32) + a1)) ((h (k0 + 5) (Int32.toNatClampNeg ((20 : Int32) + a1))) + (1 : Int32))) fun h12 => some (h12, (1 : Int32))) else none else none
def mX6_isDone (k0 : Nat) (a1 : Int32) (h : xw_M) : Option (xw_M × Int32) := if xo_ix ((20 : Int32) + a1) 204 = true then if xo_ix (((12 : Int32) * a1) + (h (k0 + 5) (Int32.toNatClampNeg ((20 : Int32) + a1)))) 96 = true then if xo_ix (((12 : Int32) * a1) + (h (k0 + 5) (Int32.toNatClampNeg ((20 : Int32) + a1)))) 96 = true then (if (h (k0 + 2) (Int32.toNatClampNeg (((12 : Int32) * a1) + (h (k0 + 5) (Int32.toNatClampNeg ((20 : Int32) + a1)))))) = (0 : Int32) then mX6_isDone_b72  (k0) (a1) ((((12 : Int32) * a1) + (h (k0 + 5) (Int32.toNatClampNeg ((20 : Int32) + a1))))) ((h (k0 + 3) (Int32.toNatClampNeg (((12 : Int32) * a1) + (h (k0 + 5) (Int32.toNatClampNeg ((20 : Int32) + a1))))))) h  else (if (h (k0 + 2) (Int32.toNatClampNeg (((12 : Int32) * a1) + (h (k0 + 5) (Int32.toNatClampNeg ((20 : Int32) + a1)))))) = (1 : Int32) then if xo_ix ((168 : Int32) + (h (k0 + 3) (Int32.toNatClampNeg (((12 : Int32) * a1) + (h (k0 + 5) (Int32.toNatClampNeg ((20 : Int32) + a1))))))) 204 = true then (if (h (k0 + 5) (Int32.toNatClampNeg ((168 : Int32) + (h (k0 + 3) (Int32.toNatClampNeg (((12 : Int32) * a1) + (h (k0 + 5) (Int32.toNatClampNeg ((20 : Int32) + a1))))))))) = 0 then (mX6_waitIn k0 a1 (2 : Int32) h).bind fun r8 => some (r8.1, (0 : Int32)) else if xo_ix ((20 : Int32) + a1) 204 = true then if xo_ix ((20 : Int32) + a1) 204 = true then (xo_let (xw_st h (k0 + 5) (Int32.toNatClampNeg ((20 : Int32) + a1)) ((h (k0 + 5) (Int32.toNatClampNeg ((20 : Int32) + a1))) + (1 : Int32))) fun h5 => if xo_ix ((28 : Int32) + a1) 204 = true then (mX6_take k0 (h (k0 + 3) (Int32.toNatClampNeg (((12 : Int32) * a1) + (h (k0 + 5) (Int32.toNatClampNeg ((20 : Int32) + a1)))))) h5).bind fun r6 => if xo_ix ((28 : Int32) + a1) 204 = true then (xo_let (xw_st r6.1 (k0 + 5) (Int32.toNatClampNeg ((28 : Int32) + a1)) ((h5 (k0 + 5) (Int32.toNatClampNeg ((28 : Int32) + a1))) + r6.2)) fun h7 => some (h7, (1 : Int32))) else none else none) else none else none) else none else (if (h (k0 + 2) (Int32.toNatClampNeg (((12 : Int32) * a1) + (h (k0 + 5) (Int32.toNatClampNeg ((20 : Int32) + a1)))))) = (2 : Int32) then if xo_ix ((12 : Int32) + a1) 204 = true then (xo_let (xw_st h (k0 + 5) (Int32.toNatClampNeg ((12 : Int32) + a1)) (3 : Int32)) fun h10 => if xo_ix ((52 : Int32) + a1) 204 = true then (xo_let (xw_st h10 (k0 + 5) (Int32.toNatClampNeg ((52 : Int32) + a1)) ((h10 (k0 + 5) (Int32.toNatClampNeg (0 : Int32))) + (h (k0 + 3) (Int32.toNatClampNeg (((12 : Int32) * a1) + (h (k0 + 5) (Int32.toNatClampNeg ((20 : Int32) + a1)))))))) fun h11 => mX6_isDone_b310  (k0) (a1) h11 ) else none) else none else (if (h (k0 + 2) (Int32.toNatClampNeg (((12 : Int32) * a1) + (h (k0 + 5) (Int32.toNatClampNeg ((20 : Int32) + a1)))))) = (3 : Int32) then mX6_isDone_b310  (k0) (a1) h  else (if (h (k0 + 2) (Int32.toNatClampNeg (((12 : Int32) * a1) + (h (k0 + 5) (Int32.toNatClampNeg ((20 : Int32) + a1)))))) = (4 : Int32) then if xo_ix ((12 : Int32) + (h (k0 + 3) (Int32.toNatClampNeg (((12 : Int32) * a1) + (h (k0 + 5) (Int32.toNatClampNeg ((20 : Int32) + a1))))))) 204 = true then (if (h (k0 + 5) (Int32.toNatClampNeg ((12 : Int32) + (h (k0 + 3) (Int32.toNatClampNeg (((12 : Int32) * a1) + (h (k0 + 5) (Int32.toNatClampNeg ((20 : Int32) + a1))))))))) = (5 : Int32) then mX6_isDone_b310  (k0) (a1) h  else (mX6_waitIn k0 a1 (4 : Int32) h).bind fun r15 => some (r15.1, (0 : Int32))) else none else (if (h (k0 + 2) (Int32.toNatClampNeg (((12 : Int32) * a1) + (h (k0 + 5) (Int32.toNatClampNeg ((20 : Int32) + a1)))))) = (5 : Int32) then if xo_ix ((68 : Int32) + (((12 : Int32) * a1) + (h (k0 + 5) (Int32.toNatClampNeg ((20 : Int32) + a1))))) 204 = true then if xo_ix (((12 : Int32) * a1) + (h (k0 + 5) (Int32.toNatClampNeg ((20 : Int32) + a1)))) 96 = true then (if (h (k0 + 4) (Int32.toNatClampNeg (((12 : Int32) * a1) + (h (k0 + 5) (Int32.toNatClampNeg ((20 : Int32) + a1)))))) ≤ (h (k0 + 5) (Int32.toNatClampNeg ((68 : Int32) + (((12 : Int32) * a1) + (h (k0 + 5) (Int32.toNatClampNeg ((20 : Int32) + a1))))))) then if xo_ix ((68 : Int32) + (((12 : Int32) * a1) + (h (k0 + 5) (Int32.toNatClampNeg ((20 : Int32) + a1))))) 204 = true then (xo_let (xw_st h (k0 + 5) (Int32.toNatClampNeg ((68 : Int32) + (((12 : Int32) * a1) + (h (k0 + 5) (Int32.toNatClampNeg ((20 : Int32) + a1)))))) (0 : Int32)) fun h17 => mX6_isDone_b310  (k0) (a1) h17 ) else none else if xo_ix ((68 : Int32) + (((12 : Int32) * a1) + (h (k0 + 5) (Int32.toNatClampNeg ((20 : Int32) + a1))))) 204 = true then if xo_ix ((68 : Int32) + (((12 : Int32) * a1) + (h (k0 + 5) (Int32.toNatClampNeg ((20 : Int32) + a1))))) 204 = true then (xo_let (xw_st h (k0 + 5) (Int32.toNatClampNeg ((68 : Int32) + (((12 : Int32) * a1) + (h (k0 + 5) (Int32.toNatClampNeg ((20 : Int32) + a1)))))) ((h (k0 + 5) (Int32.toNatClampNeg ((68 : Int32) + (((12 : Int32) * a1) + (h (k0 + 5) (Int32.toNatClampNeg ((20 : Int32) + a1))))))) + (1 : Int32))) fun h18 => if xo_ix ((20 : Int32) + a1) 204 = true then (xo_let (xw_st h18 (k0 + 5) (Int32.toNatClampNeg ((20 : Int32) + a1)) (h (k0 + 3) (Int32.toNatClampNeg (((12 : Int32) * a1) + (h (k0 + 5) (Int32.toNatClampNeg ((20 : Int32) + a1))))))) fun h19 => some (h19, (1 : Int32))) else none) else none else none) else none else none else (if (h (k0 + 2) (Int32.toNatClampNeg (((12 : Int32) * a1) + (h (k0 + 5) (Int32.toNatClampNeg ((20 : Int32) + a1)))))) = (6 : Int32) then mX6_isDone_b72  (k0) (a1) ((((12 : Int32) * a1) + (h (k0 + 5) (Int32.toNatClampNeg ((20 : Int32) + a1))))) ((h (k0 + 3) (Int32.toNatClampNeg (((12 : Int32) * a1) + (h (k0 + 5) (Int32.toNatClampNeg ((20 : Int32) + a1))))))) h  else mX6_isDone_b310  (k0) (a1) h ))))))) else none else none else none
set_option maxHeartbeats 4000000 in
set_option maxRecDepth 100000 in
theorem mbX6_isDone_b145 {p : Program} {l : Launch} {e : Env} {s : State} {m : MethodId} {args : Array Value} {below : List Frame} {meth : Method} {c : Code} {G : xw_G} (C : xj_C p s m args meth c G RX6 cX6_isDone 4) (hr : meth.sig.returnType = (some .boolean)) {q : xw_M × Int32}   {h : xw_M} {as0 : Int32} {as1 : Int32} {ks2 : Nat}  (hks2 : xw_kd ks2 = 6) (hR : mX6_isDone_b145   h as0 as1 ks2 = some q) : xj_X p l e { frames := 3, cells := 0, slots := 0, locals := 70 } s m args below meth c G 4 0 0 (MQ below (xw_Q G (some (.int q.2)) q.1) args s 0 0 (xg_A G)) h [none, none, none, none] 145 [.int as0, .int as1, .ref (xg_ad G ks2)] := by
  unfold mX6_isDone_b145 at hR
  refine xr_callVv C (st := []) [.int as1, .int as0] cv_RX6_62 hks2 (fun _ zz9 => mcX6_send l G hks2 zz9) rfl ⟨Nat.le_of_ble_eq_true rfl, Nat.le_of_ble_eq_true rfl⟩ (Nat.le_of_ble_eq_true rfl) ⟨Nat.zero_le _, Nat.zero_le _⟩ rfl dX6_isDone_145 hR (fun r2 hr2 hR => ?_)
  refine xr_iconst (v := 1) C dX6_isDone_148 (by decide) ?_
  exact xr_zret C hr (Or.inr rfl) dX6_isDone_149 hR
set_option maxHeartbeats 4000000 in
set_option maxRecDepth 100000 in
theorem mbX6_isDone_b72 {p : Program} {l : Launch} {e : Env} {s : State} {m : MethodId} {args : Array Value} {below : List Frame} {meth : Method} {c : Code} {G : xw_G} (C : xj_C p s m args meth c G RX6 cX6_isDone 4) (hr : meth.sig.returnType = (some .boolean)) {q : xw_M × Int32} {k0 : Nat} {a1 : Int32} {a2 : Int32} {a3 : Int32}  (hk0 : xw_kd k0 = 6) {h : xw_M}   (hR : mX6_isDone_b72  k0 a1 a2 a3 h  = some q) : xj_X p l e { frames := 3, cells := 0, slots := 0, locals := 70 } s m args below meth c G 4 0 0 (MQ below (xw_Q G (some (.int q.2)) q.1) args s 0 0 (xg_A G)) h [some (.ref (xg_ad G k0)), some (.int a1), some (.int a2), some (.int a3)] 72 [] := by
  unfold mX6_isDone_b72 at hR
  refine xr_aload_n C dX6_isDone_72 rfl ?_
  refine xr_get C hk0 fl_RX6_22 rfl dX6_isDone_73 ?_
  refine xr_sipush (v := 168) C dX6_isDone_76 (by decide) ?_
  refine xr_iload_n C dX6_isDone_79 rfl ?_
  refine xr_iadd C dX6_isDone_80 ?_
  refine xr_iald C (kp_6_7 hk0) (xj_ltN C (kp_6_7 hk0) (by decide)) rfl dX6_isDone_81 hR (fun hR => ?_)
  refine xr_aload_n C dX6_isDone_82 rfl ?_
  refine xr_get C hk0 fl_RX6_22 rfl dX6_isDone_83 ?_
  refine xr_sipush (v := 164) C dX6_isDone_86 (by decide) ?_
  refine xr_iload_n C dX6_isDone_89 rfl ?_
  refine xr_iadd C dX6_isDone_90 ?_
  refine xr_iald C (kp_6_7 hk0) (xj_ltN C (kp_6_7 hk0) (by decide)) rfl dX6_isDone_91 hR (fun hR => ?_)
  refine xr_icmp_lt (tgt := 103) C dX6_isDone_92 (by decide) hR (fun hR => ?_) (fun hR => ?_)
  · refine xr_aload_n C dX6_isDone_103 rfl ?_
    refine xr_get C hk0 fl_RX6_22 rfl dX6_isDone_104 ?_
    refine xr_bipush (v := 20) C dX6_isDone_107 (by decide) ?_
    refine xr_iload_n C dX6_isDone_109 rfl ?_
    refine xr_iadd C dX6_isDone_110 ?_
    refine xr_dup2 C dX6_isDone_111 rfl rfl ?_
    refine xr_iald C (kp_6_7 hk0) (xj_ltN C (kp_6_7 hk0) (by decide)) rfl dX6_isDone_112 hR (fun hR => ?_)
    refine xr_iconst (v := 1) C dX6_isDone_113 (by decide) ?_
    refine xr_iadd C dX6_isDone_114 ?_
    refine xr_iastL C (kp_6_7 hk0) (xj_ltN C (kp_6_7 hk0) (by decide)) rfl dX6_isDone_115 hR (fun h1 hR => ?_)
    refine xr_aload_n C dX6_isDone_116 rfl ?_
    refine xr_iload_n C dX6_isDone_117 rfl ?_
    refine xr_aload_n C dX6_isDone_118 rfl ?_
    refine xr_get C hk0 fl_RX6_13 rfl dX6_isDone_119 ?_
    refine xr_iload_n C dX6_isDone_122 rfl ?_
    refine xr_iald C (kp_6_4 hk0) (xj_ltN C (kp_6_4 hk0) (by decide)) rfl dX6_isDone_123 hR (fun hR => ?_)
    refine xr_if_ne (tgt := 136) C dX6_isDone_124 (by decide) hR (fun hR => ?_) (fun hR => ?_)
    · refine xr_aload_n C dX6_isDone_136 rfl ?_
      refine xr_get C hk0 fl_RX6_22 rfl dX6_isDone_137 ?_
      refine xr_bipush (v := 28) C dX6_isDone_140 (by decide) ?_
      refine xr_iload_n C dX6_isDone_142 rfl ?_
      refine xr_iadd C dX6_isDone_143 ?_
      refine xr_iald C (kp_6_7 hk0) (xj_ltN C (kp_6_7 hk0) (by decide)) rfl dX6_isDone_144 hR (fun hR => ?_)
      exact xr_sub (lv9 := [none, none, none, none]) trivial (mbX6_isDone_b145 C hr   hk0 hR)
    · refine xr_aload_n C dX6_isDone_127 rfl ?_
      refine xr_get C hk0 fl_RX6_19 rfl dX6_isDone_128 ?_
      refine xr_iload_n C dX6_isDone_131 rfl ?_
      refine xr_iald C (kp_6_6 hk0) (xj_ltN C (kp_6_6 hk0) (by decide)) rfl dX6_isDone_132 hR (fun hR => ?_)
      refine xr_goto (tgt := 145) C dX6_isDone_133 (by decide) ?_
      exact xr_sub (lv9 := [none, none, none, none]) trivial (mbX6_isDone_b145 C hr   hk0 hR)
  · refine xr_aload_n C dX6_isDone_95 rfl ?_
    refine xr_iload_n C dX6_isDone_96 rfl ?_
    refine xr_iconst (v := 1) C dX6_isDone_97 (by decide) ?_
    refine xr_callVv C (st := []) [.int a1, .int (1 : Int32)] cv_RX6_59 hk0 (fun _ zz9 => mcX6_waitIn l G hk0 zz9) rfl ⟨Nat.le_of_ble_eq_true rfl, Nat.le_of_ble_eq_true rfl⟩ (Nat.le_of_ble_eq_true rfl) ⟨Nat.zero_le _, Nat.zero_le _⟩ rfl dX6_isDone_98 hR (fun r3 hr3 hR => ?_)
    refine xr_iconst (v := 0) C dX6_isDone_101 (by decide) ?_
    exact xr_zret C hr (Or.inl rfl) dX6_isDone_102 hR
set_option maxHeartbeats 4000000 in
set_option maxRecDepth 100000 in
theorem mbX6_isDone_b310 {p : Program} {l : Launch} {e : Env} {s : State} {m : MethodId} {args : Array Value} {below : List Frame} {meth : Method} {c : Code} {G : xw_G} (C : xj_C p s m args meth c G RX6 cX6_isDone 4) (hr : meth.sig.returnType = (some .boolean)) {q : xw_M × Int32} {k0 : Nat} {a1 : Int32}  (hk0 : xw_kd k0 = 6) {h : xw_M}   (hR : mX6_isDone_b310  k0 a1 h  = some q) : xj_X p l e { frames := 3, cells := 0, slots := 0, locals := 70 } s m args below meth c G 4 0 0 (MQ below (xw_Q G (some (.int q.2)) q.1) args s 0 0 (xg_A G)) h [some (.ref (xg_ad G k0)), some (.int a1), none, none] 310 [] := by
  unfold mX6_isDone_b310 at hR
  refine xr_aload_n C dX6_isDone_310 rfl ?_
  refine xr_get C hk0 fl_RX6_22 rfl dX6_isDone_311 ?_
  refine xr_bipush (v := 20) C dX6_isDone_314 (by decide) ?_
  refine xr_iload_n C dX6_isDone_316 rfl ?_
  refine xr_iadd C dX6_isDone_317 ?_
  refine xr_dup2 C dX6_isDone_318 rfl rfl ?_
  refine xr_iald C (kp_6_7 hk0) (xj_ltN C (kp_6_7 hk0) (by decide)) rfl dX6_isDone_319 hR (fun hR => ?_)
  refine xr_iconst (v := 1) C dX6_isDone_320 (by decide) ?_
  refine xr_iadd C dX6_isDone_321 ?_
  refine xr_iastL C (kp_6_7 hk0) (xj_ltN C (kp_6_7 hk0) (by decide)) rfl dX6_isDone_322 hR (fun h12 hR => ?_)
  refine xr_iconst (v := 1) C dX6_isDone_323 (by decide) ?_
  exact xr_zret C hr (Or.inr rfl) dX6_isDone_324 hR
set_option maxHeartbeats 4000000 in
set_option maxRecDepth 100000 in
theorem mcX6_isDone (l : Launch) (G : xw_G) {k0 : Nat} {a1 : Int32} (hk0 : xw_kd k0 = 6) {h : xw_M} {q : xw_M × Int32} (hR : mX6_isDone k0 a1 h = some q) : xc_M l G yX6_isDone cX6_isDone 4 (some .boolean) 3 70 [.ref (xg_ad G k0), .int a1] h q.1 (some (.int q.2)) := by
  refine xc_of (by decide +kernel) rfl (Nat.le_of_ble_eq_true rfl) ?_
  intro p e s m args below meth c C hr
  have C : xj_C p s m args meth c G RX6 cX6_isDone 4 := C
  show xj_X p l e { frames := 3, cells := 0, slots := 0, locals := 70 } s m args below meth c G 4 0 0 (MQ below (xw_Q G (some (.int q.2)) q.1) args s 0 0 (xg_A G)) h [some (.ref (xg_ad G k0)), some (.int a1), none, none] 0 []
  unfold mX6_isDone at hR
  refine xr_bipush (v := 12) C dX6_isDone_0 (by decide) ?_
  refine xr_iload_n C dX6_isDone_2 rfl ?_
  refine xr_imul C dX6_isDone_3 ?_
  refine xr_aload_n C dX6_isDone_4 rfl ?_
  refine xr_get C hk0 fl_RX6_22 rfl dX6_isDone_5 ?_
  refine xr_bipush (v := 20) C dX6_isDone_8 (by decide) ?_
  refine xr_iload_n C dX6_isDone_10 rfl ?_
  refine xr_iadd C dX6_isDone_11 ?_
  refine xr_iald C (kp_6_7 hk0) (xj_ltN C (kp_6_7 hk0) (by decide)) rfl dX6_isDone_12 hR (fun hR => ?_)
  refine xr_iadd C dX6_isDone_13 ?_
  refine xr_istore_n C dX6_isDone_14 rfl (by decide) ?_
  refine xr_aload_n C dX6_isDone_15 rfl ?_
  refine xr_get C hk0 fl_RX6_16 rfl dX6_isDone_16 ?_
  refine xr_iload_n C dX6_isDone_19 rfl ?_
  refine xr_iald C (kp_6_5 hk0) (xj_ltN C (kp_6_5 hk0) (by decide)) rfl dX6_isDone_20 hR (fun hR => ?_)
  refine xr_istore_n C dX6_isDone_21 rfl (by decide) ?_
  refine xr_aload_n C dX6_isDone_22 rfl ?_
  refine xr_get C hk0 fl_RX6_13 rfl dX6_isDone_23 ?_
  refine xr_iload_n C dX6_isDone_26 rfl ?_
  refine xr_iald C (kp_6_4 hk0) (xj_ltN C (kp_6_4 hk0) (by decide)) rfl dX6_isDone_27 hR (fun hR => ?_)
  refine xo_if hR (fun hx4 hR => ?_) (fun hx4 hR => ?_)
  · refine xr_tabIn (off := 44) (tgt := 72) C dX6_isDone_28 (by rw [hx4]; decide) (by rw [hx4]; decide) (by rw [hx4]; decide) (by decide) ?_
    exact xr_sub (lv9 := [some (.ref (xg_ad G k0)), some (.int a1), some (.int (((12 : Int32) * a1) + (h (k0 + 5) (Int32.toNatClampNeg ((20 : Int32) + a1))))), some (.int (h (k0 + 3) (Int32.toNatClampNeg (((12 : Int32) * a1) + (h (k0 + 5) (Int32.toNatClampNeg ((20 : Int32) + a1)))))))]) (And.intro rfl (And.intro rfl (And.intro rfl (And.intro rfl trivial)))) (mbX6_isDone_b72 C hr  hk0  hR)
  · have hx4n := hx4
    refine xo_if hR (fun hx9 hR => ?_) (fun hx9 hR => ?_)
    · refine xr_tabIn (off := 122) (tgt := 150) C dX6_isDone_28 (by rw [hx9]; decide) (by rw [hx9]; decide) (by rw [hx9]; decide) (by decide) ?_
      refine xr_aload_n C dX6_isDone_150 rfl ?_
      refine xr_get C hk0 fl_RX6_22 rfl dX6_isDone_151 ?_
      refine xr_sipush (v := 168) C dX6_isDone_154 (by decide) ?_
      refine xr_iload_n C dX6_isDone_157 rfl ?_
      refine xr_iadd C dX6_isDone_158 ?_
      refine xr_iald C (kp_6_7 hk0) (xj_ltN C (kp_6_7 hk0) (by decide)) rfl dX6_isDone_159 hR (fun hR => ?_)
      refine xr_if_ne (tgt := 171) C dX6_isDone_160 (by decide) hR (fun hR => ?_) (fun hR => ?_)
      · refine xr_aload_n C dX6_isDone_171 rfl ?_
        refine xr_get C hk0 fl_RX6_22 rfl dX6_isDone_172 ?_
        refine xr_bipush (v := 20) C dX6_isDone_175 (by decide) ?_
        refine xr_iload_n C dX6_isDone_177 rfl ?_
        refine xr_iadd C dX6_isDone_178 ?_
        refine xr_dup2 C dX6_isDone_179 rfl rfl ?_
        refine xr_iald C (kp_6_7 hk0) (xj_ltN C (kp_6_7 hk0) (by decide)) rfl dX6_isDone_180 hR (fun hR => ?_)
        refine xr_iconst (v := 1) C dX6_isDone_181 (by decide) ?_
        refine xr_iadd C dX6_isDone_182 ?_
        refine xr_iastL C (kp_6_7 hk0) (xj_ltN C (kp_6_7 hk0) (by decide)) rfl dX6_isDone_183 hR (fun h5 hR => ?_)
        refine xr_aload_n C dX6_isDone_184 rfl ?_
        refine xr_get C hk0 fl_RX6_22 rfl dX6_isDone_185 ?_
        refine xr_bipush (v := 28) C dX6_isDone_188 (by decide) ?_
        refine xr_iload_n C dX6_isDone_190 rfl ?_
        refine xr_iadd C dX6_isDone_191 ?_
        refine xr_dup2 C dX6_isDone_192 rfl rfl ?_
        refine xr_iald C (kp_6_7 hk0) (xj_ltN C (kp_6_7 hk0) (by decide)) rfl dX6_isDone_193 hR (fun hR => ?_)
        refine xr_aload_n C dX6_isDone_194 rfl ?_
        refine xr_iload_n C dX6_isDone_195 rfl ?_
        refine xr_callVi C (st := [.int (h5 (k0 + 5) (Int32.toNatClampNeg ((28 : Int32) + a1))), .int ((28 : Int32) + a1), .ref (xg_ad G (k0 + 5))]) [.int (h (k0 + 3) (Int32.toNatClampNeg (((12 : Int32) * a1) + (h (k0 + 5) (Int32.toNatClampNeg ((20 : Int32) + a1))))))] cv_RX6_65 hk0 (fun _ zz9 => mcX6_take l G hk0 zz9) rfl ⟨Nat.le_of_ble_eq_true rfl, Nat.le_of_ble_eq_true rfl⟩ (Nat.le_of_ble_eq_true rfl) ⟨Nat.zero_le _, Nat.zero_le _⟩ rfl dX6_isDone_196 hR (fun r6 hr6 hR => ?_)
        refine xr_iadd C dX6_isDone_199 ?_
        refine xr_iastL C (kp_6_7 hk0) (xj_ltN C (kp_6_7 hk0) (by decide)) rfl dX6_isDone_200 hR (fun h7 hR => ?_)
        refine xr_iconst (v := 1) C dX6_isDone_201 (by decide) ?_
        exact xr_zret C hr (Or.inr rfl) dX6_isDone_202 hR
      · refine xr_aload_n C dX6_isDone_163 rfl ?_
        refine xr_iload_n C dX6_isDone_164 rfl ?_
        refine xr_iconst (v := 2) C dX6_isDone_165 (by decide) ?_
        refine xr_callVv C (st := []) [.int a1, .int (2 : Int32)] cv_RX6_59 hk0 (fun _ zz9 => mcX6_waitIn l G hk0 zz9) rfl ⟨Nat.le_of_ble_eq_true rfl, Nat.le_of_ble_eq_true rfl⟩ (Nat.le_of_ble_eq_true rfl) ⟨Nat.zero_le _, Nat.zero_le _⟩ rfl dX6_isDone_166 hR (fun r8 hr8 hR => ?_)
        refine xr_iconst (v := 0) C dX6_isDone_169 (by decide) ?_
        exact xr_zret C hr (Or.inl rfl) dX6_isDone_170 hR
    · have hx9n := hx9
      refine xo_if hR (fun hx13 hR => ?_) (fun hx13 hR => ?_)
      · refine xr_tabIn (off := 175) (tgt := 203) C dX6_isDone_28 (by rw [hx13]; decide) (by rw [hx13]; decide) (by rw [hx13]; decide) (by decide) ?_
        refine xr_aload_n C dX6_isDone_203 rfl ?_
        refine xr_get C hk0 fl_RX6_22 rfl dX6_isDone_204 ?_
        refine xr_bipush (v := 12) C dX6_isDone_207 (by decide) ?_
        refine xr_iload_n C dX6_isDone_209 rfl ?_
        refine xr_iadd C dX6_isDone_210 ?_
        refine xr_iconst (v := 3) C dX6_isDone_211 (by decide) ?_
        refine xr_iastL C (kp_6_7 hk0) (xj_ltN C (kp_6_7 hk0) (by decide)) rfl dX6_isDone_212 hR (fun h10 hR => ?_)
        refine xr_aload_n C dX6_isDone_213 rfl ?_
        refine xr_get C hk0 fl_RX6_22 rfl dX6_isDone_214 ?_
        refine xr_bipush (v := 52) C dX6_isDone_217 (by decide) ?_
        refine xr_iload_n C dX6_isDone_219 rfl ?_
        refine xr_iadd C dX6_isDone_220 ?_
        refine xr_aload_n C dX6_isDone_221 rfl ?_
        refine xr_get C hk0 fl_RX6_22 rfl dX6_isDone_222 ?_
        refine xr_iconst (v := 0) C dX6_isDone_225 (by decide) ?_
        refine xr_ialdC C (kp_6_7 hk0) (xj_ltN C (kp_6_7 hk0) (by decide)) rfl (by decide) dX6_isDone_226 ?_
        refine xr_iload_n C dX6_isDone_227 rfl ?_
        refine xr_iadd C dX6_isDone_228 ?_
        refine xr_iastL C (kp_6_7 hk0) (xj_ltN C (kp_6_7 hk0) (by decide)) rfl dX6_isDone_229 hR (fun h11 hR => ?_)
        refine xr_goto (tgt := 310) C dX6_isDone_230 (by decide) ?_
        exact xr_sub (lv9 := [some (.ref (xg_ad G k0)), some (.int a1), none, none]) (And.intro rfl (And.intro rfl trivial)) (mbX6_isDone_b310 C hr  hk0  hR)
      · have hx13n := hx13
        refine xo_if hR (fun hx14 hR => ?_) (fun hx14 hR => ?_)
        · refine xr_tabIn (off := 282) (tgt := 310) C dX6_isDone_28 (by rw [hx14]; decide) (by rw [hx14]; decide) (by rw [hx14]; decide) (by decide) ?_
          exact xr_sub (lv9 := [some (.ref (xg_ad G k0)), some (.int a1), none, none]) (And.intro rfl (And.intro rfl trivial)) (mbX6_isDone_b310 C hr  hk0  hR)
        · have hx14n := hx14
          refine xo_if hR (fun hx16 hR => ?_) (fun hx16 hR => ?_)
          · refine xr_tabIn (off := 205) (tgt := 233) C dX6_isDone_28 (by rw [hx16]; decide) (by rw [hx16]; decide) (by rw [hx16]; decide) (by decide) ?_
            refine xr_aload_n C dX6_isDone_233 rfl ?_
            refine xr_get C hk0 fl_RX6_22 rfl dX6_isDone_234 ?_
            refine xr_bipush (v := 12) C dX6_isDone_237 (by decide) ?_
            refine xr_iload_n C dX6_isDone_239 rfl ?_
            refine xr_iadd C dX6_isDone_240 ?_
            refine xr_iald C (kp_6_7 hk0) (xj_ltN C (kp_6_7 hk0) (by decide)) rfl dX6_isDone_241 hR (fun hR => ?_)
            refine xr_iconst (v := 5) C dX6_isDone_242 (by decide) ?_
            refine xr_icmp_eq (tgt := 310) C dX6_isDone_243 (by decide) hR (fun hR => ?_) (fun hR => ?_)
            · exact xr_sub (lv9 := [some (.ref (xg_ad G k0)), some (.int a1), none, none]) (And.intro rfl (And.intro rfl trivial)) (mbX6_isDone_b310 C hr  hk0  hR)
            · refine xr_aload_n C dX6_isDone_246 rfl ?_
              refine xr_iload_n C dX6_isDone_247 rfl ?_
              refine xr_iconst (v := 4) C dX6_isDone_248 (by decide) ?_
              refine xr_callVv C (st := []) [.int a1, .int (4 : Int32)] cv_RX6_59 hk0 (fun _ zz9 => mcX6_waitIn l G hk0 zz9) rfl ⟨Nat.le_of_ble_eq_true rfl, Nat.le_of_ble_eq_true rfl⟩ (Nat.le_of_ble_eq_true rfl) ⟨Nat.zero_le _, Nat.zero_le _⟩ rfl dX6_isDone_249 hR (fun r15 hr15 hR => ?_)
              refine xr_iconst (v := 0) C dX6_isDone_252 (by decide) ?_
              exact xr_zret C hr (Or.inl rfl) dX6_isDone_253 hR
          · have hx16n := hx16
            refine xo_if hR (fun hx20 hR => ?_) (fun hx20 hR => ?_)
            · refine xr_tabIn (off := 226) (tgt := 254) C dX6_isDone_28 (by rw [hx20]; decide) (by rw [hx20]; decide) (by rw [hx20]; decide) (by decide) ?_
              refine xr_aload_n C dX6_isDone_254 rfl ?_
              refine xr_get C hk0 fl_RX6_22 rfl dX6_isDone_255 ?_
              refine xr_bipush (v := 68) C dX6_isDone_258 (by decide) ?_
              refine xr_iload_n C dX6_isDone_260 rfl ?_
              refine xr_iadd C dX6_isDone_261 ?_
              refine xr_iald C (kp_6_7 hk0) (xj_ltN C (kp_6_7 hk0) (by decide)) rfl dX6_isDone_262 hR (fun hR => ?_)
              refine xr_aload_n C dX6_isDone_263 rfl ?_
              refine xr_get C hk0 fl_RX6_19 rfl dX6_isDone_264 ?_
              refine xr_iload_n C dX6_isDone_267 rfl ?_
              refine xr_iald C (kp_6_6 hk0) (xj_ltN C (kp_6_6 hk0) (by decide)) rfl dX6_isDone_268 hR (fun hR => ?_)
              refine xr_icmp_ge (tgt := 297) C dX6_isDone_269 (by decide) hR (fun hR => ?_) (fun hR => ?_)
              · refine xr_aload_n C dX6_isDone_297 rfl ?_
                refine xr_get C hk0 fl_RX6_22 rfl dX6_isDone_298 ?_
                refine xr_bipush (v := 68) C dX6_isDone_301 (by decide) ?_
                refine xr_iload_n C dX6_isDone_303 rfl ?_
                refine xr_iadd C dX6_isDone_304 ?_
                refine xr_iconst (v := 0) C dX6_isDone_305 (by decide) ?_
                refine xr_iastL C (kp_6_7 hk0) (xj_ltN C (kp_6_7 hk0) (by decide)) rfl dX6_isDone_306 hR (fun h17 hR => ?_)
                refine xr_goto (tgt := 310) C dX6_isDone_307 (by decide) ?_
                exact xr_sub (lv9 := [some (.ref (xg_ad G k0)), some (.int a1), none, none]) (And.intro rfl (And.intro rfl trivial)) (mbX6_isDone_b310 C hr  hk0  hR)
              · refine xr_aload_n C dX6_isDone_272 rfl ?_
                refine xr_get C hk0 fl_RX6_22 rfl dX6_isDone_273 ?_
                refine xr_bipush (v := 68) C dX6_isDone_276 (by decide) ?_
                refine xr_iload_n C dX6_isDone_278 rfl ?_
                refine xr_iadd C dX6_isDone_279 ?_
                refine xr_dup2 C dX6_isDone_280 rfl rfl ?_
                refine xr_iald C (kp_6_7 hk0) (xj_ltN C (kp_6_7 hk0) (by decide)) rfl dX6_isDone_281 hR (fun hR => ?_)
                refine xr_iconst (v := 1) C dX6_isDone_282 (by decide) ?_
                refine xr_iadd C dX6_isDone_283 ?_
                refine xr_iastL C (kp_6_7 hk0) (xj_ltN C (kp_6_7 hk0) (by decide)) rfl dX6_isDone_284 hR (fun h18 hR => ?_)
                refine xr_aload_n C dX6_isDone_285 rfl ?_
                refine xr_get C hk0 fl_RX6_22 rfl dX6_isDone_286 ?_
                refine xr_bipush (v := 20) C dX6_isDone_289 (by decide) ?_
                refine xr_iload_n C dX6_isDone_291 rfl ?_
                refine xr_iadd C dX6_isDone_292 ?_
                refine xr_iload_n C dX6_isDone_293 rfl ?_
                refine xr_iastL C (kp_6_7 hk0) (xj_ltN C (kp_6_7 hk0) (by decide)) rfl dX6_isDone_294 hR (fun h19 hR => ?_)
                refine xr_iconst (v := 1) C dX6_isDone_295 (by decide) ?_
                exact xr_zret C hr (Or.inr rfl) dX6_isDone_296 hR
            · have hx20n := hx20
              refine xo_if hR (fun hx21 hR => ?_) (fun hx21 hR => ?_)
              · refine xr_tabIn (off := 44) (tgt := 72) C dX6_isDone_28 (by rw [hx21]; decide) (by rw [hx21]; decide) (by rw [hx21]; decide) (by decide) ?_
                exact xr_sub (lv9 := [some (.ref (xg_ad G k0)), some (.int a1), some (.int (((12 : Int32) * a1) + (h (k0 + 5) (Int32.toNatClampNeg ((20 : Int32) + a1))))), some (.int (h (k0 + 3) (Int32.toNatClampNeg (((12 : Int32) * a1) + (h (k0 + 5) (Int32.toNatClampNeg ((20 : Int32) + a1)))))))]) (And.intro rfl (And.intro rfl (And.intro rfl (And.intro rfl trivial)))) (mbX6_isDone_b72 C hr  hk0  hR)
              · have hx21n := hx21
                refine xr_tabOut (tgt := 310) C dX6_isDone_28 (xo_tab7 hx4n hx9n hx13n hx14n hx16n hx20n hx21n) (by decide) ?_
                exact xr_sub (lv9 := [some (.ref (xg_ad G k0)), some (.int a1), none, none]) (And.intro rfl (And.intro rfl trivial)) (mbX6_isDone_b310 C hr  hk0  hR)
end
section
def mX6_done_b35 (K12 : xw_M → Int32 → Option (xw_M × Unit)) (k0 : Nat) (a1 : Int32) (a2 : Int32) (h : xw_M)  : Option (xw_M × Unit) := K12 h ((a2 + 1))
def mX6_done_b12  (k0 : Nat) (a1 : Int32) : Nat → xw_M → Int32 → Option (xw_M × Unit)
  | 0, _, _ => none
  | n + 1, h, a2 => (if (h k0 2) ≤ a2 then some (h, ()) else (mX6_waits k0 a2 (4 : Int32) a1 h).bind fun r2 => (if r2.2 = 0 then mX6_done_b35 (mX6_done_b12  k0 a1 n) (k0) (a1) (a2) r2.1  else (mX6_ready k0 a2 r2.1).bind fun r3 => mX6_done_b35 (mX6_done_b12  k0 a1 n) (k0) (a1) (a2) r3.1 ))
def mX6_done (k0 : Nat) (a1 : Int32) (h : xw_M) : Option (xw_M × Unit) := if xo_ix ((12 : Int32) + a1) 204 = true then (xo_let (xw_st h (k0 + 5) (Int32.toNatClampNeg ((12 : Int32) + a1)) (5 : Int32)) fun h1 => mX6_done_b12  (k0) (a1) xo_n h1 ((0 : Int32))) else none
set_option maxHeartbeats 4000000 in
set_option maxRecDepth 100000 in
theorem mbX6_done_b35 {p : Program} {l : Launch} {e : Env} {s : State} {m : MethodId} {args : Array Value} {below : List Frame} {meth : Method} {c : Code} {G : xw_G} (C : xj_C p s m args meth c G RX6 cX6_done 3) (hr : meth.sig.returnType = none) {q : xw_M × Unit} {K12 : xw_M → Int32 → Option (xw_M × Unit)} {k0 : Nat} {a1 : Int32} {a2 : Int32} (hK12 : ∀ (h : xw_M) (a2 : Int32), K12 h a2 = some q → xj_X p l e { frames := 1, cells := 0, slots := 0, locals := 23 } s m args below meth c G 3 0 0 (MQ below (xw_Q G none q.1) args s 0 0 (xg_A G)) h [some (.ref (xg_ad G k0)), some (.int a1), some (.int a2)] 12 []) (hk0 : xw_kd k0 = 6) {h : xw_M}   (hR : mX6_done_b35 K12 k0 a1 a2 h  = some q) : xj_X p l e { frames := 1, cells := 0, slots := 0, locals := 23 } s m args below meth c G 3 0 0 (MQ below (xw_Q G none q.1) args s 0 0 (xg_A G)) h [some (.ref (xg_ad G k0)), some (.int a1), some (.int a2)] 35 [] := by
  unfold mX6_done_b35 at hR
  refine xr_iinc (v := 1) C dX6_done_35 rfl (by decide) rfl (by decide) ?_
  refine xr_goto (tgt := 12) C dX6_done_38 (by decide) ?_
  exact xr_sub (lv9 := [some (.ref (xg_ad G k0)), some (.int a1), some (.int (a2 + 1))]) (And.intro rfl (And.intro rfl (And.intro rfl trivial))) (hK12 _ _  hR)
set_option maxHeartbeats 4000000 in
set_option maxRecDepth 100000 in
theorem mbX6_done_b12 {p : Program} {l : Launch} {e : Env} {s : State} {m : MethodId} {args : Array Value} {below : List Frame} {meth : Method} {c : Code} {G : xw_G} (C : xj_C p s m args meth c G RX6 cX6_done 3) (hr : meth.sig.returnType = none) {q : xw_M × Unit} {k0 : Nat} {a1 : Int32}  (hk0 : xw_kd k0 = 6) : ∀ (n : Nat) (h : xw_M) (a2 : Int32), mX6_done_b12  k0 a1 n h a2 = some q → xj_X p l e { frames := 1, cells := 0, slots := 0, locals := 23 } s m args below meth c G 3 0 0 (MQ below (xw_Q G none q.1) args s 0 0 (xg_A G)) h [some (.ref (xg_ad G k0)), some (.int a1), some (.int a2)] 12 [] := by
  intro n
  induction n with
  | zero => intro h a2 hR; exact absurd (show (none : Option (xw_M × Unit)) = some q from hR) (fun z => by cases z)
  | succ n ih =>
    intro h a2 hR
    rw [mX6_done_b12.eq_2] at hR
    refine xr_iload_n C dX6_done_12 rfl ?_
    refine xr_aload_n C dX6_done_13 rfl ?_
    refine xr_get C hk0 fl_RX6_39 rfl dX6_done_14 ?_
    refine xr_icmp_ge (tgt := 41) C dX6_done_17 (by decide) hR (fun hR => ?_) (fun hR => ?_)
    · exact xr_vret C hr dX6_done_41 hR
    · refine xr_aload_n C dX6_done_20 rfl ?_
      refine xr_iload_n C dX6_done_21 rfl ?_
      refine xr_iconst (v := 4) C dX6_done_22 (by decide) ?_
      refine xr_iload_n C dX6_done_23 rfl ?_
      refine xr_callVi C (st := []) [.int a2, .int (4 : Int32), .int a1] cv_RX6_48 hk0 (fun _ zz9 => mcX6_waits l G hk0 zz9) rfl ⟨Nat.le_of_ble_eq_true rfl, Nat.le_of_ble_eq_true rfl⟩ (Nat.le_of_ble_eq_true rfl) ⟨Nat.zero_le _, Nat.zero_le _⟩ rfl dX6_done_24 hR (fun r2 hr2 hR => ?_)
      refine xr_if_eq (tgt := 35) C dX6_done_27 (by decide) hR (fun hR => ?_) (fun hR => ?_)
      · exact xr_sub (lv9 := [some (.ref (xg_ad G k0)), some (.int a1), some (.int a2)]) (And.intro rfl (And.intro rfl (And.intro rfl trivial))) (mbX6_done_b35 C hr ih hk0  hR)
      · refine xr_aload_n C dX6_done_30 rfl ?_
        refine xr_iload_n C dX6_done_31 rfl ?_
        refine xr_callVv C (st := []) [.int a2] cv_RX6_51 hk0 (fun _ zz9 => mcX6_ready l G hk0 zz9) rfl ⟨Nat.le_of_ble_eq_true rfl, Nat.le_of_ble_eq_true rfl⟩ (Nat.le_of_ble_eq_true rfl) ⟨Nat.zero_le _, Nat.zero_le _⟩ rfl dX6_done_32 hR (fun r3 hr3 hR => ?_)
        exact xr_sub (lv9 := [some (.ref (xg_ad G k0)), some (.int a1), some (.int a2)]) (And.intro rfl (And.intro rfl (And.intro rfl trivial))) (mbX6_done_b35 C hr ih hk0  hR)
set_option maxHeartbeats 4000000 in
set_option maxRecDepth 100000 in
theorem mcX6_done (l : Launch) (G : xw_G) {k0 : Nat} {a1 : Int32} (hk0 : xw_kd k0 = 6) {h : xw_M} {q : xw_M × Unit} (hR : mX6_done k0 a1 h = some q) : xc_M l G yX6_done cX6_done 3 none 1 23 [.ref (xg_ad G k0), .int a1] h q.1 none := by
  refine xc_of (by decide +kernel) rfl (Nat.le_of_ble_eq_true rfl) ?_
  intro p e s m args below meth c C hr
  have C : xj_C p s m args meth c G RX6 cX6_done 3 := C
  show xj_X p l e { frames := 1, cells := 0, slots := 0, locals := 23 } s m args below meth c G 3 0 0 (MQ below (xw_Q G none q.1) args s 0 0 (xg_A G)) h [some (.ref (xg_ad G k0)), some (.int a1), none] 0 []
  unfold mX6_done at hR
  refine xr_aload_n C dX6_done_0 rfl ?_
  refine xr_get C hk0 fl_RX6_22 rfl dX6_done_1 ?_
  refine xr_bipush (v := 12) C dX6_done_4 (by decide) ?_
  refine xr_iload_n C dX6_done_6 rfl ?_
  refine xr_iadd C dX6_done_7 ?_
  refine xr_iconst (v := 5) C dX6_done_8 (by decide) ?_
  refine xr_iastL C (kp_6_7 hk0) (xj_ltN C (kp_6_7 hk0) (by decide)) rfl dX6_done_9 hR (fun h1 hR => ?_)
  refine xr_iconst (v := 0) C dX6_done_10 (by decide) ?_
  refine xr_istore_n C dX6_done_11 rfl (by decide) ?_
  exact xr_sub (lv9 := [some (.ref (xg_ad G k0)), some (.int a1), some (.int (0 : Int32))]) (And.intro rfl (And.intro rfl (And.intro rfl trivial))) (mbX6_done_b12 C hr  hk0 _ _ _  hR)
end
section
def mX6_go_b104  (k0 : Nat) (a1 : Int32) (a2 : Int32) (h : xw_M)  : Option (xw_M × Unit) := if xo_ix ((36 : Int32) + a1) 204 = true then if xo_ix ((36 : Int32) + a1) 204 = true then (xo_let (xw_st h (k0 + 5) (Int32.toNatClampNeg ((36 : Int32) + a1)) ((h (k0 + 5) (Int32.toNatClampNeg ((36 : Int32) + a1))) + a2)) fun h2 => if xo_ix ((12 : Int32) + a1) 204 = true then (if (h2 (k0 + 5) (Int32.toNatClampNeg ((12 : Int32) + a1))) = 0 then if xo_ix ((20 : Int32) + a1) 204 = true then if xo_ix a1 8 = true then (if (h2 (k0 + 5) (Int32.toNatClampNeg ((20 : Int32) + a1))) = (h2 (k0 + 1) (Int32.toNatClampNeg a1)) then (mX6_done k0 a1 h2).bind fun r4 => some (r4.1, ()) else (mX6_ready k0 a1 h2).bind fun r3 => some (r3.1, ())) else none else none else some (h2, ())) else none) else none else none
def mX6_go_b99 (K17 : xw_M → Int32 → Int32 → Option (xw_M × Unit)) (k0 : Nat) (a1 : Int32) (a3 : Int32) (h : xw_M) (as0 : Int32) (as1 : Int32) : Option (xw_M × Unit) := K17 h ((as1 + as0)) (a3)
def mX6_go_b84 (K17 : xw_M → Int32 → Int32 → Option (xw_M × Unit)) (k0 : Nat) (a1 : Int32) (a2 : Int32) (h : xw_M) (as0 : Int32) : Option (xw_M × Unit) := (mX6_isDone k0 a1 h).bind fun r5 => (if r5.2 = 0 then mX6_go_b99 (K17) (k0) (a1) (as0) r5.1 ((0 : Int32)) (a2) else mX6_go_b99 (K17) (k0) (a1) (as0) r5.1 ((1 : Int32)) (a2))
def mX6_go_b17  (k0 : Nat) (a1 : Int32) : Nat → xw_M → Int32 → Int32 → Option (xw_M × Unit)
  | 0, _, _, _ => none
  | n + 1, h, a2, a3 => (if a3 = 0 then mX6_go_b104  (k0) (a1) (a2) h  else (if (4 : Int32) ≤ a2 then mX6_go_b104  (k0) (a1) (a2) h  else if xo_ix ((12 : Int32) + a1) 204 = true then (if (h (k0 + 5) (Int32.toNatClampNeg ((12 : Int32) + a1))) = 0 then if xo_ix ((20 : Int32) + a1) 204 = true then if xo_ix a1 8 = true then (if (h (k0 + 1) (Int32.toNatClampNeg a1)) ≤ (h (k0 + 5) (Int32.toNatClampNeg ((20 : Int32) + a1))) then mX6_go_b104  (k0) (a1) (a2) h  else if xo_ix ((20 : Int32) + a1) 204 = true then if xo_ix (((12 : Int32) * a1) + (h (k0 + 5) (Int32.toNatClampNeg ((20 : Int32) + a1)))) 96 = true then (if (h (k0 + 2) (Int32.toNatClampNeg (((12 : Int32) * a1) + (h (k0 + 5) (Int32.toNatClampNeg ((20 : Int32) + a1)))))) = (3 : Int32) then mX6_go_b84 (mX6_go_b17  k0 a1 n) (k0) (a1) (a2) h ((0 : Int32)) else mX6_go_b84 (mX6_go_b17  k0 a1 n) (k0) (a1) (a2) h ((1 : Int32))) else none else none) else none else none else mX6_go_b104  (k0) (a1) (a2) h ) else none))
def mX6_go (k0 : Nat) (a1 : Int32) (h : xw_M) : Option (xw_M × Unit) := if xo_ix ((44 : Int32) + a1) 204 = true then if xo_ix ((44 : Int32) + a1) 204 = true then (xo_let (xw_st h (k0 + 5) (Int32.toNatClampNeg ((44 : Int32) + a1)) ((h (k0 + 5) (Int32.toNatClampNeg ((44 : Int32) + a1))) + (1 : Int32))) fun h1 => mX6_go_b17  (k0) (a1) xo_n h1 ((0 : Int32)) ((1 : Int32))) else none else none
set_option maxHeartbeats 4000000 in
set_option maxRecDepth 100000 in
theorem mbX6_go_b104 {p : Program} {l : Launch} {e : Env} {s : State} {m : MethodId} {args : Array Value} {below : List Frame} {meth : Method} {c : Code} {G : xw_G} (C : xj_C p s m args meth c G RX6 cX6_go 4) (hr : meth.sig.returnType = none) {q : xw_M × Unit} {k0 : Nat} {a1 : Int32} {a2 : Int32}  (hk0 : xw_kd k0 = 6) {h : xw_M}   (hR : mX6_go_b104  k0 a1 a2 h  = some q) : xj_X p l e { frames := 4, cells := 0, slots := 0, locals := 93 } s m args below meth c G 4 0 0 (MQ below (xw_Q G none q.1) args s 0 0 (xg_A G)) h [some (.ref (xg_ad G k0)), some (.int a1), some (.int a2), none] 104 [] := by
  unfold mX6_go_b104 at hR
  refine xr_aload_n C dX6_go_104 rfl ?_
  refine xr_get C hk0 fl_RX6_22 rfl dX6_go_105 ?_
  refine xr_bipush (v := 36) C dX6_go_108 (by decide) ?_
  refine xr_iload_n C dX6_go_110 rfl ?_
  refine xr_iadd C dX6_go_111 ?_
  refine xr_dup2 C dX6_go_112 rfl rfl ?_
  refine xr_iald C (kp_6_7 hk0) (xj_ltN C (kp_6_7 hk0) (by decide)) rfl dX6_go_113 hR (fun hR => ?_)
  refine xr_iload_n C dX6_go_114 rfl ?_
  refine xr_iadd C dX6_go_115 ?_
  refine xr_iastL C (kp_6_7 hk0) (xj_ltN C (kp_6_7 hk0) (by decide)) rfl dX6_go_116 hR (fun h2 hR => ?_)
  refine xr_aload_n C dX6_go_117 rfl ?_
  refine xr_get C hk0 fl_RX6_22 rfl dX6_go_118 ?_
  refine xr_bipush (v := 12) C dX6_go_121 (by decide) ?_
  refine xr_iload_n C dX6_go_123 rfl ?_
  refine xr_iadd C dX6_go_124 ?_
  refine xr_iald C (kp_6_7 hk0) (xj_ltN C (kp_6_7 hk0) (by decide)) rfl dX6_go_125 hR (fun hR => ?_)
  refine xr_if_eq (tgt := 130) C dX6_go_126 (by decide) hR (fun hR => ?_) (fun hR => ?_)
  · refine xr_aload_n C dX6_go_130 rfl ?_
    refine xr_get C hk0 fl_RX6_22 rfl dX6_go_131 ?_
    refine xr_bipush (v := 20) C dX6_go_134 (by decide) ?_
    refine xr_iload_n C dX6_go_136 rfl ?_
    refine xr_iadd C dX6_go_137 ?_
    refine xr_iald C (kp_6_7 hk0) (xj_ltN C (kp_6_7 hk0) (by decide)) rfl dX6_go_138 hR (fun hR => ?_)
    refine xr_aload_n C dX6_go_139 rfl ?_
    refine xr_get C hk0 fl_RX6_9 rfl dX6_go_140 ?_
    refine xr_iload_n C dX6_go_143 rfl ?_
    refine xr_iald C (kp_6_3 hk0) (xj_ltN C (kp_6_3 hk0) (by decide)) rfl dX6_go_144 hR (fun hR => ?_)
    refine xr_icmp_ne (tgt := 156) C dX6_go_145 (by decide) hR (fun hR => ?_) (fun hR => ?_)
    · refine xr_aload_n C dX6_go_156 rfl ?_
      refine xr_iload_n C dX6_go_157 rfl ?_
      refine xr_callVv C (st := []) [.int a1] cv_RX6_51 hk0 (fun _ zz9 => mcX6_ready l G hk0 zz9) rfl ⟨Nat.le_of_ble_eq_true rfl, Nat.le_of_ble_eq_true rfl⟩ (Nat.le_of_ble_eq_true rfl) ⟨Nat.zero_le _, Nat.zero_le _⟩ rfl dX6_go_158 hR (fun r3 hr3 hR => ?_)
      exact xr_vret C hr dX6_go_161 hR
    · refine xr_aload_n C dX6_go_148 rfl ?_
      refine xr_iload_n C dX6_go_149 rfl ?_
      refine xr_callVv C (st := []) [.int a1] cv_RX6_73 hk0 (fun _ zz9 => mcX6_done l G hk0 zz9) rfl ⟨Nat.le_of_ble_eq_true rfl, Nat.le_of_ble_eq_true rfl⟩ (Nat.le_of_ble_eq_true rfl) ⟨Nat.zero_le _, Nat.zero_le _⟩ rfl dX6_go_150 hR (fun r4 hr4 hR => ?_)
      refine xr_goto (tgt := 161) C dX6_go_153 (by decide) ?_
      exact xr_vret C hr dX6_go_161 hR
  · exact xr_vret C hr dX6_go_129 hR
set_option maxHeartbeats 4000000 in
set_option maxRecDepth 100000 in
theorem mbX6_go_b99 {p : Program} {l : Launch} {e : Env} {s : State} {m : MethodId} {args : Array Value} {below : List Frame} {meth : Method} {c : Code} {G : xw_G} (C : xj_C p s m args meth c G RX6 cX6_go 4) (hr : meth.sig.returnType = none) {q : xw_M × Unit} {K17 : xw_M → Int32 → Int32 → Option (xw_M × Unit)} {k0 : Nat} {a1 : Int32} {a3 : Int32} (hK17 : ∀ (h : xw_M) (a2 : Int32) (a3 : Int32), K17 h a2 a3 = some q → xj_X p l e { frames := 4, cells := 0, slots := 0, locals := 93 } s m args below meth c G 4 0 0 (MQ below (xw_Q G none q.1) args s 0 0 (xg_A G)) h [some (.ref (xg_ad G k0)), some (.int a1), some (.int a2), some (.int a3)] 17 []) (hk0 : xw_kd k0 = 6) {h : xw_M} {as0 : Int32} {as1 : Int32}   (hR : mX6_go_b99 K17 k0 a1 a3 h as0 as1 = some q) : xj_X p l e { frames := 4, cells := 0, slots := 0, locals := 93 } s m args below meth c G 4 0 0 (MQ below (xw_Q G none q.1) args s 0 0 (xg_A G)) h [some (.ref (xg_ad G k0)), some (.int a1), none, some (.int a3)] 99 [.int as0, .int as1] := by
  unfold mX6_go_b99 at hR
  refine xr_iadd C dX6_go_99 ?_
  refine xr_istore_n C dX6_go_100 rfl (by decide) ?_
  refine xr_goto (tgt := 17) C dX6_go_101 (by decide) ?_
  exact xr_sub (lv9 := [some (.ref (xg_ad G k0)), some (.int a1), some (.int (as1 + as0)), some (.int a3)]) (And.intro rfl (And.intro rfl (And.intro rfl (And.intro rfl trivial)))) (hK17 _ _ _  hR)
set_option maxHeartbeats 4000000 in
set_option maxRecDepth 100000 in
theorem mbX6_go_b84 {p : Program} {l : Launch} {e : Env} {s : State} {m : MethodId} {args : Array Value} {below : List Frame} {meth : Method} {c : Code} {G : xw_G} (C : xj_C p s m args meth c G RX6 cX6_go 4) (hr : meth.sig.returnType = none) {q : xw_M × Unit} {K17 : xw_M → Int32 → Int32 → Option (xw_M × Unit)} {k0 : Nat} {a1 : Int32} {a2 : Int32} (hK17 : ∀ (h : xw_M) (a2 : Int32) (a3 : Int32), K17 h a2 a3 = some q → xj_X p l e { frames := 4, cells := 0, slots := 0, locals := 93 } s m args below meth c G 4 0 0 (MQ below (xw_Q G none q.1) args s 0 0 (xg_A G)) h [some (.ref (xg_ad G k0)), some (.int a1), some (.int a2), some (.int a3)] 17 []) (hk0 : xw_kd k0 = 6) {h : xw_M} {as0 : Int32}   (hR : mX6_go_b84 K17 k0 a1 a2 h as0 = some q) : xj_X p l e { frames := 4, cells := 0, slots := 0, locals := 93 } s m args below meth c G 4 0 0 (MQ below (xw_Q G none q.1) args s 0 0 (xg_A G)) h [some (.ref (xg_ad G k0)), some (.int a1), some (.int a2), none] 84 [.int as0] := by
  unfold mX6_go_b84 at hR
  refine xr_istore_n C dX6_go_84 rfl (by decide) ?_
  refine xr_iload_n C dX6_go_85 rfl ?_
  refine xr_aload_n C dX6_go_86 rfl ?_
  refine xr_iload_n C dX6_go_87 rfl ?_
  refine xr_callVi C (st := [.int a2]) [.int a1] cv_RX6_69 hk0 (fun _ zz9 => mcX6_isDone l G hk0 zz9) rfl ⟨Nat.le_of_ble_eq_true rfl, Nat.le_of_ble_eq_true rfl⟩ (Nat.le_of_ble_eq_true rfl) ⟨Nat.zero_le _, Nat.zero_le _⟩ rfl dX6_go_88 hR (fun r5 hr5 hR => ?_)
  refine xr_if_eq (tgt := 98) C dX6_go_91 (by decide) hR (fun hR => ?_) (fun hR => ?_)
  · refine xr_iconst (v := 0) C dX6_go_98 (by decide) ?_
    exact xr_sub (lv9 := [some (.ref (xg_ad G k0)), some (.int a1), none, some (.int as0)]) (And.intro rfl (And.intro rfl (And.intro rfl trivial))) (mbX6_go_b99 C hr hK17 hk0  hR)
  · refine xr_iconst (v := 1) C dX6_go_94 (by decide) ?_
    refine xr_goto (tgt := 99) C dX6_go_95 (by decide) ?_
    exact xr_sub (lv9 := [some (.ref (xg_ad G k0)), some (.int a1), none, some (.int as0)]) (And.intro rfl (And.intro rfl (And.intro rfl trivial))) (mbX6_go_b99 C hr hK17 hk0  hR)
set_option maxHeartbeats 4000000 in
set_option maxRecDepth 100000 in
theorem mbX6_go_b17 {p : Program} {l : Launch} {e : Env} {s : State} {m : MethodId} {args : Array Value} {below : List Frame} {meth : Method} {c : Code} {G : xw_G} (C : xj_C p s m args meth c G RX6 cX6_go 4) (hr : meth.sig.returnType = none) {q : xw_M × Unit} {k0 : Nat} {a1 : Int32}  (hk0 : xw_kd k0 = 6) : ∀ (n : Nat) (h : xw_M) (a2 : Int32) (a3 : Int32), mX6_go_b17  k0 a1 n h a2 a3 = some q → xj_X p l e { frames := 4, cells := 0, slots := 0, locals := 93 } s m args below meth c G 4 0 0 (MQ below (xw_Q G none q.1) args s 0 0 (xg_A G)) h [some (.ref (xg_ad G k0)), some (.int a1), some (.int a2), some (.int a3)] 17 [] := by
  intro n
  induction n with
  | zero => intro h a2 a3 hR; exact absurd (show (none : Option (xw_M × Unit)) = some q from hR) (fun z => by cases z)
  | succ n ih =>
    intro h a2 a3 hR
    rw [mX6_go_b17.eq_2] at hR
    refine xr_iload_n C dX6_go_17 rfl ?_
    refine xr_if_eq (tgt := 104) C dX6_go_18 (by decide) hR (fun hR => ?_) (fun hR => ?_)
    · exact xr_sub (lv9 := [some (.ref (xg_ad G k0)), some (.int a1), some (.int a2), none]) (And.intro rfl (And.intro rfl (And.intro rfl trivial))) (mbX6_go_b104 C hr  hk0  hR)
    · refine xr_iload_n C dX6_go_21 rfl ?_
      refine xr_iconst (v := 4) C dX6_go_22 (by decide) ?_
      refine xr_icmp_ge (tgt := 104) C dX6_go_23 (by decide) hR (fun hR => ?_) (fun hR => ?_)
      · exact xr_sub (lv9 := [some (.ref (xg_ad G k0)), some (.int a1), some (.int a2), none]) (And.intro rfl (And.intro rfl (And.intro rfl trivial))) (mbX6_go_b104 C hr  hk0  hR)
      · refine xr_aload_n C dX6_go_26 rfl ?_
        refine xr_get C hk0 fl_RX6_22 rfl dX6_go_27 ?_
        refine xr_bipush (v := 12) C dX6_go_30 (by decide) ?_
        refine xr_iload_n C dX6_go_32 rfl ?_
        refine xr_iadd C dX6_go_33 ?_
        refine xr_iald C (kp_6_7 hk0) (xj_ltN C (kp_6_7 hk0) (by decide)) rfl dX6_go_34 hR (fun hR => ?_)
        refine xr_if_ne (tgt := 104) C dX6_go_35 (by decide) hR (fun hR => ?_) (fun hR => ?_)
        · exact xr_sub (lv9 := [some (.ref (xg_ad G k0)), some (.int a1), some (.int a2), none]) (And.intro rfl (And.intro rfl (And.intro rfl trivial))) (mbX6_go_b104 C hr  hk0  hR)
        · refine xr_aload_n C dX6_go_38 rfl ?_
          refine xr_get C hk0 fl_RX6_22 rfl dX6_go_39 ?_
          refine xr_bipush (v := 20) C dX6_go_42 (by decide) ?_
          refine xr_iload_n C dX6_go_44 rfl ?_
          refine xr_iadd C dX6_go_45 ?_
          refine xr_iald C (kp_6_7 hk0) (xj_ltN C (kp_6_7 hk0) (by decide)) rfl dX6_go_46 hR (fun hR => ?_)
          refine xr_aload_n C dX6_go_47 rfl ?_
          refine xr_get C hk0 fl_RX6_9 rfl dX6_go_48 ?_
          refine xr_iload_n C dX6_go_51 rfl ?_
          refine xr_iald C (kp_6_3 hk0) (xj_ltN C (kp_6_3 hk0) (by decide)) rfl dX6_go_52 hR (fun hR => ?_)
          refine xr_icmp_ge (tgt := 104) C dX6_go_53 (by decide) hR (fun hR => ?_) (fun hR => ?_)
          · exact xr_sub (lv9 := [some (.ref (xg_ad G k0)), some (.int a1), some (.int a2), none]) (And.intro rfl (And.intro rfl (And.intro rfl trivial))) (mbX6_go_b104 C hr  hk0  hR)
          · refine xr_aload_n C dX6_go_56 rfl ?_
            refine xr_get C hk0 fl_RX6_13 rfl dX6_go_57 ?_
            refine xr_bipush (v := 12) C dX6_go_60 (by decide) ?_
            refine xr_iload_n C dX6_go_62 rfl ?_
            refine xr_imul C dX6_go_63 ?_
            refine xr_aload_n C dX6_go_64 rfl ?_
            refine xr_get C hk0 fl_RX6_22 rfl dX6_go_65 ?_
            refine xr_bipush (v := 20) C dX6_go_68 (by decide) ?_
            refine xr_iload_n C dX6_go_70 rfl ?_
            refine xr_iadd C dX6_go_71 ?_
            refine xr_iald C (kp_6_7 hk0) (xj_ltN C (kp_6_7 hk0) (by decide)) rfl dX6_go_72 hR (fun hR => ?_)
            refine xr_iadd C dX6_go_73 ?_
            refine xr_iald C (kp_6_4 hk0) (xj_ltN C (kp_6_4 hk0) (by decide)) rfl dX6_go_74 hR (fun hR => ?_)
            refine xr_iconst (v := 3) C dX6_go_75 (by decide) ?_
            refine xr_icmp_eq (tgt := 83) C dX6_go_76 (by decide) hR (fun hR => ?_) (fun hR => ?_)
            · refine xr_iconst (v := 0) C dX6_go_83 (by decide) ?_
              exact xr_sub (lv9 := [some (.ref (xg_ad G k0)), some (.int a1), some (.int a2), none]) (And.intro rfl (And.intro rfl (And.intro rfl trivial))) (mbX6_go_b84 C hr ih hk0  hR)
            · refine xr_iconst (v := 1) C dX6_go_79 (by decide) ?_
              refine xr_goto (tgt := 84) C dX6_go_80 (by decide) ?_
              exact xr_sub (lv9 := [some (.ref (xg_ad G k0)), some (.int a1), some (.int a2), none]) (And.intro rfl (And.intro rfl (And.intro rfl trivial))) (mbX6_go_b84 C hr ih hk0  hR)
set_option maxHeartbeats 4000000 in
set_option maxRecDepth 100000 in
theorem mcX6_go (l : Launch) (G : xw_G) {k0 : Nat} {a1 : Int32} (hk0 : xw_kd k0 = 6) {h : xw_M} {q : xw_M × Unit} (hR : mX6_go k0 a1 h = some q) : xc_M l G yX6_go cX6_go 4 none 4 93 [.ref (xg_ad G k0), .int a1] h q.1 none := by
  refine xc_of (by decide +kernel) rfl (Nat.le_of_ble_eq_true rfl) ?_
  intro p e s m args below meth c C hr
  have C : xj_C p s m args meth c G RX6 cX6_go 4 := C
  show xj_X p l e { frames := 4, cells := 0, slots := 0, locals := 93 } s m args below meth c G 4 0 0 (MQ below (xw_Q G none q.1) args s 0 0 (xg_A G)) h [some (.ref (xg_ad G k0)), some (.int a1), none, none] 0 []
  unfold mX6_go at hR
  refine xr_aload_n C dX6_go_0 rfl ?_
  refine xr_get C hk0 fl_RX6_22 rfl dX6_go_1 ?_
  refine xr_bipush (v := 44) C dX6_go_4 (by decide) ?_
  refine xr_iload_n C dX6_go_6 rfl ?_
  refine xr_iadd C dX6_go_7 ?_
  refine xr_dup2 C dX6_go_8 rfl rfl ?_
  refine xr_iald C (kp_6_7 hk0) (xj_ltN C (kp_6_7 hk0) (by decide)) rfl dX6_go_9 hR (fun hR => ?_)
  refine xr_iconst (v := 1) C dX6_go_10 (by decide) ?_
  refine xr_iadd C dX6_go_11 ?_
  refine xr_iastL C (kp_6_7 hk0) (xj_ltN C (kp_6_7 hk0) (by decide)) rfl dX6_go_12 hR (fun h1 hR => ?_)
  refine xr_iconst (v := 0) C dX6_go_13 (by decide) ?_
  refine xr_istore_n C dX6_go_14 rfl (by decide) ?_
  refine xr_iconst (v := 1) C dX6_go_15 (by decide) ?_
  refine xr_istore_n C dX6_go_16 rfl (by decide) ?_
  exact xr_sub (lv9 := [some (.ref (xg_ad G k0)), some (.int a1), some (.int (0 : Int32)), some (.int (1 : Int32))]) (And.intro rfl (And.intro rfl (And.intro rfl (And.intro rfl trivial)))) (mbX6_go_b17 C hr  hk0 _ _ _ _  hR)
end
section
def mX6_turnOn_b115  (k0 : Nat) (h : xw_M)  : Option (xw_M × Unit) := xo_let (xw_st h (k0 + 5) (Int32.toNatClampNeg (0 : Int32)) ((h (k0 + 5) (Int32.toNatClampNeg (0 : Int32))) + (1 : Int32))) fun h4 => some (h4, ())
def mX6_turnOn_b46 (K2 : xw_M → Int32 → Option (xw_M × Unit)) (k0 : Nat) (a1 : Int32) (h : xw_M)  : Option (xw_M × Unit) := K2 h ((a1 + 1))
def mX6_turnOn_b2  (k0 : Nat) : Nat → xw_M → Int32 → Option (xw_M × Unit)
  | 0, _, _ => none
  | n + 1, h, a1 => (if (h k0 2) ≤ a1 then (if (h (k0 + 5) (Int32.toNatClampNeg (3 : Int32))) = 0 then xo_let (xw_st h (k0 + 5) (Int32.toNatClampNeg (1 : Int32)) ((h (k0 + 5) (Int32.toNatClampNeg (1 : Int32))) + (1 : Int32))) fun h5 => mX6_turnOn_b115  (k0) h5  else xo_let (xw_st h (k0 + 5) (Int32.toNatClampNeg (3 : Int32)) ((h (k0 + 5) (Int32.toNatClampNeg (3 : Int32))) - (1 : Int32))) fun h1 => if xo_cp (5 : Int32) (4 : Int32) (h1 (k0 + 5) (Int32.toNatClampNeg (3 : Int32))) 204 204 = true then (xo_let (xw_cp h1 (k0 + 5) (5 : Int32) (k0 + 5) (4 : Int32) (h1 (k0 + 5) (Int32.toNatClampNeg (3 : Int32)))) fun h2 => (mX6_go k0 (h (k0 + 5) (Int32.toNatClampNeg (4 : Int32))) h2).bind fun r3 => mX6_turnOn_b115  (k0) r3.1 ) else none) else if xo_ix ((12 : Int32) + a1) 204 = true then (if (h (k0 + 5) (Int32.toNatClampNeg ((12 : Int32) + a1))) = (3 : Int32) then if xo_ix ((52 : Int32) + a1) 204 = true then (if (h (k0 + 5) (Int32.toNatClampNeg ((52 : Int32) + a1))) = (h (k0 + 5) (Int32.toNatClampNeg (0 : Int32))) then (mX6_ready k0 a1 h).bind fun r6 => mX6_turnOn_b46 (mX6_turnOn_b2  k0 n) (k0) (a1) r6.1  else mX6_turnOn_b46 (mX6_turnOn_b2  k0 n) (k0) (a1) h ) else none else mX6_turnOn_b46 (mX6_turnOn_b2  k0 n) (k0) (a1) h ) else none)
def mX6_turnOn (k0 : Nat) (h : xw_M) : Option (xw_M × Unit) := mX6_turnOn_b2  (k0) xo_n h ((0 : Int32))
set_option maxHeartbeats 4000000 in
set_option maxRecDepth 100000 in
theorem mbX6_turnOn_b115 {p : Program} {l : Launch} {e : Env} {s : State} {m : MethodId} {args : Array Value} {below : List Frame} {meth : Method} {c : Code} {G : xw_G} (C : xj_C p s m args meth c G RX6 cX6_turnOn 2) (hr : meth.sig.returnType = none) {q : xw_M × Unit} {k0 : Nat}  (hk0 : xw_kd k0 = 6) {h : xw_M}   (hR : mX6_turnOn_b115  k0 h  = some q) : xj_X p l e { frames := 5, cells := 0, slots := 0, locals := 116 } s m args below meth c G 2 0 0 (MQ below (xw_Q G none q.1) args s 0 0 (xg_A G)) h [some (.ref (xg_ad G k0)), none] 115 [] := by
  unfold mX6_turnOn_b115 at hR
  refine xr_aload_n C dX6_turnOn_115 rfl ?_
  refine xr_get C hk0 fl_RX6_22 rfl dX6_turnOn_116 ?_
  refine xr_iconst (v := 0) C dX6_turnOn_119 (by decide) ?_
  refine xr_dup2 C dX6_turnOn_120 rfl rfl ?_
  refine xr_ialdC C (kp_6_7 hk0) (xj_ltN C (kp_6_7 hk0) (by decide)) rfl (by decide) dX6_turnOn_121 ?_
  refine xr_iconst (v := 1) C dX6_turnOn_122 (by decide) ?_
  refine xr_iadd C dX6_turnOn_123 ?_
  refine xr_iastLC C (kp_6_7 hk0) (xj_ltN C (kp_6_7 hk0) (by decide)) rfl (by decide) dX6_turnOn_124 hR (fun h4 hR => ?_)
  exact xr_vret C hr dX6_turnOn_125 hR
set_option maxHeartbeats 4000000 in
set_option maxRecDepth 100000 in
theorem mbX6_turnOn_b46 {p : Program} {l : Launch} {e : Env} {s : State} {m : MethodId} {args : Array Value} {below : List Frame} {meth : Method} {c : Code} {G : xw_G} (C : xj_C p s m args meth c G RX6 cX6_turnOn 2) (hr : meth.sig.returnType = none) {q : xw_M × Unit} {K2 : xw_M → Int32 → Option (xw_M × Unit)} {k0 : Nat} {a1 : Int32} (hK2 : ∀ (h : xw_M) (a1 : Int32), K2 h a1 = some q → xj_X p l e { frames := 5, cells := 0, slots := 0, locals := 116 } s m args below meth c G 2 0 0 (MQ below (xw_Q G none q.1) args s 0 0 (xg_A G)) h [some (.ref (xg_ad G k0)), some (.int a1)] 2 []) (hk0 : xw_kd k0 = 6) {h : xw_M}   (hR : mX6_turnOn_b46 K2 k0 a1 h  = some q) : xj_X p l e { frames := 5, cells := 0, slots := 0, locals := 116 } s m args below meth c G 2 0 0 (MQ below (xw_Q G none q.1) args s 0 0 (xg_A G)) h [some (.ref (xg_ad G k0)), some (.int a1)] 46 [] := by
  unfold mX6_turnOn_b46 at hR
  refine xr_iinc (v := 1) C dX6_turnOn_46 rfl (by decide) rfl (by decide) ?_
  refine xr_goto (tgt := 2) C dX6_turnOn_49 (by decide) ?_
  exact xr_sub (lv9 := [some (.ref (xg_ad G k0)), some (.int (a1 + 1))]) (And.intro rfl (And.intro rfl trivial)) (hK2 _ _  hR)
set_option maxHeartbeats 4000000 in
set_option maxRecDepth 100000 in
theorem mbX6_turnOn_b2 {p : Program} {l : Launch} {e : Env} {s : State} {m : MethodId} {args : Array Value} {below : List Frame} {meth : Method} {c : Code} {G : xw_G} (C : xj_C p s m args meth c G RX6 cX6_turnOn 2) (hr : meth.sig.returnType = none) {q : xw_M × Unit} {k0 : Nat}  (hk0 : xw_kd k0 = 6) : ∀ (n : Nat) (h : xw_M) (a1 : Int32), mX6_turnOn_b2  k0 n h a1 = some q → xj_X p l e { frames := 5, cells := 0, slots := 0, locals := 116 } s m args below meth c G 2 0 0 (MQ below (xw_Q G none q.1) args s 0 0 (xg_A G)) h [some (.ref (xg_ad G k0)), some (.int a1)] 2 [] := by
  intro n
  induction n with
  | zero => intro h a1 hR; exact absurd (show (none : Option (xw_M × Unit)) = some q from hR) (fun z => by cases z)
  | succ n ih =>
    intro h a1 hR
    rw [mX6_turnOn_b2.eq_2] at hR
    refine xr_iload_n C dX6_turnOn_2 rfl ?_
    refine xr_aload_n C dX6_turnOn_3 rfl ?_
    refine xr_get C hk0 fl_RX6_39 rfl dX6_turnOn_4 ?_
    refine xr_icmp_ge (tgt := 52) C dX6_turnOn_7 (by decide) hR (fun hR => ?_) (fun hR => ?_)
    · refine xr_aload_n C dX6_turnOn_52 rfl ?_
      refine xr_get C hk0 fl_RX6_22 rfl dX6_turnOn_53 ?_
      refine xr_iconst (v := 3) C dX6_turnOn_56 (by decide) ?_
      refine xr_ialdC C (kp_6_7 hk0) (xj_ltN C (kp_6_7 hk0) (by decide)) rfl (by decide) dX6_turnOn_57 ?_
      refine xr_if_ne (tgt := 74) C dX6_turnOn_58 (by decide) hR (fun hR => ?_) (fun hR => ?_)
      · refine xr_aload_n C dX6_turnOn_74 rfl ?_
        refine xr_get C hk0 fl_RX6_22 rfl dX6_turnOn_75 ?_
        refine xr_iconst (v := 4) C dX6_turnOn_78 (by decide) ?_
        refine xr_ialdC C (kp_6_7 hk0) (xj_ltN C (kp_6_7 hk0) (by decide)) rfl (by decide) dX6_turnOn_79 ?_
        refine xr_istore_n C dX6_turnOn_80 rfl (by decide) ?_
        refine xr_aload_n C dX6_turnOn_81 rfl ?_
        refine xr_get C hk0 fl_RX6_22 rfl dX6_turnOn_82 ?_
        refine xr_iconst (v := 3) C dX6_turnOn_85 (by decide) ?_
        refine xr_dup2 C dX6_turnOn_86 rfl rfl ?_
        refine xr_ialdC C (kp_6_7 hk0) (xj_ltN C (kp_6_7 hk0) (by decide)) rfl (by decide) dX6_turnOn_87 ?_
        refine xr_iconst (v := 1) C dX6_turnOn_88 (by decide) ?_
        refine xr_isub C dX6_turnOn_89 ?_
        refine xr_iastLC C (kp_6_7 hk0) (xj_ltN C (kp_6_7 hk0) (by decide)) rfl (by decide) dX6_turnOn_90 hR (fun h1 hR => ?_)
        refine xr_aload_n C dX6_turnOn_91 rfl ?_
        refine xr_get C hk0 fl_RX6_22 rfl dX6_turnOn_92 ?_
        refine xr_iconst (v := 5) C dX6_turnOn_95 (by decide) ?_
        refine xr_aload_n C dX6_turnOn_96 rfl ?_
        refine xr_get C hk0 fl_RX6_22 rfl dX6_turnOn_97 ?_
        refine xr_iconst (v := 4) C dX6_turnOn_100 (by decide) ?_
        refine xr_aload_n C dX6_turnOn_101 rfl ?_
        refine xr_get C hk0 fl_RX6_22 rfl dX6_turnOn_102 ?_
        refine xr_iconst (v := 3) C dX6_turnOn_105 (by decide) ?_
        refine xr_ialdC C (kp_6_7 hk0) (xj_ltN C (kp_6_7 hk0) (by decide)) rfl (by decide) dX6_turnOn_106 ?_
        refine xr_copy C sy_RX6_42 (kp_6_7 hk0) (xj_ltN C (kp_6_7 hk0) (by decide)) rfl (kp_6_7 hk0) (xj_ltN C (kp_6_7 hk0) (by decide)) rfl (by decide) (by decide) dX6_turnOn_107 hR (fun h2 hR => ?_)
        refine xr_aload_n C dX6_turnOn_110 rfl ?_
        refine xr_iload_n C dX6_turnOn_111 rfl ?_
        refine xr_callVv C (st := []) [.int (h (k0 + 5) (Int32.toNatClampNeg (4 : Int32)))] cv_RX6_76 hk0 (fun _ zz9 => mcX6_go l G hk0 zz9) rfl ⟨Nat.le_of_ble_eq_true rfl, Nat.le_of_ble_eq_true rfl⟩ (Nat.le_of_ble_eq_true rfl) ⟨Nat.zero_le _, Nat.zero_le _⟩ rfl dX6_turnOn_112 hR (fun r3 hr3 hR => ?_)
        exact xr_sub (lv9 := [some (.ref (xg_ad G k0)), none]) (And.intro rfl trivial) (mbX6_turnOn_b115 C hr  hk0  hR)
      · refine xr_aload_n C dX6_turnOn_61 rfl ?_
        refine xr_get C hk0 fl_RX6_22 rfl dX6_turnOn_62 ?_
        refine xr_iconst (v := 1) C dX6_turnOn_65 (by decide) ?_
        refine xr_dup2 C dX6_turnOn_66 rfl rfl ?_
        refine xr_ialdC C (kp_6_7 hk0) (xj_ltN C (kp_6_7 hk0) (by decide)) rfl (by decide) dX6_turnOn_67 ?_
        refine xr_iconst (v := 1) C dX6_turnOn_68 (by decide) ?_
        refine xr_iadd C dX6_turnOn_69 ?_
        refine xr_iastLC C (kp_6_7 hk0) (xj_ltN C (kp_6_7 hk0) (by decide)) rfl (by decide) dX6_turnOn_70 hR (fun h5 hR => ?_)
        refine xr_goto (tgt := 115) C dX6_turnOn_71 (by decide) ?_
        exact xr_sub (lv9 := [some (.ref (xg_ad G k0)), none]) (And.intro rfl trivial) (mbX6_turnOn_b115 C hr  hk0  hR)
    · refine xr_aload_n C dX6_turnOn_10 rfl ?_
      refine xr_get C hk0 fl_RX6_22 rfl dX6_turnOn_11 ?_
      refine xr_bipush (v := 12) C dX6_turnOn_14 (by decide) ?_
      refine xr_iload_n C dX6_turnOn_16 rfl ?_
      refine xr_iadd C dX6_turnOn_17 ?_
      refine xr_iald C (kp_6_7 hk0) (xj_ltN C (kp_6_7 hk0) (by decide)) rfl dX6_turnOn_18 hR (fun hR => ?_)
      refine xr_iconst (v := 3) C dX6_turnOn_19 (by decide) ?_
      refine xr_icmp_ne (tgt := 46) C dX6_turnOn_20 (by decide) hR (fun hR => ?_) (fun hR => ?_)
      · exact xr_sub (lv9 := [some (.ref (xg_ad G k0)), some (.int a1)]) (And.intro rfl (And.intro rfl trivial)) (mbX6_turnOn_b46 C hr ih hk0  hR)
      · refine xr_aload_n C dX6_turnOn_23 rfl ?_
        refine xr_get C hk0 fl_RX6_22 rfl dX6_turnOn_24 ?_
        refine xr_bipush (v := 52) C dX6_turnOn_27 (by decide) ?_
        refine xr_iload_n C dX6_turnOn_29 rfl ?_
        refine xr_iadd C dX6_turnOn_30 ?_
        refine xr_iald C (kp_6_7 hk0) (xj_ltN C (kp_6_7 hk0) (by decide)) rfl dX6_turnOn_31 hR (fun hR => ?_)
        refine xr_aload_n C dX6_turnOn_32 rfl ?_
        refine xr_get C hk0 fl_RX6_22 rfl dX6_turnOn_33 ?_
        refine xr_iconst (v := 0) C dX6_turnOn_36 (by decide) ?_
        refine xr_ialdC C (kp_6_7 hk0) (xj_ltN C (kp_6_7 hk0) (by decide)) rfl (by decide) dX6_turnOn_37 ?_
        refine xr_icmp_ne (tgt := 46) C dX6_turnOn_38 (by decide) hR (fun hR => ?_) (fun hR => ?_)
        · exact xr_sub (lv9 := [some (.ref (xg_ad G k0)), some (.int a1)]) (And.intro rfl (And.intro rfl trivial)) (mbX6_turnOn_b46 C hr ih hk0  hR)
        · refine xr_aload_n C dX6_turnOn_41 rfl ?_
          refine xr_iload_n C dX6_turnOn_42 rfl ?_
          refine xr_callVv C (st := []) [.int a1] cv_RX6_51 hk0 (fun _ zz9 => mcX6_ready l G hk0 zz9) rfl ⟨Nat.le_of_ble_eq_true rfl, Nat.le_of_ble_eq_true rfl⟩ (Nat.le_of_ble_eq_true rfl) ⟨Nat.zero_le _, Nat.zero_le _⟩ rfl dX6_turnOn_43 hR (fun r6 hr6 hR => ?_)
          exact xr_sub (lv9 := [some (.ref (xg_ad G k0)), some (.int a1)]) (And.intro rfl (And.intro rfl trivial)) (mbX6_turnOn_b46 C hr ih hk0  hR)
set_option maxHeartbeats 4000000 in
set_option maxRecDepth 100000 in
theorem mcX6_turnOn (l : Launch) (G : xw_G) {k0 : Nat} (hk0 : xw_kd k0 = 6) {h : xw_M} {q : xw_M × Unit} (hR : mX6_turnOn k0 h = some q) : xc_M l G yX6_turnOn cX6_turnOn 2 none 5 116 [.ref (xg_ad G k0)] h q.1 none := by
  refine xc_of (by decide +kernel) rfl (Nat.le_of_ble_eq_true rfl) ?_
  intro p e s m args below meth c C hr
  have C : xj_C p s m args meth c G RX6 cX6_turnOn 2 := C
  show xj_X p l e { frames := 5, cells := 0, slots := 0, locals := 116 } s m args below meth c G 2 0 0 (MQ below (xw_Q G none q.1) args s 0 0 (xg_A G)) h [some (.ref (xg_ad G k0)), none] 0 []
  unfold mX6_turnOn at hR
  refine xr_iconst (v := 0) C dX6_turnOn_0 (by decide) ?_
  refine xr_istore_n C dX6_turnOn_1 rfl (by decide) ?_
  exact xr_sub (lv9 := [some (.ref (xg_ad G k0)), some (.int (0 : Int32))]) (And.intro rfl (And.intro rfl trivial)) (mbX6_turnOn_b2 C hr  hk0 _ _ _  hR)
end
