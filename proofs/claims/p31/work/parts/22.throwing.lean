section
def mX5_checkChannel (k0 : Nat) (a1 : Int32) (h : xw_M) : Option (xw_M × Unit × Nat) := (mX5_isChannel k0 a1 h).bind fun r1 => (if r1.2 = 0 then some (r1.1, (), 3) else some (r1.1, (), 0))
set_option maxHeartbeats 4000000 in
set_option maxRecDepth 100000 in
theorem mcX5_checkChannel (l : Launch) (G : xw_G) {k0 : Nat} {a1 : Int32} (hk0 : xw_kd k0 = 5) {h : xw_M} {q : xw_M × Unit × Nat} (hR : mX5_checkChannel k0 a1 h = some q) (hq : q.2.2 = 0) : xc_M l G yX5_checkChannel cX5_checkChannel 2 none 6 90 [.ref (xg_ad G k0), .int a1] h q.1 none := by
  refine xc_of (by decide +kernel) rfl (Nat.le_of_ble_eq_true rfl) ?_
  intro p e s m args below meth c C hr
  have C : xj_C p s m args meth c G RX5 cX5_checkChannel 2 := C
  show xj_X p l e { frames := 6, cells := 0, slots := 0, locals := 90 } s m args below meth c G 2 0 0 (MQ below (xw_Q G none q.1) args s 0 0 (xg_A G)) h [some (.ref (xg_ad G k0)), some (.int a1)] 0 []
  unfold mX5_checkChannel at hR
  refine xr_aload_n C dX5_checkChannel_0 rfl ?_
  refine xr_iload_n C dX5_checkChannel_1 rfl ?_
  refine xr_callVi C (st := []) [.int a1] cv_RX5_242 hk0 (fun _ zz9 => mcX5_isChannel l G hk0 zz9) rfl ⟨Nat.le_of_ble_eq_true rfl, Nat.le_of_ble_eq_true rfl⟩ (Nat.le_of_ble_eq_true rfl) ⟨Nat.zero_le _, Nat.zero_le _⟩ rfl dX5_checkChannel_2 hR (fun r1 hr1 hR => ?_)
  refine xr_if_ne (tgt := 18) C dX5_checkChannel_5 (by decide) hR (fun hR => ?_) (fun hR => ?_)
  · exact xr_vretR C hr dX5_checkChannel_18 hR
  · exact absurd ((xo_no hR).symm.trans hq) (by decide)
set_option maxHeartbeats 4000000 in
set_option maxRecDepth 100000 in
theorem mtX5_checkChannel (l : Launch) (G : xw_G) (hl : l.stackTraces = false) {k0 : Nat} {a1 : Int32} (hk0 : xw_kd k0 = 5) {h : xw_M} {q : xw_M × Unit × Nat} (hR : mX5_checkChannel k0 a1 h = some q) (hq : ¬ q.2.2 = 0) : xt_M l G yX5_checkChannel cX5_checkChannel 2 none 6 90 [.ref (xg_ad G k0), .int a1] h q.1 q.2.2 := by
  refine xt_of (by decide +kernel) rfl (Nat.le_of_ble_eq_true rfl) ?_
  intro p e s m args below meth c C hr htab
  have C : xj_C p s m args meth c G RX5 cX5_checkChannel 2 := C
  show xj_X p l e { frames := 6, cells := 1, slots := 6, locals := 90 } s m args below meth c G 2 0 0 (xt_Z G below args s q.1 q.2.2) h [some (.ref (xg_ad G k0)), some (.int a1)] 0 []
  unfold mX5_checkChannel at hR
  refine xr_aload_n C dX5_checkChannel_0 rfl ?_
  refine xr_iload_n C dX5_checkChannel_1 rfl ?_
  refine xr_callVi C (st := []) [.int a1] cv_RX5_242 hk0 (fun _ zz9 => mcX5_isChannel l G hk0 zz9) rfl ⟨Nat.le_of_ble_eq_true rfl, Nat.le_of_ble_eq_true rfl⟩ (Nat.le_of_ble_eq_true rfl) ⟨Nat.zero_le _, Nat.zero_le _⟩ rfl dX5_checkChannel_2 hR (fun r1 hr1 hR => ?_)
  refine xr_if_ne (tgt := 18) C dX5_checkChannel_5 (by decide) hR (fun hR => ?_) (fun hR => ?_)
  · exact absurd (xo_no hR) hq
  · exact xr_throw C hl htab th_RX5_150_245 hR (by decide) dX5_checkChannel_8 dX5_checkChannel_11 dX5_checkChannel_12 dX5_checkChannel_14 dX5_checkChannel_17 (Nat.le_of_ble_eq_true rfl) (Nat.le_of_ble_eq_true rfl) (by decide) (by decide) (by decide) (by decide)
end
section
def mX5_checkFiber (k0 : Nat) (a1 : Int32) (h : xw_M) : Option (xw_M × Unit × Nat) := (mX5_isFiber k0 a1 h).bind fun r1 => (if r1.2 = 0 then some (r1.1, (), 3) else some (r1.1, (), 0))
set_option maxHeartbeats 4000000 in
set_option maxRecDepth 100000 in
theorem mcX5_checkFiber (l : Launch) (G : xw_G) {k0 : Nat} {a1 : Int32} (hk0 : xw_kd k0 = 5) {h : xw_M} {q : xw_M × Unit × Nat} (hR : mX5_checkFiber k0 a1 h = some q) (hq : q.2.2 = 0) : xc_M l G yX5_checkFiber cX5_checkFiber 2 none 6 90 [.ref (xg_ad G k0), .int a1] h q.1 none := by
  refine xc_of (by decide +kernel) rfl (Nat.le_of_ble_eq_true rfl) ?_
  intro p e s m args below meth c C hr
  have C : xj_C p s m args meth c G RX5 cX5_checkFiber 2 := C
  show xj_X p l e { frames := 6, cells := 0, slots := 0, locals := 90 } s m args below meth c G 2 0 0 (MQ below (xw_Q G none q.1) args s 0 0 (xg_A G)) h [some (.ref (xg_ad G k0)), some (.int a1)] 0 []
  unfold mX5_checkFiber at hR
  refine xr_aload_n C dX5_checkFiber_0 rfl ?_
  refine xr_iload_n C dX5_checkFiber_1 rfl ?_
  refine xr_callVi C (st := []) [.int a1] cv_RX5_247 hk0 (fun _ zz9 => mcX5_isFiber l G hk0 zz9) rfl ⟨Nat.le_of_ble_eq_true rfl, Nat.le_of_ble_eq_true rfl⟩ (Nat.le_of_ble_eq_true rfl) ⟨Nat.zero_le _, Nat.zero_le _⟩ rfl dX5_checkFiber_2 hR (fun r1 hr1 hR => ?_)
  refine xr_if_ne (tgt := 18) C dX5_checkFiber_5 (by decide) hR (fun hR => ?_) (fun hR => ?_)
  · exact xr_vretR C hr dX5_checkFiber_18 hR
  · exact absurd ((xo_no hR).symm.trans hq) (by decide)
set_option maxHeartbeats 4000000 in
set_option maxRecDepth 100000 in
theorem mtX5_checkFiber (l : Launch) (G : xw_G) (hl : l.stackTraces = false) {k0 : Nat} {a1 : Int32} (hk0 : xw_kd k0 = 5) {h : xw_M} {q : xw_M × Unit × Nat} (hR : mX5_checkFiber k0 a1 h = some q) (hq : ¬ q.2.2 = 0) : xt_M l G yX5_checkFiber cX5_checkFiber 2 none 6 90 [.ref (xg_ad G k0), .int a1] h q.1 q.2.2 := by
  refine xt_of (by decide +kernel) rfl (Nat.le_of_ble_eq_true rfl) ?_
  intro p e s m args below meth c C hr htab
  have C : xj_C p s m args meth c G RX5 cX5_checkFiber 2 := C
  show xj_X p l e { frames := 6, cells := 1, slots := 6, locals := 90 } s m args below meth c G 2 0 0 (xt_Z G below args s q.1 q.2.2) h [some (.ref (xg_ad G k0)), some (.int a1)] 0 []
  unfold mX5_checkFiber at hR
  refine xr_aload_n C dX5_checkFiber_0 rfl ?_
  refine xr_iload_n C dX5_checkFiber_1 rfl ?_
  refine xr_callVi C (st := []) [.int a1] cv_RX5_247 hk0 (fun _ zz9 => mcX5_isFiber l G hk0 zz9) rfl ⟨Nat.le_of_ble_eq_true rfl, Nat.le_of_ble_eq_true rfl⟩ (Nat.le_of_ble_eq_true rfl) ⟨Nat.zero_le _, Nat.zero_le _⟩ rfl dX5_checkFiber_2 hR (fun r1 hr1 hR => ?_)
  refine xr_if_ne (tgt := 18) C dX5_checkFiber_5 (by decide) hR (fun hR => ?_) (fun hR => ?_)
  · exact absurd (xo_no hR) hq
  · exact xr_throw C hl htab th_RX5_150_250 hR (by decide) dX5_checkFiber_8 dX5_checkFiber_11 dX5_checkFiber_12 dX5_checkFiber_14 dX5_checkFiber_17 (Nat.le_of_ble_eq_true rfl) (Nat.le_of_ble_eq_true rfl) (by decide) (by decide) (by decide) (by decide)
end
section
def mX5_checkTurns (k0 : Nat) (a1 : Int32) (h : xw_M) : Option (xw_M × Unit × Nat) := (if a1 < (1 : Int32) then some (h, (), 1) else (if a1 ≤ (60 : Int32) then some (h, (), 0) else some (h, (), 1)))
set_option maxHeartbeats 4000000 in
set_option maxRecDepth 100000 in
theorem mcX5_checkTurns (l : Launch) (G : xw_G) {k0 : Nat} {a1 : Int32} (hk0 : xw_kd k0 = 5) {h : xw_M} {q : xw_M × Unit × Nat} (hR : mX5_checkTurns k0 a1 h = some q) (hq : q.2.2 = 0) : xc_M l G yX5_checkTurns cX5_checkTurns 2 none 6 90 [.ref (xg_ad G k0), .int a1] h q.1 none := by
  refine xc_of (by decide +kernel) rfl (Nat.le_of_ble_eq_true rfl) ?_
  intro p e s m args below meth c C hr
  have C : xj_C p s m args meth c G RX5 cX5_checkTurns 2 := C
  show xj_X p l e { frames := 6, cells := 0, slots := 0, locals := 90 } s m args below meth c G 2 0 0 (MQ below (xw_Q G none q.1) args s 0 0 (xg_A G)) h [some (.ref (xg_ad G k0)), some (.int a1)] 0 []
  unfold mX5_checkTurns at hR
  refine xr_iload_n C dX5_checkTurns_0 rfl ?_
  refine xr_iconst (v := 1) C dX5_checkTurns_1 (by decide) ?_
  refine xr_icmp_lt (tgt := 11) C dX5_checkTurns_2 (by decide) hR (fun hR => ?_) (fun hR => ?_)
  · exact absurd ((xo_no hR).symm.trans hq) (by decide)
  · refine xr_iload_n C dX5_checkTurns_5 rfl ?_
    refine xr_bipush (v := 60) C dX5_checkTurns_6 (by decide) ?_
    refine xr_icmp_le (tgt := 21) C dX5_checkTurns_8 (by decide) hR (fun hR => ?_) (fun hR => ?_)
    · exact xr_vretR C hr dX5_checkTurns_21 hR
    · exact absurd ((xo_no hR).symm.trans hq) (by decide)
set_option maxHeartbeats 4000000 in
set_option maxRecDepth 100000 in
theorem mtX5_checkTurns (l : Launch) (G : xw_G) (hl : l.stackTraces = false) {k0 : Nat} {a1 : Int32} (hk0 : xw_kd k0 = 5) {h : xw_M} {q : xw_M × Unit × Nat} (hR : mX5_checkTurns k0 a1 h = some q) (hq : ¬ q.2.2 = 0) : xt_M l G yX5_checkTurns cX5_checkTurns 2 none 6 90 [.ref (xg_ad G k0), .int a1] h q.1 q.2.2 := by
  refine xt_of (by decide +kernel) rfl (Nat.le_of_ble_eq_true rfl) ?_
  intro p e s m args below meth c C hr htab
  have C : xj_C p s m args meth c G RX5 cX5_checkTurns 2 := C
  show xj_X p l e { frames := 6, cells := 1, slots := 6, locals := 90 } s m args below meth c G 2 0 0 (xt_Z G below args s q.1 q.2.2) h [some (.ref (xg_ad G k0)), some (.int a1)] 0 []
  unfold mX5_checkTurns at hR
  refine xr_iload_n C dX5_checkTurns_0 rfl ?_
  refine xr_iconst (v := 1) C dX5_checkTurns_1 (by decide) ?_
  refine xr_icmp_lt (tgt := 11) C dX5_checkTurns_2 (by decide) hR (fun hR => ?_) (fun hR => ?_)
  · exact xr_throw C hl htab th_RX5_19_252 hR (by decide) dX5_checkTurns_11 dX5_checkTurns_14 dX5_checkTurns_15 dX5_checkTurns_17 dX5_checkTurns_20 (Nat.le_of_ble_eq_true rfl) (Nat.le_of_ble_eq_true rfl) (by decide) (by decide) (by decide) (by decide)
  · refine xr_iload_n C dX5_checkTurns_5 rfl ?_
    refine xr_bipush (v := 60) C dX5_checkTurns_6 (by decide) ?_
    refine xr_icmp_le (tgt := 21) C dX5_checkTurns_8 (by decide) hR (fun hR => ?_) (fun hR => ?_)
    · exact absurd (xo_no hR) hq
    · exact xr_throw C hl htab th_RX5_19_252 hR (by decide) dX5_checkTurns_11 dX5_checkTurns_14 dX5_checkTurns_15 dX5_checkTurns_17 dX5_checkTurns_20 (Nat.le_of_ble_eq_true rfl) (Nat.le_of_ble_eq_true rfl) (by decide) (by decide) (by decide) (by decide)
end
section
def mX5_addChannel (k0 : Nat) (a1 : Int32) (h : xw_M) : Option (xw_M × Int32 × Nat) := (if a1 < (1 : Int32) then some (h, (0 : Int32), 1) else (if a1 ≤ (4 : Int32) then (if (h 0 5) < (4 : Int32) then (mX1_channelAt 0 (h 0 5) h).bind fun r1 => xo_let (xw_st r1.1 r1.2 0 a1) fun h2 => xo_let (xw_st h2 0 5 ((h2 0 5) + (1 : Int32))) fun h3 => some (h3, (h 0 5), 0) else some (h, (0 : Int32), 2)) else some (h, (0 : Int32), 1)))
set_option maxHeartbeats 4000000 in
set_option maxRecDepth 100000 in
theorem mcX5_addChannel (l : Launch) (G : xw_G) {k0 : Nat} {a1 : Int32} (hk0 : xw_kd k0 = 5) {h : xw_M} {q : xw_M × Int32 × Nat} (hR : mX5_addChannel k0 a1 h = some q) (hq : q.2.2 = 0) : xc_M l G yX5_addChannel cX5_addChannel 3 (some .int) 6 90 [.ref (xg_ad G k0), .int a1] h q.1 (some (.int q.2.1)) := by
  refine xc_of (by decide +kernel) rfl (Nat.le_of_ble_eq_true rfl) ?_
  intro p e s m args below meth c C hr
  have C : xj_C p s m args meth c G RX5 cX5_addChannel 3 := C
  show xj_X p l e { frames := 6, cells := 0, slots := 0, locals := 90 } s m args below meth c G 3 0 0 (MQ below (xw_Q G (some (.int q.2.1)) q.1) args s 0 0 (xg_A G)) h [some (.ref (xg_ad G k0)), some (.int a1), none] 0 []
  unfold mX5_addChannel at hR
  refine xr_iload_n C dX5_addChannel_0 rfl ?_
  refine xr_iconst (v := 1) C dX5_addChannel_1 (by decide) ?_
  refine xr_icmp_lt (tgt := 10) C dX5_addChannel_2 (by decide) hR (fun hR => ?_) (fun hR => ?_)
  · exact absurd ((xo_no hR).symm.trans hq) (by decide)
  · refine xr_iload_n C dX5_addChannel_5 rfl ?_
    refine xr_iconst (v := 4) C dX5_addChannel_6 (by decide) ?_
    refine xr_icmp_le (tgt := 20) C dX5_addChannel_7 (by decide) hR (fun hR => ?_) (fun hR => ?_)
    · refine xr_aload_n C dX5_addChannel_20 rfl ?_
      refine xr_get C hk0 fl_RX5_10 rfl dX5_addChannel_21 ?_
      refine xr_get C kp_5_0 fl_RX5_26 rfl dX5_addChannel_24 ?_
      refine xr_iconst (v := 4) C dX5_addChannel_27 (by decide) ?_
      refine xr_icmp_lt (tgt := 41) C dX5_addChannel_28 (by decide) hR (fun hR => ?_) (fun hR => ?_)
      · refine xr_aload_n C dX5_addChannel_41 rfl ?_
        refine xr_get C hk0 fl_RX5_10 rfl dX5_addChannel_42 ?_
        refine xr_get C kp_5_0 fl_RX5_26 rfl dX5_addChannel_45 ?_
        refine xr_istore_n C dX5_addChannel_48 rfl (by decide) ?_
        refine xr_aload_n C dX5_addChannel_49 rfl ?_
        refine xr_get C hk0 fl_RX5_10 rfl dX5_addChannel_50 ?_
        refine xr_iload_n C dX5_addChannel_53 rfl ?_
        refine xr_callVr C (st := []) [.int (h 0 5)] cv_RX5_35 kp_5_0 (fun _ zz9 => mcX1_channelAt l G kp_5_0 zz9) rfl ⟨Nat.le_of_ble_eq_true rfl, Nat.le_of_ble_eq_true rfl⟩ (Nat.le_of_ble_eq_true rfl) ⟨Nat.zero_le _, Nat.zero_le _⟩ rfl dX5_addChannel_54 hR (fun r1 hr1 hR => ?_)
        refine xr_iload_n C dX5_addChannel_57 rfl ?_
        refine xr_putL C (kr_X1_channelAt kp_5_0 hr1) fl_RX5_39 pf_0_0 dX5_addChannel_58 hR (fun h2 hR => ?_)
        refine xr_aload_n C dX5_addChannel_61 rfl ?_
        refine xr_get C hk0 fl_RX5_10 rfl dX5_addChannel_62 ?_
        refine xr_dup C dX5_addChannel_65 rfl ?_
        refine xr_get C kp_5_0 fl_RX5_26 rfl dX5_addChannel_66 ?_
        refine xr_iconst (v := 1) C dX5_addChannel_69 (by decide) ?_
        refine xr_iadd C dX5_addChannel_70 ?_
        refine xr_putL C kp_5_0 fl_RX5_26 pf_1_5 dX5_addChannel_71 hR (fun h3 hR => ?_)
        refine xr_iload_n C dX5_addChannel_74 rfl ?_
        exact xr_iretR C hr dX5_addChannel_75 hR
      · exact absurd ((xo_no hR).symm.trans hq) (by decide)
    · exact absurd ((xo_no hR).symm.trans hq) (by decide)
set_option maxHeartbeats 4000000 in
set_option maxRecDepth 100000 in
theorem mtX5_addChannel (l : Launch) (G : xw_G) (hl : l.stackTraces = false) {k0 : Nat} {a1 : Int32} (hk0 : xw_kd k0 = 5) {h : xw_M} {q : xw_M × Int32 × Nat} (hR : mX5_addChannel k0 a1 h = some q) (hq : ¬ q.2.2 = 0) : xt_M l G yX5_addChannel cX5_addChannel 3 (some .int) 6 90 [.ref (xg_ad G k0), .int a1] h q.1 q.2.2 := by
  refine xt_of (by decide +kernel) rfl (Nat.le_of_ble_eq_true rfl) ?_
  intro p e s m args below meth c C hr htab
  have C : xj_C p s m args meth c G RX5 cX5_addChannel 3 := C
  show xj_X p l e { frames := 6, cells := 1, slots := 6, locals := 90 } s m args below meth c G 3 0 0 (xt_Z G below args s q.1 q.2.2) h [some (.ref (xg_ad G k0)), some (.int a1), none] 0 []
  unfold mX5_addChannel at hR
  refine xr_iload_n C dX5_addChannel_0 rfl ?_
  refine xr_iconst (v := 1) C dX5_addChannel_1 (by decide) ?_
  refine xr_icmp_lt (tgt := 10) C dX5_addChannel_2 (by decide) hR (fun hR => ?_) (fun hR => ?_)
  · exact xr_throw C hl htab th_RX5_19_21 hR (by decide) dX5_addChannel_10 dX5_addChannel_13 dX5_addChannel_14 dX5_addChannel_16 dX5_addChannel_19 (Nat.le_of_ble_eq_true rfl) (Nat.le_of_ble_eq_true rfl) (by decide) (by decide) (by decide) (by decide)
  · refine xr_iload_n C dX5_addChannel_5 rfl ?_
    refine xr_iconst (v := 4) C dX5_addChannel_6 (by decide) ?_
    refine xr_icmp_le (tgt := 20) C dX5_addChannel_7 (by decide) hR (fun hR => ?_) (fun hR => ?_)
    · refine xr_aload_n C dX5_addChannel_20 rfl ?_
      refine xr_get C hk0 fl_RX5_10 rfl dX5_addChannel_21 ?_
      refine xr_get C kp_5_0 fl_RX5_26 rfl dX5_addChannel_24 ?_
      refine xr_iconst (v := 4) C dX5_addChannel_27 (by decide) ?_
      refine xr_icmp_lt (tgt := 41) C dX5_addChannel_28 (by decide) hR (fun hR => ?_) (fun hR => ?_)
      · refine xr_aload_n C dX5_addChannel_41 rfl ?_
        refine xr_get C hk0 fl_RX5_10 rfl dX5_addChannel_42 ?_
        refine xr_get C kp_5_0 fl_RX5_26 rfl dX5_addChannel_45 ?_
        refine xr_istore_n C dX5_addChannel_48 rfl (by decide) ?_
        refine xr_aload_n C dX5_addChannel_49 rfl ?_
        refine xr_get C hk0 fl_RX5_10 rfl dX5_addChannel_50 ?_
        refine xr_iload_n C dX5_addChannel_53 rfl ?_
        refine xr_callVr C (st := []) [.int (h 0 5)] cv_RX5_35 kp_5_0 (fun _ zz9 => mcX1_channelAt l G kp_5_0 zz9) rfl ⟨Nat.le_of_ble_eq_true rfl, Nat.le_of_ble_eq_true rfl⟩ (Nat.le_of_ble_eq_true rfl) ⟨Nat.zero_le _, Nat.zero_le _⟩ rfl dX5_addChannel_54 hR (fun r1 hr1 hR => ?_)
        refine xr_iload_n C dX5_addChannel_57 rfl ?_
        refine xr_putL C (kr_X1_channelAt kp_5_0 hr1) fl_RX5_39 pf_0_0 dX5_addChannel_58 hR (fun h2 hR => ?_)
        refine xr_aload_n C dX5_addChannel_61 rfl ?_
        refine xr_get C hk0 fl_RX5_10 rfl dX5_addChannel_62 ?_
        refine xr_dup C dX5_addChannel_65 rfl ?_
        refine xr_get C kp_5_0 fl_RX5_26 rfl dX5_addChannel_66 ?_
        refine xr_iconst (v := 1) C dX5_addChannel_69 (by decide) ?_
        refine xr_iadd C dX5_addChannel_70 ?_
        refine xr_putL C kp_5_0 fl_RX5_26 pf_1_5 dX5_addChannel_71 hR (fun h3 hR => ?_)
        refine xr_iload_n C dX5_addChannel_74 rfl ?_
        exact absurd (xo_no hR) hq
      · exact xr_throw C hl htab th_RX5_30_32 hR (by decide) dX5_addChannel_31 dX5_addChannel_34 dX5_addChannel_35 dX5_addChannel_37 dX5_addChannel_40 (Nat.le_of_ble_eq_true rfl) (Nat.le_of_ble_eq_true rfl) (by decide) (by decide) (by decide) (by decide)
    · exact xr_throw C hl htab th_RX5_19_21 hR (by decide) dX5_addChannel_10 dX5_addChannel_13 dX5_addChannel_14 dX5_addChannel_16 dX5_addChannel_19 (Nat.le_of_ble_eq_true rfl) (Nat.le_of_ble_eq_true rfl) (by decide) (by decide) (by decide) (by decide)
end
section
def mX5_addFiber (k0 : Nat) (h : xw_M) : Option (xw_M × Int32 × Nat) := (if (h 0 6) < (8 : Int32) then xo_let (xw_st h 0 6 ((h 0 6) + (1 : Int32))) fun h1 => some (h1, (h 0 6), 0) else some (h, (0 : Int32), 2))
set_option maxHeartbeats 4000000 in
set_option maxRecDepth 100000 in
theorem mcX5_addFiber (l : Launch) (G : xw_G) {k0 : Nat} (hk0 : xw_kd k0 = 5) {h : xw_M} {q : xw_M × Int32 × Nat} (hR : mX5_addFiber k0 h = some q) (hq : q.2.2 = 0) : xc_M l G yX5_addFiber cX5_addFiber 2 (some .int) 6 90 [.ref (xg_ad G k0)] h q.1 (some (.int q.2.1)) := by
  refine xc_of (by decide +kernel) rfl (Nat.le_of_ble_eq_true rfl) ?_
  intro p e s m args below meth c C hr
  have C : xj_C p s m args meth c G RX5 cX5_addFiber 2 := C
  show xj_X p l e { frames := 6, cells := 0, slots := 0, locals := 90 } s m args below meth c G 2 0 0 (MQ below (xw_Q G (some (.int q.2.1)) q.1) args s 0 0 (xg_A G)) h [some (.ref (xg_ad G k0)), none] 0 []
  unfold mX5_addFiber at hR
  refine xr_aload_n C dX5_addFiber_0 rfl ?_
  refine xr_get C hk0 fl_RX5_10 rfl dX5_addFiber_1 ?_
  refine xr_get C kp_5_0 fl_RX5_44 rfl dX5_addFiber_4 ?_
  refine xr_bipush (v := 8) C dX5_addFiber_7 (by decide) ?_
  refine xr_icmp_lt (tgt := 22) C dX5_addFiber_9 (by decide) hR (fun hR => ?_) (fun hR => ?_)
  · refine xr_aload_n C dX5_addFiber_22 rfl ?_
    refine xr_get C hk0 fl_RX5_10 rfl dX5_addFiber_23 ?_
    refine xr_get C kp_5_0 fl_RX5_44 rfl dX5_addFiber_26 ?_
    refine xr_istore_n C dX5_addFiber_29 rfl (by decide) ?_
    refine xr_aload_n C dX5_addFiber_30 rfl ?_
    refine xr_get C hk0 fl_RX5_10 rfl dX5_addFiber_31 ?_
    refine xr_dup C dX5_addFiber_34 rfl ?_
    refine xr_get C kp_5_0 fl_RX5_44 rfl dX5_addFiber_35 ?_
    refine xr_iconst (v := 1) C dX5_addFiber_38 (by decide) ?_
    refine xr_iadd C dX5_addFiber_39 ?_
    refine xr_putL C kp_5_0 fl_RX5_44 pf_1_6 dX5_addFiber_40 hR (fun h1 hR => ?_)
    refine xr_iload_n C dX5_addFiber_43 rfl ?_
    exact xr_iretR C hr dX5_addFiber_44 hR
  · exact absurd ((xo_no hR).symm.trans hq) (by decide)
set_option maxHeartbeats 4000000 in
set_option maxRecDepth 100000 in
theorem mtX5_addFiber (l : Launch) (G : xw_G) (hl : l.stackTraces = false) {k0 : Nat} (hk0 : xw_kd k0 = 5) {h : xw_M} {q : xw_M × Int32 × Nat} (hR : mX5_addFiber k0 h = some q) (hq : ¬ q.2.2 = 0) : xt_M l G yX5_addFiber cX5_addFiber 2 (some .int) 6 90 [.ref (xg_ad G k0)] h q.1 q.2.2 := by
  refine xt_of (by decide +kernel) rfl (Nat.le_of_ble_eq_true rfl) ?_
  intro p e s m args below meth c C hr htab
  have C : xj_C p s m args meth c G RX5 cX5_addFiber 2 := C
  show xj_X p l e { frames := 6, cells := 1, slots := 6, locals := 90 } s m args below meth c G 2 0 0 (xt_Z G below args s q.1 q.2.2) h [some (.ref (xg_ad G k0)), none] 0 []
  unfold mX5_addFiber at hR
  refine xr_aload_n C dX5_addFiber_0 rfl ?_
  refine xr_get C hk0 fl_RX5_10 rfl dX5_addFiber_1 ?_
  refine xr_get C kp_5_0 fl_RX5_44 rfl dX5_addFiber_4 ?_
  refine xr_bipush (v := 8) C dX5_addFiber_7 (by decide) ?_
  refine xr_icmp_lt (tgt := 22) C dX5_addFiber_9 (by decide) hR (fun hR => ?_) (fun hR => ?_)
  · refine xr_aload_n C dX5_addFiber_22 rfl ?_
    refine xr_get C hk0 fl_RX5_10 rfl dX5_addFiber_23 ?_
    refine xr_get C kp_5_0 fl_RX5_44 rfl dX5_addFiber_26 ?_
    refine xr_istore_n C dX5_addFiber_29 rfl (by decide) ?_
    refine xr_aload_n C dX5_addFiber_30 rfl ?_
    refine xr_get C hk0 fl_RX5_10 rfl dX5_addFiber_31 ?_
    refine xr_dup C dX5_addFiber_34 rfl ?_
    refine xr_get C kp_5_0 fl_RX5_44 rfl dX5_addFiber_35 ?_
    refine xr_iconst (v := 1) C dX5_addFiber_38 (by decide) ?_
    refine xr_iadd C dX5_addFiber_39 ?_
    refine xr_putL C kp_5_0 fl_RX5_44 pf_1_6 dX5_addFiber_40 hR (fun h1 hR => ?_)
    refine xr_iload_n C dX5_addFiber_43 rfl ?_
    exact absurd (xo_no hR) hq
  · exact xr_throw C hl htab th_RX5_30_47 hR (by decide) dX5_addFiber_12 dX5_addFiber_15 dX5_addFiber_16 dX5_addFiber_18 dX5_addFiber_21 (Nat.le_of_ble_eq_true rfl) (Nat.le_of_ble_eq_true rfl) (by decide) (by decide) (by decide) (by decide)
end
section
def mX5_addStep (k0 : Nat) (a1 : Int32) (a2 : Int32) (a3 : Int32) (a4 : Int32) (h : xw_M) : Option (xw_M × Int32 × Nat) := (mX5_checkFiber k0 a1 h).bind fun r1 => xo_th (0 : Int32) r1 ((mX5_isStep k0 a1 a2 a3 a4 r1.1).bind fun r2 => (if r2.2 = 0 then some (r2.1, (0 : Int32), 1) else (mX1_fiberAt 0 a1 r2.1).bind fun r3 => (if (r3.1 r3.2 7) < (12 : Int32) then (mX2_stepAt r3.2 (r3.1 r3.2 7) r3.1).bind fun r4 => (mX4_describe r4.2 a2 a3 a4 r4.1).bind fun r5 => xo_let (xw_st r5.1 r3.2 7 ((r5.1 r3.2 7) + (1 : Int32))) fun h6 => (if (h6 r3.2 1) = (5 : Int32) then (mX1_makeReady 0 r3.2 h6).bind fun r7 => some (r7.1, (r3.1 r3.2 7), 0) else some (h6, (r3.1 r3.2 7), 0)) else some (r3.1, (0 : Int32), 2))))
set_option maxHeartbeats 4000000 in
set_option maxRecDepth 100000 in
theorem mcX5_addStep (l : Launch) (G : xw_G) {k0 : Nat} {a1 : Int32} {a2 : Int32} {a3 : Int32} {a4 : Int32} (hk0 : xw_kd k0 = 5) {h : xw_M} {q : xw_M × Int32 × Nat} (hR : mX5_addStep k0 a1 a2 a3 a4 h = some q) (hq : q.2.2 = 0) : xc_M l G yX5_addStep cX5_addStep 7 (some .int) 7 111 [.ref (xg_ad G k0), .int a1, .int a2, .int a3, .int a4] h q.1 (some (.int q.2.1)) := by
  refine xc_of (by decide +kernel) rfl (Nat.le_of_ble_eq_true rfl) ?_
  intro p e s m args below meth c C hr
  have C : xj_C p s m args meth c G RX5 cX5_addStep 7 := C
  show xj_X p l e { frames := 7, cells := 0, slots := 0, locals := 111 } s m args below meth c G 7 0 0 (MQ below (xw_Q G (some (.int q.2.1)) q.1) args s 0 0 (xg_A G)) h [some (.ref (xg_ad G k0)), some (.int a1), some (.int a2), some (.int a3), some (.int a4), none, none] 0 []
  unfold mX5_addStep at hR
  refine xr_aload_n C dX5_addStep_0 rfl ?_
  refine xr_iload_n C dX5_addStep_1 rfl ?_
  refine xr_callRv C (st := []) [.int a1] hq cv_RX5_49 hk0 (fun _ zz9 zq9 => mcX5_checkFiber l G hk0 zz9 zq9) rfl ⟨Nat.le_of_ble_eq_true rfl, Nat.le_of_ble_eq_true rfl⟩ (Nat.le_of_ble_eq_true rfl) ⟨Nat.zero_le _, Nat.zero_le _⟩ rfl dX5_addStep_2 hR (fun r1 hr1 hR => ?_)
  refine xr_aload_n C dX5_addStep_5 rfl ?_
  refine xr_iload_n C dX5_addStep_6 rfl ?_
  refine xr_iload_n C dX5_addStep_7 rfl ?_
  refine xr_iload_n C dX5_addStep_8 rfl ?_
  refine xr_iload C dX5_addStep_9 rfl ?_
  refine xr_callVi C (st := []) [.int a1, .int a2, .int a3, .int a4] cv_RX5_53 hk0 (fun _ zz9 => mcX5_isStep l G hk0 zz9) rfl ⟨Nat.le_of_ble_eq_true rfl, Nat.le_of_ble_eq_true rfl⟩ (Nat.le_of_ble_eq_true rfl) ⟨Nat.zero_le _, Nat.zero_le _⟩ rfl dX5_addStep_11 hR (fun r2 hr2 hR => ?_)
  refine xr_if_ne (tgt := 27) C dX5_addStep_14 (by decide) hR (fun hR => ?_) (fun hR => ?_)
  · refine xr_aload_n C dX5_addStep_27 rfl ?_
    refine xr_get C hk0 fl_RX5_10 rfl dX5_addStep_28 ?_
    refine xr_iload_n C dX5_addStep_31 rfl ?_
    refine xr_callVr C (st := []) [.int a1] cv_RX5_59 kp_5_0 (fun _ zz9 => mcX1_fiberAt l G kp_5_0 zz9) rfl ⟨Nat.le_of_ble_eq_true rfl, Nat.le_of_ble_eq_true rfl⟩ (Nat.le_of_ble_eq_true rfl) ⟨Nat.zero_le _, Nat.zero_le _⟩ rfl dX5_addStep_32 hR (fun r3 hr3 hR => ?_)
    refine xr_astore C dX5_addStep_35 rfl (by decide) ?_
    refine xr_aload C dX5_addStep_37 rfl ?_
    refine xr_get C (kr_X1_fiberAt kp_5_0 hr3) fl_RX5_63 rfl dX5_addStep_39 ?_
    refine xr_bipush (v := 12) C dX5_addStep_42 (by decide) ?_
    refine xr_icmp_lt (tgt := 57) C dX5_addStep_44 (by decide) hR (fun hR => ?_) (fun hR => ?_)
    · refine xr_aload C dX5_addStep_57 rfl ?_
      refine xr_get C (kr_X1_fiberAt kp_5_0 hr3) fl_RX5_63 rfl dX5_addStep_59 ?_
      refine xr_istore C dX5_addStep_62 rfl (by decide) ?_
      refine xr_aload C dX5_addStep_64 rfl ?_
      refine xr_iload C dX5_addStep_66 rfl ?_
      refine xr_callVr C (st := []) [.int (r3.1 r3.2 7)] cv_RX5_70 (kr_X1_fiberAt kp_5_0 hr3) (fun _ zz9 => mcX2_stepAt l G (kr_X1_fiberAt kp_5_0 hr3) zz9) rfl ⟨Nat.le_of_ble_eq_true rfl, Nat.le_of_ble_eq_true rfl⟩ (Nat.le_of_ble_eq_true rfl) ⟨Nat.zero_le _, Nat.zero_le _⟩ rfl dX5_addStep_68 hR (fun r4 hr4 hR => ?_)
      refine xr_iload_n C dX5_addStep_71 rfl ?_
      refine xr_iload_n C dX5_addStep_72 rfl ?_
      refine xr_iload C dX5_addStep_73 rfl ?_
      refine xr_callVv C (st := []) [.int a2, .int a3, .int a4] cv_RX5_74 (kr_X2_stepAt (kr_X1_fiberAt kp_5_0 hr3) hr4) (fun _ zz9 => mcX4_describe l G (kr_X2_stepAt (kr_X1_fiberAt kp_5_0 hr3) hr4) zz9) rfl ⟨Nat.le_of_ble_eq_true rfl, Nat.le_of_ble_eq_true rfl⟩ (Nat.le_of_ble_eq_true rfl) ⟨Nat.zero_le _, Nat.zero_le _⟩ rfl dX5_addStep_75 hR (fun r5 hr5 hR => ?_)
      refine xr_aload C dX5_addStep_78 rfl ?_
      refine xr_dup C dX5_addStep_80 rfl ?_
      refine xr_get C (kr_X1_fiberAt kp_5_0 hr3) fl_RX5_63 rfl dX5_addStep_81 ?_
      refine xr_iconst (v := 1) C dX5_addStep_84 (by decide) ?_
      refine xr_iadd C dX5_addStep_85 ?_
      refine xr_putL C (kr_X1_fiberAt kp_5_0 hr3) fl_RX5_63 pf_2_7 dX5_addStep_86 hR (fun h6 hR => ?_)
      refine xr_aload C dX5_addStep_89 rfl ?_
      refine xr_get C (kr_X1_fiberAt kp_5_0 hr3) fl_RX5_80 rfl dX5_addStep_91 ?_
      refine xr_iconst (v := 5) C dX5_addStep_94 (by decide) ?_
      refine xr_icmp_ne (tgt := 107) C dX5_addStep_95 (by decide) hR (fun hR => ?_) (fun hR => ?_)
      · refine xr_iload C dX5_addStep_107 rfl ?_
        exact xr_iretR C hr dX5_addStep_109 hR
      · refine xr_aload_n C dX5_addStep_98 rfl ?_
        refine xr_get C hk0 fl_RX5_10 rfl dX5_addStep_99 ?_
        refine xr_aload C dX5_addStep_102 rfl ?_
        refine xr_callVv C (st := []) [.ref (xg_ad G r3.2)] cv_RX5_83 kp_5_0 (fun _ zz9 => mcX1_makeReady l G kp_5_0 (kr_X1_fiberAt kp_5_0 hr3) zz9) rfl ⟨Nat.le_of_ble_eq_true rfl, Nat.le_of_ble_eq_true rfl⟩ (Nat.le_of_ble_eq_true rfl) ⟨Nat.zero_le _, Nat.zero_le _⟩ rfl dX5_addStep_104 hR (fun r7 hr7 hR => ?_)
        refine xr_iload C dX5_addStep_107 rfl ?_
        exact xr_iretR C hr dX5_addStep_109 hR
    · exact absurd ((xo_no hR).symm.trans hq) (by decide)
  · exact absurd ((xo_no hR).symm.trans hq) (by decide)
set_option maxHeartbeats 4000000 in
set_option maxRecDepth 100000 in
theorem mtX5_addStep (l : Launch) (G : xw_G) (hl : l.stackTraces = false) {k0 : Nat} {a1 : Int32} {a2 : Int32} {a3 : Int32} {a4 : Int32} (hk0 : xw_kd k0 = 5) {h : xw_M} {q : xw_M × Int32 × Nat} (hR : mX5_addStep k0 a1 a2 a3 a4 h = some q) (hq : ¬ q.2.2 = 0) : xt_M l G yX5_addStep cX5_addStep 7 (some .int) 7 111 [.ref (xg_ad G k0), .int a1, .int a2, .int a3, .int a4] h q.1 q.2.2 := by
  refine xt_of (by decide +kernel) rfl (Nat.le_of_ble_eq_true rfl) ?_
  intro p e s m args below meth c C hr htab
  have C : xj_C p s m args meth c G RX5 cX5_addStep 7 := C
  show xj_X p l e { frames := 7, cells := 1, slots := 6, locals := 111 } s m args below meth c G 7 0 0 (xt_Z G below args s q.1 q.2.2) h [some (.ref (xg_ad G k0)), some (.int a1), some (.int a2), some (.int a3), some (.int a4), none, none] 0 []
  unfold mX5_addStep at hR
  refine xr_aload_n C dX5_addStep_0 rfl ?_
  refine xr_iload_n C dX5_addStep_1 rfl ?_
  refine xr_callTv C htab (st := []) [.int a1] cv_RX5_49 hk0 (fun _ zz9 zq9 => mcX5_checkFiber l G hk0 zz9 zq9) (fun _ zz9 zq9 => mtX5_checkFiber l G hl hk0 zz9 zq9) rfl ⟨Nat.le_of_ble_eq_true rfl, Nat.le_of_ble_eq_true rfl⟩ (Nat.le_of_ble_eq_true rfl) ⟨by decide, by decide⟩ (by decide) (by decide) rfl dX5_addStep_2 hR (fun r1 hr1 hR => ?_)
  refine xr_aload_n C dX5_addStep_5 rfl ?_
  refine xr_iload_n C dX5_addStep_6 rfl ?_
  refine xr_iload_n C dX5_addStep_7 rfl ?_
  refine xr_iload_n C dX5_addStep_8 rfl ?_
  refine xr_iload C dX5_addStep_9 rfl ?_
  refine xr_callVi C (st := []) [.int a1, .int a2, .int a3, .int a4] cv_RX5_53 hk0 (fun _ zz9 => mcX5_isStep l G hk0 zz9) rfl ⟨Nat.le_of_ble_eq_true rfl, Nat.le_of_ble_eq_true rfl⟩ (Nat.le_of_ble_eq_true rfl) ⟨Nat.zero_le _, Nat.zero_le _⟩ rfl dX5_addStep_11 hR (fun r2 hr2 hR => ?_)
  refine xr_if_ne (tgt := 27) C dX5_addStep_14 (by decide) hR (fun hR => ?_) (fun hR => ?_)
  · refine xr_aload_n C dX5_addStep_27 rfl ?_
    refine xr_get C hk0 fl_RX5_10 rfl dX5_addStep_28 ?_
    refine xr_iload_n C dX5_addStep_31 rfl ?_
    refine xr_callVr C (st := []) [.int a1] cv_RX5_59 kp_5_0 (fun _ zz9 => mcX1_fiberAt l G kp_5_0 zz9) rfl ⟨Nat.le_of_ble_eq_true rfl, Nat.le_of_ble_eq_true rfl⟩ (Nat.le_of_ble_eq_true rfl) ⟨Nat.zero_le _, Nat.zero_le _⟩ rfl dX5_addStep_32 hR (fun r3 hr3 hR => ?_)
    refine xr_astore C dX5_addStep_35 rfl (by decide) ?_
    refine xr_aload C dX5_addStep_37 rfl ?_
    refine xr_get C (kr_X1_fiberAt kp_5_0 hr3) fl_RX5_63 rfl dX5_addStep_39 ?_
    refine xr_bipush (v := 12) C dX5_addStep_42 (by decide) ?_
    refine xr_icmp_lt (tgt := 57) C dX5_addStep_44 (by decide) hR (fun hR => ?_) (fun hR => ?_)
    · refine xr_aload C dX5_addStep_57 rfl ?_
      refine xr_get C (kr_X1_fiberAt kp_5_0 hr3) fl_RX5_63 rfl dX5_addStep_59 ?_
      refine xr_istore C dX5_addStep_62 rfl (by decide) ?_
      refine xr_aload C dX5_addStep_64 rfl ?_
      refine xr_iload C dX5_addStep_66 rfl ?_
      refine xr_callVr C (st := []) [.int (r3.1 r3.2 7)] cv_RX5_70 (kr_X1_fiberAt kp_5_0 hr3) (fun _ zz9 => mcX2_stepAt l G (kr_X1_fiberAt kp_5_0 hr3) zz9) rfl ⟨Nat.le_of_ble_eq_true rfl, Nat.le_of_ble_eq_true rfl⟩ (Nat.le_of_ble_eq_true rfl) ⟨Nat.zero_le _, Nat.zero_le _⟩ rfl dX5_addStep_68 hR (fun r4 hr4 hR => ?_)
      refine xr_iload_n C dX5_addStep_71 rfl ?_
      refine xr_iload_n C dX5_addStep_72 rfl ?_
      refine xr_iload C dX5_addStep_73 rfl ?_
      refine xr_callVv C (st := []) [.int a2, .int a3, .int a4] cv_RX5_74 (kr_X2_stepAt (kr_X1_fiberAt kp_5_0 hr3) hr4) (fun _ zz9 => mcX4_describe l G (kr_X2_stepAt (kr_X1_fiberAt kp_5_0 hr3) hr4) zz9) rfl ⟨Nat.le_of_ble_eq_true rfl, Nat.le_of_ble_eq_true rfl⟩ (Nat.le_of_ble_eq_true rfl) ⟨Nat.zero_le _, Nat.zero_le _⟩ rfl dX5_addStep_75 hR (fun r5 hr5 hR => ?_)
      refine xr_aload C dX5_addStep_78 rfl ?_
      refine xr_dup C dX5_addStep_80 rfl ?_
      refine xr_get C (kr_X1_fiberAt kp_5_0 hr3) fl_RX5_63 rfl dX5_addStep_81 ?_
      refine xr_iconst (v := 1) C dX5_addStep_84 (by decide) ?_
      refine xr_iadd C dX5_addStep_85 ?_
      refine xr_putL C (kr_X1_fiberAt kp_5_0 hr3) fl_RX5_63 pf_2_7 dX5_addStep_86 hR (fun h6 hR => ?_)
      refine xr_aload C dX5_addStep_89 rfl ?_
      refine xr_get C (kr_X1_fiberAt kp_5_0 hr3) fl_RX5_80 rfl dX5_addStep_91 ?_
      refine xr_iconst (v := 5) C dX5_addStep_94 (by decide) ?_
      refine xr_icmp_ne (tgt := 107) C dX5_addStep_95 (by decide) hR (fun hR => ?_) (fun hR => ?_)
      · refine xr_iload C dX5_addStep_107 rfl ?_
        exact absurd (xo_no hR) hq
      · refine xr_aload_n C dX5_addStep_98 rfl ?_
        refine xr_get C hk0 fl_RX5_10 rfl dX5_addStep_99 ?_
        refine xr_aload C dX5_addStep_102 rfl ?_
        refine xr_callVv C (st := []) [.ref (xg_ad G r3.2)] cv_RX5_83 kp_5_0 (fun _ zz9 => mcX1_makeReady l G kp_5_0 (kr_X1_fiberAt kp_5_0 hr3) zz9) rfl ⟨Nat.le_of_ble_eq_true rfl, Nat.le_of_ble_eq_true rfl⟩ (Nat.le_of_ble_eq_true rfl) ⟨Nat.zero_le _, Nat.zero_le _⟩ rfl dX5_addStep_104 hR (fun r7 hr7 hR => ?_)
        refine xr_iload C dX5_addStep_107 rfl ?_
        exact absurd (xo_no hR) hq
    · exact xr_throw C hl htab th_RX5_30_68 hR (by decide) dX5_addStep_47 dX5_addStep_50 dX5_addStep_51 dX5_addStep_53 dX5_addStep_56 (Nat.le_of_ble_eq_true rfl) (Nat.le_of_ble_eq_true rfl) (by decide) (by decide) (by decide) (by decide)
  · exact xr_throw C hl htab th_RX5_19_57 hR (by decide) dX5_addStep_17 dX5_addStep_20 dX5_addStep_21 dX5_addStep_23 dX5_addStep_26 (Nat.le_of_ble_eq_true rfl) (Nat.le_of_ble_eq_true rfl) (by decide) (by decide) (by decide) (by decide)
end
section
def mX5_pour (k0 : Nat) (a1 : Int32) (a2 : Int32) (h : xw_M) : Option (xw_M × Int32 × Nat) := (mX5_checkChannel k0 a1 h).bind fun r1 => xo_th (0 : Int32) r1 ((mX5_isValue k0 a2 r1.1).bind fun r2 => (if r2.2 = 0 then some (r2.1, (0 : Int32), 1) else (mX1_channelAt 0 a1 r2.1).bind fun r3 => (mX0_hasRoom r3.2 r3.1).bind fun r4 => (if r4.2 = 0 then some (r4.1, (0 : Int32), 2) else (mX3_addLast (r3.2 + 1) a2 r4.1).bind fun r5 => (mX1_wakeFirst 0 (r3.2 + 5) r5.1).bind fun r6 => some (r6.1, (r6.1 (r3.2 + 1) 1), 0))))
set_option maxHeartbeats 4000000 in
set_option maxRecDepth 100000 in
theorem mcX5_pour (l : Launch) (G : xw_G) {k0 : Nat} {a1 : Int32} {a2 : Int32} (hk0 : xw_kd k0 = 5) {h : xw_M} {q : xw_M × Int32 × Nat} (hR : mX5_pour k0 a1 a2 h = some q) (hq : q.2.2 = 0) : xc_M l G yX5_pour cX5_pour 4 (some .int) 7 111 [.ref (xg_ad G k0), .int a1, .int a2] h q.1 (some (.int q.2.1)) := by
  refine xc_of (by decide +kernel) rfl (Nat.le_of_ble_eq_true rfl) ?_
  intro p e s m args below meth c C hr
  have C : xj_C p s m args meth c G RX5 cX5_pour 4 := C
  show xj_X p l e { frames := 7, cells := 0, slots := 0, locals := 111 } s m args below meth c G 4 0 0 (MQ below (xw_Q G (some (.int q.2.1)) q.1) args s 0 0 (xg_A G)) h [some (.ref (xg_ad G k0)), some (.int a1), some (.int a2), none] 0 []
  unfold mX5_pour at hR
  refine xr_aload_n C dX5_pour_0 rfl ?_
  refine xr_iload_n C dX5_pour_1 rfl ?_
  refine xr_callRv C (st := []) [.int a1] hq cv_RX5_87 hk0 (fun _ zz9 zq9 => mcX5_checkChannel l G hk0 zz9 zq9) rfl ⟨Nat.le_of_ble_eq_true rfl, Nat.le_of_ble_eq_true rfl⟩ (Nat.le_of_ble_eq_true rfl) ⟨Nat.zero_le _, Nat.zero_le _⟩ rfl dX5_pour_2 hR (fun r1 hr1 hR => ?_)
  refine xr_aload_n C dX5_pour_5 rfl ?_
  refine xr_iload_n C dX5_pour_6 rfl ?_
  refine xr_callVi C (st := []) [.int a2] cv_RX5_90 hk0 (fun _ zz9 => mcX5_isValue l G hk0 zz9) rfl ⟨Nat.le_of_ble_eq_true rfl, Nat.le_of_ble_eq_true rfl⟩ (Nat.le_of_ble_eq_true rfl) ⟨Nat.zero_le _, Nat.zero_le _⟩ rfl dX5_pour_7 hR (fun r2 hr2 hR => ?_)
  refine xr_if_ne (tgt := 23) C dX5_pour_10 (by decide) hR (fun hR => ?_) (fun hR => ?_)
  · refine xr_aload_n C dX5_pour_23 rfl ?_
    refine xr_get C hk0 fl_RX5_10 rfl dX5_pour_24 ?_
    refine xr_iload_n C dX5_pour_27 rfl ?_
    refine xr_callVr C (st := []) [.int a1] cv_RX5_35 kp_5_0 (fun _ zz9 => mcX1_channelAt l G kp_5_0 zz9) rfl ⟨Nat.le_of_ble_eq_true rfl, Nat.le_of_ble_eq_true rfl⟩ (Nat.le_of_ble_eq_true rfl) ⟨Nat.zero_le _, Nat.zero_le _⟩ rfl dX5_pour_28 hR (fun r3 hr3 hR => ?_)
    refine xr_astore_n C dX5_pour_31 rfl (by decide) ?_
    refine xr_aload_n C dX5_pour_32 rfl ?_
    refine xr_callVi C (st := []) [] cv_RX5_96 (kr_X1_channelAt kp_5_0 hr3) (fun _ zz9 => mcX0_hasRoom l G (kr_X1_channelAt kp_5_0 hr3) zz9) rfl ⟨Nat.le_of_ble_eq_true rfl, Nat.le_of_ble_eq_true rfl⟩ (Nat.le_of_ble_eq_true rfl) ⟨Nat.zero_le _, Nat.zero_le _⟩ rfl dX5_pour_33 hR (fun r4 hr4 hR => ?_)
    refine xr_if_ne (tgt := 49) C dX5_pour_36 (by decide) hR (fun hR => ?_) (fun hR => ?_)
    · refine xr_aload_n C dX5_pour_49 rfl ?_
      refine xr_get C (kr_X1_channelAt kp_5_0 hr3) fl_RX5_102 rfl dX5_pour_50 ?_
      refine xr_iload_n C dX5_pour_53 rfl ?_
      refine xr_callVv C (st := []) [.int a2] cv_RX5_106 (kp_0_1 (kr_X1_channelAt kp_5_0 hr3)) (fun _ zz9 => mcX3_addLast l G (kp_0_1 (kr_X1_channelAt kp_5_0 hr3)) zz9) rfl ⟨Nat.le_of_ble_eq_true rfl, Nat.le_of_ble_eq_true rfl⟩ (Nat.le_of_ble_eq_true rfl) ⟨Nat.zero_le _, Nat.zero_le _⟩ rfl dX5_pour_54 hR (fun r5 hr5 hR => ?_)
      refine xr_aload_n C dX5_pour_57 rfl ?_
      refine xr_get C hk0 fl_RX5_10 rfl dX5_pour_58 ?_
      refine xr_aload_n C dX5_pour_61 rfl ?_
      refine xr_get C (kr_X1_channelAt kp_5_0 hr3) fl_RX5_111 rfl dX5_pour_62 ?_
      refine xr_callVv C (st := []) [.ref (xg_ad G (r3.2 + 5))] cv_RX5_114 kp_5_0 (fun _ zz9 => mcX1_wakeFirst l G kp_5_0 (kp_0_3 (kr_X1_channelAt kp_5_0 hr3)) zz9) rfl ⟨Nat.le_of_ble_eq_true rfl, Nat.le_of_ble_eq_true rfl⟩ (Nat.le_of_ble_eq_true rfl) ⟨Nat.zero_le _, Nat.zero_le _⟩ rfl dX5_pour_65 hR (fun r6 hr6 hR => ?_)
      refine xr_aload_n C dX5_pour_68 rfl ?_
      refine xr_get C (kr_X1_channelAt kp_5_0 hr3) fl_RX5_102 rfl dX5_pour_69 ?_
      refine xr_get C (kp_0_1 (kr_X1_channelAt kp_5_0 hr3)) fl_RX5_118 rfl dX5_pour_72 ?_
      exact xr_iretR C hr dX5_pour_75 hR
    · exact absurd ((xo_no hR).symm.trans hq) (by decide)
  · exact absurd ((xo_no hR).symm.trans hq) (by decide)
set_option maxHeartbeats 4000000 in
set_option maxRecDepth 100000 in
theorem mtX5_pour (l : Launch) (G : xw_G) (hl : l.stackTraces = false) {k0 : Nat} {a1 : Int32} {a2 : Int32} (hk0 : xw_kd k0 = 5) {h : xw_M} {q : xw_M × Int32 × Nat} (hR : mX5_pour k0 a1 a2 h = some q) (hq : ¬ q.2.2 = 0) : xt_M l G yX5_pour cX5_pour 4 (some .int) 7 111 [.ref (xg_ad G k0), .int a1, .int a2] h q.1 q.2.2 := by
  refine xt_of (by decide +kernel) rfl (Nat.le_of_ble_eq_true rfl) ?_
  intro p e s m args below meth c C hr htab
  have C : xj_C p s m args meth c G RX5 cX5_pour 4 := C
  show xj_X p l e { frames := 7, cells := 1, slots := 6, locals := 111 } s m args below meth c G 4 0 0 (xt_Z G below args s q.1 q.2.2) h [some (.ref (xg_ad G k0)), some (.int a1), some (.int a2), none] 0 []
  unfold mX5_pour at hR
  refine xr_aload_n C dX5_pour_0 rfl ?_
  refine xr_iload_n C dX5_pour_1 rfl ?_
  refine xr_callTv C htab (st := []) [.int a1] cv_RX5_87 hk0 (fun _ zz9 zq9 => mcX5_checkChannel l G hk0 zz9 zq9) (fun _ zz9 zq9 => mtX5_checkChannel l G hl hk0 zz9 zq9) rfl ⟨Nat.le_of_ble_eq_true rfl, Nat.le_of_ble_eq_true rfl⟩ (Nat.le_of_ble_eq_true rfl) ⟨by decide, by decide⟩ (by decide) (by decide) rfl dX5_pour_2 hR (fun r1 hr1 hR => ?_)
  refine xr_aload_n C dX5_pour_5 rfl ?_
  refine xr_iload_n C dX5_pour_6 rfl ?_
  refine xr_callVi C (st := []) [.int a2] cv_RX5_90 hk0 (fun _ zz9 => mcX5_isValue l G hk0 zz9) rfl ⟨Nat.le_of_ble_eq_true rfl, Nat.le_of_ble_eq_true rfl⟩ (Nat.le_of_ble_eq_true rfl) ⟨Nat.zero_le _, Nat.zero_le _⟩ rfl dX5_pour_7 hR (fun r2 hr2 hR => ?_)
  refine xr_if_ne (tgt := 23) C dX5_pour_10 (by decide) hR (fun hR => ?_) (fun hR => ?_)
  · refine xr_aload_n C dX5_pour_23 rfl ?_
    refine xr_get C hk0 fl_RX5_10 rfl dX5_pour_24 ?_
    refine xr_iload_n C dX5_pour_27 rfl ?_
    refine xr_callVr C (st := []) [.int a1] cv_RX5_35 kp_5_0 (fun _ zz9 => mcX1_channelAt l G kp_5_0 zz9) rfl ⟨Nat.le_of_ble_eq_true rfl, Nat.le_of_ble_eq_true rfl⟩ (Nat.le_of_ble_eq_true rfl) ⟨Nat.zero_le _, Nat.zero_le _⟩ rfl dX5_pour_28 hR (fun r3 hr3 hR => ?_)
    refine xr_astore_n C dX5_pour_31 rfl (by decide) ?_
    refine xr_aload_n C dX5_pour_32 rfl ?_
    refine xr_callVi C (st := []) [] cv_RX5_96 (kr_X1_channelAt kp_5_0 hr3) (fun _ zz9 => mcX0_hasRoom l G (kr_X1_channelAt kp_5_0 hr3) zz9) rfl ⟨Nat.le_of_ble_eq_true rfl, Nat.le_of_ble_eq_true rfl⟩ (Nat.le_of_ble_eq_true rfl) ⟨Nat.zero_le _, Nat.zero_le _⟩ rfl dX5_pour_33 hR (fun r4 hr4 hR => ?_)
    refine xr_if_ne (tgt := 49) C dX5_pour_36 (by decide) hR (fun hR => ?_) (fun hR => ?_)
    · refine xr_aload_n C dX5_pour_49 rfl ?_
      refine xr_get C (kr_X1_channelAt kp_5_0 hr3) fl_RX5_102 rfl dX5_pour_50 ?_
      refine xr_iload_n C dX5_pour_53 rfl ?_
      refine xr_callVv C (st := []) [.int a2] cv_RX5_106 (kp_0_1 (kr_X1_channelAt kp_5_0 hr3)) (fun _ zz9 => mcX3_addLast l G (kp_0_1 (kr_X1_channelAt kp_5_0 hr3)) zz9) rfl ⟨Nat.le_of_ble_eq_true rfl, Nat.le_of_ble_eq_true rfl⟩ (Nat.le_of_ble_eq_true rfl) ⟨Nat.zero_le _, Nat.zero_le _⟩ rfl dX5_pour_54 hR (fun r5 hr5 hR => ?_)
      refine xr_aload_n C dX5_pour_57 rfl ?_
      refine xr_get C hk0 fl_RX5_10 rfl dX5_pour_58 ?_
      refine xr_aload_n C dX5_pour_61 rfl ?_
      refine xr_get C (kr_X1_channelAt kp_5_0 hr3) fl_RX5_111 rfl dX5_pour_62 ?_
      refine xr_callVv C (st := []) [.ref (xg_ad G (r3.2 + 5))] cv_RX5_114 kp_5_0 (fun _ zz9 => mcX1_wakeFirst l G kp_5_0 (kp_0_3 (kr_X1_channelAt kp_5_0 hr3)) zz9) rfl ⟨Nat.le_of_ble_eq_true rfl, Nat.le_of_ble_eq_true rfl⟩ (Nat.le_of_ble_eq_true rfl) ⟨Nat.zero_le _, Nat.zero_le _⟩ rfl dX5_pour_65 hR (fun r6 hr6 hR => ?_)
      refine xr_aload_n C dX5_pour_68 rfl ?_
      refine xr_get C (kr_X1_channelAt kp_5_0 hr3) fl_RX5_102 rfl dX5_pour_69 ?_
      refine xr_get C (kp_0_1 (kr_X1_channelAt kp_5_0 hr3)) fl_RX5_118 rfl dX5_pour_72 ?_
      exact absurd (xo_no hR) hq
    · exact xr_throw C hl htab th_RX5_30_100 hR (by decide) dX5_pour_39 dX5_pour_42 dX5_pour_43 dX5_pour_45 dX5_pour_48 (Nat.le_of_ble_eq_true rfl) (Nat.le_of_ble_eq_true rfl) (by decide) (by decide) (by decide) (by decide)
  · exact xr_throw C hl htab th_RX5_19_94 hR (by decide) dX5_pour_13 dX5_pour_16 dX5_pour_17 dX5_pour_19 dX5_pour_22 (Nat.le_of_ble_eq_true rfl) (Nat.le_of_ble_eq_true rfl) (by decide) (by decide) (by decide) (by decide)
end
section
def mX5_run_b15  (k0 : Nat) (a1 : Int32) (a2 : Int32) : Nat → xw_M → Int32 → Option (xw_M × Int32 × Nat)
  | 0, _, _ => none
  | n + 1, h, a3 => (if a1 ≤ a3 then some (h, ((h 0 8) - a2), 0) else (mX1_letTurnGoBy 0 h).bind fun r2 => mX5_run_b15  k0 a1 a2 n r2.1 ((a3 + 1)))
def mX5_run (k0 : Nat) (a1 : Int32) (h : xw_M) : Option (xw_M × Int32 × Nat) := (mX5_checkTurns k0 a1 h).bind fun r1 => xo_th (0 : Int32) r1 (mX5_run_b15  (k0) (a1) ((r1.1 0 8)) xo_n r1.1 ((0 : Int32)))
set_option maxHeartbeats 4000000 in
set_option maxRecDepth 100000 in
theorem mbX5_run_b15 {p : Program} {l : Launch} {e : Env} {s : State} {m : MethodId} {args : Array Value} {below : List Frame} {meth : Method} {c : Code} {G : xw_G} (C : xj_C p s m args meth c G RX5 cX5_run 4) (hr : meth.sig.returnType = (some .int)) {q : xw_M × Int32 × Nat} (hq : q.2.2 = 0) {k0 : Nat} {a1 : Int32} {a2 : Int32}  (hk0 : xw_kd k0 = 5) : ∀ (n : Nat) (h : xw_M) (a3 : Int32), mX5_run_b15  k0 a1 a2 n h a3 = some q → xj_X p l e { frames := 7, cells := 0, slots := 0, locals := 113 } s m args below meth c G 4 0 0 (MQ below (xw_Q G (some (.int q.2.1)) q.1) args s 0 0 (xg_A G)) h [some (.ref (xg_ad G k0)), some (.int a1), some (.int a2), some (.int a3)] 15 [] := by
  intro n
  induction n with
  | zero => intro h a3 hR; exact absurd (show (none : Option (xw_M × Int32 × Nat)) = some q from hR) (fun z => by cases z)
  | succ n ih =>
    intro h a3 hR
    rw [mX5_run_b15.eq_2] at hR
    refine xr_iload_n C dX5_run_15 rfl ?_
    refine xr_iload_n C dX5_run_16 rfl ?_
    refine xr_icmp_ge (tgt := 33) C dX5_run_17 (by decide) hR (fun hR => ?_) (fun hR => ?_)
    · refine xr_aload_n C dX5_run_33 rfl ?_
      refine xr_get C hk0 fl_RX5_10 rfl dX5_run_34 ?_
      refine xr_get C kp_5_0 fl_RX5_124 rfl dX5_run_37 ?_
      refine xr_iload_n C dX5_run_40 rfl ?_
      refine xr_isub C dX5_run_41 ?_
      exact xr_iretR C hr dX5_run_42 hR
    · refine xr_aload_n C dX5_run_20 rfl ?_
      refine xr_get C hk0 fl_RX5_10 rfl dX5_run_21 ?_
      refine xr_callVv C (st := []) [] cv_RX5_127 kp_5_0 (fun _ zz9 => mcX1_letTurnGoBy l G kp_5_0 zz9) rfl ⟨Nat.le_of_ble_eq_true rfl, Nat.le_of_ble_eq_true rfl⟩ (Nat.le_of_ble_eq_true rfl) ⟨Nat.zero_le _, Nat.zero_le _⟩ rfl dX5_run_24 hR (fun r2 hr2 hR => ?_)
      refine xr_iinc (v := 1) C dX5_run_27 rfl (by decide) rfl (by decide) ?_
      refine xr_goto (tgt := 15) C dX5_run_30 (by decide) ?_
      exact xr_sub (lv9 := [some (.ref (xg_ad G k0)), some (.int a1), some (.int a2), some (.int (a3 + 1))]) (And.intro rfl (And.intro rfl (And.intro rfl (And.intro rfl trivial)))) (ih _ _  hR)
set_option maxHeartbeats 4000000 in
set_option maxRecDepth 100000 in
theorem mcX5_run (l : Launch) (G : xw_G) {k0 : Nat} {a1 : Int32} (hk0 : xw_kd k0 = 5) {h : xw_M} {q : xw_M × Int32 × Nat} (hR : mX5_run k0 a1 h = some q) (hq : q.2.2 = 0) : xc_M l G yX5_run cX5_run 4 (some .int) 7 113 [.ref (xg_ad G k0), .int a1] h q.1 (some (.int q.2.1)) := by
  refine xc_of (by decide +kernel) rfl (Nat.le_of_ble_eq_true rfl) ?_
  intro p e s m args below meth c C hr
  have C : xj_C p s m args meth c G RX5 cX5_run 4 := C
  show xj_X p l e { frames := 7, cells := 0, slots := 0, locals := 113 } s m args below meth c G 4 0 0 (MQ below (xw_Q G (some (.int q.2.1)) q.1) args s 0 0 (xg_A G)) h [some (.ref (xg_ad G k0)), some (.int a1), none, none] 0 []
  unfold mX5_run at hR
  refine xr_aload_n C dX5_run_0 rfl ?_
  refine xr_iload_n C dX5_run_1 rfl ?_
  refine xr_callRv C (st := []) [.int a1] hq cv_RX5_121 hk0 (fun _ zz9 zq9 => mcX5_checkTurns l G hk0 zz9 zq9) rfl ⟨Nat.le_of_ble_eq_true rfl, Nat.le_of_ble_eq_true rfl⟩ (Nat.le_of_ble_eq_true rfl) ⟨Nat.zero_le _, Nat.zero_le _⟩ rfl dX5_run_2 hR (fun r1 hr1 hR => ?_)
  refine xr_aload_n C dX5_run_5 rfl ?_
  refine xr_get C hk0 fl_RX5_10 rfl dX5_run_6 ?_
  refine xr_get C kp_5_0 fl_RX5_124 rfl dX5_run_9 ?_
  refine xr_istore_n C dX5_run_12 rfl (by decide) ?_
  refine xr_iconst (v := 0) C dX5_run_13 (by decide) ?_
  refine xr_istore_n C dX5_run_14 rfl (by decide) ?_
  exact xr_sub (lv9 := [some (.ref (xg_ad G k0)), some (.int a1), some (.int (r1.1 0 8)), some (.int (0 : Int32))]) (And.intro rfl (And.intro rfl (And.intro rfl (And.intro rfl trivial)))) (mbX5_run_b15 C hr hq  hk0 _ _ _  hR)
set_option maxHeartbeats 4000000 in
set_option maxRecDepth 100000 in
theorem mbTX5_run_b15 {p : Program} {l : Launch} {e : Env} {s : State} {m : MethodId} {args : Array Value} {below : List Frame} {meth : Method} {c : Code} {G : xw_G} (C : xj_C p s m args meth c G RX5 cX5_run 4) (hr : meth.sig.returnType = (some .int)) {q : xw_M × Int32 × Nat} (hq : ¬ q.2.2 = 0) (hl : l.stackTraces = false) (htab : ∀ x ∈ c.exceptionTable.toList, False) {k0 : Nat} {a1 : Int32} {a2 : Int32}  (hk0 : xw_kd k0 = 5) : ∀ (n : Nat) (h : xw_M) (a3 : Int32), mX5_run_b15  k0 a1 a2 n h a3 = some q → xj_X p l e { frames := 7, cells := 1, slots := 6, locals := 113 } s m args below meth c G 4 0 0 (xt_Z G below args s q.1 q.2.2) h [some (.ref (xg_ad G k0)), some (.int a1), some (.int a2), some (.int a3)] 15 [] := by
  intro n
  induction n with
  | zero => intro h a3 hR; exact absurd (show (none : Option (xw_M × Int32 × Nat)) = some q from hR) (fun z => by cases z)
  | succ n ih =>
    intro h a3 hR
    rw [mX5_run_b15.eq_2] at hR
    refine xr_iload_n C dX5_run_15 rfl ?_
    refine xr_iload_n C dX5_run_16 rfl ?_
    refine xr_icmp_ge (tgt := 33) C dX5_run_17 (by decide) hR (fun hR => ?_) (fun hR => ?_)
    · refine xr_aload_n C dX5_run_33 rfl ?_
      refine xr_get C hk0 fl_RX5_10 rfl dX5_run_34 ?_
      refine xr_get C kp_5_0 fl_RX5_124 rfl dX5_run_37 ?_
      refine xr_iload_n C dX5_run_40 rfl ?_
      refine xr_isub C dX5_run_41 ?_
      exact absurd (xo_no hR) hq
    · refine xr_aload_n C dX5_run_20 rfl ?_
      refine xr_get C hk0 fl_RX5_10 rfl dX5_run_21 ?_
      refine xr_callVv C (st := []) [] cv_RX5_127 kp_5_0 (fun _ zz9 => mcX1_letTurnGoBy l G kp_5_0 zz9) rfl ⟨Nat.le_of_ble_eq_true rfl, Nat.le_of_ble_eq_true rfl⟩ (Nat.le_of_ble_eq_true rfl) ⟨Nat.zero_le _, Nat.zero_le _⟩ rfl dX5_run_24 hR (fun r2 hr2 hR => ?_)
      refine xr_iinc (v := 1) C dX5_run_27 rfl (by decide) rfl (by decide) ?_
      refine xr_goto (tgt := 15) C dX5_run_30 (by decide) ?_
      exact xr_sub (lv9 := [some (.ref (xg_ad G k0)), some (.int a1), some (.int a2), some (.int (a3 + 1))]) (And.intro rfl (And.intro rfl (And.intro rfl (And.intro rfl trivial)))) (ih _ _  hR)
set_option maxHeartbeats 4000000 in
set_option maxRecDepth 100000 in
theorem mtX5_run (l : Launch) (G : xw_G) (hl : l.stackTraces = false) {k0 : Nat} {a1 : Int32} (hk0 : xw_kd k0 = 5) {h : xw_M} {q : xw_M × Int32 × Nat} (hR : mX5_run k0 a1 h = some q) (hq : ¬ q.2.2 = 0) : xt_M l G yX5_run cX5_run 4 (some .int) 7 113 [.ref (xg_ad G k0), .int a1] h q.1 q.2.2 := by
  refine xt_of (by decide +kernel) rfl (Nat.le_of_ble_eq_true rfl) ?_
  intro p e s m args below meth c C hr htab
  have C : xj_C p s m args meth c G RX5 cX5_run 4 := C
  show xj_X p l e { frames := 7, cells := 1, slots := 6, locals := 113 } s m args below meth c G 4 0 0 (xt_Z G below args s q.1 q.2.2) h [some (.ref (xg_ad G k0)), some (.int a1), none, none] 0 []
  unfold mX5_run at hR
  refine xr_aload_n C dX5_run_0 rfl ?_
  refine xr_iload_n C dX5_run_1 rfl ?_
  refine xr_callTv C htab (st := []) [.int a1] cv_RX5_121 hk0 (fun _ zz9 zq9 => mcX5_checkTurns l G hk0 zz9 zq9) (fun _ zz9 zq9 => mtX5_checkTurns l G hl hk0 zz9 zq9) rfl ⟨Nat.le_of_ble_eq_true rfl, Nat.le_of_ble_eq_true rfl⟩ (Nat.le_of_ble_eq_true rfl) ⟨by decide, by decide⟩ (by decide) (by decide) rfl dX5_run_2 hR (fun r1 hr1 hR => ?_)
  refine xr_aload_n C dX5_run_5 rfl ?_
  refine xr_get C hk0 fl_RX5_10 rfl dX5_run_6 ?_
  refine xr_get C kp_5_0 fl_RX5_124 rfl dX5_run_9 ?_
  refine xr_istore_n C dX5_run_12 rfl (by decide) ?_
  refine xr_iconst (v := 0) C dX5_run_13 (by decide) ?_
  refine xr_istore_n C dX5_run_14 rfl (by decide) ?_
  exact xr_sub (lv9 := [some (.ref (xg_ad G k0)), some (.int a1), some (.int (r1.1 0 8)), some (.int (0 : Int32))]) (And.intro rfl (And.intro rfl (And.intro rfl (And.intro rfl trivial)))) (mbTX5_run_b15 C hr hq hl htab  hk0 _ _ _  hR)
end
section
def mX5_held (k0 : Nat) (a1 : Int32) (h : xw_M) : Option (xw_M × Int32 × Nat) := (mX5_checkChannel k0 a1 h).bind fun r1 => xo_th (0 : Int32) r1 ((mX1_channelAt 0 a1 r1.1).bind fun r2 => some (r2.1, (r2.1 (r2.2 + 1) 1), 0))
set_option maxHeartbeats 4000000 in
set_option maxRecDepth 100000 in
theorem mcX5_held (l : Launch) (G : xw_G) {k0 : Nat} {a1 : Int32} (hk0 : xw_kd k0 = 5) {h : xw_M} {q : xw_M × Int32 × Nat} (hR : mX5_held k0 a1 h = some q) (hq : q.2.2 = 0) : xc_M l G yX5_held cX5_held 2 (some .int) 7 111 [.ref (xg_ad G k0), .int a1] h q.1 (some (.int q.2.1)) := by
  refine xc_of (by decide +kernel) rfl (Nat.le_of_ble_eq_true rfl) ?_
  intro p e s m args below meth c C hr
  have C : xj_C p s m args meth c G RX5 cX5_held 2 := C
  show xj_X p l e { frames := 7, cells := 0, slots := 0, locals := 111 } s m args below meth c G 2 0 0 (MQ below (xw_Q G (some (.int q.2.1)) q.1) args s 0 0 (xg_A G)) h [some (.ref (xg_ad G k0)), some (.int a1)] 0 []
  unfold mX5_held at hR
  refine xr_aload_n C dX5_held_0 rfl ?_
  refine xr_iload_n C dX5_held_1 rfl ?_
  refine xr_callRv C (st := []) [.int a1] hq cv_RX5_87 hk0 (fun _ zz9 zq9 => mcX5_checkChannel l G hk0 zz9 zq9) rfl ⟨Nat.le_of_ble_eq_true rfl, Nat.le_of_ble_eq_true rfl⟩ (Nat.le_of_ble_eq_true rfl) ⟨Nat.zero_le _, Nat.zero_le _⟩ rfl dX5_held_2 hR (fun r1 hr1 hR => ?_)
  refine xr_aload_n C dX5_held_5 rfl ?_
  refine xr_get C hk0 fl_RX5_10 rfl dX5_held_6 ?_
  refine xr_iload_n C dX5_held_9 rfl ?_
  refine xr_callVr C (st := []) [.int a1] cv_RX5_35 kp_5_0 (fun _ zz9 => mcX1_channelAt l G kp_5_0 zz9) rfl ⟨Nat.le_of_ble_eq_true rfl, Nat.le_of_ble_eq_true rfl⟩ (Nat.le_of_ble_eq_true rfl) ⟨Nat.zero_le _, Nat.zero_le _⟩ rfl dX5_held_10 hR (fun r2 hr2 hR => ?_)
  refine xr_get C (kr_X1_channelAt kp_5_0 hr2) fl_RX5_102 rfl dX5_held_13 ?_
  refine xr_get C (kp_0_1 (kr_X1_channelAt kp_5_0 hr2)) fl_RX5_118 rfl dX5_held_16 ?_
  exact xr_iretR C hr dX5_held_19 hR
set_option maxHeartbeats 4000000 in
set_option maxRecDepth 100000 in
theorem mtX5_held (l : Launch) (G : xw_G) (hl : l.stackTraces = false) {k0 : Nat} {a1 : Int32} (hk0 : xw_kd k0 = 5) {h : xw_M} {q : xw_M × Int32 × Nat} (hR : mX5_held k0 a1 h = some q) (hq : ¬ q.2.2 = 0) : xt_M l G yX5_held cX5_held 2 (some .int) 7 111 [.ref (xg_ad G k0), .int a1] h q.1 q.2.2 := by
  refine xt_of (by decide +kernel) rfl (Nat.le_of_ble_eq_true rfl) ?_
  intro p e s m args below meth c C hr htab
  have C : xj_C p s m args meth c G RX5 cX5_held 2 := C
  show xj_X p l e { frames := 7, cells := 1, slots := 6, locals := 111 } s m args below meth c G 2 0 0 (xt_Z G below args s q.1 q.2.2) h [some (.ref (xg_ad G k0)), some (.int a1)] 0 []
  unfold mX5_held at hR
  refine xr_aload_n C dX5_held_0 rfl ?_
  refine xr_iload_n C dX5_held_1 rfl ?_
  refine xr_callTv C htab (st := []) [.int a1] cv_RX5_87 hk0 (fun _ zz9 zq9 => mcX5_checkChannel l G hk0 zz9 zq9) (fun _ zz9 zq9 => mtX5_checkChannel l G hl hk0 zz9 zq9) rfl ⟨Nat.le_of_ble_eq_true rfl, Nat.le_of_ble_eq_true rfl⟩ (Nat.le_of_ble_eq_true rfl) ⟨by decide, by decide⟩ (by decide) (by decide) rfl dX5_held_2 hR (fun r1 hr1 hR => ?_)
  refine xr_aload_n C dX5_held_5 rfl ?_
  refine xr_get C hk0 fl_RX5_10 rfl dX5_held_6 ?_
  refine xr_iload_n C dX5_held_9 rfl ?_
  refine xr_callVr C (st := []) [.int a1] cv_RX5_35 kp_5_0 (fun _ zz9 => mcX1_channelAt l G kp_5_0 zz9) rfl ⟨Nat.le_of_ble_eq_true rfl, Nat.le_of_ble_eq_true rfl⟩ (Nat.le_of_ble_eq_true rfl) ⟨Nat.zero_le _, Nat.zero_le _⟩ rfl dX5_held_10 hR (fun r2 hr2 hR => ?_)
  refine xr_get C (kr_X1_channelAt kp_5_0 hr2) fl_RX5_102 rfl dX5_held_13 ?_
  refine xr_get C (kp_0_1 (kr_X1_channelAt kp_5_0 hr2)) fl_RX5_118 rfl dX5_held_16 ?_
  exact absurd (xo_no hR) hq
end
section
def mX5_valueAt (k0 : Nat) (a1 : Int32) (a2 : Int32) (h : xw_M) : Option (xw_M × Int32 × Nat) := (mX5_checkChannel k0 a1 h).bind fun r1 => xo_th (0 : Int32) r1 ((mX1_channelAt 0 a1 r1.1).bind fun r2 => (if a2 < 0 then some (r2.1, (0 : Int32), 3) else (if a2 < (r2.1 (r2.2 + 1) 1) then (mX3_look (r2.2 + 1) a2 r2.1).bind fun r3 => some (r3.1, r3.2, 0) else some (r2.1, (0 : Int32), 3))))
set_option maxHeartbeats 4000000 in
set_option maxRecDepth 100000 in
theorem mcX5_valueAt (l : Launch) (G : xw_G) {k0 : Nat} {a1 : Int32} {a2 : Int32} (hk0 : xw_kd k0 = 5) {h : xw_M} {q : xw_M × Int32 × Nat} (hR : mX5_valueAt k0 a1 a2 h = some q) (hq : q.2.2 = 0) : xc_M l G yX5_valueAt cX5_valueAt 4 (some .int) 7 111 [.ref (xg_ad G k0), .int a1, .int a2] h q.1 (some (.int q.2.1)) := by
  refine xc_of (by decide +kernel) rfl (Nat.le_of_ble_eq_true rfl) ?_
  intro p e s m args below meth c C hr
  have C : xj_C p s m args meth c G RX5 cX5_valueAt 4 := C
  show xj_X p l e { frames := 7, cells := 0, slots := 0, locals := 111 } s m args below meth c G 4 0 0 (MQ below (xw_Q G (some (.int q.2.1)) q.1) args s 0 0 (xg_A G)) h [some (.ref (xg_ad G k0)), some (.int a1), some (.int a2), none] 0 []
  unfold mX5_valueAt at hR
  refine xr_aload_n C dX5_valueAt_0 rfl ?_
  refine xr_iload_n C dX5_valueAt_1 rfl ?_
  refine xr_callRv C (st := []) [.int a1] hq cv_RX5_87 hk0 (fun _ zz9 zq9 => mcX5_checkChannel l G hk0 zz9 zq9) rfl ⟨Nat.le_of_ble_eq_true rfl, Nat.le_of_ble_eq_true rfl⟩ (Nat.le_of_ble_eq_true rfl) ⟨Nat.zero_le _, Nat.zero_le _⟩ rfl dX5_valueAt_2 hR (fun r1 hr1 hR => ?_)
  refine xr_aload_n C dX5_valueAt_5 rfl ?_
  refine xr_get C hk0 fl_RX5_10 rfl dX5_valueAt_6 ?_
  refine xr_iload_n C dX5_valueAt_9 rfl ?_
  refine xr_callVr C (st := []) [.int a1] cv_RX5_35 kp_5_0 (fun _ zz9 => mcX1_channelAt l G kp_5_0 zz9) rfl ⟨Nat.le_of_ble_eq_true rfl, Nat.le_of_ble_eq_true rfl⟩ (Nat.le_of_ble_eq_true rfl) ⟨Nat.zero_le _, Nat.zero_le _⟩ rfl dX5_valueAt_10 hR (fun r2 hr2 hR => ?_)
  refine xr_get C (kr_X1_channelAt kp_5_0 hr2) fl_RX5_102 rfl dX5_valueAt_13 ?_
  refine xr_astore_n C dX5_valueAt_16 rfl (by decide) ?_
  refine xr_iload_n C dX5_valueAt_17 rfl ?_
  refine xr_if_lt (tgt := 29) C dX5_valueAt_18 (by decide) hR (fun hR => ?_) (fun hR => ?_)
  · exact absurd ((xo_no hR).symm.trans hq) (by decide)
  · refine xr_iload_n C dX5_valueAt_21 rfl ?_
    refine xr_aload_n C dX5_valueAt_22 rfl ?_
    refine xr_get C (kp_0_1 (kr_X1_channelAt kp_5_0 hr2)) fl_RX5_118 rfl dX5_valueAt_23 ?_
    refine xr_icmp_lt (tgt := 39) C dX5_valueAt_26 (by decide) hR (fun hR => ?_) (fun hR => ?_)
    · refine xr_aload_n C dX5_valueAt_39 rfl ?_
      refine xr_iload_n C dX5_valueAt_40 rfl ?_
      refine xr_callVi C (st := []) [.int a2] cv_RX5_140 (kp_0_1 (kr_X1_channelAt kp_5_0 hr2)) (fun _ zz9 => mcX3_look l G (kp_0_1 (kr_X1_channelAt kp_5_0 hr2)) zz9) rfl ⟨Nat.le_of_ble_eq_true rfl, Nat.le_of_ble_eq_true rfl⟩ (Nat.le_of_ble_eq_true rfl) ⟨Nat.zero_le _, Nat.zero_le _⟩ rfl dX5_valueAt_41 hR (fun r3 hr3 hR => ?_)
      exact xr_iretR C hr dX5_valueAt_44 hR
    · exact absurd ((xo_no hR).symm.trans hq) (by decide)
set_option maxHeartbeats 4000000 in
set_option maxRecDepth 100000 in
theorem mtX5_valueAt (l : Launch) (G : xw_G) (hl : l.stackTraces = false) {k0 : Nat} {a1 : Int32} {a2 : Int32} (hk0 : xw_kd k0 = 5) {h : xw_M} {q : xw_M × Int32 × Nat} (hR : mX5_valueAt k0 a1 a2 h = some q) (hq : ¬ q.2.2 = 0) : xt_M l G yX5_valueAt cX5_valueAt 4 (some .int) 7 111 [.ref (xg_ad G k0), .int a1, .int a2] h q.1 q.2.2 := by
  refine xt_of (by decide +kernel) rfl (Nat.le_of_ble_eq_true rfl) ?_
  intro p e s m args below meth c C hr htab
  have C : xj_C p s m args meth c G RX5 cX5_valueAt 4 := C
  show xj_X p l e { frames := 7, cells := 1, slots := 6, locals := 111 } s m args below meth c G 4 0 0 (xt_Z G below args s q.1 q.2.2) h [some (.ref (xg_ad G k0)), some (.int a1), some (.int a2), none] 0 []
  unfold mX5_valueAt at hR
  refine xr_aload_n C dX5_valueAt_0 rfl ?_
  refine xr_iload_n C dX5_valueAt_1 rfl ?_
  refine xr_callTv C htab (st := []) [.int a1] cv_RX5_87 hk0 (fun _ zz9 zq9 => mcX5_checkChannel l G hk0 zz9 zq9) (fun _ zz9 zq9 => mtX5_checkChannel l G hl hk0 zz9 zq9) rfl ⟨Nat.le_of_ble_eq_true rfl, Nat.le_of_ble_eq_true rfl⟩ (Nat.le_of_ble_eq_true rfl) ⟨by decide, by decide⟩ (by decide) (by decide) rfl dX5_valueAt_2 hR (fun r1 hr1 hR => ?_)
  refine xr_aload_n C dX5_valueAt_5 rfl ?_
  refine xr_get C hk0 fl_RX5_10 rfl dX5_valueAt_6 ?_
  refine xr_iload_n C dX5_valueAt_9 rfl ?_
  refine xr_callVr C (st := []) [.int a1] cv_RX5_35 kp_5_0 (fun _ zz9 => mcX1_channelAt l G kp_5_0 zz9) rfl ⟨Nat.le_of_ble_eq_true rfl, Nat.le_of_ble_eq_true rfl⟩ (Nat.le_of_ble_eq_true rfl) ⟨Nat.zero_le _, Nat.zero_le _⟩ rfl dX5_valueAt_10 hR (fun r2 hr2 hR => ?_)
  refine xr_get C (kr_X1_channelAt kp_5_0 hr2) fl_RX5_102 rfl dX5_valueAt_13 ?_
  refine xr_astore_n C dX5_valueAt_16 rfl (by decide) ?_
  refine xr_iload_n C dX5_valueAt_17 rfl ?_
  refine xr_if_lt (tgt := 29) C dX5_valueAt_18 (by decide) hR (fun hR => ?_) (fun hR => ?_)
  · exact xr_throw C hl htab th_RX5_150_152 hR (by decide) dX5_valueAt_29 dX5_valueAt_32 dX5_valueAt_33 dX5_valueAt_35 dX5_valueAt_38 (Nat.le_of_ble_eq_true rfl) (Nat.le_of_ble_eq_true rfl) (by decide) (by decide) (by decide) (by decide)
  · refine xr_iload_n C dX5_valueAt_21 rfl ?_
    refine xr_aload_n C dX5_valueAt_22 rfl ?_
    refine xr_get C (kp_0_1 (kr_X1_channelAt kp_5_0 hr2)) fl_RX5_118 rfl dX5_valueAt_23 ?_
    refine xr_icmp_lt (tgt := 39) C dX5_valueAt_26 (by decide) hR (fun hR => ?_) (fun hR => ?_)
    · refine xr_aload_n C dX5_valueAt_39 rfl ?_
      refine xr_iload_n C dX5_valueAt_40 rfl ?_
      refine xr_callVi C (st := []) [.int a2] cv_RX5_140 (kp_0_1 (kr_X1_channelAt kp_5_0 hr2)) (fun _ zz9 => mcX3_look l G (kp_0_1 (kr_X1_channelAt kp_5_0 hr2)) zz9) rfl ⟨Nat.le_of_ble_eq_true rfl, Nat.le_of_ble_eq_true rfl⟩ (Nat.le_of_ble_eq_true rfl) ⟨Nat.zero_le _, Nat.zero_le _⟩ rfl dX5_valueAt_41 hR (fun r3 hr3 hR => ?_)
      exact absurd (xo_no hR) hq
    · exact xr_throw C hl htab th_RX5_150_152 hR (by decide) dX5_valueAt_29 dX5_valueAt_32 dX5_valueAt_33 dX5_valueAt_35 dX5_valueAt_38 (Nat.le_of_ble_eq_true rfl) (Nat.le_of_ble_eq_true rfl) (by decide) (by decide) (by decide) (by decide)
end
section
def mX5_sendersAt (k0 : Nat) (a1 : Int32) (h : xw_M) : Option (xw_M × Int32 × Nat) := (mX5_checkChannel k0 a1 h).bind fun r1 => xo_th (0 : Int32) r1 ((mX1_channelAt 0 a1 r1.1).bind fun r2 => some (r2.1, (r2.1 (r2.2 + 3) 1), 0))
set_option maxHeartbeats 4000000 in
set_option maxRecDepth 100000 in
theorem mcX5_sendersAt (l : Launch) (G : xw_G) {k0 : Nat} {a1 : Int32} (hk0 : xw_kd k0 = 5) {h : xw_M} {q : xw_M × Int32 × Nat} (hR : mX5_sendersAt k0 a1 h = some q) (hq : q.2.2 = 0) : xc_M l G yX5_sendersAt cX5_sendersAt 2 (some .int) 7 111 [.ref (xg_ad G k0), .int a1] h q.1 (some (.int q.2.1)) := by
  refine xc_of (by decide +kernel) rfl (Nat.le_of_ble_eq_true rfl) ?_
  intro p e s m args below meth c C hr
  have C : xj_C p s m args meth c G RX5 cX5_sendersAt 2 := C
  show xj_X p l e { frames := 7, cells := 0, slots := 0, locals := 111 } s m args below meth c G 2 0 0 (MQ below (xw_Q G (some (.int q.2.1)) q.1) args s 0 0 (xg_A G)) h [some (.ref (xg_ad G k0)), some (.int a1)] 0 []
  unfold mX5_sendersAt at hR
  refine xr_aload_n C dX5_sendersAt_0 rfl ?_
  refine xr_iload_n C dX5_sendersAt_1 rfl ?_
  refine xr_callRv C (st := []) [.int a1] hq cv_RX5_87 hk0 (fun _ zz9 zq9 => mcX5_checkChannel l G hk0 zz9 zq9) rfl ⟨Nat.le_of_ble_eq_true rfl, Nat.le_of_ble_eq_true rfl⟩ (Nat.le_of_ble_eq_true rfl) ⟨Nat.zero_le _, Nat.zero_le _⟩ rfl dX5_sendersAt_2 hR (fun r1 hr1 hR => ?_)
  refine xr_aload_n C dX5_sendersAt_5 rfl ?_
  refine xr_get C hk0 fl_RX5_10 rfl dX5_sendersAt_6 ?_
  refine xr_iload_n C dX5_sendersAt_9 rfl ?_
  refine xr_callVr C (st := []) [.int a1] cv_RX5_35 kp_5_0 (fun _ zz9 => mcX1_channelAt l G kp_5_0 zz9) rfl ⟨Nat.le_of_ble_eq_true rfl, Nat.le_of_ble_eq_true rfl⟩ (Nat.le_of_ble_eq_true rfl) ⟨Nat.zero_le _, Nat.zero_le _⟩ rfl dX5_sendersAt_10 hR (fun r2 hr2 hR => ?_)
  refine xr_get C (kr_X1_channelAt kp_5_0 hr2) fl_RX5_155 rfl dX5_sendersAt_13 ?_
  refine xr_get C (kp_0_2 (kr_X1_channelAt kp_5_0 hr2)) fl_RX5_118 rfl dX5_sendersAt_16 ?_
  exact xr_iretR C hr dX5_sendersAt_19 hR
set_option maxHeartbeats 4000000 in
set_option maxRecDepth 100000 in
theorem mtX5_sendersAt (l : Launch) (G : xw_G) (hl : l.stackTraces = false) {k0 : Nat} {a1 : Int32} (hk0 : xw_kd k0 = 5) {h : xw_M} {q : xw_M × Int32 × Nat} (hR : mX5_sendersAt k0 a1 h = some q) (hq : ¬ q.2.2 = 0) : xt_M l G yX5_sendersAt cX5_sendersAt 2 (some .int) 7 111 [.ref (xg_ad G k0), .int a1] h q.1 q.2.2 := by
  refine xt_of (by decide +kernel) rfl (Nat.le_of_ble_eq_true rfl) ?_
  intro p e s m args below meth c C hr htab
  have C : xj_C p s m args meth c G RX5 cX5_sendersAt 2 := C
  show xj_X p l e { frames := 7, cells := 1, slots := 6, locals := 111 } s m args below meth c G 2 0 0 (xt_Z G below args s q.1 q.2.2) h [some (.ref (xg_ad G k0)), some (.int a1)] 0 []
  unfold mX5_sendersAt at hR
  refine xr_aload_n C dX5_sendersAt_0 rfl ?_
  refine xr_iload_n C dX5_sendersAt_1 rfl ?_
  refine xr_callTv C htab (st := []) [.int a1] cv_RX5_87 hk0 (fun _ zz9 zq9 => mcX5_checkChannel l G hk0 zz9 zq9) (fun _ zz9 zq9 => mtX5_checkChannel l G hl hk0 zz9 zq9) rfl ⟨Nat.le_of_ble_eq_true rfl, Nat.le_of_ble_eq_true rfl⟩ (Nat.le_of_ble_eq_true rfl) ⟨by decide, by decide⟩ (by decide) (by decide) rfl dX5_sendersAt_2 hR (fun r1 hr1 hR => ?_)
  refine xr_aload_n C dX5_sendersAt_5 rfl ?_
  refine xr_get C hk0 fl_RX5_10 rfl dX5_sendersAt_6 ?_
  refine xr_iload_n C dX5_sendersAt_9 rfl ?_
  refine xr_callVr C (st := []) [.int a1] cv_RX5_35 kp_5_0 (fun _ zz9 => mcX1_channelAt l G kp_5_0 zz9) rfl ⟨Nat.le_of_ble_eq_true rfl, Nat.le_of_ble_eq_true rfl⟩ (Nat.le_of_ble_eq_true rfl) ⟨Nat.zero_le _, Nat.zero_le _⟩ rfl dX5_sendersAt_10 hR (fun r2 hr2 hR => ?_)
  refine xr_get C (kr_X1_channelAt kp_5_0 hr2) fl_RX5_155 rfl dX5_sendersAt_13 ?_
  refine xr_get C (kp_0_2 (kr_X1_channelAt kp_5_0 hr2)) fl_RX5_118 rfl dX5_sendersAt_16 ?_
  exact absurd (xo_no hR) hq
end
section
def mX5_takersAt (k0 : Nat) (a1 : Int32) (h : xw_M) : Option (xw_M × Int32 × Nat) := (mX5_checkChannel k0 a1 h).bind fun r1 => xo_th (0 : Int32) r1 ((mX1_channelAt 0 a1 r1.1).bind fun r2 => some (r2.1, (r2.1 (r2.2 + 5) 1), 0))
set_option maxHeartbeats 4000000 in
set_option maxRecDepth 100000 in
theorem mcX5_takersAt (l : Launch) (G : xw_G) {k0 : Nat} {a1 : Int32} (hk0 : xw_kd k0 = 5) {h : xw_M} {q : xw_M × Int32 × Nat} (hR : mX5_takersAt k0 a1 h = some q) (hq : q.2.2 = 0) : xc_M l G yX5_takersAt cX5_takersAt 2 (some .int) 7 111 [.ref (xg_ad G k0), .int a1] h q.1 (some (.int q.2.1)) := by
  refine xc_of (by decide +kernel) rfl (Nat.le_of_ble_eq_true rfl) ?_
  intro p e s m args below meth c C hr
  have C : xj_C p s m args meth c G RX5 cX5_takersAt 2 := C
  show xj_X p l e { frames := 7, cells := 0, slots := 0, locals := 111 } s m args below meth c G 2 0 0 (MQ below (xw_Q G (some (.int q.2.1)) q.1) args s 0 0 (xg_A G)) h [some (.ref (xg_ad G k0)), some (.int a1)] 0 []
  unfold mX5_takersAt at hR
  refine xr_aload_n C dX5_takersAt_0 rfl ?_
  refine xr_iload_n C dX5_takersAt_1 rfl ?_
  refine xr_callRv C (st := []) [.int a1] hq cv_RX5_87 hk0 (fun _ zz9 zq9 => mcX5_checkChannel l G hk0 zz9 zq9) rfl ⟨Nat.le_of_ble_eq_true rfl, Nat.le_of_ble_eq_true rfl⟩ (Nat.le_of_ble_eq_true rfl) ⟨Nat.zero_le _, Nat.zero_le _⟩ rfl dX5_takersAt_2 hR (fun r1 hr1 hR => ?_)
  refine xr_aload_n C dX5_takersAt_5 rfl ?_
  refine xr_get C hk0 fl_RX5_10 rfl dX5_takersAt_6 ?_
  refine xr_iload_n C dX5_takersAt_9 rfl ?_
  refine xr_callVr C (st := []) [.int a1] cv_RX5_35 kp_5_0 (fun _ zz9 => mcX1_channelAt l G kp_5_0 zz9) rfl ⟨Nat.le_of_ble_eq_true rfl, Nat.le_of_ble_eq_true rfl⟩ (Nat.le_of_ble_eq_true rfl) ⟨Nat.zero_le _, Nat.zero_le _⟩ rfl dX5_takersAt_10 hR (fun r2 hr2 hR => ?_)
  refine xr_get C (kr_X1_channelAt kp_5_0 hr2) fl_RX5_111 rfl dX5_takersAt_13 ?_
  refine xr_get C (kp_0_3 (kr_X1_channelAt kp_5_0 hr2)) fl_RX5_118 rfl dX5_takersAt_16 ?_
  exact xr_iretR C hr dX5_takersAt_19 hR
set_option maxHeartbeats 4000000 in
set_option maxRecDepth 100000 in
theorem mtX5_takersAt (l : Launch) (G : xw_G) (hl : l.stackTraces = false) {k0 : Nat} {a1 : Int32} (hk0 : xw_kd k0 = 5) {h : xw_M} {q : xw_M × Int32 × Nat} (hR : mX5_takersAt k0 a1 h = some q) (hq : ¬ q.2.2 = 0) : xt_M l G yX5_takersAt cX5_takersAt 2 (some .int) 7 111 [.ref (xg_ad G k0), .int a1] h q.1 q.2.2 := by
  refine xt_of (by decide +kernel) rfl (Nat.le_of_ble_eq_true rfl) ?_
  intro p e s m args below meth c C hr htab
  have C : xj_C p s m args meth c G RX5 cX5_takersAt 2 := C
  show xj_X p l e { frames := 7, cells := 1, slots := 6, locals := 111 } s m args below meth c G 2 0 0 (xt_Z G below args s q.1 q.2.2) h [some (.ref (xg_ad G k0)), some (.int a1)] 0 []
  unfold mX5_takersAt at hR
  refine xr_aload_n C dX5_takersAt_0 rfl ?_
  refine xr_iload_n C dX5_takersAt_1 rfl ?_
  refine xr_callTv C htab (st := []) [.int a1] cv_RX5_87 hk0 (fun _ zz9 zq9 => mcX5_checkChannel l G hk0 zz9 zq9) (fun _ zz9 zq9 => mtX5_checkChannel l G hl hk0 zz9 zq9) rfl ⟨Nat.le_of_ble_eq_true rfl, Nat.le_of_ble_eq_true rfl⟩ (Nat.le_of_ble_eq_true rfl) ⟨by decide, by decide⟩ (by decide) (by decide) rfl dX5_takersAt_2 hR (fun r1 hr1 hR => ?_)
  refine xr_aload_n C dX5_takersAt_5 rfl ?_
  refine xr_get C hk0 fl_RX5_10 rfl dX5_takersAt_6 ?_
  refine xr_iload_n C dX5_takersAt_9 rfl ?_
  refine xr_callVr C (st := []) [.int a1] cv_RX5_35 kp_5_0 (fun _ zz9 => mcX1_channelAt l G kp_5_0 zz9) rfl ⟨Nat.le_of_ble_eq_true rfl, Nat.le_of_ble_eq_true rfl⟩ (Nat.le_of_ble_eq_true rfl) ⟨Nat.zero_le _, Nat.zero_le _⟩ rfl dX5_takersAt_10 hR (fun r2 hr2 hR => ?_)
  refine xr_get C (kr_X1_channelAt kp_5_0 hr2) fl_RX5_111 rfl dX5_takersAt_13 ?_
  refine xr_get C (kp_0_3 (kr_X1_channelAt kp_5_0 hr2)) fl_RX5_118 rfl dX5_takersAt_16 ?_
  exact absurd (xo_no hR) hq
end
section
def mX5_stateOf (k0 : Nat) (a1 : Int32) (h : xw_M) : Option (xw_M × Int32 × Nat) := (mX5_checkFiber k0 a1 h).bind fun r1 => xo_th (0 : Int32) r1 ((mX1_fiberAt 0 a1 r1.1).bind fun r2 => some (r2.1, (r2.1 r2.2 1), 0))
set_option maxHeartbeats 4000000 in
set_option maxRecDepth 100000 in
theorem mcX5_stateOf (l : Launch) (G : xw_G) {k0 : Nat} {a1 : Int32} (hk0 : xw_kd k0 = 5) {h : xw_M} {q : xw_M × Int32 × Nat} (hR : mX5_stateOf k0 a1 h = some q) (hq : q.2.2 = 0) : xc_M l G yX5_stateOf cX5_stateOf 2 (some .int) 7 111 [.ref (xg_ad G k0), .int a1] h q.1 (some (.int q.2.1)) := by
  refine xc_of (by decide +kernel) rfl (Nat.le_of_ble_eq_true rfl) ?_
  intro p e s m args below meth c C hr
  have C : xj_C p s m args meth c G RX5 cX5_stateOf 2 := C
  show xj_X p l e { frames := 7, cells := 0, slots := 0, locals := 111 } s m args below meth c G 2 0 0 (MQ below (xw_Q G (some (.int q.2.1)) q.1) args s 0 0 (xg_A G)) h [some (.ref (xg_ad G k0)), some (.int a1)] 0 []
  unfold mX5_stateOf at hR
  refine xr_aload_n C dX5_stateOf_0 rfl ?_
  refine xr_iload_n C dX5_stateOf_1 rfl ?_
  refine xr_callRv C (st := []) [.int a1] hq cv_RX5_49 hk0 (fun _ zz9 zq9 => mcX5_checkFiber l G hk0 zz9 zq9) rfl ⟨Nat.le_of_ble_eq_true rfl, Nat.le_of_ble_eq_true rfl⟩ (Nat.le_of_ble_eq_true rfl) ⟨Nat.zero_le _, Nat.zero_le _⟩ rfl dX5_stateOf_2 hR (fun r1 hr1 hR => ?_)
  refine xr_aload_n C dX5_stateOf_5 rfl ?_
  refine xr_get C hk0 fl_RX5_10 rfl dX5_stateOf_6 ?_
  refine xr_iload_n C dX5_stateOf_9 rfl ?_
  refine xr_callVr C (st := []) [.int a1] cv_RX5_59 kp_5_0 (fun _ zz9 => mcX1_fiberAt l G kp_5_0 zz9) rfl ⟨Nat.le_of_ble_eq_true rfl, Nat.le_of_ble_eq_true rfl⟩ (Nat.le_of_ble_eq_true rfl) ⟨Nat.zero_le _, Nat.zero_le _⟩ rfl dX5_stateOf_10 hR (fun r2 hr2 hR => ?_)
  refine xr_get C (kr_X1_fiberAt kp_5_0 hr2) fl_RX5_80 rfl dX5_stateOf_13 ?_
  exact xr_iretR C hr dX5_stateOf_16 hR
set_option maxHeartbeats 4000000 in
set_option maxRecDepth 100000 in
theorem mtX5_stateOf (l : Launch) (G : xw_G) (hl : l.stackTraces = false) {k0 : Nat} {a1 : Int32} (hk0 : xw_kd k0 = 5) {h : xw_M} {q : xw_M × Int32 × Nat} (hR : mX5_stateOf k0 a1 h = some q) (hq : ¬ q.2.2 = 0) : xt_M l G yX5_stateOf cX5_stateOf 2 (some .int) 7 111 [.ref (xg_ad G k0), .int a1] h q.1 q.2.2 := by
  refine xt_of (by decide +kernel) rfl (Nat.le_of_ble_eq_true rfl) ?_
  intro p e s m args below meth c C hr htab
  have C : xj_C p s m args meth c G RX5 cX5_stateOf 2 := C
  show xj_X p l e { frames := 7, cells := 1, slots := 6, locals := 111 } s m args below meth c G 2 0 0 (xt_Z G below args s q.1 q.2.2) h [some (.ref (xg_ad G k0)), some (.int a1)] 0 []
  unfold mX5_stateOf at hR
  refine xr_aload_n C dX5_stateOf_0 rfl ?_
  refine xr_iload_n C dX5_stateOf_1 rfl ?_
  refine xr_callTv C htab (st := []) [.int a1] cv_RX5_49 hk0 (fun _ zz9 zq9 => mcX5_checkFiber l G hk0 zz9 zq9) (fun _ zz9 zq9 => mtX5_checkFiber l G hl hk0 zz9 zq9) rfl ⟨Nat.le_of_ble_eq_true rfl, Nat.le_of_ble_eq_true rfl⟩ (Nat.le_of_ble_eq_true rfl) ⟨by decide, by decide⟩ (by decide) (by decide) rfl dX5_stateOf_2 hR (fun r1 hr1 hR => ?_)
  refine xr_aload_n C dX5_stateOf_5 rfl ?_
  refine xr_get C hk0 fl_RX5_10 rfl dX5_stateOf_6 ?_
  refine xr_iload_n C dX5_stateOf_9 rfl ?_
  refine xr_callVr C (st := []) [.int a1] cv_RX5_59 kp_5_0 (fun _ zz9 => mcX1_fiberAt l G kp_5_0 zz9) rfl ⟨Nat.le_of_ble_eq_true rfl, Nat.le_of_ble_eq_true rfl⟩ (Nat.le_of_ble_eq_true rfl) ⟨Nat.zero_le _, Nat.zero_le _⟩ rfl dX5_stateOf_10 hR (fun r2 hr2 hR => ?_)
  refine xr_get C (kr_X1_fiberAt kp_5_0 hr2) fl_RX5_80 rfl dX5_stateOf_13 ?_
  exact absurd (xo_no hR) hq
end
section
def mX5_placeOf (k0 : Nat) (a1 : Int32) (h : xw_M) : Option (xw_M × Int32 × Nat) := (mX5_checkFiber k0 a1 h).bind fun r1 => xo_th (0 : Int32) r1 ((mX1_fiberAt 0 a1 r1.1).bind fun r2 => some (r2.1, (r2.1 r2.2 2), 0))
set_option maxHeartbeats 4000000 in
set_option maxRecDepth 100000 in
theorem mcX5_placeOf (l : Launch) (G : xw_G) {k0 : Nat} {a1 : Int32} (hk0 : xw_kd k0 = 5) {h : xw_M} {q : xw_M × Int32 × Nat} (hR : mX5_placeOf k0 a1 h = some q) (hq : q.2.2 = 0) : xc_M l G yX5_placeOf cX5_placeOf 2 (some .int) 7 111 [.ref (xg_ad G k0), .int a1] h q.1 (some (.int q.2.1)) := by
  refine xc_of (by decide +kernel) rfl (Nat.le_of_ble_eq_true rfl) ?_
  intro p e s m args below meth c C hr
  have C : xj_C p s m args meth c G RX5 cX5_placeOf 2 := C
  show xj_X p l e { frames := 7, cells := 0, slots := 0, locals := 111 } s m args below meth c G 2 0 0 (MQ below (xw_Q G (some (.int q.2.1)) q.1) args s 0 0 (xg_A G)) h [some (.ref (xg_ad G k0)), some (.int a1)] 0 []
  unfold mX5_placeOf at hR
  refine xr_aload_n C dX5_placeOf_0 rfl ?_
  refine xr_iload_n C dX5_placeOf_1 rfl ?_
  refine xr_callRv C (st := []) [.int a1] hq cv_RX5_49 hk0 (fun _ zz9 zq9 => mcX5_checkFiber l G hk0 zz9 zq9) rfl ⟨Nat.le_of_ble_eq_true rfl, Nat.le_of_ble_eq_true rfl⟩ (Nat.le_of_ble_eq_true rfl) ⟨Nat.zero_le _, Nat.zero_le _⟩ rfl dX5_placeOf_2 hR (fun r1 hr1 hR => ?_)
  refine xr_aload_n C dX5_placeOf_5 rfl ?_
  refine xr_get C hk0 fl_RX5_10 rfl dX5_placeOf_6 ?_
  refine xr_iload_n C dX5_placeOf_9 rfl ?_
  refine xr_callVr C (st := []) [.int a1] cv_RX5_59 kp_5_0 (fun _ zz9 => mcX1_fiberAt l G kp_5_0 zz9) rfl ⟨Nat.le_of_ble_eq_true rfl, Nat.le_of_ble_eq_true rfl⟩ (Nat.le_of_ble_eq_true rfl) ⟨Nat.zero_le _, Nat.zero_le _⟩ rfl dX5_placeOf_10 hR (fun r2 hr2 hR => ?_)
  refine xr_get C (kr_X1_fiberAt kp_5_0 hr2) fl_RX5_158 rfl dX5_placeOf_13 ?_
  exact xr_iretR C hr dX5_placeOf_16 hR
set_option maxHeartbeats 4000000 in
set_option maxRecDepth 100000 in
theorem mtX5_placeOf (l : Launch) (G : xw_G) (hl : l.stackTraces = false) {k0 : Nat} {a1 : Int32} (hk0 : xw_kd k0 = 5) {h : xw_M} {q : xw_M × Int32 × Nat} (hR : mX5_placeOf k0 a1 h = some q) (hq : ¬ q.2.2 = 0) : xt_M l G yX5_placeOf cX5_placeOf 2 (some .int) 7 111 [.ref (xg_ad G k0), .int a1] h q.1 q.2.2 := by
  refine xt_of (by decide +kernel) rfl (Nat.le_of_ble_eq_true rfl) ?_
  intro p e s m args below meth c C hr htab
  have C : xj_C p s m args meth c G RX5 cX5_placeOf 2 := C
  show xj_X p l e { frames := 7, cells := 1, slots := 6, locals := 111 } s m args below meth c G 2 0 0 (xt_Z G below args s q.1 q.2.2) h [some (.ref (xg_ad G k0)), some (.int a1)] 0 []
  unfold mX5_placeOf at hR
  refine xr_aload_n C dX5_placeOf_0 rfl ?_
  refine xr_iload_n C dX5_placeOf_1 rfl ?_
  refine xr_callTv C htab (st := []) [.int a1] cv_RX5_49 hk0 (fun _ zz9 zq9 => mcX5_checkFiber l G hk0 zz9 zq9) (fun _ zz9 zq9 => mtX5_checkFiber l G hl hk0 zz9 zq9) rfl ⟨Nat.le_of_ble_eq_true rfl, Nat.le_of_ble_eq_true rfl⟩ (Nat.le_of_ble_eq_true rfl) ⟨by decide, by decide⟩ (by decide) (by decide) rfl dX5_placeOf_2 hR (fun r1 hr1 hR => ?_)
  refine xr_aload_n C dX5_placeOf_5 rfl ?_
  refine xr_get C hk0 fl_RX5_10 rfl dX5_placeOf_6 ?_
  refine xr_iload_n C dX5_placeOf_9 rfl ?_
  refine xr_callVr C (st := []) [.int a1] cv_RX5_59 kp_5_0 (fun _ zz9 => mcX1_fiberAt l G kp_5_0 zz9) rfl ⟨Nat.le_of_ble_eq_true rfl, Nat.le_of_ble_eq_true rfl⟩ (Nat.le_of_ble_eq_true rfl) ⟨Nat.zero_le _, Nat.zero_le _⟩ rfl dX5_placeOf_10 hR (fun r2 hr2 hR => ?_)
  refine xr_get C (kr_X1_fiberAt kp_5_0 hr2) fl_RX5_158 rfl dX5_placeOf_13 ?_
  exact absurd (xo_no hR) hq
end
section
def mX5_sumOf (k0 : Nat) (a1 : Int32) (h : xw_M) : Option (xw_M × Int32 × Nat) := (mX5_checkFiber k0 a1 h).bind fun r1 => xo_th (0 : Int32) r1 ((mX1_fiberAt 0 a1 r1.1).bind fun r2 => some (r2.1, (r2.1 r2.2 3), 0))
set_option maxHeartbeats 4000000 in
set_option maxRecDepth 100000 in
theorem mcX5_sumOf (l : Launch) (G : xw_G) {k0 : Nat} {a1 : Int32} (hk0 : xw_kd k0 = 5) {h : xw_M} {q : xw_M × Int32 × Nat} (hR : mX5_sumOf k0 a1 h = some q) (hq : q.2.2 = 0) : xc_M l G yX5_sumOf cX5_sumOf 2 (some .int) 7 111 [.ref (xg_ad G k0), .int a1] h q.1 (some (.int q.2.1)) := by
  refine xc_of (by decide +kernel) rfl (Nat.le_of_ble_eq_true rfl) ?_
  intro p e s m args below meth c C hr
  have C : xj_C p s m args meth c G RX5 cX5_sumOf 2 := C
  show xj_X p l e { frames := 7, cells := 0, slots := 0, locals := 111 } s m args below meth c G 2 0 0 (MQ below (xw_Q G (some (.int q.2.1)) q.1) args s 0 0 (xg_A G)) h [some (.ref (xg_ad G k0)), some (.int a1)] 0 []
  unfold mX5_sumOf at hR
  refine xr_aload_n C dX5_sumOf_0 rfl ?_
  refine xr_iload_n C dX5_sumOf_1 rfl ?_
  refine xr_callRv C (st := []) [.int a1] hq cv_RX5_49 hk0 (fun _ zz9 zq9 => mcX5_checkFiber l G hk0 zz9 zq9) rfl ⟨Nat.le_of_ble_eq_true rfl, Nat.le_of_ble_eq_true rfl⟩ (Nat.le_of_ble_eq_true rfl) ⟨Nat.zero_le _, Nat.zero_le _⟩ rfl dX5_sumOf_2 hR (fun r1 hr1 hR => ?_)
  refine xr_aload_n C dX5_sumOf_5 rfl ?_
  refine xr_get C hk0 fl_RX5_10 rfl dX5_sumOf_6 ?_
  refine xr_iload_n C dX5_sumOf_9 rfl ?_
  refine xr_callVr C (st := []) [.int a1] cv_RX5_59 kp_5_0 (fun _ zz9 => mcX1_fiberAt l G kp_5_0 zz9) rfl ⟨Nat.le_of_ble_eq_true rfl, Nat.le_of_ble_eq_true rfl⟩ (Nat.le_of_ble_eq_true rfl) ⟨Nat.zero_le _, Nat.zero_le _⟩ rfl dX5_sumOf_10 hR (fun r2 hr2 hR => ?_)
  refine xr_get C (kr_X1_fiberAt kp_5_0 hr2) fl_RX5_161 rfl dX5_sumOf_13 ?_
  exact xr_iretR C hr dX5_sumOf_16 hR
set_option maxHeartbeats 4000000 in
set_option maxRecDepth 100000 in
theorem mtX5_sumOf (l : Launch) (G : xw_G) (hl : l.stackTraces = false) {k0 : Nat} {a1 : Int32} (hk0 : xw_kd k0 = 5) {h : xw_M} {q : xw_M × Int32 × Nat} (hR : mX5_sumOf k0 a1 h = some q) (hq : ¬ q.2.2 = 0) : xt_M l G yX5_sumOf cX5_sumOf 2 (some .int) 7 111 [.ref (xg_ad G k0), .int a1] h q.1 q.2.2 := by
  refine xt_of (by decide +kernel) rfl (Nat.le_of_ble_eq_true rfl) ?_
  intro p e s m args below meth c C hr htab
  have C : xj_C p s m args meth c G RX5 cX5_sumOf 2 := C
  show xj_X p l e { frames := 7, cells := 1, slots := 6, locals := 111 } s m args below meth c G 2 0 0 (xt_Z G below args s q.1 q.2.2) h [some (.ref (xg_ad G k0)), some (.int a1)] 0 []
  unfold mX5_sumOf at hR
  refine xr_aload_n C dX5_sumOf_0 rfl ?_
  refine xr_iload_n C dX5_sumOf_1 rfl ?_
  refine xr_callTv C htab (st := []) [.int a1] cv_RX5_49 hk0 (fun _ zz9 zq9 => mcX5_checkFiber l G hk0 zz9 zq9) (fun _ zz9 zq9 => mtX5_checkFiber l G hl hk0 zz9 zq9) rfl ⟨Nat.le_of_ble_eq_true rfl, Nat.le_of_ble_eq_true rfl⟩ (Nat.le_of_ble_eq_true rfl) ⟨by decide, by decide⟩ (by decide) (by decide) rfl dX5_sumOf_2 hR (fun r1 hr1 hR => ?_)
  refine xr_aload_n C dX5_sumOf_5 rfl ?_
  refine xr_get C hk0 fl_RX5_10 rfl dX5_sumOf_6 ?_
  refine xr_iload_n C dX5_sumOf_9 rfl ?_
  refine xr_callVr C (st := []) [.int a1] cv_RX5_59 kp_5_0 (fun _ zz9 => mcX1_fiberAt l G kp_5_0 zz9) rfl ⟨Nat.le_of_ble_eq_true rfl, Nat.le_of_ble_eq_true rfl⟩ (Nat.le_of_ble_eq_true rfl) ⟨Nat.zero_le _, Nat.zero_le _⟩ rfl dX5_sumOf_10 hR (fun r2 hr2 hR => ?_)
  refine xr_get C (kr_X1_fiberAt kp_5_0 hr2) fl_RX5_161 rfl dX5_sumOf_13 ?_
  exact absurd (xo_no hR) hq
end
section
def mX5_stepsDone (k0 : Nat) (a1 : Int32) (h : xw_M) : Option (xw_M × Int32 × Nat) := (mX5_checkFiber k0 a1 h).bind fun r1 => xo_th (0 : Int32) r1 ((mX1_fiberAt 0 a1 r1.1).bind fun r2 => some (r2.1, (r2.1 r2.2 4), 0))
set_option maxHeartbeats 4000000 in
set_option maxRecDepth 100000 in
theorem mcX5_stepsDone (l : Launch) (G : xw_G) {k0 : Nat} {a1 : Int32} (hk0 : xw_kd k0 = 5) {h : xw_M} {q : xw_M × Int32 × Nat} (hR : mX5_stepsDone k0 a1 h = some q) (hq : q.2.2 = 0) : xc_M l G yX5_stepsDone cX5_stepsDone 2 (some .int) 7 111 [.ref (xg_ad G k0), .int a1] h q.1 (some (.int q.2.1)) := by
  refine xc_of (by decide +kernel) rfl (Nat.le_of_ble_eq_true rfl) ?_
  intro p e s m args below meth c C hr
  have C : xj_C p s m args meth c G RX5 cX5_stepsDone 2 := C
  show xj_X p l e { frames := 7, cells := 0, slots := 0, locals := 111 } s m args below meth c G 2 0 0 (MQ below (xw_Q G (some (.int q.2.1)) q.1) args s 0 0 (xg_A G)) h [some (.ref (xg_ad G k0)), some (.int a1)] 0 []
  unfold mX5_stepsDone at hR
  refine xr_aload_n C dX5_stepsDone_0 rfl ?_
  refine xr_iload_n C dX5_stepsDone_1 rfl ?_
  refine xr_callRv C (st := []) [.int a1] hq cv_RX5_49 hk0 (fun _ zz9 zq9 => mcX5_checkFiber l G hk0 zz9 zq9) rfl ⟨Nat.le_of_ble_eq_true rfl, Nat.le_of_ble_eq_true rfl⟩ (Nat.le_of_ble_eq_true rfl) ⟨Nat.zero_le _, Nat.zero_le _⟩ rfl dX5_stepsDone_2 hR (fun r1 hr1 hR => ?_)
  refine xr_aload_n C dX5_stepsDone_5 rfl ?_
  refine xr_get C hk0 fl_RX5_10 rfl dX5_stepsDone_6 ?_
  refine xr_iload_n C dX5_stepsDone_9 rfl ?_
  refine xr_callVr C (st := []) [.int a1] cv_RX5_59 kp_5_0 (fun _ zz9 => mcX1_fiberAt l G kp_5_0 zz9) rfl ⟨Nat.le_of_ble_eq_true rfl, Nat.le_of_ble_eq_true rfl⟩ (Nat.le_of_ble_eq_true rfl) ⟨Nat.zero_le _, Nat.zero_le _⟩ rfl dX5_stepsDone_10 hR (fun r2 hr2 hR => ?_)
  refine xr_get C (kr_X1_fiberAt kp_5_0 hr2) fl_RX5_164 rfl dX5_stepsDone_13 ?_
  exact xr_iretR C hr dX5_stepsDone_16 hR
set_option maxHeartbeats 4000000 in
set_option maxRecDepth 100000 in
theorem mtX5_stepsDone (l : Launch) (G : xw_G) (hl : l.stackTraces = false) {k0 : Nat} {a1 : Int32} (hk0 : xw_kd k0 = 5) {h : xw_M} {q : xw_M × Int32 × Nat} (hR : mX5_stepsDone k0 a1 h = some q) (hq : ¬ q.2.2 = 0) : xt_M l G yX5_stepsDone cX5_stepsDone 2 (some .int) 7 111 [.ref (xg_ad G k0), .int a1] h q.1 q.2.2 := by
  refine xt_of (by decide +kernel) rfl (Nat.le_of_ble_eq_true rfl) ?_
  intro p e s m args below meth c C hr htab
  have C : xj_C p s m args meth c G RX5 cX5_stepsDone 2 := C
  show xj_X p l e { frames := 7, cells := 1, slots := 6, locals := 111 } s m args below meth c G 2 0 0 (xt_Z G below args s q.1 q.2.2) h [some (.ref (xg_ad G k0)), some (.int a1)] 0 []
  unfold mX5_stepsDone at hR
  refine xr_aload_n C dX5_stepsDone_0 rfl ?_
  refine xr_iload_n C dX5_stepsDone_1 rfl ?_
  refine xr_callTv C htab (st := []) [.int a1] cv_RX5_49 hk0 (fun _ zz9 zq9 => mcX5_checkFiber l G hk0 zz9 zq9) (fun _ zz9 zq9 => mtX5_checkFiber l G hl hk0 zz9 zq9) rfl ⟨Nat.le_of_ble_eq_true rfl, Nat.le_of_ble_eq_true rfl⟩ (Nat.le_of_ble_eq_true rfl) ⟨by decide, by decide⟩ (by decide) (by decide) rfl dX5_stepsDone_2 hR (fun r1 hr1 hR => ?_)
  refine xr_aload_n C dX5_stepsDone_5 rfl ?_
  refine xr_get C hk0 fl_RX5_10 rfl dX5_stepsDone_6 ?_
  refine xr_iload_n C dX5_stepsDone_9 rfl ?_
  refine xr_callVr C (st := []) [.int a1] cv_RX5_59 kp_5_0 (fun _ zz9 => mcX1_fiberAt l G kp_5_0 zz9) rfl ⟨Nat.le_of_ble_eq_true rfl, Nat.le_of_ble_eq_true rfl⟩ (Nat.le_of_ble_eq_true rfl) ⟨Nat.zero_le _, Nat.zero_le _⟩ rfl dX5_stepsDone_10 hR (fun r2 hr2 hR => ?_)
  refine xr_get C (kr_X1_fiberAt kp_5_0 hr2) fl_RX5_164 rfl dX5_stepsDone_13 ?_
  exact absurd (xo_no hR) hq
end
section
def mX5_turnsOf (k0 : Nat) (a1 : Int32) (h : xw_M) : Option (xw_M × Int32 × Nat) := (mX5_checkFiber k0 a1 h).bind fun r1 => xo_th (0 : Int32) r1 ((mX1_fiberAt 0 a1 r1.1).bind fun r2 => some (r2.1, (r2.1 r2.2 5), 0))
set_option maxHeartbeats 4000000 in
set_option maxRecDepth 100000 in
theorem mcX5_turnsOf (l : Launch) (G : xw_G) {k0 : Nat} {a1 : Int32} (hk0 : xw_kd k0 = 5) {h : xw_M} {q : xw_M × Int32 × Nat} (hR : mX5_turnsOf k0 a1 h = some q) (hq : q.2.2 = 0) : xc_M l G yX5_turnsOf cX5_turnsOf 2 (some .int) 7 111 [.ref (xg_ad G k0), .int a1] h q.1 (some (.int q.2.1)) := by
  refine xc_of (by decide +kernel) rfl (Nat.le_of_ble_eq_true rfl) ?_
  intro p e s m args below meth c C hr
  have C : xj_C p s m args meth c G RX5 cX5_turnsOf 2 := C
  show xj_X p l e { frames := 7, cells := 0, slots := 0, locals := 111 } s m args below meth c G 2 0 0 (MQ below (xw_Q G (some (.int q.2.1)) q.1) args s 0 0 (xg_A G)) h [some (.ref (xg_ad G k0)), some (.int a1)] 0 []
  unfold mX5_turnsOf at hR
  refine xr_aload_n C dX5_turnsOf_0 rfl ?_
  refine xr_iload_n C dX5_turnsOf_1 rfl ?_
  refine xr_callRv C (st := []) [.int a1] hq cv_RX5_49 hk0 (fun _ zz9 zq9 => mcX5_checkFiber l G hk0 zz9 zq9) rfl ⟨Nat.le_of_ble_eq_true rfl, Nat.le_of_ble_eq_true rfl⟩ (Nat.le_of_ble_eq_true rfl) ⟨Nat.zero_le _, Nat.zero_le _⟩ rfl dX5_turnsOf_2 hR (fun r1 hr1 hR => ?_)
  refine xr_aload_n C dX5_turnsOf_5 rfl ?_
  refine xr_get C hk0 fl_RX5_10 rfl dX5_turnsOf_6 ?_
  refine xr_iload_n C dX5_turnsOf_9 rfl ?_
  refine xr_callVr C (st := []) [.int a1] cv_RX5_59 kp_5_0 (fun _ zz9 => mcX1_fiberAt l G kp_5_0 zz9) rfl ⟨Nat.le_of_ble_eq_true rfl, Nat.le_of_ble_eq_true rfl⟩ (Nat.le_of_ble_eq_true rfl) ⟨Nat.zero_le _, Nat.zero_le _⟩ rfl dX5_turnsOf_10 hR (fun r2 hr2 hR => ?_)
  refine xr_get C (kr_X1_fiberAt kp_5_0 hr2) fl_RX5_167 rfl dX5_turnsOf_13 ?_
  exact xr_iretR C hr dX5_turnsOf_16 hR
set_option maxHeartbeats 4000000 in
set_option maxRecDepth 100000 in
theorem mtX5_turnsOf (l : Launch) (G : xw_G) (hl : l.stackTraces = false) {k0 : Nat} {a1 : Int32} (hk0 : xw_kd k0 = 5) {h : xw_M} {q : xw_M × Int32 × Nat} (hR : mX5_turnsOf k0 a1 h = some q) (hq : ¬ q.2.2 = 0) : xt_M l G yX5_turnsOf cX5_turnsOf 2 (some .int) 7 111 [.ref (xg_ad G k0), .int a1] h q.1 q.2.2 := by
  refine xt_of (by decide +kernel) rfl (Nat.le_of_ble_eq_true rfl) ?_
  intro p e s m args below meth c C hr htab
  have C : xj_C p s m args meth c G RX5 cX5_turnsOf 2 := C
  show xj_X p l e { frames := 7, cells := 1, slots := 6, locals := 111 } s m args below meth c G 2 0 0 (xt_Z G below args s q.1 q.2.2) h [some (.ref (xg_ad G k0)), some (.int a1)] 0 []
  unfold mX5_turnsOf at hR
  refine xr_aload_n C dX5_turnsOf_0 rfl ?_
  refine xr_iload_n C dX5_turnsOf_1 rfl ?_
  refine xr_callTv C htab (st := []) [.int a1] cv_RX5_49 hk0 (fun _ zz9 zq9 => mcX5_checkFiber l G hk0 zz9 zq9) (fun _ zz9 zq9 => mtX5_checkFiber l G hl hk0 zz9 zq9) rfl ⟨Nat.le_of_ble_eq_true rfl, Nat.le_of_ble_eq_true rfl⟩ (Nat.le_of_ble_eq_true rfl) ⟨by decide, by decide⟩ (by decide) (by decide) rfl dX5_turnsOf_2 hR (fun r1 hr1 hR => ?_)
  refine xr_aload_n C dX5_turnsOf_5 rfl ?_
  refine xr_get C hk0 fl_RX5_10 rfl dX5_turnsOf_6 ?_
  refine xr_iload_n C dX5_turnsOf_9 rfl ?_
  refine xr_callVr C (st := []) [.int a1] cv_RX5_59 kp_5_0 (fun _ zz9 => mcX1_fiberAt l G kp_5_0 zz9) rfl ⟨Nat.le_of_ble_eq_true rfl, Nat.le_of_ble_eq_true rfl⟩ (Nat.le_of_ble_eq_true rfl) ⟨Nat.zero_le _, Nat.zero_le _⟩ rfl dX5_turnsOf_10 hR (fun r2 hr2 hR => ?_)
  refine xr_get C (kr_X1_fiberAt kp_5_0 hr2) fl_RX5_167 rfl dX5_turnsOf_13 ?_
  exact absurd (xo_no hR) hq
end
section
def mX5_placeInLine (k0 : Nat) (a1 : Int32) (h : xw_M) : Option (xw_M × Int32 × Nat) := (mX5_checkFiber k0 a1 h).bind fun r1 => xo_th (0 : Int32) r1 ((mX3_find (0 + 3) a1 r1.1).bind fun r2 => some (r2.1, r2.2, 0))
set_option maxHeartbeats 4000000 in
set_option maxRecDepth 100000 in
theorem mcX5_placeInLine (l : Launch) (G : xw_G) {k0 : Nat} {a1 : Int32} (hk0 : xw_kd k0 = 5) {h : xw_M} {q : xw_M × Int32 × Nat} (hR : mX5_placeInLine k0 a1 h = some q) (hq : q.2.2 = 0) : xc_M l G yX5_placeInLine cX5_placeInLine 2 (some .int) 7 111 [.ref (xg_ad G k0), .int a1] h q.1 (some (.int q.2.1)) := by
  refine xc_of (by decide +kernel) rfl (Nat.le_of_ble_eq_true rfl) ?_
  intro p e s m args below meth c C hr
  have C : xj_C p s m args meth c G RX5 cX5_placeInLine 2 := C
  show xj_X p l e { frames := 7, cells := 0, slots := 0, locals := 111 } s m args below meth c G 2 0 0 (MQ below (xw_Q G (some (.int q.2.1)) q.1) args s 0 0 (xg_A G)) h [some (.ref (xg_ad G k0)), some (.int a1)] 0 []
  unfold mX5_placeInLine at hR
  refine xr_aload_n C dX5_placeInLine_0 rfl ?_
  refine xr_iload_n C dX5_placeInLine_1 rfl ?_
  refine xr_callRv C (st := []) [.int a1] hq cv_RX5_49 hk0 (fun _ zz9 zq9 => mcX5_checkFiber l G hk0 zz9 zq9) rfl ⟨Nat.le_of_ble_eq_true rfl, Nat.le_of_ble_eq_true rfl⟩ (Nat.le_of_ble_eq_true rfl) ⟨Nat.zero_le _, Nat.zero_le _⟩ rfl dX5_placeInLine_2 hR (fun r1 hr1 hR => ?_)
  refine xr_aload_n C dX5_placeInLine_5 rfl ?_
  refine xr_get C hk0 fl_RX5_10 rfl dX5_placeInLine_6 ?_
  refine xr_get C kp_5_0 fl_RX5_137 rfl dX5_placeInLine_9 ?_
  refine xr_iload_n C dX5_placeInLine_12 rfl ?_
  refine xr_callVi C (st := []) [.int a1] cv_RX5_170 (kp_1_4 kp_5_0) (fun _ zz9 => mcX3_find l G (kp_1_4 kp_5_0) zz9) rfl ⟨Nat.le_of_ble_eq_true rfl, Nat.le_of_ble_eq_true rfl⟩ (Nat.le_of_ble_eq_true rfl) ⟨Nat.zero_le _, Nat.zero_le _⟩ rfl dX5_placeInLine_13 hR (fun r2 hr2 hR => ?_)
  exact xr_iretR C hr dX5_placeInLine_16 hR
set_option maxHeartbeats 4000000 in
set_option maxRecDepth 100000 in
theorem mtX5_placeInLine (l : Launch) (G : xw_G) (hl : l.stackTraces = false) {k0 : Nat} {a1 : Int32} (hk0 : xw_kd k0 = 5) {h : xw_M} {q : xw_M × Int32 × Nat} (hR : mX5_placeInLine k0 a1 h = some q) (hq : ¬ q.2.2 = 0) : xt_M l G yX5_placeInLine cX5_placeInLine 2 (some .int) 7 111 [.ref (xg_ad G k0), .int a1] h q.1 q.2.2 := by
  refine xt_of (by decide +kernel) rfl (Nat.le_of_ble_eq_true rfl) ?_
  intro p e s m args below meth c C hr htab
  have C : xj_C p s m args meth c G RX5 cX5_placeInLine 2 := C
  show xj_X p l e { frames := 7, cells := 1, slots := 6, locals := 111 } s m args below meth c G 2 0 0 (xt_Z G below args s q.1 q.2.2) h [some (.ref (xg_ad G k0)), some (.int a1)] 0 []
  unfold mX5_placeInLine at hR
  refine xr_aload_n C dX5_placeInLine_0 rfl ?_
  refine xr_iload_n C dX5_placeInLine_1 rfl ?_
  refine xr_callTv C htab (st := []) [.int a1] cv_RX5_49 hk0 (fun _ zz9 zq9 => mcX5_checkFiber l G hk0 zz9 zq9) (fun _ zz9 zq9 => mtX5_checkFiber l G hl hk0 zz9 zq9) rfl ⟨Nat.le_of_ble_eq_true rfl, Nat.le_of_ble_eq_true rfl⟩ (Nat.le_of_ble_eq_true rfl) ⟨by decide, by decide⟩ (by decide) (by decide) rfl dX5_placeInLine_2 hR (fun r1 hr1 hR => ?_)
  refine xr_aload_n C dX5_placeInLine_5 rfl ?_
  refine xr_get C hk0 fl_RX5_10 rfl dX5_placeInLine_6 ?_
  refine xr_get C kp_5_0 fl_RX5_137 rfl dX5_placeInLine_9 ?_
  refine xr_iload_n C dX5_placeInLine_12 rfl ?_
  refine xr_callVi C (st := []) [.int a1] cv_RX5_170 (kp_1_4 kp_5_0) (fun _ zz9 => mcX3_find l G (kp_1_4 kp_5_0) zz9) rfl ⟨Nat.le_of_ble_eq_true rfl, Nat.le_of_ble_eq_true rfl⟩ (Nat.le_of_ble_eq_true rfl) ⟨Nat.zero_le _, Nat.zero_le _⟩ rfl dX5_placeInLine_13 hR (fun r2 hr2 hR => ?_)
  exact absurd (xo_no hR) hq
end
section
def mX5_turnsUntilDone_b65  (k2 : Nat) (a3 : Int32) (h : xw_M)  : Option (xw_M × Int32 × Nat) := (if (h k2 1) = (5 : Int32) then some (h, a3, 0) else some (h, (-1 : Int32), 0))
def mX5_turnsUntilDone_b27  (k0 : Nat) (k2 : Nat) : Nat → xw_M → Int32 → Option (xw_M × Int32 × Nat)
  | 0, _, _ => none
  | n + 1, h, a3 => (if (200 : Int32) ≤ a3 then mX5_turnsUntilDone_b65  (k2) (a3) h  else (if (h k2 1) = (5 : Int32) then mX5_turnsUntilDone_b65  (k2) (a3) h  else (mX1_hasStopped 175 h).bind fun r4 => (if r4.2 = 0 then (mX1_letTurnGoBy 175 r4.1).bind fun r5 => mX5_turnsUntilDone_b27  k0 k2 n r5.1 ((a3 + 1)) else mX5_turnsUntilDone_b65  (k2) (a3) r4.1 )))
def mX5_turnsUntilDone (k0 : Nat) (a1 : Int32) (h : xw_M) : Option (xw_M × Int32 × Nat) := (mX5_checkFiber k0 a1 h).bind fun r1 => xo_th (0 : Int32) r1 ((mX1_becomeLike 175 0 r1.1).bind fun r2 => (mX1_fiberAt 175 a1 r2.1).bind fun r3 => mX5_turnsUntilDone_b27  (k0) (r3.2) xo_n r3.1 ((0 : Int32)))
set_option maxHeartbeats 4000000 in
set_option maxRecDepth 100000 in
theorem mbX5_turnsUntilDone_b65 {p : Program} {l : Launch} {e : Env} {s : State} {m : MethodId} {args : Array Value} {below : List Frame} {meth : Method} {c : Code} {G : xw_G} (C : xj_C p s m args meth c G RX5 cX5_turnsUntilDone 4) (hr : meth.sig.returnType = (some .int)) {q : xw_M × Int32 × Nat} (hq : q.2.2 = 0) {k2 : Nat} {a3 : Int32}  (hk2 : xw_kd k2 = 2) {h : xw_M}   (hR : mX5_turnsUntilDone_b65  k2 a3 h  = some q) : xj_X p l e { frames := 7, cells := 0, slots := 0, locals := 113 } s m args below meth c G 4 0 0 (MQ below (xw_Q G (some (.int q.2.1)) q.1) args s 0 0 (xg_A G)) h [none, none, some (.ref (xg_ad G k2)), some (.int a3)] 65 [] := by
  unfold mX5_turnsUntilDone_b65 at hR
  refine xr_aload_n C dX5_turnsUntilDone_65 rfl ?_
  refine xr_get C hk2 fl_RX5_80 rfl dX5_turnsUntilDone_66 ?_
  refine xr_iconst (v := 5) C dX5_turnsUntilDone_69 (by decide) ?_
  refine xr_icmp_ne (tgt := 77) C dX5_turnsUntilDone_70 (by decide) hR (fun hR => ?_) (fun hR => ?_)
  · refine xr_iconst (v := (-1)) C dX5_turnsUntilDone_77 (by decide) ?_
    exact xr_iretR C hr dX5_turnsUntilDone_78 hR
  · refine xr_iload_n C dX5_turnsUntilDone_73 rfl ?_
    refine xr_goto (tgt := 78) C dX5_turnsUntilDone_74 (by decide) ?_
    exact xr_iretR C hr dX5_turnsUntilDone_78 hR
set_option maxHeartbeats 4000000 in
set_option maxRecDepth 100000 in
theorem mbX5_turnsUntilDone_b27 {p : Program} {l : Launch} {e : Env} {s : State} {m : MethodId} {args : Array Value} {below : List Frame} {meth : Method} {c : Code} {G : xw_G} (C : xj_C p s m args meth c G RX5 cX5_turnsUntilDone 4) (hr : meth.sig.returnType = (some .int)) {q : xw_M × Int32 × Nat} (hq : q.2.2 = 0) {k0 : Nat} {k2 : Nat}  (hk0 : xw_kd k0 = 5) (hk2 : xw_kd k2 = 2) : ∀ (n : Nat) (h : xw_M) (a3 : Int32), mX5_turnsUntilDone_b27  k0 k2 n h a3 = some q → xj_X p l e { frames := 7, cells := 0, slots := 0, locals := 113 } s m args below meth c G 4 0 0 (MQ below (xw_Q G (some (.int q.2.1)) q.1) args s 0 0 (xg_A G)) h [some (.ref (xg_ad G k0)), none, some (.ref (xg_ad G k2)), some (.int a3)] 27 [] := by
  intro n
  induction n with
  | zero => intro h a3 hR; exact absurd (show (none : Option (xw_M × Int32 × Nat)) = some q from hR) (fun z => by cases z)
  | succ n ih =>
    intro h a3 hR
    rw [mX5_turnsUntilDone_b27.eq_2] at hR
    refine xr_iload_n C dX5_turnsUntilDone_27 rfl ?_
    refine xr_sipush (v := 200) C dX5_turnsUntilDone_28 (by decide) ?_
    refine xr_icmp_ge (tgt := 65) C dX5_turnsUntilDone_31 (by decide) hR (fun hR => ?_) (fun hR => ?_)
    · exact xr_sub (lv9 := [none, none, some (.ref (xg_ad G k2)), some (.int a3)]) (And.intro rfl (And.intro rfl trivial)) (mbX5_turnsUntilDone_b65 C hr hq  hk2  hR)
    · refine xr_aload_n C dX5_turnsUntilDone_34 rfl ?_
      refine xr_get C hk2 fl_RX5_80 rfl dX5_turnsUntilDone_35 ?_
      refine xr_iconst (v := 5) C dX5_turnsUntilDone_38 (by decide) ?_
      refine xr_icmp_eq (tgt := 65) C dX5_turnsUntilDone_39 (by decide) hR (fun hR => ?_) (fun hR => ?_)
      · exact xr_sub (lv9 := [none, none, some (.ref (xg_ad G k2)), some (.int a3)]) (And.intro rfl (And.intro rfl trivial)) (mbX5_turnsUntilDone_b65 C hr hq  hk2  hR)
      · refine xr_aload_n C dX5_turnsUntilDone_42 rfl ?_
        refine xr_get C hk0 fl_RX5_16 rfl dX5_turnsUntilDone_43 ?_
        refine xr_callVi C (st := []) [] cv_RX5_144 kp_5_1 (fun _ zz9 => mcX1_hasStopped l G kp_5_1 zz9) rfl ⟨Nat.le_of_ble_eq_true rfl, Nat.le_of_ble_eq_true rfl⟩ (Nat.le_of_ble_eq_true rfl) ⟨Nat.zero_le _, Nat.zero_le _⟩ rfl dX5_turnsUntilDone_46 hR (fun r4 hr4 hR => ?_)
        refine xr_if_ne (tgt := 65) C dX5_turnsUntilDone_49 (by decide) hR (fun hR => ?_) (fun hR => ?_)
        · exact xr_sub (lv9 := [none, none, some (.ref (xg_ad G k2)), some (.int a3)]) (And.intro rfl (And.intro rfl trivial)) (mbX5_turnsUntilDone_b65 C hr hq  hk2  hR)
        · refine xr_aload_n C dX5_turnsUntilDone_52 rfl ?_
          refine xr_get C hk0 fl_RX5_16 rfl dX5_turnsUntilDone_53 ?_
          refine xr_callVv C (st := []) [] cv_RX5_127 kp_5_1 (fun _ zz9 => mcX1_letTurnGoBy l G kp_5_1 zz9) rfl ⟨Nat.le_of_ble_eq_true rfl, Nat.le_of_ble_eq_true rfl⟩ (Nat.le_of_ble_eq_true rfl) ⟨Nat.zero_le _, Nat.zero_le _⟩ rfl dX5_turnsUntilDone_56 hR (fun r5 hr5 hR => ?_)
          refine xr_iinc (v := 1) C dX5_turnsUntilDone_59 rfl (by decide) rfl (by decide) ?_
          refine xr_goto (tgt := 27) C dX5_turnsUntilDone_62 (by decide) ?_
          exact xr_sub (lv9 := [some (.ref (xg_ad G k0)), none, some (.ref (xg_ad G k2)), some (.int (a3 + 1))]) (And.intro rfl (And.intro rfl (And.intro rfl trivial))) (ih _ _  hR)
set_option maxHeartbeats 4000000 in
set_option maxRecDepth 100000 in
theorem mcX5_turnsUntilDone (l : Launch) (G : xw_G) {k0 : Nat} {a1 : Int32} (hk0 : xw_kd k0 = 5) {h : xw_M} {q : xw_M × Int32 × Nat} (hR : mX5_turnsUntilDone k0 a1 h = some q) (hq : q.2.2 = 0) : xc_M l G yX5_turnsUntilDone cX5_turnsUntilDone 4 (some .int) 7 113 [.ref (xg_ad G k0), .int a1] h q.1 (some (.int q.2.1)) := by
  refine xc_of (by decide +kernel) rfl (Nat.le_of_ble_eq_true rfl) ?_
  intro p e s m args below meth c C hr
  have C : xj_C p s m args meth c G RX5 cX5_turnsUntilDone 4 := C
  show xj_X p l e { frames := 7, cells := 0, slots := 0, locals := 113 } s m args below meth c G 4 0 0 (MQ below (xw_Q G (some (.int q.2.1)) q.1) args s 0 0 (xg_A G)) h [some (.ref (xg_ad G k0)), some (.int a1), none, none] 0 []
  unfold mX5_turnsUntilDone at hR
  refine xr_aload_n C dX5_turnsUntilDone_0 rfl ?_
  refine xr_iload_n C dX5_turnsUntilDone_1 rfl ?_
  refine xr_callRv C (st := []) [.int a1] hq cv_RX5_49 hk0 (fun _ zz9 zq9 => mcX5_checkFiber l G hk0 zz9 zq9) rfl ⟨Nat.le_of_ble_eq_true rfl, Nat.le_of_ble_eq_true rfl⟩ (Nat.le_of_ble_eq_true rfl) ⟨Nat.zero_le _, Nat.zero_le _⟩ rfl dX5_turnsUntilDone_2 hR (fun r1 hr1 hR => ?_)
  refine xr_aload_n C dX5_turnsUntilDone_5 rfl ?_
  refine xr_get C hk0 fl_RX5_16 rfl dX5_turnsUntilDone_6 ?_
  refine xr_aload_n C dX5_turnsUntilDone_9 rfl ?_
  refine xr_get C hk0 fl_RX5_10 rfl dX5_turnsUntilDone_10 ?_
  refine xr_callVv C (st := []) [.ref (xg_ad G 0)] cv_RX5_173 kp_5_1 (fun _ zz9 => mcX1_becomeLike l G kp_5_1 kp_5_0 zz9) rfl ⟨Nat.le_of_ble_eq_true rfl, Nat.le_of_ble_eq_true rfl⟩ (Nat.le_of_ble_eq_true rfl) ⟨Nat.zero_le _, Nat.zero_le _⟩ rfl dX5_turnsUntilDone_13 hR (fun r2 hr2 hR => ?_)
  refine xr_aload_n C dX5_turnsUntilDone_16 rfl ?_
  refine xr_get C hk0 fl_RX5_16 rfl dX5_turnsUntilDone_17 ?_
  refine xr_iload_n C dX5_turnsUntilDone_20 rfl ?_
  refine xr_callVr C (st := []) [.int a1] cv_RX5_59 kp_5_1 (fun _ zz9 => mcX1_fiberAt l G kp_5_1 zz9) rfl ⟨Nat.le_of_ble_eq_true rfl, Nat.le_of_ble_eq_true rfl⟩ (Nat.le_of_ble_eq_true rfl) ⟨Nat.zero_le _, Nat.zero_le _⟩ rfl dX5_turnsUntilDone_21 hR (fun r3 hr3 hR => ?_)
  refine xr_astore_n C dX5_turnsUntilDone_24 rfl (by decide) ?_
  refine xr_iconst (v := 0) C dX5_turnsUntilDone_25 (by decide) ?_
  refine xr_istore_n C dX5_turnsUntilDone_26 rfl (by decide) ?_
  exact xr_sub (lv9 := [some (.ref (xg_ad G k0)), none, some (.ref (xg_ad G r3.2)), some (.int (0 : Int32))]) (And.intro rfl (And.intro rfl (And.intro rfl trivial))) (mbX5_turnsUntilDone_b27 C hr hq  hk0 (kr_X1_fiberAt kp_5_1 hr3) _ _ _  hR)
set_option maxHeartbeats 4000000 in
set_option maxRecDepth 100000 in
theorem mbTX5_turnsUntilDone_b65 {p : Program} {l : Launch} {e : Env} {s : State} {m : MethodId} {args : Array Value} {below : List Frame} {meth : Method} {c : Code} {G : xw_G} (C : xj_C p s m args meth c G RX5 cX5_turnsUntilDone 4) (hr : meth.sig.returnType = (some .int)) {q : xw_M × Int32 × Nat} (hq : ¬ q.2.2 = 0) (hl : l.stackTraces = false) (htab : ∀ x ∈ c.exceptionTable.toList, False) {k2 : Nat} {a3 : Int32}  (hk2 : xw_kd k2 = 2) {h : xw_M}   (hR : mX5_turnsUntilDone_b65  k2 a3 h  = some q) : xj_X p l e { frames := 7, cells := 1, slots := 6, locals := 113 } s m args below meth c G 4 0 0 (xt_Z G below args s q.1 q.2.2) h [none, none, some (.ref (xg_ad G k2)), some (.int a3)] 65 [] := by
  unfold mX5_turnsUntilDone_b65 at hR
  refine xr_aload_n C dX5_turnsUntilDone_65 rfl ?_
  refine xr_get C hk2 fl_RX5_80 rfl dX5_turnsUntilDone_66 ?_
  refine xr_iconst (v := 5) C dX5_turnsUntilDone_69 (by decide) ?_
  refine xr_icmp_ne (tgt := 77) C dX5_turnsUntilDone_70 (by decide) hR (fun hR => ?_) (fun hR => ?_)
  · refine xr_iconst (v := (-1)) C dX5_turnsUntilDone_77 (by decide) ?_
    exact absurd (xo_no hR) hq
  · refine xr_iload_n C dX5_turnsUntilDone_73 rfl ?_
    refine xr_goto (tgt := 78) C dX5_turnsUntilDone_74 (by decide) ?_
    exact absurd (xo_no hR) hq
set_option maxHeartbeats 4000000 in
set_option maxRecDepth 100000 in
theorem mbTX5_turnsUntilDone_b27 {p : Program} {l : Launch} {e : Env} {s : State} {m : MethodId} {args : Array Value} {below : List Frame} {meth : Method} {c : Code} {G : xw_G} (C : xj_C p s m args meth c G RX5 cX5_turnsUntilDone 4) (hr : meth.sig.returnType = (some .int)) {q : xw_M × Int32 × Nat} (hq : ¬ q.2.2 = 0) (hl : l.stackTraces = false) (htab : ∀ x ∈ c.exceptionTable.toList, False) {k0 : Nat} {k2 : Nat}  (hk0 : xw_kd k0 = 5) (hk2 : xw_kd k2 = 2) : ∀ (n : Nat) (h : xw_M) (a3 : Int32), mX5_turnsUntilDone_b27  k0 k2 n h a3 = some q → xj_X p l e { frames := 7, cells := 1, slots := 6, locals := 113 } s m args below meth c G 4 0 0 (xt_Z G below args s q.1 q.2.2) h [some (.ref (xg_ad G k0)), none, some (.ref (xg_ad G k2)), some (.int a3)] 27 [] := by
  intro n
  induction n with
  | zero => intro h a3 hR; exact absurd (show (none : Option (xw_M × Int32 × Nat)) = some q from hR) (fun z => by cases z)
  | succ n ih =>
    intro h a3 hR
    rw [mX5_turnsUntilDone_b27.eq_2] at hR
    refine xr_iload_n C dX5_turnsUntilDone_27 rfl ?_
    refine xr_sipush (v := 200) C dX5_turnsUntilDone_28 (by decide) ?_
    refine xr_icmp_ge (tgt := 65) C dX5_turnsUntilDone_31 (by decide) hR (fun hR => ?_) (fun hR => ?_)
    · exact xr_sub (lv9 := [none, none, some (.ref (xg_ad G k2)), some (.int a3)]) (And.intro rfl (And.intro rfl trivial)) (mbTX5_turnsUntilDone_b65 C hr hq hl htab  hk2  hR)
    · refine xr_aload_n C dX5_turnsUntilDone_34 rfl ?_
      refine xr_get C hk2 fl_RX5_80 rfl dX5_turnsUntilDone_35 ?_
      refine xr_iconst (v := 5) C dX5_turnsUntilDone_38 (by decide) ?_
      refine xr_icmp_eq (tgt := 65) C dX5_turnsUntilDone_39 (by decide) hR (fun hR => ?_) (fun hR => ?_)
      · exact xr_sub (lv9 := [none, none, some (.ref (xg_ad G k2)), some (.int a3)]) (And.intro rfl (And.intro rfl trivial)) (mbTX5_turnsUntilDone_b65 C hr hq hl htab  hk2  hR)
      · refine xr_aload_n C dX5_turnsUntilDone_42 rfl ?_
        refine xr_get C hk0 fl_RX5_16 rfl dX5_turnsUntilDone_43 ?_
        refine xr_callVi C (st := []) [] cv_RX5_144 kp_5_1 (fun _ zz9 => mcX1_hasStopped l G kp_5_1 zz9) rfl ⟨Nat.le_of_ble_eq_true rfl, Nat.le_of_ble_eq_true rfl⟩ (Nat.le_of_ble_eq_true rfl) ⟨Nat.zero_le _, Nat.zero_le _⟩ rfl dX5_turnsUntilDone_46 hR (fun r4 hr4 hR => ?_)
        refine xr_if_ne (tgt := 65) C dX5_turnsUntilDone_49 (by decide) hR (fun hR => ?_) (fun hR => ?_)
        · exact xr_sub (lv9 := [none, none, some (.ref (xg_ad G k2)), some (.int a3)]) (And.intro rfl (And.intro rfl trivial)) (mbTX5_turnsUntilDone_b65 C hr hq hl htab  hk2  hR)
        · refine xr_aload_n C dX5_turnsUntilDone_52 rfl ?_
          refine xr_get C hk0 fl_RX5_16 rfl dX5_turnsUntilDone_53 ?_
          refine xr_callVv C (st := []) [] cv_RX5_127 kp_5_1 (fun _ zz9 => mcX1_letTurnGoBy l G kp_5_1 zz9) rfl ⟨Nat.le_of_ble_eq_true rfl, Nat.le_of_ble_eq_true rfl⟩ (Nat.le_of_ble_eq_true rfl) ⟨Nat.zero_le _, Nat.zero_le _⟩ rfl dX5_turnsUntilDone_56 hR (fun r5 hr5 hR => ?_)
          refine xr_iinc (v := 1) C dX5_turnsUntilDone_59 rfl (by decide) rfl (by decide) ?_
          refine xr_goto (tgt := 27) C dX5_turnsUntilDone_62 (by decide) ?_
          exact xr_sub (lv9 := [some (.ref (xg_ad G k0)), none, some (.ref (xg_ad G k2)), some (.int (a3 + 1))]) (And.intro rfl (And.intro rfl (And.intro rfl trivial))) (ih _ _  hR)
set_option maxHeartbeats 4000000 in
set_option maxRecDepth 100000 in
theorem mtX5_turnsUntilDone (l : Launch) (G : xw_G) (hl : l.stackTraces = false) {k0 : Nat} {a1 : Int32} (hk0 : xw_kd k0 = 5) {h : xw_M} {q : xw_M × Int32 × Nat} (hR : mX5_turnsUntilDone k0 a1 h = some q) (hq : ¬ q.2.2 = 0) : xt_M l G yX5_turnsUntilDone cX5_turnsUntilDone 4 (some .int) 7 113 [.ref (xg_ad G k0), .int a1] h q.1 q.2.2 := by
  refine xt_of (by decide +kernel) rfl (Nat.le_of_ble_eq_true rfl) ?_
  intro p e s m args below meth c C hr htab
  have C : xj_C p s m args meth c G RX5 cX5_turnsUntilDone 4 := C
  show xj_X p l e { frames := 7, cells := 1, slots := 6, locals := 113 } s m args below meth c G 4 0 0 (xt_Z G below args s q.1 q.2.2) h [some (.ref (xg_ad G k0)), some (.int a1), none, none] 0 []
  unfold mX5_turnsUntilDone at hR
  refine xr_aload_n C dX5_turnsUntilDone_0 rfl ?_
  refine xr_iload_n C dX5_turnsUntilDone_1 rfl ?_
  refine xr_callTv C htab (st := []) [.int a1] cv_RX5_49 hk0 (fun _ zz9 zq9 => mcX5_checkFiber l G hk0 zz9 zq9) (fun _ zz9 zq9 => mtX5_checkFiber l G hl hk0 zz9 zq9) rfl ⟨Nat.le_of_ble_eq_true rfl, Nat.le_of_ble_eq_true rfl⟩ (Nat.le_of_ble_eq_true rfl) ⟨by decide, by decide⟩ (by decide) (by decide) rfl dX5_turnsUntilDone_2 hR (fun r1 hr1 hR => ?_)
  refine xr_aload_n C dX5_turnsUntilDone_5 rfl ?_
  refine xr_get C hk0 fl_RX5_16 rfl dX5_turnsUntilDone_6 ?_
  refine xr_aload_n C dX5_turnsUntilDone_9 rfl ?_
  refine xr_get C hk0 fl_RX5_10 rfl dX5_turnsUntilDone_10 ?_
  refine xr_callVv C (st := []) [.ref (xg_ad G 0)] cv_RX5_173 kp_5_1 (fun _ zz9 => mcX1_becomeLike l G kp_5_1 kp_5_0 zz9) rfl ⟨Nat.le_of_ble_eq_true rfl, Nat.le_of_ble_eq_true rfl⟩ (Nat.le_of_ble_eq_true rfl) ⟨Nat.zero_le _, Nat.zero_le _⟩ rfl dX5_turnsUntilDone_13 hR (fun r2 hr2 hR => ?_)
  refine xr_aload_n C dX5_turnsUntilDone_16 rfl ?_
  refine xr_get C hk0 fl_RX5_16 rfl dX5_turnsUntilDone_17 ?_
  refine xr_iload_n C dX5_turnsUntilDone_20 rfl ?_
  refine xr_callVr C (st := []) [.int a1] cv_RX5_59 kp_5_1 (fun _ zz9 => mcX1_fiberAt l G kp_5_1 zz9) rfl ⟨Nat.le_of_ble_eq_true rfl, Nat.le_of_ble_eq_true rfl⟩ (Nat.le_of_ble_eq_true rfl) ⟨Nat.zero_le _, Nat.zero_le _⟩ rfl dX5_turnsUntilDone_21 hR (fun r3 hr3 hR => ?_)
  refine xr_astore_n C dX5_turnsUntilDone_24 rfl (by decide) ?_
  refine xr_iconst (v := 0) C dX5_turnsUntilDone_25 (by decide) ?_
  refine xr_istore_n C dX5_turnsUntilDone_26 rfl (by decide) ?_
  exact xr_sub (lv9 := [some (.ref (xg_ad G k0)), none, some (.ref (xg_ad G r3.2)), some (.int (0 : Int32))]) (And.intro rfl (And.intro rfl (And.intro rfl trivial))) (mbTX5_turnsUntilDone_b27 C hr hq hl htab  hk0 (kr_X1_fiberAt kp_5_1 hr3) _ _ _  hR)
end
section
def mX5_sumIn_b23  (k0 : Nat) (a1 : Int32) (a2 : Int32) : Nat → xw_M → Int32 → Option (xw_M × Int32 × Nat)
  | 0, _, _ => none
  | n + 1, h, a3 => (if a2 ≤ a3 then (mX1_fiberAt 175 a1 h).bind fun r4 => some (r4.1, (r4.1 r4.2 3), 0) else (mX1_letTurnGoBy 175 h).bind fun r5 => mX5_sumIn_b23  k0 a1 a2 n r5.1 ((a3 + 1)))
def mX5_sumIn (k0 : Nat) (a1 : Int32) (a2 : Int32) (h : xw_M) : Option (xw_M × Int32 × Nat) := (mX5_checkFiber k0 a1 h).bind fun r1 => xo_th (0 : Int32) r1 ((mX5_checkTurns k0 a2 r1.1).bind fun r2 => xo_th (0 : Int32) r2 ((mX1_becomeLike 175 0 r2.1).bind fun r3 => mX5_sumIn_b23  (k0) (a1) (a2) xo_n r3.1 ((0 : Int32))))
set_option maxHeartbeats 4000000 in
set_option maxRecDepth 100000 in
theorem mbX5_sumIn_b23 {p : Program} {l : Launch} {e : Env} {s : State} {m : MethodId} {args : Array Value} {below : List Frame} {meth : Method} {c : Code} {G : xw_G} (C : xj_C p s m args meth c G RX5 cX5_sumIn 4) (hr : meth.sig.returnType = (some .int)) {q : xw_M × Int32 × Nat} (hq : q.2.2 = 0) {k0 : Nat} {a1 : Int32} {a2 : Int32}  (hk0 : xw_kd k0 = 5) : ∀ (n : Nat) (h : xw_M) (a3 : Int32), mX5_sumIn_b23  k0 a1 a2 n h a3 = some q → xj_X p l e { frames := 7, cells := 0, slots := 0, locals := 113 } s m args below meth c G 4 0 0 (MQ below (xw_Q G (some (.int q.2.1)) q.1) args s 0 0 (xg_A G)) h [some (.ref (xg_ad G k0)), some (.int a1), some (.int a2), some (.int a3)] 23 [] := by
  intro n
  induction n with
  | zero => intro h a3 hR; exact absurd (show (none : Option (xw_M × Int32 × Nat)) = some q from hR) (fun z => by cases z)
  | succ n ih =>
    intro h a3 hR
    rw [mX5_sumIn_b23.eq_2] at hR
    refine xr_iload_n C dX5_sumIn_23 rfl ?_
    refine xr_iload_n C dX5_sumIn_24 rfl ?_
    refine xr_icmp_ge (tgt := 41) C dX5_sumIn_25 (by decide) hR (fun hR => ?_) (fun hR => ?_)
    · refine xr_aload_n C dX5_sumIn_41 rfl ?_
      refine xr_get C hk0 fl_RX5_16 rfl dX5_sumIn_42 ?_
      refine xr_iload_n C dX5_sumIn_45 rfl ?_
      refine xr_callVr C (st := []) [.int a1] cv_RX5_59 kp_5_1 (fun _ zz9 => mcX1_fiberAt l G kp_5_1 zz9) rfl ⟨Nat.le_of_ble_eq_true rfl, Nat.le_of_ble_eq_true rfl⟩ (Nat.le_of_ble_eq_true rfl) ⟨Nat.zero_le _, Nat.zero_le _⟩ rfl dX5_sumIn_46 hR (fun r4 hr4 hR => ?_)
      refine xr_get C (kr_X1_fiberAt kp_5_1 hr4) fl_RX5_161 rfl dX5_sumIn_49 ?_
      exact xr_iretR C hr dX5_sumIn_52 hR
    · refine xr_aload_n C dX5_sumIn_28 rfl ?_
      refine xr_get C hk0 fl_RX5_16 rfl dX5_sumIn_29 ?_
      refine xr_callVv C (st := []) [] cv_RX5_127 kp_5_1 (fun _ zz9 => mcX1_letTurnGoBy l G kp_5_1 zz9) rfl ⟨Nat.le_of_ble_eq_true rfl, Nat.le_of_ble_eq_true rfl⟩ (Nat.le_of_ble_eq_true rfl) ⟨Nat.zero_le _, Nat.zero_le _⟩ rfl dX5_sumIn_32 hR (fun r5 hr5 hR => ?_)
      refine xr_iinc (v := 1) C dX5_sumIn_35 rfl (by decide) rfl (by decide) ?_
      refine xr_goto (tgt := 23) C dX5_sumIn_38 (by decide) ?_
      exact xr_sub (lv9 := [some (.ref (xg_ad G k0)), some (.int a1), some (.int a2), some (.int (a3 + 1))]) (And.intro rfl (And.intro rfl (And.intro rfl (And.intro rfl trivial)))) (ih _ _  hR)
set_option maxHeartbeats 4000000 in
set_option maxRecDepth 100000 in
theorem mcX5_sumIn (l : Launch) (G : xw_G) {k0 : Nat} {a1 : Int32} {a2 : Int32} (hk0 : xw_kd k0 = 5) {h : xw_M} {q : xw_M × Int32 × Nat} (hR : mX5_sumIn k0 a1 a2 h = some q) (hq : q.2.2 = 0) : xc_M l G yX5_sumIn cX5_sumIn 4 (some .int) 7 113 [.ref (xg_ad G k0), .int a1, .int a2] h q.1 (some (.int q.2.1)) := by
  refine xc_of (by decide +kernel) rfl (Nat.le_of_ble_eq_true rfl) ?_
  intro p e s m args below meth c C hr
  have C : xj_C p s m args meth c G RX5 cX5_sumIn 4 := C
  show xj_X p l e { frames := 7, cells := 0, slots := 0, locals := 113 } s m args below meth c G 4 0 0 (MQ below (xw_Q G (some (.int q.2.1)) q.1) args s 0 0 (xg_A G)) h [some (.ref (xg_ad G k0)), some (.int a1), some (.int a2), none] 0 []
  unfold mX5_sumIn at hR
  refine xr_aload_n C dX5_sumIn_0 rfl ?_
  refine xr_iload_n C dX5_sumIn_1 rfl ?_
  refine xr_callRv C (st := []) [.int a1] hq cv_RX5_49 hk0 (fun _ zz9 zq9 => mcX5_checkFiber l G hk0 zz9 zq9) rfl ⟨Nat.le_of_ble_eq_true rfl, Nat.le_of_ble_eq_true rfl⟩ (Nat.le_of_ble_eq_true rfl) ⟨Nat.zero_le _, Nat.zero_le _⟩ rfl dX5_sumIn_2 hR (fun r1 hr1 hR => ?_)
  refine xr_aload_n C dX5_sumIn_5 rfl ?_
  refine xr_iload_n C dX5_sumIn_6 rfl ?_
  refine xr_callRv C (st := []) [.int a2] hq cv_RX5_121 hk0 (fun _ zz9 zq9 => mcX5_checkTurns l G hk0 zz9 zq9) rfl ⟨Nat.le_of_ble_eq_true rfl, Nat.le_of_ble_eq_true rfl⟩ (Nat.le_of_ble_eq_true rfl) ⟨Nat.zero_le _, Nat.zero_le _⟩ rfl dX5_sumIn_7 hR (fun r2 hr2 hR => ?_)
  refine xr_aload_n C dX5_sumIn_10 rfl ?_
  refine xr_get C hk0 fl_RX5_16 rfl dX5_sumIn_11 ?_
  refine xr_aload_n C dX5_sumIn_14 rfl ?_
  refine xr_get C hk0 fl_RX5_10 rfl dX5_sumIn_15 ?_
  refine xr_callVv C (st := []) [.ref (xg_ad G 0)] cv_RX5_173 kp_5_1 (fun _ zz9 => mcX1_becomeLike l G kp_5_1 kp_5_0 zz9) rfl ⟨Nat.le_of_ble_eq_true rfl, Nat.le_of_ble_eq_true rfl⟩ (Nat.le_of_ble_eq_true rfl) ⟨Nat.zero_le _, Nat.zero_le _⟩ rfl dX5_sumIn_18 hR (fun r3 hr3 hR => ?_)
  refine xr_iconst (v := 0) C dX5_sumIn_21 (by decide) ?_
  refine xr_istore_n C dX5_sumIn_22 rfl (by decide) ?_
  exact xr_sub (lv9 := [some (.ref (xg_ad G k0)), some (.int a1), some (.int a2), some (.int (0 : Int32))]) (And.intro rfl (And.intro rfl (And.intro rfl (And.intro rfl trivial)))) (mbX5_sumIn_b23 C hr hq  hk0 _ _ _  hR)
set_option maxHeartbeats 4000000 in
set_option maxRecDepth 100000 in
theorem mbTX5_sumIn_b23 {p : Program} {l : Launch} {e : Env} {s : State} {m : MethodId} {args : Array Value} {below : List Frame} {meth : Method} {c : Code} {G : xw_G} (C : xj_C p s m args meth c G RX5 cX5_sumIn 4) (hr : meth.sig.returnType = (some .int)) {q : xw_M × Int32 × Nat} (hq : ¬ q.2.2 = 0) (hl : l.stackTraces = false) (htab : ∀ x ∈ c.exceptionTable.toList, False) {k0 : Nat} {a1 : Int32} {a2 : Int32}  (hk0 : xw_kd k0 = 5) : ∀ (n : Nat) (h : xw_M) (a3 : Int32), mX5_sumIn_b23  k0 a1 a2 n h a3 = some q → xj_X p l e { frames := 7, cells := 1, slots := 6, locals := 113 } s m args below meth c G 4 0 0 (xt_Z G below args s q.1 q.2.2) h [some (.ref (xg_ad G k0)), some (.int a1), some (.int a2), some (.int a3)] 23 [] := by
  intro n
  induction n with
  | zero => intro h a3 hR; exact absurd (show (none : Option (xw_M × Int32 × Nat)) = some q from hR) (fun z => by cases z)
  | succ n ih =>
    intro h a3 hR
    rw [mX5_sumIn_b23.eq_2] at hR
    refine xr_iload_n C dX5_sumIn_23 rfl ?_
    refine xr_iload_n C dX5_sumIn_24 rfl ?_
    refine xr_icmp_ge (tgt := 41) C dX5_sumIn_25 (by decide) hR (fun hR => ?_) (fun hR => ?_)
    · refine xr_aload_n C dX5_sumIn_41 rfl ?_
      refine xr_get C hk0 fl_RX5_16 rfl dX5_sumIn_42 ?_
      refine xr_iload_n C dX5_sumIn_45 rfl ?_
      refine xr_callVr C (st := []) [.int a1] cv_RX5_59 kp_5_1 (fun _ zz9 => mcX1_fiberAt l G kp_5_1 zz9) rfl ⟨Nat.le_of_ble_eq_true rfl, Nat.le_of_ble_eq_true rfl⟩ (Nat.le_of_ble_eq_true rfl) ⟨Nat.zero_le _, Nat.zero_le _⟩ rfl dX5_sumIn_46 hR (fun r4 hr4 hR => ?_)
      refine xr_get C (kr_X1_fiberAt kp_5_1 hr4) fl_RX5_161 rfl dX5_sumIn_49 ?_
      exact absurd (xo_no hR) hq
    · refine xr_aload_n C dX5_sumIn_28 rfl ?_
      refine xr_get C hk0 fl_RX5_16 rfl dX5_sumIn_29 ?_
      refine xr_callVv C (st := []) [] cv_RX5_127 kp_5_1 (fun _ zz9 => mcX1_letTurnGoBy l G kp_5_1 zz9) rfl ⟨Nat.le_of_ble_eq_true rfl, Nat.le_of_ble_eq_true rfl⟩ (Nat.le_of_ble_eq_true rfl) ⟨Nat.zero_le _, Nat.zero_le _⟩ rfl dX5_sumIn_32 hR (fun r5 hr5 hR => ?_)
      refine xr_iinc (v := 1) C dX5_sumIn_35 rfl (by decide) rfl (by decide) ?_
      refine xr_goto (tgt := 23) C dX5_sumIn_38 (by decide) ?_
      exact xr_sub (lv9 := [some (.ref (xg_ad G k0)), some (.int a1), some (.int a2), some (.int (a3 + 1))]) (And.intro rfl (And.intro rfl (And.intro rfl (And.intro rfl trivial)))) (ih _ _  hR)
set_option maxHeartbeats 4000000 in
set_option maxRecDepth 100000 in
theorem mtX5_sumIn (l : Launch) (G : xw_G) (hl : l.stackTraces = false) {k0 : Nat} {a1 : Int32} {a2 : Int32} (hk0 : xw_kd k0 = 5) {h : xw_M} {q : xw_M × Int32 × Nat} (hR : mX5_sumIn k0 a1 a2 h = some q) (hq : ¬ q.2.2 = 0) : xt_M l G yX5_sumIn cX5_sumIn 4 (some .int) 7 113 [.ref (xg_ad G k0), .int a1, .int a2] h q.1 q.2.2 := by
  refine xt_of (by decide +kernel) rfl (Nat.le_of_ble_eq_true rfl) ?_
  intro p e s m args below meth c C hr htab
  have C : xj_C p s m args meth c G RX5 cX5_sumIn 4 := C
  show xj_X p l e { frames := 7, cells := 1, slots := 6, locals := 113 } s m args below meth c G 4 0 0 (xt_Z G below args s q.1 q.2.2) h [some (.ref (xg_ad G k0)), some (.int a1), some (.int a2), none] 0 []
  unfold mX5_sumIn at hR
  refine xr_aload_n C dX5_sumIn_0 rfl ?_
  refine xr_iload_n C dX5_sumIn_1 rfl ?_
  refine xr_callTv C htab (st := []) [.int a1] cv_RX5_49 hk0 (fun _ zz9 zq9 => mcX5_checkFiber l G hk0 zz9 zq9) (fun _ zz9 zq9 => mtX5_checkFiber l G hl hk0 zz9 zq9) rfl ⟨Nat.le_of_ble_eq_true rfl, Nat.le_of_ble_eq_true rfl⟩ (Nat.le_of_ble_eq_true rfl) ⟨by decide, by decide⟩ (by decide) (by decide) rfl dX5_sumIn_2 hR (fun r1 hr1 hR => ?_)
  refine xr_aload_n C dX5_sumIn_5 rfl ?_
  refine xr_iload_n C dX5_sumIn_6 rfl ?_
  refine xr_callTv C htab (st := []) [.int a2] cv_RX5_121 hk0 (fun _ zz9 zq9 => mcX5_checkTurns l G hk0 zz9 zq9) (fun _ zz9 zq9 => mtX5_checkTurns l G hl hk0 zz9 zq9) rfl ⟨Nat.le_of_ble_eq_true rfl, Nat.le_of_ble_eq_true rfl⟩ (Nat.le_of_ble_eq_true rfl) ⟨by decide, by decide⟩ (by decide) (by decide) rfl dX5_sumIn_7 hR (fun r2 hr2 hR => ?_)
  refine xr_aload_n C dX5_sumIn_10 rfl ?_
  refine xr_get C hk0 fl_RX5_16 rfl dX5_sumIn_11 ?_
  refine xr_aload_n C dX5_sumIn_14 rfl ?_
  refine xr_get C hk0 fl_RX5_10 rfl dX5_sumIn_15 ?_
  refine xr_callVv C (st := []) [.ref (xg_ad G 0)] cv_RX5_173 kp_5_1 (fun _ zz9 => mcX1_becomeLike l G kp_5_1 kp_5_0 zz9) rfl ⟨Nat.le_of_ble_eq_true rfl, Nat.le_of_ble_eq_true rfl⟩ (Nat.le_of_ble_eq_true rfl) ⟨Nat.zero_le _, Nat.zero_le _⟩ rfl dX5_sumIn_18 hR (fun r3 hr3 hR => ?_)
  refine xr_iconst (v := 0) C dX5_sumIn_21 (by decide) ?_
  refine xr_istore_n C dX5_sumIn_22 rfl (by decide) ?_
  exact xr_sub (lv9 := [some (.ref (xg_ad G k0)), some (.int a1), some (.int a2), some (.int (0 : Int32))]) (And.intro rfl (And.intro rfl (And.intro rfl (And.intro rfl trivial)))) (mbTX5_sumIn_b23 C hr hq hl htab  hk0 _ _ _  hR)
end
section
def mX5_placesWanted_b77 (K17 : xw_M → Int32 → Option (xw_M × Int32 × Nat)) (k0 : Nat) (a1 : Int32) (a2 : Int32) (h : xw_M)  : Option (xw_M × Int32 × Nat) := (mX1_allAreDone 175 h).bind fun r6 => (if r6.2 = 0 then K17 r6.1 ((a2 + 1)) else some (r6.1, a2, 0))
def mX5_placesWanted_b48 (K17 : xw_M → Int32 → Option (xw_M × Int32 × Nat)) (k0 : Nat) (a1 : Int32) (a2 : Int32) : Nat → xw_M → Int32 → Option (xw_M × Int32 × Nat)
  | 0, _, _ => none
  | n + 1, h, a3 => (if (100 : Int32) ≤ a3 then mX5_placesWanted_b77 (K17) (k0) (a1) (a2) h  else (mX1_hasStopped 175 h).bind fun r7 => (if r7.2 = 0 then (mX1_letTurnGoBy 175 r7.1).bind fun r8 => mX5_placesWanted_b48 K17 k0 a1 a2 n r8.1 ((a3 + 1)) else mX5_placesWanted_b77 (K17) (k0) (a1) (a2) r7.1 ))
def mX5_placesWanted_b17  (k0 : Nat) (a1 : Int32) : Nat → xw_M → Int32 → Option (xw_M × Int32 × Nat)
  | 0, _, _ => none
  | n + 1, h, a2 => (if (8 : Int32) < a2 then some (h, (-1 : Int32), 0) else (mX1_becomeLike 175 0 h).bind fun r3 => (mX1_channelAt 175 a1 r3.1).bind fun r4 => xo_let (xw_st r4.1 r4.2 0 a2) fun h5 => mX5_placesWanted_b48 (mX5_placesWanted_b17  k0 a1 n) (k0) (a1) (a2) xo_n h5 ((0 : Int32)))
def mX5_placesWanted (k0 : Nat) (a1 : Int32) (h : xw_M) : Option (xw_M × Int32 × Nat) := (mX5_checkChannel k0 a1 h).bind fun r1 => xo_th (0 : Int32) r1 ((mX1_channelAt 0 a1 r1.1).bind fun r2 => mX5_placesWanted_b17  (k0) (a1) xo_n r2.1 ((r2.1 r2.2 0)))
set_option maxHeartbeats 4000000 in
set_option maxRecDepth 100000 in
theorem mbX5_placesWanted_b77 {p : Program} {l : Launch} {e : Env} {s : State} {m : MethodId} {args : Array Value} {below : List Frame} {meth : Method} {c : Code} {G : xw_G} (C : xj_C p s m args meth c G RX5 cX5_placesWanted 4) (hr : meth.sig.returnType = (some .int)) {q : xw_M × Int32 × Nat} (hq : q.2.2 = 0) {K17 : xw_M → Int32 → Option (xw_M × Int32 × Nat)} {k0 : Nat} {a1 : Int32} {a2 : Int32} (hK17 : ∀ (h : xw_M) (a2 : Int32), K17 h a2 = some q → xj_X p l e { frames := 7, cells := 0, slots := 0, locals := 113 } s m args below meth c G 4 0 0 (MQ below (xw_Q G (some (.int q.2.1)) q.1) args s 0 0 (xg_A G)) h [some (.ref (xg_ad G k0)), some (.int a1), some (.int a2), none] 17 []) (hk0 : xw_kd k0 = 5) {h : xw_M}   (hR : mX5_placesWanted_b77 K17 k0 a1 a2 h  = some q) : xj_X p l e { frames := 7, cells := 0, slots := 0, locals := 113 } s m args below meth c G 4 0 0 (MQ below (xw_Q G (some (.int q.2.1)) q.1) args s 0 0 (xg_A G)) h [some (.ref (xg_ad G k0)), some (.int a1), some (.int a2), none] 77 [] := by
  unfold mX5_placesWanted_b77 at hR
  refine xr_aload_n C dX5_placesWanted_77 rfl ?_
  refine xr_get C hk0 fl_RX5_16 rfl dX5_placesWanted_78 ?_
  refine xr_callVi C (st := []) [] cv_RX5_147 kp_5_1 (fun _ zz9 => mcX1_allAreDone l G kp_5_1 zz9) rfl ⟨Nat.le_of_ble_eq_true rfl, Nat.le_of_ble_eq_true rfl⟩ (Nat.le_of_ble_eq_true rfl) ⟨Nat.zero_le _, Nat.zero_le _⟩ rfl dX5_placesWanted_81 hR (fun r6 hr6 hR => ?_)
  refine xr_if_eq (tgt := 89) C dX5_placesWanted_84 (by decide) hR (fun hR => ?_) (fun hR => ?_)
  · refine xr_iinc (v := 1) C dX5_placesWanted_89 rfl (by decide) rfl (by decide) ?_
    refine xr_goto (tgt := 17) C dX5_placesWanted_92 (by decide) ?_
    exact xr_sub (lv9 := [some (.ref (xg_ad G k0)), some (.int a1), some (.int (a2 + 1)), none]) (And.intro rfl (And.intro rfl (And.intro rfl trivial))) (hK17 _ _  hR)
  · refine xr_iload_n C dX5_placesWanted_87 rfl ?_
    exact xr_iretR C hr dX5_placesWanted_88 hR
set_option maxHeartbeats 4000000 in
set_option maxRecDepth 100000 in
theorem mbX5_placesWanted_b48 {p : Program} {l : Launch} {e : Env} {s : State} {m : MethodId} {args : Array Value} {below : List Frame} {meth : Method} {c : Code} {G : xw_G} (C : xj_C p s m args meth c G RX5 cX5_placesWanted 4) (hr : meth.sig.returnType = (some .int)) {q : xw_M × Int32 × Nat} (hq : q.2.2 = 0) {K17 : xw_M → Int32 → Option (xw_M × Int32 × Nat)} {k0 : Nat} {a1 : Int32} {a2 : Int32} (hK17 : ∀ (h : xw_M) (a2 : Int32), K17 h a2 = some q → xj_X p l e { frames := 7, cells := 0, slots := 0, locals := 113 } s m args below meth c G 4 0 0 (MQ below (xw_Q G (some (.int q.2.1)) q.1) args s 0 0 (xg_A G)) h [some (.ref (xg_ad G k0)), some (.int a1), some (.int a2), none] 17 []) (hk0 : xw_kd k0 = 5) : ∀ (n : Nat) (h : xw_M) (a3 : Int32), mX5_placesWanted_b48 K17 k0 a1 a2 n h a3 = some q → xj_X p l e { frames := 7, cells := 0, slots := 0, locals := 113 } s m args below meth c G 4 0 0 (MQ below (xw_Q G (some (.int q.2.1)) q.1) args s 0 0 (xg_A G)) h [some (.ref (xg_ad G k0)), some (.int a1), some (.int a2), some (.int a3)] 48 [] := by
  intro n
  induction n with
  | zero => intro h a3 hR; exact absurd (show (none : Option (xw_M × Int32 × Nat)) = some q from hR) (fun z => by cases z)
  | succ n ih =>
    intro h a3 hR
    rw [mX5_placesWanted_b48.eq_2] at hR
    refine xr_iload_n C dX5_placesWanted_48 rfl ?_
    refine xr_bipush (v := 100) C dX5_placesWanted_49 (by decide) ?_
    refine xr_icmp_ge (tgt := 77) C dX5_placesWanted_51 (by decide) hR (fun hR => ?_) (fun hR => ?_)
    · exact xr_sub (lv9 := [some (.ref (xg_ad G k0)), some (.int a1), some (.int a2), none]) (And.intro rfl (And.intro rfl (And.intro rfl trivial))) (mbX5_placesWanted_b77 C hr hq hK17 hk0  hR)
    · refine xr_aload_n C dX5_placesWanted_54 rfl ?_
      refine xr_get C hk0 fl_RX5_16 rfl dX5_placesWanted_55 ?_
      refine xr_callVi C (st := []) [] cv_RX5_144 kp_5_1 (fun _ zz9 => mcX1_hasStopped l G kp_5_1 zz9) rfl ⟨Nat.le_of_ble_eq_true rfl, Nat.le_of_ble_eq_true rfl⟩ (Nat.le_of_ble_eq_true rfl) ⟨Nat.zero_le _, Nat.zero_le _⟩ rfl dX5_placesWanted_58 hR (fun r7 hr7 hR => ?_)
      refine xr_if_ne (tgt := 77) C dX5_placesWanted_61 (by decide) hR (fun hR => ?_) (fun hR => ?_)
      · exact xr_sub (lv9 := [some (.ref (xg_ad G k0)), some (.int a1), some (.int a2), none]) (And.intro rfl (And.intro rfl (And.intro rfl trivial))) (mbX5_placesWanted_b77 C hr hq hK17 hk0  hR)
      · refine xr_aload_n C dX5_placesWanted_64 rfl ?_
        refine xr_get C hk0 fl_RX5_16 rfl dX5_placesWanted_65 ?_
        refine xr_callVv C (st := []) [] cv_RX5_127 kp_5_1 (fun _ zz9 => mcX1_letTurnGoBy l G kp_5_1 zz9) rfl ⟨Nat.le_of_ble_eq_true rfl, Nat.le_of_ble_eq_true rfl⟩ (Nat.le_of_ble_eq_true rfl) ⟨Nat.zero_le _, Nat.zero_le _⟩ rfl dX5_placesWanted_68 hR (fun r8 hr8 hR => ?_)
        refine xr_iinc (v := 1) C dX5_placesWanted_71 rfl (by decide) rfl (by decide) ?_
        refine xr_goto (tgt := 48) C dX5_placesWanted_74 (by decide) ?_
        exact xr_sub (lv9 := [some (.ref (xg_ad G k0)), some (.int a1), some (.int a2), some (.int (a3 + 1))]) (And.intro rfl (And.intro rfl (And.intro rfl (And.intro rfl trivial)))) (ih _ _  hR)
set_option maxHeartbeats 4000000 in
set_option maxRecDepth 100000 in
theorem mbX5_placesWanted_b17 {p : Program} {l : Launch} {e : Env} {s : State} {m : MethodId} {args : Array Value} {below : List Frame} {meth : Method} {c : Code} {G : xw_G} (C : xj_C p s m args meth c G RX5 cX5_placesWanted 4) (hr : meth.sig.returnType = (some .int)) {q : xw_M × Int32 × Nat} (hq : q.2.2 = 0) {k0 : Nat} {a1 : Int32}  (hk0 : xw_kd k0 = 5) : ∀ (n : Nat) (h : xw_M) (a2 : Int32), mX5_placesWanted_b17  k0 a1 n h a2 = some q → xj_X p l e { frames := 7, cells := 0, slots := 0, locals := 113 } s m args below meth c G 4 0 0 (MQ below (xw_Q G (some (.int q.2.1)) q.1) args s 0 0 (xg_A G)) h [some (.ref (xg_ad G k0)), some (.int a1), some (.int a2), none] 17 [] := by
  intro n
  induction n with
  | zero => intro h a2 hR; exact absurd (show (none : Option (xw_M × Int32 × Nat)) = some q from hR) (fun z => by cases z)
  | succ n ih =>
    intro h a2 hR
    rw [mX5_placesWanted_b17.eq_2] at hR
    refine xr_iload_n C dX5_placesWanted_17 rfl ?_
    refine xr_bipush (v := 8) C dX5_placesWanted_18 (by decide) ?_
    refine xr_icmp_gt (tgt := 95) C dX5_placesWanted_20 (by decide) hR (fun hR => ?_) (fun hR => ?_)
    · refine xr_iconst (v := (-1)) C dX5_placesWanted_95 (by decide) ?_
      exact xr_iretR C hr dX5_placesWanted_96 hR
    · refine xr_aload_n C dX5_placesWanted_23 rfl ?_
      refine xr_get C hk0 fl_RX5_16 rfl dX5_placesWanted_24 ?_
      refine xr_aload_n C dX5_placesWanted_27 rfl ?_
      refine xr_get C hk0 fl_RX5_10 rfl dX5_placesWanted_28 ?_
      refine xr_callVv C (st := []) [.ref (xg_ad G 0)] cv_RX5_173 kp_5_1 (fun _ zz9 => mcX1_becomeLike l G kp_5_1 kp_5_0 zz9) rfl ⟨Nat.le_of_ble_eq_true rfl, Nat.le_of_ble_eq_true rfl⟩ (Nat.le_of_ble_eq_true rfl) ⟨Nat.zero_le _, Nat.zero_le _⟩ rfl dX5_placesWanted_31 hR (fun r3 hr3 hR => ?_)
      refine xr_aload_n C dX5_placesWanted_34 rfl ?_
      refine xr_get C hk0 fl_RX5_16 rfl dX5_placesWanted_35 ?_
      refine xr_iload_n C dX5_placesWanted_38 rfl ?_
      refine xr_callVr C (st := []) [.int a1] cv_RX5_35 kp_5_1 (fun _ zz9 => mcX1_channelAt l G kp_5_1 zz9) rfl ⟨Nat.le_of_ble_eq_true rfl, Nat.le_of_ble_eq_true rfl⟩ (Nat.le_of_ble_eq_true rfl) ⟨Nat.zero_le _, Nat.zero_le _⟩ rfl dX5_placesWanted_39 hR (fun r4 hr4 hR => ?_)
      refine xr_iload_n C dX5_placesWanted_42 rfl ?_
      refine xr_putL C (kr_X1_channelAt kp_5_1 hr4) fl_RX5_39 pf_0_0 dX5_placesWanted_43 hR (fun h5 hR => ?_)
      refine xr_iconst (v := 0) C dX5_placesWanted_46 (by decide) ?_
      refine xr_istore_n C dX5_placesWanted_47 rfl (by decide) ?_
      exact xr_sub (lv9 := [some (.ref (xg_ad G k0)), some (.int a1), some (.int a2), some (.int (0 : Int32))]) (And.intro rfl (And.intro rfl (And.intro rfl (And.intro rfl trivial)))) (mbX5_placesWanted_b48 C hr hq ih hk0 _ _ _  hR)
set_option maxHeartbeats 4000000 in
set_option maxRecDepth 100000 in
theorem mcX5_placesWanted (l : Launch) (G : xw_G) {k0 : Nat} {a1 : Int32} (hk0 : xw_kd k0 = 5) {h : xw_M} {q : xw_M × Int32 × Nat} (hR : mX5_placesWanted k0 a1 h = some q) (hq : q.2.2 = 0) : xc_M l G yX5_placesWanted cX5_placesWanted 4 (some .int) 7 113 [.ref (xg_ad G k0), .int a1] h q.1 (some (.int q.2.1)) := by
  refine xc_of (by decide +kernel) rfl (Nat.le_of_ble_eq_true rfl) ?_
  intro p e s m args below meth c C hr
  have C : xj_C p s m args meth c G RX5 cX5_placesWanted 4 := C
  show xj_X p l e { frames := 7, cells := 0, slots := 0, locals := 113 } s m args below meth c G 4 0 0 (MQ below (xw_Q G (some (.int q.2.1)) q.1) args s 0 0 (xg_A G)) h [some (.ref (xg_ad G k0)), some (.int a1), none, none] 0 []
  unfold mX5_placesWanted at hR
  refine xr_aload_n C dX5_placesWanted_0 rfl ?_
  refine xr_iload_n C dX5_placesWanted_1 rfl ?_
  refine xr_callRv C (st := []) [.int a1] hq cv_RX5_87 hk0 (fun _ zz9 zq9 => mcX5_checkChannel l G hk0 zz9 zq9) rfl ⟨Nat.le_of_ble_eq_true rfl, Nat.le_of_ble_eq_true rfl⟩ (Nat.le_of_ble_eq_true rfl) ⟨Nat.zero_le _, Nat.zero_le _⟩ rfl dX5_placesWanted_2 hR (fun r1 hr1 hR => ?_)
  refine xr_aload_n C dX5_placesWanted_5 rfl ?_
  refine xr_get C hk0 fl_RX5_10 rfl dX5_placesWanted_6 ?_
  refine xr_iload_n C dX5_placesWanted_9 rfl ?_
  refine xr_callVr C (st := []) [.int a1] cv_RX5_35 kp_5_0 (fun _ zz9 => mcX1_channelAt l G kp_5_0 zz9) rfl ⟨Nat.le_of_ble_eq_true rfl, Nat.le_of_ble_eq_true rfl⟩ (Nat.le_of_ble_eq_true rfl) ⟨Nat.zero_le _, Nat.zero_le _⟩ rfl dX5_placesWanted_10 hR (fun r2 hr2 hR => ?_)
  refine xr_get C (kr_X1_channelAt kp_5_0 hr2) fl_RX5_39 rfl dX5_placesWanted_13 ?_
  refine xr_istore_n C dX5_placesWanted_16 rfl (by decide) ?_
  exact xr_sub (lv9 := [some (.ref (xg_ad G k0)), some (.int a1), some (.int (r2.1 r2.2 0)), none]) (And.intro rfl (And.intro rfl (And.intro rfl trivial))) (mbX5_placesWanted_b17 C hr hq  hk0 _ _ _  hR)
set_option maxHeartbeats 4000000 in
set_option maxRecDepth 100000 in
theorem mbTX5_placesWanted_b77 {p : Program} {l : Launch} {e : Env} {s : State} {m : MethodId} {args : Array Value} {below : List Frame} {meth : Method} {c : Code} {G : xw_G} (C : xj_C p s m args meth c G RX5 cX5_placesWanted 4) (hr : meth.sig.returnType = (some .int)) {q : xw_M × Int32 × Nat} (hq : ¬ q.2.2 = 0) (hl : l.stackTraces = false) (htab : ∀ x ∈ c.exceptionTable.toList, False) {K17 : xw_M → Int32 → Option (xw_M × Int32 × Nat)} {k0 : Nat} {a1 : Int32} {a2 : Int32} (hK17 : ∀ (h : xw_M) (a2 : Int32), K17 h a2 = some q → xj_X p l e { frames := 7, cells := 1, slots := 6, locals := 113 } s m args below meth c G 4 0 0 (xt_Z G below args s q.1 q.2.2) h [some (.ref (xg_ad G k0)), some (.int a1), some (.int a2), none] 17 []) (hk0 : xw_kd k0 = 5) {h : xw_M}   (hR : mX5_placesWanted_b77 K17 k0 a1 a2 h  = some q) : xj_X p l e { frames := 7, cells := 1, slots := 6, locals := 113 } s m args below meth c G 4 0 0 (xt_Z G below args s q.1 q.2.2) h [some (.ref (xg_ad G k0)), some (.int a1), some (.int a2), none] 77 [] := by
  unfold mX5_placesWanted_b77 at hR
  refine xr_aload_n C dX5_placesWanted_77 rfl ?_
  refine xr_get C hk0 fl_RX5_16 rfl dX5_placesWanted_78 ?_
  refine xr_callVi C (st := []) [] cv_RX5_147 kp_5_1 (fun _ zz9 => mcX1_allAreDone l G kp_5_1 zz9) rfl ⟨Nat.le_of_ble_eq_true rfl, Nat.le_of_ble_eq_true rfl⟩ (Nat.le_of_ble_eq_true rfl) ⟨Nat.zero_le _, Nat.zero_le _⟩ rfl dX5_placesWanted_81 hR (fun r6 hr6 hR => ?_)
  refine xr_if_eq (tgt := 89) C dX5_placesWanted_84 (by decide) hR (fun hR => ?_) (fun hR => ?_)
  · refine xr_iinc (v := 1) C dX5_placesWanted_89 rfl (by decide) rfl (by decide) ?_
    refine xr_goto (tgt := 17) C dX5_placesWanted_92 (by decide) ?_
    exact xr_sub (lv9 := [some (.ref (xg_ad G k0)), some (.int a1), some (.int (a2 + 1)), none]) (And.intro rfl (And.intro rfl (And.intro rfl trivial))) (hK17 _ _  hR)
  · refine xr_iload_n C dX5_placesWanted_87 rfl ?_
    exact absurd (xo_no hR) hq
set_option maxHeartbeats 4000000 in
set_option maxRecDepth 100000 in
theorem mbTX5_placesWanted_b48 {p : Program} {l : Launch} {e : Env} {s : State} {m : MethodId} {args : Array Value} {below : List Frame} {meth : Method} {c : Code} {G : xw_G} (C : xj_C p s m args meth c G RX5 cX5_placesWanted 4) (hr : meth.sig.returnType = (some .int)) {q : xw_M × Int32 × Nat} (hq : ¬ q.2.2 = 0) (hl : l.stackTraces = false) (htab : ∀ x ∈ c.exceptionTable.toList, False) {K17 : xw_M → Int32 → Option (xw_M × Int32 × Nat)} {k0 : Nat} {a1 : Int32} {a2 : Int32} (hK17 : ∀ (h : xw_M) (a2 : Int32), K17 h a2 = some q → xj_X p l e { frames := 7, cells := 1, slots := 6, locals := 113 } s m args below meth c G 4 0 0 (xt_Z G below args s q.1 q.2.2) h [some (.ref (xg_ad G k0)), some (.int a1), some (.int a2), none] 17 []) (hk0 : xw_kd k0 = 5) : ∀ (n : Nat) (h : xw_M) (a3 : Int32), mX5_placesWanted_b48 K17 k0 a1 a2 n h a3 = some q → xj_X p l e { frames := 7, cells := 1, slots := 6, locals := 113 } s m args below meth c G 4 0 0 (xt_Z G below args s q.1 q.2.2) h [some (.ref (xg_ad G k0)), some (.int a1), some (.int a2), some (.int a3)] 48 [] := by
  intro n
  induction n with
  | zero => intro h a3 hR; exact absurd (show (none : Option (xw_M × Int32 × Nat)) = some q from hR) (fun z => by cases z)
  | succ n ih =>
    intro h a3 hR
    rw [mX5_placesWanted_b48.eq_2] at hR
    refine xr_iload_n C dX5_placesWanted_48 rfl ?_
    refine xr_bipush (v := 100) C dX5_placesWanted_49 (by decide) ?_
    refine xr_icmp_ge (tgt := 77) C dX5_placesWanted_51 (by decide) hR (fun hR => ?_) (fun hR => ?_)
    · exact xr_sub (lv9 := [some (.ref (xg_ad G k0)), some (.int a1), some (.int a2), none]) (And.intro rfl (And.intro rfl (And.intro rfl trivial))) (mbTX5_placesWanted_b77 C hr hq hl htab hK17 hk0  hR)
    · refine xr_aload_n C dX5_placesWanted_54 rfl ?_
      refine xr_get C hk0 fl_RX5_16 rfl dX5_placesWanted_55 ?_
      refine xr_callVi C (st := []) [] cv_RX5_144 kp_5_1 (fun _ zz9 => mcX1_hasStopped l G kp_5_1 zz9) rfl ⟨Nat.le_of_ble_eq_true rfl, Nat.le_of_ble_eq_true rfl⟩ (Nat.le_of_ble_eq_true rfl) ⟨Nat.zero_le _, Nat.zero_le _⟩ rfl dX5_placesWanted_58 hR (fun r7 hr7 hR => ?_)
      refine xr_if_ne (tgt := 77) C dX5_placesWanted_61 (by decide) hR (fun hR => ?_) (fun hR => ?_)
      · exact xr_sub (lv9 := [some (.ref (xg_ad G k0)), some (.int a1), some (.int a2), none]) (And.intro rfl (And.intro rfl (And.intro rfl trivial))) (mbTX5_placesWanted_b77 C hr hq hl htab hK17 hk0  hR)
      · refine xr_aload_n C dX5_placesWanted_64 rfl ?_
        refine xr_get C hk0 fl_RX5_16 rfl dX5_placesWanted_65 ?_
        refine xr_callVv C (st := []) [] cv_RX5_127 kp_5_1 (fun _ zz9 => mcX1_letTurnGoBy l G kp_5_1 zz9) rfl ⟨Nat.le_of_ble_eq_true rfl, Nat.le_of_ble_eq_true rfl⟩ (Nat.le_of_ble_eq_true rfl) ⟨Nat.zero_le _, Nat.zero_le _⟩ rfl dX5_placesWanted_68 hR (fun r8 hr8 hR => ?_)
        refine xr_iinc (v := 1) C dX5_placesWanted_71 rfl (by decide) rfl (by decide) ?_
        refine xr_goto (tgt := 48) C dX5_placesWanted_74 (by decide) ?_
        exact xr_sub (lv9 := [some (.ref (xg_ad G k0)), some (.int a1), some (.int a2), some (.int (a3 + 1))]) (And.intro rfl (And.intro rfl (And.intro rfl (And.intro rfl trivial)))) (ih _ _  hR)
set_option maxHeartbeats 4000000 in
set_option maxRecDepth 100000 in
theorem mbTX5_placesWanted_b17 {p : Program} {l : Launch} {e : Env} {s : State} {m : MethodId} {args : Array Value} {below : List Frame} {meth : Method} {c : Code} {G : xw_G} (C : xj_C p s m args meth c G RX5 cX5_placesWanted 4) (hr : meth.sig.returnType = (some .int)) {q : xw_M × Int32 × Nat} (hq : ¬ q.2.2 = 0) (hl : l.stackTraces = false) (htab : ∀ x ∈ c.exceptionTable.toList, False) {k0 : Nat} {a1 : Int32}  (hk0 : xw_kd k0 = 5) : ∀ (n : Nat) (h : xw_M) (a2 : Int32), mX5_placesWanted_b17  k0 a1 n h a2 = some q → xj_X p l e { frames := 7, cells := 1, slots := 6, locals := 113 } s m args below meth c G 4 0 0 (xt_Z G below args s q.1 q.2.2) h [some (.ref (xg_ad G k0)), some (.int a1), some (.int a2), none] 17 [] := by
  intro n
  induction n with
  | zero => intro h a2 hR; exact absurd (show (none : Option (xw_M × Int32 × Nat)) = some q from hR) (fun z => by cases z)
  | succ n ih =>
    intro h a2 hR
    rw [mX5_placesWanted_b17.eq_2] at hR
    refine xr_iload_n C dX5_placesWanted_17 rfl ?_
    refine xr_bipush (v := 8) C dX5_placesWanted_18 (by decide) ?_
    refine xr_icmp_gt (tgt := 95) C dX5_placesWanted_20 (by decide) hR (fun hR => ?_) (fun hR => ?_)
    · refine xr_iconst (v := (-1)) C dX5_placesWanted_95 (by decide) ?_
      exact absurd (xo_no hR) hq
    · refine xr_aload_n C dX5_placesWanted_23 rfl ?_
      refine xr_get C hk0 fl_RX5_16 rfl dX5_placesWanted_24 ?_
      refine xr_aload_n C dX5_placesWanted_27 rfl ?_
      refine xr_get C hk0 fl_RX5_10 rfl dX5_placesWanted_28 ?_
      refine xr_callVv C (st := []) [.ref (xg_ad G 0)] cv_RX5_173 kp_5_1 (fun _ zz9 => mcX1_becomeLike l G kp_5_1 kp_5_0 zz9) rfl ⟨Nat.le_of_ble_eq_true rfl, Nat.le_of_ble_eq_true rfl⟩ (Nat.le_of_ble_eq_true rfl) ⟨Nat.zero_le _, Nat.zero_le _⟩ rfl dX5_placesWanted_31 hR (fun r3 hr3 hR => ?_)
      refine xr_aload_n C dX5_placesWanted_34 rfl ?_
      refine xr_get C hk0 fl_RX5_16 rfl dX5_placesWanted_35 ?_
      refine xr_iload_n C dX5_placesWanted_38 rfl ?_
      refine xr_callVr C (st := []) [.int a1] cv_RX5_35 kp_5_1 (fun _ zz9 => mcX1_channelAt l G kp_5_1 zz9) rfl ⟨Nat.le_of_ble_eq_true rfl, Nat.le_of_ble_eq_true rfl⟩ (Nat.le_of_ble_eq_true rfl) ⟨Nat.zero_le _, Nat.zero_le _⟩ rfl dX5_placesWanted_39 hR (fun r4 hr4 hR => ?_)
      refine xr_iload_n C dX5_placesWanted_42 rfl ?_
      refine xr_putL C (kr_X1_channelAt kp_5_1 hr4) fl_RX5_39 pf_0_0 dX5_placesWanted_43 hR (fun h5 hR => ?_)
      refine xr_iconst (v := 0) C dX5_placesWanted_46 (by decide) ?_
      refine xr_istore_n C dX5_placesWanted_47 rfl (by decide) ?_
      exact xr_sub (lv9 := [some (.ref (xg_ad G k0)), some (.int a1), some (.int a2), some (.int (0 : Int32))]) (And.intro rfl (And.intro rfl (And.intro rfl (And.intro rfl trivial)))) (mbTX5_placesWanted_b48 C hr hq hl htab ih hk0 _ _ _  hR)
set_option maxHeartbeats 4000000 in
set_option maxRecDepth 100000 in
theorem mtX5_placesWanted (l : Launch) (G : xw_G) (hl : l.stackTraces = false) {k0 : Nat} {a1 : Int32} (hk0 : xw_kd k0 = 5) {h : xw_M} {q : xw_M × Int32 × Nat} (hR : mX5_placesWanted k0 a1 h = some q) (hq : ¬ q.2.2 = 0) : xt_M l G yX5_placesWanted cX5_placesWanted 4 (some .int) 7 113 [.ref (xg_ad G k0), .int a1] h q.1 q.2.2 := by
  refine xt_of (by decide +kernel) rfl (Nat.le_of_ble_eq_true rfl) ?_
  intro p e s m args below meth c C hr htab
  have C : xj_C p s m args meth c G RX5 cX5_placesWanted 4 := C
  show xj_X p l e { frames := 7, cells := 1, slots := 6, locals := 113 } s m args below meth c G 4 0 0 (xt_Z G below args s q.1 q.2.2) h [some (.ref (xg_ad G k0)), some (.int a1), none, none] 0 []
  unfold mX5_placesWanted at hR
  refine xr_aload_n C dX5_placesWanted_0 rfl ?_
  refine xr_iload_n C dX5_placesWanted_1 rfl ?_
  refine xr_callTv C htab (st := []) [.int a1] cv_RX5_87 hk0 (fun _ zz9 zq9 => mcX5_checkChannel l G hk0 zz9 zq9) (fun _ zz9 zq9 => mtX5_checkChannel l G hl hk0 zz9 zq9) rfl ⟨Nat.le_of_ble_eq_true rfl, Nat.le_of_ble_eq_true rfl⟩ (Nat.le_of_ble_eq_true rfl) ⟨by decide, by decide⟩ (by decide) (by decide) rfl dX5_placesWanted_2 hR (fun r1 hr1 hR => ?_)
  refine xr_aload_n C dX5_placesWanted_5 rfl ?_
  refine xr_get C hk0 fl_RX5_10 rfl dX5_placesWanted_6 ?_
  refine xr_iload_n C dX5_placesWanted_9 rfl ?_
  refine xr_callVr C (st := []) [.int a1] cv_RX5_35 kp_5_0 (fun _ zz9 => mcX1_channelAt l G kp_5_0 zz9) rfl ⟨Nat.le_of_ble_eq_true rfl, Nat.le_of_ble_eq_true rfl⟩ (Nat.le_of_ble_eq_true rfl) ⟨Nat.zero_le _, Nat.zero_le _⟩ rfl dX5_placesWanted_10 hR (fun r2 hr2 hR => ?_)
  refine xr_get C (kr_X1_channelAt kp_5_0 hr2) fl_RX5_39 rfl dX5_placesWanted_13 ?_
  refine xr_istore_n C dX5_placesWanted_16 rfl (by decide) ?_
  exact xr_sub (lv9 := [some (.ref (xg_ad G k0)), some (.int a1), some (.int (r2.1 r2.2 0)), none]) (And.intro rfl (And.intro rfl (And.intro rfl trivial))) (mbTX5_placesWanted_b17 C hr hq hl htab  hk0 _ _ _  hR)
end
section
def mX5_digest_b229  (k0 : Nat) (a4 : Int32) : Nat → xw_M → Int64 → Int32 → Option (xw_M × Int64 × Nat)
  | 0, _, _, _ => none
  | n + 1, h, w1, a5 => (if a4 ≤ a5 then some (h, w1, 0) else (mX5_stateOf k0 a5 h).bind fun r11 => xo_th (0 : Int64) r11 ((mX5_placeOf k0 a5 r11.1).bind fun r12 => xo_th (0 : Int64) r12 ((mX5_sumOf k0 a5 r12.1).bind fun r13 => xo_th (0 : Int64) r13 ((mX5_stepsDone k0 a5 r13.1).bind fun r14 => xo_th (0 : Int64) r14 ((mX5_turnsOf k0 a5 r14.1).bind fun r15 => xo_th (0 : Int64) r15 ((mX5_placeInLine k0 a5 r15.1).bind fun r16 => xo_th (0 : Int64) r16 ((mX5_turnsUntilDone k0 a5 r16.1).bind fun r17 => xo_th (0 : Int64) r17 (mX5_digest_b229  k0 a4 n r17.1 (((((((((((((((w1 * (31 : Int64)) + (Int32.toInt64 r11.2.1)) * (31 : Int64)) + (Int32.toInt64 r12.2.1)) * (31 : Int64)) + (Int32.toInt64 r13.2.1)) * (31 : Int64)) + (Int32.toInt64 r14.2.1)) * (31 : Int64)) + (Int32.toInt64 r15.2.1)) * (31 : Int64)) + (Int32.toInt64 r16.2.1)) * (31 : Int64)) + (Int32.toInt64 r17.2.1))) ((a5 + 1))))))))))
def mX5_digest_b143 (K116 : xw_M → Int64 → Int32 → Option (xw_M × Int64 × Nat)) (k0 : Nat) (a3 : Int32) (a4 : Int32) (a5 : Int32) : Nat → xw_M → Int64 → Int32 → Option (xw_M × Int64 × Nat)
  | 0, _, _, _ => none
  | n + 1, h, w1, a6 => (if a5 ≤ a6 then (mX5_sendersAt k0 a4 h).bind fun r19 => xo_th (0 : Int64) r19 ((mX5_takersAt k0 a4 r19.1).bind fun r20 => xo_th (0 : Int64) r20 ((mX5_placesWanted k0 a4 r20.1).bind fun r21 => xo_th (0 : Int64) r21 (K116 r21.1 (((((((w1 * (31 : Int64)) + (Int32.toInt64 r19.2.1)) * (31 : Int64)) + (Int32.toInt64 r20.2.1)) * (31 : Int64)) + (Int32.toInt64 r21.2.1))) ((a4 + 1))))) else (mX5_valueAt k0 a4 a6 h).bind fun r22 => xo_th (0 : Int64) r22 (mX5_digest_b143 K116 k0 a3 a4 a5 n r22.1 (((w1 * (31 : Int64)) + (Int32.toInt64 r22.2.1))) ((a6 + 1))))
def mX5_digest_b116  (k0 : Nat) (a3 : Int32) : Nat → xw_M → Int64 → Int32 → Option (xw_M × Int64 × Nat)
  | 0, _, _, _ => none
  | n + 1, h, w1, a4 => (if a3 ≤ a4 then (mX5_fibers k0 h).bind fun r10 => mX5_digest_b229  (k0) (r10.2) xo_n r10.1 (w1) ((0 : Int32)) else (mX5_held k0 a4 h).bind fun r18 => xo_th (0 : Int64) r18 (mX5_digest_b143 (mX5_digest_b116  k0 a3 n) (k0) (a3) (a4) (r18.2.1) xo_n r18.1 (((w1 * (31 : Int64)) + (Int32.toInt64 r18.2.1))) ((0 : Int32))))
def mX5_digest_b93  (k0 : Nat) (h : xw_M) (as0 : Int32) (ws1 : Int64) : Option (xw_M × Int64 × Nat) := (mX5_turnsUntilStuck k0 h).bind fun r8 => (mX5_channels k0 r8.1).bind fun r9 => mX5_digest_b116  (k0) (r9.2) xo_n r9.1 ((((ws1 + (Int32.toInt64 as0)) * (31 : Int64)) + (Int32.toInt64 r8.2))) ((0 : Int32))
def mX5_digest (k0 : Nat) (h : xw_M) : Option (xw_M × Int64 × Nat) := (mX5_time k0 h).bind fun r1 => (mX5_channels k0 r1.1).bind fun r2 => (mX5_fibers k0 r2.1).bind fun r3 => (mX5_done k0 r3.1).bind fun r4 => (mX5_idleTurns k0 r4.1).bind fun r5 => (mX5_next k0 r5.1).bind fun r6 => (mX5_isStuck k0 r6.1).bind fun r7 => (if r7.2 = 0 then mX5_digest_b93  (k0) r7.1 ((0 : Int32)) (((((((((((((((2213 : Int64) * (31 : Int64)) + (Int32.toInt64 r1.2)) * (31 : Int64)) + (Int32.toInt64 r2.2)) * (31 : Int64)) + (Int32.toInt64 r3.2)) * (31 : Int64)) + (Int32.toInt64 r4.2)) * (31 : Int64)) + (Int32.toInt64 r5.2)) * (31 : Int64)) + (Int32.toInt64 r6.2)) * (31 : Int64))) else mX5_digest_b93  (k0) r7.1 ((1 : Int32)) (((((((((((((((2213 : Int64) * (31 : Int64)) + (Int32.toInt64 r1.2)) * (31 : Int64)) + (Int32.toInt64 r2.2)) * (31 : Int64)) + (Int32.toInt64 r3.2)) * (31 : Int64)) + (Int32.toInt64 r4.2)) * (31 : Int64)) + (Int32.toInt64 r5.2)) * (31 : Int64)) + (Int32.toInt64 r6.2)) * (31 : Int64))))
set_option maxHeartbeats 4000000 in
set_option maxRecDepth 100000 in
theorem mbX5_digest_b229 {p : Program} {l : Launch} {e : Env} {s : State} {m : MethodId} {args : Array Value} {below : List Frame} {meth : Method} {c : Code} {G : xw_G} (C : xj_C p s m args meth c G RX5 cX5_digest 7) (hr : meth.sig.returnType = (some .long)) {q : xw_M × Int64 × Nat} (hq : q.2.2 = 0) {k0 : Nat} {a4 : Int32}  (hk0 : xw_kd k0 = 5) : ∀ (n : Nat) (h : xw_M) (w1 : Int64) (a5 : Int32), mX5_digest_b229  k0 a4 n h w1 a5 = some q → xj_X p l e { frames := 8, cells := 0, slots := 0, locals := 136 } s m args below meth c G 7 0 0 (MQ below (xw_Q G (some (.long q.2.1)) q.1) args s 0 0 (xg_A G)) h [some (.ref (xg_ad G k0)), some (.long w1), none, none, some (.int a4), some (.int a5), none] 229 [] := by
  intro n
  induction n with
  | zero => intro h w1 a5 hR; exact absurd (show (none : Option (xw_M × Int64 × Nat)) = some q from hR) (fun z => by cases z)
  | succ n ih =>
    intro h w1 a5 hR
    rw [mX5_digest_b229.eq_2] at hR
    refine xr_iload C dX5_digest_229 rfl ?_
    refine xr_iload C dX5_digest_231 rfl ?_
    refine xr_icmp_ge (tgt := 340) C dX5_digest_233 (by decide) hR (fun hR => ?_) (fun hR => ?_)
    · refine xr_lload_n C dX5_digest_340 rfl ?_
      exact xr_lretR C hr dX5_digest_341 hR
    · refine xr_lload_n C dX5_digest_236 rfl ?_
      refine xr_ldc2 (v := 31) C dX5_digest_237 (lw_g_in (by decide +kernel) (by decide +kernel)) ?_
      refine xr_lmul C dX5_digest_240 ?_
      refine xr_aload_n C dX5_digest_241 rfl ?_
      refine xr_iload C dX5_digest_242 rfl ?_
      refine xr_callRi C (st := [.long (w1 * (31 : Int64))]) [.int a5] hq cv_RX5_221 hk0 (fun _ zz9 zq9 => mcX5_stateOf l G hk0 zz9 zq9) rfl ⟨Nat.le_of_ble_eq_true rfl, Nat.le_of_ble_eq_true rfl⟩ (Nat.le_of_ble_eq_true rfl) ⟨Nat.zero_le _, Nat.zero_le _⟩ rfl dX5_digest_244 hR (fun r11 hr11 hR => ?_)
      refine xr_i2l C dX5_digest_247 ?_
      refine xr_ladd C dX5_digest_248 ?_
      refine xr_lstore_n C dX5_digest_249 rfl (by decide) ?_
      refine xr_lload_n C dX5_digest_250 rfl ?_
      refine xr_ldc2 (v := 31) C dX5_digest_251 (lw_g_in (by decide +kernel) (by decide +kernel)) ?_
      refine xr_lmul C dX5_digest_254 ?_
      refine xr_aload_n C dX5_digest_255 rfl ?_
      refine xr_iload C dX5_digest_256 rfl ?_
      refine xr_callRi C (st := [.long (((w1 * (31 : Int64)) + (Int32.toInt64 r11.2.1)) * (31 : Int64))]) [.int a5] hq cv_RX5_224 hk0 (fun _ zz9 zq9 => mcX5_placeOf l G hk0 zz9 zq9) rfl ⟨Nat.le_of_ble_eq_true rfl, Nat.le_of_ble_eq_true rfl⟩ (Nat.le_of_ble_eq_true rfl) ⟨Nat.zero_le _, Nat.zero_le _⟩ rfl dX5_digest_258 hR (fun r12 hr12 hR => ?_)
      refine xr_i2l C dX5_digest_261 ?_
      refine xr_ladd C dX5_digest_262 ?_
      refine xr_lstore_n C dX5_digest_263 rfl (by decide) ?_
      refine xr_lload_n C dX5_digest_264 rfl ?_
      refine xr_ldc2 (v := 31) C dX5_digest_265 (lw_g_in (by decide +kernel) (by decide +kernel)) ?_
      refine xr_lmul C dX5_digest_268 ?_
      refine xr_aload_n C dX5_digest_269 rfl ?_
      refine xr_iload C dX5_digest_270 rfl ?_
      refine xr_callRi C (st := [.long (((((w1 * (31 : Int64)) + (Int32.toInt64 r11.2.1)) * (31 : Int64)) + (Int32.toInt64 r12.2.1)) * (31 : Int64))]) [.int a5] hq cv_RX5_227 hk0 (fun _ zz9 zq9 => mcX5_sumOf l G hk0 zz9 zq9) rfl ⟨Nat.le_of_ble_eq_true rfl, Nat.le_of_ble_eq_true rfl⟩ (Nat.le_of_ble_eq_true rfl) ⟨Nat.zero_le _, Nat.zero_le _⟩ rfl dX5_digest_272 hR (fun r13 hr13 hR => ?_)
      refine xr_i2l C dX5_digest_275 ?_
      refine xr_ladd C dX5_digest_276 ?_
      refine xr_lstore_n C dX5_digest_277 rfl (by decide) ?_
      refine xr_lload_n C dX5_digest_278 rfl ?_
      refine xr_ldc2 (v := 31) C dX5_digest_279 (lw_g_in (by decide +kernel) (by decide +kernel)) ?_
      refine xr_lmul C dX5_digest_282 ?_
      refine xr_aload_n C dX5_digest_283 rfl ?_
      refine xr_iload C dX5_digest_284 rfl ?_
      refine xr_callRi C (st := [.long (((((((w1 * (31 : Int64)) + (Int32.toInt64 r11.2.1)) * (31 : Int64)) + (Int32.toInt64 r12.2.1)) * (31 : Int64)) + (Int32.toInt64 r13.2.1)) * (31 : Int64))]) [.int a5] hq cv_RX5_230 hk0 (fun _ zz9 zq9 => mcX5_stepsDone l G hk0 zz9 zq9) rfl ⟨Nat.le_of_ble_eq_true rfl, Nat.le_of_ble_eq_true rfl⟩ (Nat.le_of_ble_eq_true rfl) ⟨Nat.zero_le _, Nat.zero_le _⟩ rfl dX5_digest_286 hR (fun r14 hr14 hR => ?_)
      refine xr_i2l C dX5_digest_289 ?_
      refine xr_ladd C dX5_digest_290 ?_
      refine xr_lstore_n C dX5_digest_291 rfl (by decide) ?_
      refine xr_lload_n C dX5_digest_292 rfl ?_
      refine xr_ldc2 (v := 31) C dX5_digest_293 (lw_g_in (by decide +kernel) (by decide +kernel)) ?_
      refine xr_lmul C dX5_digest_296 ?_
      refine xr_aload_n C dX5_digest_297 rfl ?_
      refine xr_iload C dX5_digest_298 rfl ?_
      refine xr_callRi C (st := [.long (((((((((w1 * (31 : Int64)) + (Int32.toInt64 r11.2.1)) * (31 : Int64)) + (Int32.toInt64 r12.2.1)) * (31 : Int64)) + (Int32.toInt64 r13.2.1)) * (31 : Int64)) + (Int32.toInt64 r14.2.1)) * (31 : Int64))]) [.int a5] hq cv_RX5_233 hk0 (fun _ zz9 zq9 => mcX5_turnsOf l G hk0 zz9 zq9) rfl ⟨Nat.le_of_ble_eq_true rfl, Nat.le_of_ble_eq_true rfl⟩ (Nat.le_of_ble_eq_true rfl) ⟨Nat.zero_le _, Nat.zero_le _⟩ rfl dX5_digest_300 hR (fun r15 hr15 hR => ?_)
      refine xr_i2l C dX5_digest_303 ?_
      refine xr_ladd C dX5_digest_304 ?_
      refine xr_lstore_n C dX5_digest_305 rfl (by decide) ?_
      refine xr_lload_n C dX5_digest_306 rfl ?_
      refine xr_ldc2 (v := 31) C dX5_digest_307 (lw_g_in (by decide +kernel) (by decide +kernel)) ?_
      refine xr_lmul C dX5_digest_310 ?_
      refine xr_aload_n C dX5_digest_311 rfl ?_
      refine xr_iload C dX5_digest_312 rfl ?_
      refine xr_callRi C (st := [.long (((((((((((w1 * (31 : Int64)) + (Int32.toInt64 r11.2.1)) * (31 : Int64)) + (Int32.toInt64 r12.2.1)) * (31 : Int64)) + (Int32.toInt64 r13.2.1)) * (31 : Int64)) + (Int32.toInt64 r14.2.1)) * (31 : Int64)) + (Int32.toInt64 r15.2.1)) * (31 : Int64))]) [.int a5] hq cv_RX5_236 hk0 (fun _ zz9 zq9 => mcX5_placeInLine l G hk0 zz9 zq9) rfl ⟨Nat.le_of_ble_eq_true rfl, Nat.le_of_ble_eq_true rfl⟩ (Nat.le_of_ble_eq_true rfl) ⟨Nat.zero_le _, Nat.zero_le _⟩ rfl dX5_digest_314 hR (fun r16 hr16 hR => ?_)
      refine xr_i2l C dX5_digest_317 ?_
      refine xr_ladd C dX5_digest_318 ?_
      refine xr_lstore_n C dX5_digest_319 rfl (by decide) ?_
      refine xr_lload_n C dX5_digest_320 rfl ?_
      refine xr_ldc2 (v := 31) C dX5_digest_321 (lw_g_in (by decide +kernel) (by decide +kernel)) ?_
      refine xr_lmul C dX5_digest_324 ?_
      refine xr_aload_n C dX5_digest_325 rfl ?_
      refine xr_iload C dX5_digest_326 rfl ?_
      refine xr_callRi C (st := [.long (((((((((((((w1 * (31 : Int64)) + (Int32.toInt64 r11.2.1)) * (31 : Int64)) + (Int32.toInt64 r12.2.1)) * (31 : Int64)) + (Int32.toInt64 r13.2.1)) * (31 : Int64)) + (Int32.toInt64 r14.2.1)) * (31 : Int64)) + (Int32.toInt64 r15.2.1)) * (31 : Int64)) + (Int32.toInt64 r16.2.1)) * (31 : Int64))]) [.int a5] hq cv_RX5_239 hk0 (fun _ zz9 zq9 => mcX5_turnsUntilDone l G hk0 zz9 zq9) rfl ⟨Nat.le_of_ble_eq_true rfl, Nat.le_of_ble_eq_true rfl⟩ (Nat.le_of_ble_eq_true rfl) ⟨Nat.zero_le _, Nat.zero_le _⟩ rfl dX5_digest_328 hR (fun r17 hr17 hR => ?_)
      refine xr_i2l C dX5_digest_331 ?_
      refine xr_ladd C dX5_digest_332 ?_
      refine xr_lstore_n C dX5_digest_333 rfl (by decide) ?_
      refine xr_iinc (v := 1) C dX5_digest_334 rfl (by decide) rfl (by decide) ?_
      refine xr_goto (tgt := 229) C dX5_digest_337 (by decide) ?_
      exact xr_sub (lv9 := [some (.ref (xg_ad G k0)), some (.long ((((((((((((((w1 * (31 : Int64)) + (Int32.toInt64 r11.2.1)) * (31 : Int64)) + (Int32.toInt64 r12.2.1)) * (31 : Int64)) + (Int32.toInt64 r13.2.1)) * (31 : Int64)) + (Int32.toInt64 r14.2.1)) * (31 : Int64)) + (Int32.toInt64 r15.2.1)) * (31 : Int64)) + (Int32.toInt64 r16.2.1)) * (31 : Int64)) + (Int32.toInt64 r17.2.1))), none, none, some (.int a4), some (.int (a5 + 1)), none]) (And.intro rfl (And.intro rfl (And.intro rfl (And.intro rfl trivial)))) (ih _ _ _  hR)
set_option maxHeartbeats 4000000 in
set_option maxRecDepth 100000 in
theorem mbX5_digest_b143 {p : Program} {l : Launch} {e : Env} {s : State} {m : MethodId} {args : Array Value} {below : List Frame} {meth : Method} {c : Code} {G : xw_G} (C : xj_C p s m args meth c G RX5 cX5_digest 7) (hr : meth.sig.returnType = (some .long)) {q : xw_M × Int64 × Nat} (hq : q.2.2 = 0) {K116 : xw_M → Int64 → Int32 → Option (xw_M × Int64 × Nat)} {k0 : Nat} {a3 : Int32} {a4 : Int32} {a5 : Int32} (hK116 : ∀ (h : xw_M) (w1 : Int64) (a4 : Int32), K116 h w1 a4 = some q → xj_X p l e { frames := 8, cells := 0, slots := 0, locals := 136 } s m args below meth c G 7 0 0 (MQ below (xw_Q G (some (.long q.2.1)) q.1) args s 0 0 (xg_A G)) h [some (.ref (xg_ad G k0)), some (.long w1), none, some (.int a3), some (.int a4), none, none] 116 []) (hk0 : xw_kd k0 = 5) : ∀ (n : Nat) (h : xw_M) (w1 : Int64) (a6 : Int32), mX5_digest_b143 K116 k0 a3 a4 a5 n h w1 a6 = some q → xj_X p l e { frames := 8, cells := 0, slots := 0, locals := 136 } s m args below meth c G 7 0 0 (MQ below (xw_Q G (some (.long q.2.1)) q.1) args s 0 0 (xg_A G)) h [some (.ref (xg_ad G k0)), some (.long w1), none, some (.int a3), some (.int a4), some (.int a5), some (.int a6)] 143 [] := by
  intro n
  induction n with
  | zero => intro h w1 a6 hR; exact absurd (show (none : Option (xw_M × Int64 × Nat)) = some q from hR) (fun z => by cases z)
  | succ n ih =>
    intro h w1 a6 hR
    rw [mX5_digest_b143.eq_2] at hR
    refine xr_iload C dX5_digest_143 rfl ?_
    refine xr_iload C dX5_digest_145 rfl ?_
    refine xr_icmp_ge (tgt := 172) C dX5_digest_147 (by decide) hR (fun hR => ?_) (fun hR => ?_)
    · refine xr_lload_n C dX5_digest_172 rfl ?_
      refine xr_ldc2 (v := 31) C dX5_digest_173 (lw_g_in (by decide +kernel) (by decide +kernel)) ?_
      refine xr_lmul C dX5_digest_176 ?_
      refine xr_aload_n C dX5_digest_177 rfl ?_
      refine xr_iload C dX5_digest_178 rfl ?_
      refine xr_callRi C (st := [.long (w1 * (31 : Int64))]) [.int a4] hq cv_RX5_212 hk0 (fun _ zz9 zq9 => mcX5_sendersAt l G hk0 zz9 zq9) rfl ⟨Nat.le_of_ble_eq_true rfl, Nat.le_of_ble_eq_true rfl⟩ (Nat.le_of_ble_eq_true rfl) ⟨Nat.zero_le _, Nat.zero_le _⟩ rfl dX5_digest_180 hR (fun r19 hr19 hR => ?_)
      refine xr_i2l C dX5_digest_183 ?_
      refine xr_ladd C dX5_digest_184 ?_
      refine xr_lstore_n C dX5_digest_185 rfl (by decide) ?_
      refine xr_lload_n C dX5_digest_186 rfl ?_
      refine xr_ldc2 (v := 31) C dX5_digest_187 (lw_g_in (by decide +kernel) (by decide +kernel)) ?_
      refine xr_lmul C dX5_digest_190 ?_
      refine xr_aload_n C dX5_digest_191 rfl ?_
      refine xr_iload C dX5_digest_192 rfl ?_
      refine xr_callRi C (st := [.long (((w1 * (31 : Int64)) + (Int32.toInt64 r19.2.1)) * (31 : Int64))]) [.int a4] hq cv_RX5_215 hk0 (fun _ zz9 zq9 => mcX5_takersAt l G hk0 zz9 zq9) rfl ⟨Nat.le_of_ble_eq_true rfl, Nat.le_of_ble_eq_true rfl⟩ (Nat.le_of_ble_eq_true rfl) ⟨Nat.zero_le _, Nat.zero_le _⟩ rfl dX5_digest_194 hR (fun r20 hr20 hR => ?_)
      refine xr_i2l C dX5_digest_197 ?_
      refine xr_ladd C dX5_digest_198 ?_
      refine xr_lstore_n C dX5_digest_199 rfl (by decide) ?_
      refine xr_lload_n C dX5_digest_200 rfl ?_
      refine xr_ldc2 (v := 31) C dX5_digest_201 (lw_g_in (by decide +kernel) (by decide +kernel)) ?_
      refine xr_lmul C dX5_digest_204 ?_
      refine xr_aload_n C dX5_digest_205 rfl ?_
      refine xr_iload C dX5_digest_206 rfl ?_
      refine xr_callRi C (st := [.long (((((w1 * (31 : Int64)) + (Int32.toInt64 r19.2.1)) * (31 : Int64)) + (Int32.toInt64 r20.2.1)) * (31 : Int64))]) [.int a4] hq cv_RX5_218 hk0 (fun _ zz9 zq9 => mcX5_placesWanted l G hk0 zz9 zq9) rfl ⟨Nat.le_of_ble_eq_true rfl, Nat.le_of_ble_eq_true rfl⟩ (Nat.le_of_ble_eq_true rfl) ⟨Nat.zero_le _, Nat.zero_le _⟩ rfl dX5_digest_208 hR (fun r21 hr21 hR => ?_)
      refine xr_i2l C dX5_digest_211 ?_
      refine xr_ladd C dX5_digest_212 ?_
      refine xr_lstore_n C dX5_digest_213 rfl (by decide) ?_
      refine xr_iinc (v := 1) C dX5_digest_214 rfl (by decide) rfl (by decide) ?_
      refine xr_goto (tgt := 116) C dX5_digest_217 (by decide) ?_
      exact xr_sub (lv9 := [some (.ref (xg_ad G k0)), some (.long ((((((w1 * (31 : Int64)) + (Int32.toInt64 r19.2.1)) * (31 : Int64)) + (Int32.toInt64 r20.2.1)) * (31 : Int64)) + (Int32.toInt64 r21.2.1))), none, some (.int a3), some (.int (a4 + 1)), none, none]) (And.intro rfl (And.intro rfl (And.intro rfl (And.intro rfl trivial)))) (hK116 _ _ _  hR)
    · refine xr_lload_n C dX5_digest_150 rfl ?_
      refine xr_ldc2 (v := 31) C dX5_digest_151 (lw_g_in (by decide +kernel) (by decide +kernel)) ?_
      refine xr_lmul C dX5_digest_154 ?_
      refine xr_aload_n C dX5_digest_155 rfl ?_
      refine xr_iload C dX5_digest_156 rfl ?_
      refine xr_iload C dX5_digest_158 rfl ?_
      refine xr_callRi C (st := [.long (w1 * (31 : Int64))]) [.int a4, .int a6] hq cv_RX5_208 hk0 (fun _ zz9 zq9 => mcX5_valueAt l G hk0 zz9 zq9) rfl ⟨Nat.le_of_ble_eq_true rfl, Nat.le_of_ble_eq_true rfl⟩ (Nat.le_of_ble_eq_true rfl) ⟨Nat.zero_le _, Nat.zero_le _⟩ rfl dX5_digest_160 hR (fun r22 hr22 hR => ?_)
      refine xr_i2l C dX5_digest_163 ?_
      refine xr_ladd C dX5_digest_164 ?_
      refine xr_lstore_n C dX5_digest_165 rfl (by decide) ?_
      refine xr_iinc (v := 1) C dX5_digest_166 rfl (by decide) rfl (by decide) ?_
      refine xr_goto (tgt := 143) C dX5_digest_169 (by decide) ?_
      exact xr_sub (lv9 := [some (.ref (xg_ad G k0)), some (.long ((w1 * (31 : Int64)) + (Int32.toInt64 r22.2.1))), none, some (.int a3), some (.int a4), some (.int a5), some (.int (a6 + 1))]) (And.intro rfl (And.intro rfl (And.intro rfl (And.intro rfl (And.intro rfl (And.intro rfl trivial)))))) (ih _ _ _  hR)
set_option maxHeartbeats 4000000 in
set_option maxRecDepth 100000 in
theorem mbX5_digest_b116 {p : Program} {l : Launch} {e : Env} {s : State} {m : MethodId} {args : Array Value} {below : List Frame} {meth : Method} {c : Code} {G : xw_G} (C : xj_C p s m args meth c G RX5 cX5_digest 7) (hr : meth.sig.returnType = (some .long)) {q : xw_M × Int64 × Nat} (hq : q.2.2 = 0) {k0 : Nat} {a3 : Int32}  (hk0 : xw_kd k0 = 5) : ∀ (n : Nat) (h : xw_M) (w1 : Int64) (a4 : Int32), mX5_digest_b116  k0 a3 n h w1 a4 = some q → xj_X p l e { frames := 8, cells := 0, slots := 0, locals := 136 } s m args below meth c G 7 0 0 (MQ below (xw_Q G (some (.long q.2.1)) q.1) args s 0 0 (xg_A G)) h [some (.ref (xg_ad G k0)), some (.long w1), none, some (.int a3), some (.int a4), none, none] 116 [] := by
  intro n
  induction n with
  | zero => intro h w1 a4 hR; exact absurd (show (none : Option (xw_M × Int64 × Nat)) = some q from hR) (fun z => by cases z)
  | succ n ih =>
    intro h w1 a4 hR
    rw [mX5_digest_b116.eq_2] at hR
    refine xr_iload C dX5_digest_116 rfl ?_
    refine xr_iload_n C dX5_digest_118 rfl ?_
    refine xr_icmp_ge (tgt := 220) C dX5_digest_119 (by decide) hR (fun hR => ?_) (fun hR => ?_)
    · refine xr_aload_n C dX5_digest_220 rfl ?_
      refine xr_callVi C (st := []) [] cv_RX5_187 hk0 (fun _ zz9 => mcX5_fibers l G hk0 zz9) rfl ⟨Nat.le_of_ble_eq_true rfl, Nat.le_of_ble_eq_true rfl⟩ (Nat.le_of_ble_eq_true rfl) ⟨Nat.zero_le _, Nat.zero_le _⟩ rfl dX5_digest_221 hR (fun r10 hr10 hR => ?_)
      refine xr_istore C dX5_digest_224 rfl (by decide) ?_
      refine xr_iconst (v := 0) C dX5_digest_226 (by decide) ?_
      refine xr_istore C dX5_digest_227 rfl (by decide) ?_
      exact xr_sub (lv9 := [some (.ref (xg_ad G k0)), some (.long w1), none, none, some (.int r10.2), some (.int (0 : Int32)), none]) (And.intro rfl (And.intro rfl (And.intro rfl (And.intro rfl trivial)))) (mbX5_digest_b229 C hr hq  hk0 _ _ _ _  hR)
    · refine xr_aload_n C dX5_digest_122 rfl ?_
      refine xr_iload C dX5_digest_123 rfl ?_
      refine xr_callRi C (st := []) [.int a4] hq cv_RX5_205 hk0 (fun _ zz9 zq9 => mcX5_held l G hk0 zz9 zq9) rfl ⟨Nat.le_of_ble_eq_true rfl, Nat.le_of_ble_eq_true rfl⟩ (Nat.le_of_ble_eq_true rfl) ⟨Nat.zero_le _, Nat.zero_le _⟩ rfl dX5_digest_125 hR (fun r18 hr18 hR => ?_)
      refine xr_istore C dX5_digest_128 rfl (by decide) ?_
      refine xr_lload_n C dX5_digest_130 rfl ?_
      refine xr_ldc2 (v := 31) C dX5_digest_131 (lw_g_in (by decide +kernel) (by decide +kernel)) ?_
      refine xr_lmul C dX5_digest_134 ?_
      refine xr_iload C dX5_digest_135 rfl ?_
      refine xr_i2l C dX5_digest_137 ?_
      refine xr_ladd C dX5_digest_138 ?_
      refine xr_lstore_n C dX5_digest_139 rfl (by decide) ?_
      refine xr_iconst (v := 0) C dX5_digest_140 (by decide) ?_
      refine xr_istore C dX5_digest_141 rfl (by decide) ?_
      exact xr_sub (lv9 := [some (.ref (xg_ad G k0)), some (.long ((w1 * (31 : Int64)) + (Int32.toInt64 r18.2.1))), none, some (.int a3), some (.int a4), some (.int r18.2.1), some (.int (0 : Int32))]) (And.intro rfl (And.intro rfl (And.intro rfl (And.intro rfl (And.intro rfl (And.intro rfl trivial)))))) (mbX5_digest_b143 C hr hq ih hk0 _ _ _ _  hR)
set_option maxHeartbeats 4000000 in
set_option maxRecDepth 100000 in
theorem mbX5_digest_b93 {p : Program} {l : Launch} {e : Env} {s : State} {m : MethodId} {args : Array Value} {below : List Frame} {meth : Method} {c : Code} {G : xw_G} (C : xj_C p s m args meth c G RX5 cX5_digest 7) (hr : meth.sig.returnType = (some .long)) {q : xw_M × Int64 × Nat} (hq : q.2.2 = 0) {k0 : Nat}  (hk0 : xw_kd k0 = 5) {h : xw_M} {as0 : Int32} {ws1 : Int64}   (hR : mX5_digest_b93  k0 h as0 ws1 = some q) : xj_X p l e { frames := 8, cells := 0, slots := 0, locals := 136 } s m args below meth c G 7 0 0 (MQ below (xw_Q G (some (.long q.2.1)) q.1) args s 0 0 (xg_A G)) h [some (.ref (xg_ad G k0)), none, none, none, none, none, none] 93 [.int as0, .long ws1] := by
  unfold mX5_digest_b93 at hR
  refine xr_i2l C dX5_digest_93 ?_
  refine xr_ladd C dX5_digest_94 ?_
  refine xr_lstore_n C dX5_digest_95 rfl (by decide) ?_
  refine xr_lload_n C dX5_digest_96 rfl ?_
  refine xr_ldc2 (v := 31) C dX5_digest_97 (lw_g_in (by decide +kernel) (by decide +kernel)) ?_
  refine xr_lmul C dX5_digest_100 ?_
  refine xr_aload_n C dX5_digest_101 rfl ?_
  refine xr_callVi C (st := [.long ((ws1 + (Int32.toInt64 as0)) * (31 : Int64))]) [] cv_RX5_202 hk0 (fun _ zz9 => mcX5_turnsUntilStuck l G hk0 zz9) rfl ⟨Nat.le_of_ble_eq_true rfl, Nat.le_of_ble_eq_true rfl⟩ (Nat.le_of_ble_eq_true rfl) ⟨Nat.zero_le _, Nat.zero_le _⟩ rfl dX5_digest_102 hR (fun r8 hr8 hR => ?_)
  refine xr_i2l C dX5_digest_105 ?_
  refine xr_ladd C dX5_digest_106 ?_
  refine xr_lstore_n C dX5_digest_107 rfl (by decide) ?_
  refine xr_aload_n C dX5_digest_108 rfl ?_
  refine xr_callVi C (st := []) [] cv_RX5_184 hk0 (fun _ zz9 => mcX5_channels l G hk0 zz9) rfl ⟨Nat.le_of_ble_eq_true rfl, Nat.le_of_ble_eq_true rfl⟩ (Nat.le_of_ble_eq_true rfl) ⟨Nat.zero_le _, Nat.zero_le _⟩ rfl dX5_digest_109 hR (fun r9 hr9 hR => ?_)
  refine xr_istore_n C dX5_digest_112 rfl (by decide) ?_
  refine xr_iconst (v := 0) C dX5_digest_113 (by decide) ?_
  refine xr_istore C dX5_digest_114 rfl (by decide) ?_
  exact xr_sub (lv9 := [some (.ref (xg_ad G k0)), some (.long (((ws1 + (Int32.toInt64 as0)) * (31 : Int64)) + (Int32.toInt64 r8.2))), none, some (.int r9.2), some (.int (0 : Int32)), none, none]) (And.intro rfl (And.intro rfl (And.intro rfl (And.intro rfl trivial)))) (mbX5_digest_b116 C hr hq  hk0 _ _ _ _  hR)
set_option maxHeartbeats 4000000 in
set_option maxRecDepth 100000 in
theorem mcX5_digest (l : Launch) (G : xw_G) {k0 : Nat} (hk0 : xw_kd k0 = 5) {h : xw_M} {q : xw_M × Int64 × Nat} (hR : mX5_digest k0 h = some q) (hq : q.2.2 = 0) : xc_M l G yX5_digest cX5_digest 7 (some .long) 8 136 [.ref (xg_ad G k0)] h q.1 (some (.long q.2.1)) := by
  refine xc_of (by decide +kernel) rfl (Nat.le_of_ble_eq_true rfl) ?_
  intro p e s m args below meth c C hr
  have C : xj_C p s m args meth c G RX5 cX5_digest 7 := C
  show xj_X p l e { frames := 8, cells := 0, slots := 0, locals := 136 } s m args below meth c G 7 0 0 (MQ below (xw_Q G (some (.long q.2.1)) q.1) args s 0 0 (xg_A G)) h [some (.ref (xg_ad G k0)), none, none, none, none, none, none] 0 []
  unfold mX5_digest at hR
  refine xr_ldc2 (v := 2213) C dX5_digest_0 (lw_g_in (by decide +kernel) (by decide +kernel)) ?_
  refine xr_lstore_n C dX5_digest_3 rfl (by decide) ?_
  refine xr_lload_n C dX5_digest_4 rfl ?_
  refine xr_ldc2 (v := 31) C dX5_digest_5 (lw_g_in (by decide +kernel) (by decide +kernel)) ?_
  refine xr_lmul C dX5_digest_8 ?_
  refine xr_aload_n C dX5_digest_9 rfl ?_
  refine xr_callVi C (st := [.long ((2213 : Int64) * (31 : Int64))]) [] cv_RX5_181 hk0 (fun _ zz9 => mcX5_time l G hk0 zz9) rfl ⟨Nat.le_of_ble_eq_true rfl, Nat.le_of_ble_eq_true rfl⟩ (Nat.le_of_ble_eq_true rfl) ⟨Nat.zero_le _, Nat.zero_le _⟩ rfl dX5_digest_10 hR (fun r1 hr1 hR => ?_)
  refine xr_i2l C dX5_digest_13 ?_
  refine xr_ladd C dX5_digest_14 ?_
  refine xr_lstore_n C dX5_digest_15 rfl (by decide) ?_
  refine xr_lload_n C dX5_digest_16 rfl ?_
  refine xr_ldc2 (v := 31) C dX5_digest_17 (lw_g_in (by decide +kernel) (by decide +kernel)) ?_
  refine xr_lmul C dX5_digest_20 ?_
  refine xr_aload_n C dX5_digest_21 rfl ?_
  refine xr_callVi C (st := [.long ((((2213 : Int64) * (31 : Int64)) + (Int32.toInt64 r1.2)) * (31 : Int64))]) [] cv_RX5_184 hk0 (fun _ zz9 => mcX5_channels l G hk0 zz9) rfl ⟨Nat.le_of_ble_eq_true rfl, Nat.le_of_ble_eq_true rfl⟩ (Nat.le_of_ble_eq_true rfl) ⟨Nat.zero_le _, Nat.zero_le _⟩ rfl dX5_digest_22 hR (fun r2 hr2 hR => ?_)
  refine xr_i2l C dX5_digest_25 ?_
  refine xr_ladd C dX5_digest_26 ?_
  refine xr_lstore_n C dX5_digest_27 rfl (by decide) ?_
  refine xr_lload_n C dX5_digest_28 rfl ?_
  refine xr_ldc2 (v := 31) C dX5_digest_29 (lw_g_in (by decide +kernel) (by decide +kernel)) ?_
  refine xr_lmul C dX5_digest_32 ?_
  refine xr_aload_n C dX5_digest_33 rfl ?_
  refine xr_callVi C (st := [.long ((((((2213 : Int64) * (31 : Int64)) + (Int32.toInt64 r1.2)) * (31 : Int64)) + (Int32.toInt64 r2.2)) * (31 : Int64))]) [] cv_RX5_187 hk0 (fun _ zz9 => mcX5_fibers l G hk0 zz9) rfl ⟨Nat.le_of_ble_eq_true rfl, Nat.le_of_ble_eq_true rfl⟩ (Nat.le_of_ble_eq_true rfl) ⟨Nat.zero_le _, Nat.zero_le _⟩ rfl dX5_digest_34 hR (fun r3 hr3 hR => ?_)
  refine xr_i2l C dX5_digest_37 ?_
  refine xr_ladd C dX5_digest_38 ?_
  refine xr_lstore_n C dX5_digest_39 rfl (by decide) ?_
  refine xr_lload_n C dX5_digest_40 rfl ?_
  refine xr_ldc2 (v := 31) C dX5_digest_41 (lw_g_in (by decide +kernel) (by decide +kernel)) ?_
  refine xr_lmul C dX5_digest_44 ?_
  refine xr_aload_n C dX5_digest_45 rfl ?_
  refine xr_callVi C (st := [.long ((((((((2213 : Int64) * (31 : Int64)) + (Int32.toInt64 r1.2)) * (31 : Int64)) + (Int32.toInt64 r2.2)) * (31 : Int64)) + (Int32.toInt64 r3.2)) * (31 : Int64))]) [] cv_RX5_190 hk0 (fun _ zz9 => mcX5_done l G hk0 zz9) rfl ⟨Nat.le_of_ble_eq_true rfl, Nat.le_of_ble_eq_true rfl⟩ (Nat.le_of_ble_eq_true rfl) ⟨Nat.zero_le _, Nat.zero_le _⟩ rfl dX5_digest_46 hR (fun r4 hr4 hR => ?_)
  refine xr_i2l C dX5_digest_49 ?_
  refine xr_ladd C dX5_digest_50 ?_
  refine xr_lstore_n C dX5_digest_51 rfl (by decide) ?_
  refine xr_lload_n C dX5_digest_52 rfl ?_
  refine xr_ldc2 (v := 31) C dX5_digest_53 (lw_g_in (by decide +kernel) (by decide +kernel)) ?_
  refine xr_lmul C dX5_digest_56 ?_
  refine xr_aload_n C dX5_digest_57 rfl ?_
  refine xr_callVi C (st := [.long ((((((((((2213 : Int64) * (31 : Int64)) + (Int32.toInt64 r1.2)) * (31 : Int64)) + (Int32.toInt64 r2.2)) * (31 : Int64)) + (Int32.toInt64 r3.2)) * (31 : Int64)) + (Int32.toInt64 r4.2)) * (31 : Int64))]) [] cv_RX5_193 hk0 (fun _ zz9 => mcX5_idleTurns l G hk0 zz9) rfl ⟨Nat.le_of_ble_eq_true rfl, Nat.le_of_ble_eq_true rfl⟩ (Nat.le_of_ble_eq_true rfl) ⟨Nat.zero_le _, Nat.zero_le _⟩ rfl dX5_digest_58 hR (fun r5 hr5 hR => ?_)
  refine xr_i2l C dX5_digest_61 ?_
  refine xr_ladd C dX5_digest_62 ?_
  refine xr_lstore_n C dX5_digest_63 rfl (by decide) ?_
  refine xr_lload_n C dX5_digest_64 rfl ?_
  refine xr_ldc2 (v := 31) C dX5_digest_65 (lw_g_in (by decide +kernel) (by decide +kernel)) ?_
  refine xr_lmul C dX5_digest_68 ?_
  refine xr_aload_n C dX5_digest_69 rfl ?_
  refine xr_callVi C (st := [.long ((((((((((((2213 : Int64) * (31 : Int64)) + (Int32.toInt64 r1.2)) * (31 : Int64)) + (Int32.toInt64 r2.2)) * (31 : Int64)) + (Int32.toInt64 r3.2)) * (31 : Int64)) + (Int32.toInt64 r4.2)) * (31 : Int64)) + (Int32.toInt64 r5.2)) * (31 : Int64))]) [] cv_RX5_196 hk0 (fun _ zz9 => mcX5_next l G hk0 zz9) rfl ⟨Nat.le_of_ble_eq_true rfl, Nat.le_of_ble_eq_true rfl⟩ (Nat.le_of_ble_eq_true rfl) ⟨Nat.zero_le _, Nat.zero_le _⟩ rfl dX5_digest_70 hR (fun r6 hr6 hR => ?_)
  refine xr_i2l C dX5_digest_73 ?_
  refine xr_ladd C dX5_digest_74 ?_
  refine xr_lstore_n C dX5_digest_75 rfl (by decide) ?_
  refine xr_lload_n C dX5_digest_76 rfl ?_
  refine xr_ldc2 (v := 31) C dX5_digest_77 (lw_g_in (by decide +kernel) (by decide +kernel)) ?_
  refine xr_lmul C dX5_digest_80 ?_
  refine xr_aload_n C dX5_digest_81 rfl ?_
  refine xr_callVi C (st := [.long ((((((((((((((2213 : Int64) * (31 : Int64)) + (Int32.toInt64 r1.2)) * (31 : Int64)) + (Int32.toInt64 r2.2)) * (31 : Int64)) + (Int32.toInt64 r3.2)) * (31 : Int64)) + (Int32.toInt64 r4.2)) * (31 : Int64)) + (Int32.toInt64 r5.2)) * (31 : Int64)) + (Int32.toInt64 r6.2)) * (31 : Int64))]) [] cv_RX5_199 hk0 (fun _ zz9 => mcX5_isStuck l G hk0 zz9) rfl ⟨Nat.le_of_ble_eq_true rfl, Nat.le_of_ble_eq_true rfl⟩ (Nat.le_of_ble_eq_true rfl) ⟨Nat.zero_le _, Nat.zero_le _⟩ rfl dX5_digest_82 hR (fun r7 hr7 hR => ?_)
  refine xr_if_eq (tgt := 92) C dX5_digest_85 (by decide) hR (fun hR => ?_) (fun hR => ?_)
  · refine xr_iconst (v := 0) C dX5_digest_92 (by decide) ?_
    exact xr_sub (lv9 := [some (.ref (xg_ad G k0)), none, none, none, none, none, none]) (And.intro rfl trivial) (mbX5_digest_b93 C hr hq  hk0  hR)
  · refine xr_iconst (v := 1) C dX5_digest_88 (by decide) ?_
    refine xr_goto (tgt := 93) C dX5_digest_89 (by decide) ?_
    exact xr_sub (lv9 := [some (.ref (xg_ad G k0)), none, none, none, none, none, none]) (And.intro rfl trivial) (mbX5_digest_b93 C hr hq  hk0  hR)
end
