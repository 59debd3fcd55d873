section
def mL_addChannel (k0 : Nat) (a1 : Int32) (k2 : Nat) (h : xw_M) : Option (xw_M × Int32) := (mX5_addChannel k0 a1 h).bind fun r => if r.2.2 = 0 then xo_let (xw_st r.1 k2 0 r.2.1) (fun h1 => some (h1, (0 : Int32))) else (if r.2.2 = 1 then some (r.1, 1) else (if r.2.2 = 2 then some (r.1, 2) else none))
set_option maxHeartbeats 4000000 in
set_option maxRecDepth 100000 in
theorem ha_L_addChannel_1 : xw_ha RL [(0, 9, 12, 13), (0, 9, 15, 15)] 4 "java/lang/IllegalArgumentException" 12 := ⟨[], ⟨0, 9, 12, 13⟩, [⟨0, 9, 15, 15⟩], rfl, fun z hz => absurd hz List.not_mem_nil, by decide, by decide, by decide +kernel, rfl, by decide, by decide⟩
set_option maxHeartbeats 4000000 in
set_option maxRecDepth 100000 in
theorem ha_L_addChannel_2 : xw_ha RL [(0, 9, 12, 13), (0, 9, 15, 15)] 4 "java/lang/IllegalStateException" 15 := ⟨[⟨0, 9, 12, 13⟩], ⟨0, 9, 15, 15⟩, [], rfl, (fun z hz => by
    simp only [List.mem_cons, List.not_mem_nil, or_false] at hz
    rcases hz with rfl
    · exact ⟨by decide, "java/lang/IllegalArgumentException", by decide +kernel, by decide, by decide⟩), by decide, by decide, by decide +kernel, rfl, by decide, by decide⟩
set_option maxHeartbeats 4000000 in
set_option maxRecDepth 100000 in
theorem mwL_addChannel (l : Launch) (G : xw_G) (hl : l.stackTraces = false) {k0 : Nat} {a1 : Int32} {k2 : Nat} (hk0 : xw_kd k0 = 5) (hk2 : xw_kd k2 = 15) {h : xw_M} {q : xw_M × Int32} (hR : mL_addChannel k0 a1 k2 h = some q) : xc_W l G yL_addChannel cL_addChannel 4 [(0, 9, 12, 13), (0, 9, 15, 15)] 7 112 [.ref (xg_ad G k0), .int a1, .ref (xg_ad G k2)] h q.1 q.2 := by
  refine xc_ofW (by decide +kernel) rfl (Nat.le_of_ble_eq_true rfl) ?_
  intro p e s m args below meth c C hr htab
  have C : xj_C p s m args meth c G RL cL_addChannel 4 := C
  show xj_X p l e { frames := 7, cells := 1, slots := 6, locals := 112 } s m args below meth c G 4 0 0 (MQ below (xw_Q G (some (.int q.2)) q.1) args s 1 6 (xg_A G)) h [some (.ref (xg_ad G k0)), some (.int a1), some (.ref (xg_ad G k2)), none] 0 []
  unfold mL_addChannel at hR
  obtain ⟨r, hr1, hR⟩ := xo_b hR
  refine xr_aload_n C dL_addChannel_0 rfl ?_
  refine xr_iconst (v := 0) C dL_addChannel_1 (by decide) ?_
  refine xr_aload_n C dL_addChannel_2 rfl ?_
  refine xr_iload_n C dL_addChannel_3 rfl ?_
  refine xo_if hR (fun hz hR => ?_) (fun hz hR => ?_)
  · refine xr_goVi (st := [.int 0, .ref (xg_ad G k2)]) [.int a1] C cv_RL_7 hk0 (mcX5_addChannel l G hk0 hr1 hz) rfl ⟨Nat.le_of_ble_eq_true rfl, Nat.le_of_ble_eq_true rfl⟩ (Nat.le_of_ble_eq_true rfl) ⟨by decide, by decide⟩ rfl dL_addChannel_4 ?_
    refine xr_i2l C dL_addChannel_7 ?_
    refine xr_last C hk2 (xj_lt15 C hk2) dL_addChannel_8 hR (fun h1 hR => ?_)
    refine xr_goto (tgt := 18) C dL_addChannel_9 (by decide) ?_
    refine xr_iconst (v := 0) C dL_addChannel_18 (by decide) ?_
    exact xr_iretW C hr dL_addChannel_19 (by decide) (by decide) hR
  · refine xo_if hR (fun he0 hR => ?_) (fun he0 hR => ?_)
    · refine xt_goWs (st := [.int 0, .ref (xg_ad G k2)]) [.int a1] C htab cv_RL_7 hk0 (mtX5_addChannel l G hl hk0 hr1 hz) (Ex := "java/lang/IllegalArgumentException") (by rw [he0]; rfl) ha_L_addChannel_1 rfl ⟨Nat.le_of_ble_eq_true rfl, Nat.le_of_ble_eq_true rfl⟩ (Nat.le_of_ble_eq_true rfl) ⟨by decide, by decide⟩ rfl dL_addChannel_4 (fun q9 => ?_)
      refine xr_astore_n C dL_addChannel_12 rfl (by decide) ?_
      refine xr_iconst (v := 1) C dL_addChannel_13 (by decide) ?_
      exact xr_iretW C hr dL_addChannel_14 (by decide) (by decide) hR
    · refine xo_if hR (fun he1 hR => ?_) (fun he1 hR => ?_)
      · refine xt_goWs (st := [.int 0, .ref (xg_ad G k2)]) [.int a1] C htab cv_RL_7 hk0 (mtX5_addChannel l G hl hk0 hr1 hz) (Ex := "java/lang/IllegalStateException") (by rw [he1]; rfl) ha_L_addChannel_2 rfl ⟨Nat.le_of_ble_eq_true rfl, Nat.le_of_ble_eq_true rfl⟩ (Nat.le_of_ble_eq_true rfl) ⟨by decide, by decide⟩ rfl dL_addChannel_4 (fun q9 => ?_)
        refine xr_astore_n C dL_addChannel_15 rfl (by decide) ?_
        refine xr_iconst (v := 2) C dL_addChannel_16 (by decide) ?_
        exact xr_iretW C hr dL_addChannel_17 (by decide) (by decide) hR
      · cases hR
def mL_addFiber (k0 : Nat) (k1 : Nat) (h : xw_M) : Option (xw_M × Int32) := (mX5_addFiber k0 h).bind fun r => if r.2.2 = 0 then xo_let (xw_st r.1 k1 0 r.2.1) (fun h1 => some (h1, (0 : Int32))) else (if r.2.2 = 2 then some (r.1, 1) else none)
set_option maxHeartbeats 4000000 in
set_option maxRecDepth 100000 in
theorem ha_L_addFiber_2 : xw_ha RL [(0, 8, 11, 15)] 3 "java/lang/IllegalStateException" 11 := ⟨[], ⟨0, 8, 11, 15⟩, [], rfl, fun z hz => absurd hz List.not_mem_nil, by decide, by decide, by decide +kernel, rfl, by decide, by decide⟩
set_option maxHeartbeats 4000000 in
set_option maxRecDepth 100000 in
theorem mwL_addFiber (l : Launch) (G : xw_G) (hl : l.stackTraces = false) {k0 : Nat} {k1 : Nat} (hk0 : xw_kd k0 = 5) (hk1 : xw_kd k1 = 15) {h : xw_M} {q : xw_M × Int32} (hR : mL_addFiber k0 k1 h = some q) : xc_W l G yL_addFiber cL_addFiber 3 [(0, 8, 11, 15)] 7 111 [.ref (xg_ad G k0), .ref (xg_ad G k1)] h q.1 q.2 := by
  refine xc_ofW (by decide +kernel) rfl (Nat.le_of_ble_eq_true rfl) ?_
  intro p e s m args below meth c C hr htab
  have C : xj_C p s m args meth c G RL cL_addFiber 3 := C
  show xj_X p l e { frames := 7, cells := 1, slots := 6, locals := 111 } s m args below meth c G 3 0 0 (MQ below (xw_Q G (some (.int q.2)) q.1) args s 1 6 (xg_A G)) h [some (.ref (xg_ad G k0)), some (.ref (xg_ad G k1)), none] 0 []
  unfold mL_addFiber at hR
  obtain ⟨r, hr1, hR⟩ := xo_b hR
  refine xr_aload_n C dL_addFiber_0 rfl ?_
  refine xr_iconst (v := 0) C dL_addFiber_1 (by decide) ?_
  refine xr_aload_n C dL_addFiber_2 rfl ?_
  refine xo_if hR (fun hz hR => ?_) (fun hz hR => ?_)
  · refine xr_goVi (st := [.int 0, .ref (xg_ad G k1)]) [] C cv_RL_17 hk0 (mcX5_addFiber l G hk0 hr1 hz) rfl ⟨Nat.le_of_ble_eq_true rfl, Nat.le_of_ble_eq_true rfl⟩ (Nat.le_of_ble_eq_true rfl) ⟨by decide, by decide⟩ rfl dL_addFiber_3 ?_
    refine xr_i2l C dL_addFiber_6 ?_
    refine xr_last C hk1 (xj_lt15 C hk1) dL_addFiber_7 hR (fun h1 hR => ?_)
    refine xr_goto (tgt := 14) C dL_addFiber_8 (by decide) ?_
    refine xr_iconst (v := 0) C dL_addFiber_14 (by decide) ?_
    exact xr_iretW C hr dL_addFiber_15 (by decide) (by decide) hR
  · refine xo_if hR (fun he0 hR => ?_) (fun he0 hR => ?_)
    · refine xt_goWs (st := [.int 0, .ref (xg_ad G k1)]) [] C htab cv_RL_17 hk0 (mtX5_addFiber l G hl hk0 hr1 hz) (Ex := "java/lang/IllegalStateException") (by rw [he0]; rfl) ha_L_addFiber_2 rfl ⟨Nat.le_of_ble_eq_true rfl, Nat.le_of_ble_eq_true rfl⟩ (Nat.le_of_ble_eq_true rfl) ⟨by decide, by decide⟩ rfl dL_addFiber_3 (fun q9 => ?_)
      refine xr_astore_n C dL_addFiber_11 rfl (by decide) ?_
      refine xr_iconst (v := 1) C dL_addFiber_12 (by decide) ?_
      exact xr_iretW C hr dL_addFiber_13 (by decide) (by decide) hR
    · cases hR
def mL_addStep (k0 : Nat) (a1 : Int32) (a2 : Int32) (a3 : Int32) (a4 : Int32) (k5 : Nat) (h : xw_M) : Option (xw_M × Int32) := (mX5_addStep k0 a1 a2 a3 a4 h).bind fun r => if r.2.2 = 0 then xo_let (xw_st r.1 k5 0 r.2.1) (fun h1 => some (h1, (0 : Int32))) else (if r.2.2 = 3 then some (r.1, 1) else (if r.2.2 = 1 then some (r.1, 2) else (if r.2.2 = 2 then some (r.1, 3) else none)))
set_option maxHeartbeats 4000000 in
set_option maxRecDepth 100000 in
theorem ha_L_addStep_3 : xw_ha RL [(0, 14, 17, 25), (0, 14, 21, 13), (0, 14, 25, 15)] 9 "java/lang/IndexOutOfBoundsException" 17 := ⟨[], ⟨0, 14, 17, 25⟩, [⟨0, 14, 21, 13⟩, ⟨0, 14, 25, 15⟩], rfl, fun z hz => absurd hz List.not_mem_nil, by decide, by decide, by decide +kernel, rfl, by decide, by decide⟩
set_option maxHeartbeats 4000000 in
set_option maxRecDepth 100000 in
theorem ha_L_addStep_1 : xw_ha RL [(0, 14, 17, 25), (0, 14, 21, 13), (0, 14, 25, 15)] 9 "java/lang/IllegalArgumentException" 21 := ⟨[⟨0, 14, 17, 25⟩], ⟨0, 14, 21, 13⟩, [⟨0, 14, 25, 15⟩], rfl, (fun z hz => by
    simp only [List.mem_cons, List.not_mem_nil, or_false] at hz
    rcases hz with rfl
    · exact ⟨by decide, "java/lang/IndexOutOfBoundsException", by decide +kernel, by decide, by decide⟩), by decide, by decide, by decide +kernel, rfl, by decide, by decide⟩
set_option maxHeartbeats 4000000 in
set_option maxRecDepth 100000 in
theorem ha_L_addStep_2 : xw_ha RL [(0, 14, 17, 25), (0, 14, 21, 13), (0, 14, 25, 15)] 9 "java/lang/IllegalStateException" 25 := ⟨[⟨0, 14, 17, 25⟩, ⟨0, 14, 21, 13⟩], ⟨0, 14, 25, 15⟩, [], rfl, (fun z hz => by
    simp only [List.mem_cons, List.not_mem_nil, or_false] at hz
    rcases hz with rfl | rfl
    · exact ⟨by decide, "java/lang/IndexOutOfBoundsException", by decide +kernel, by decide, by decide⟩
    · exact ⟨by decide, "java/lang/IllegalArgumentException", by decide +kernel, by decide, by decide⟩), by decide, by decide, by decide +kernel, rfl, by decide, by decide⟩
set_option maxHeartbeats 4000000 in
set_option maxRecDepth 100000 in
theorem mwL_addStep (l : Launch) (G : xw_G) (hl : l.stackTraces = false) {k0 : Nat} {a1 : Int32} {a2 : Int32} {a3 : Int32} {a4 : Int32} {k5 : Nat} (hk0 : xw_kd k0 = 5) (hk5 : xw_kd k5 = 15) {h : xw_M} {q : xw_M × Int32} (hR : mL_addStep k0 a1 a2 a3 a4 k5 h = some q) : xc_W l G yL_addStep cL_addStep 7 [(0, 14, 17, 25), (0, 14, 21, 13), (0, 14, 25, 15)] 8 137 [.ref (xg_ad G k0), .int a1, .int a2, .int a3, .int a4, .ref (xg_ad G k5)] h q.1 q.2 := by
  refine xc_ofW (by decide +kernel) rfl (Nat.le_of_ble_eq_true rfl) ?_
  intro p e s m args below meth c C hr htab
  have C : xj_C p s m args meth c G RL cL_addStep 7 := C
  show xj_X p l e { frames := 8, cells := 1, slots := 6, locals := 137 } s m args below meth c G 7 0 0 (MQ below (xw_Q G (some (.int q.2)) q.1) args s 1 6 (xg_A G)) h [some (.ref (xg_ad G k0)), some (.int a1), some (.int a2), some (.int a3), some (.int a4), some (.ref (xg_ad G k5)), none] 0 []
  unfold mL_addStep at hR
  obtain ⟨r, hr1, hR⟩ := xo_b hR
  refine xr_aload C dL_addStep_0 rfl ?_
  refine xr_iconst (v := 0) C dL_addStep_2 (by decide) ?_
  refine xr_aload_n C dL_addStep_3 rfl ?_
  refine xr_iload_n C dL_addStep_4 rfl ?_
  refine xr_iload_n C dL_addStep_5 rfl ?_
  refine xr_iload_n C dL_addStep_6 rfl ?_
  refine xr_iload C dL_addStep_7 rfl ?_
  refine xo_if hR (fun hz hR => ?_) (fun hz hR => ?_)
  · refine xr_goVi (st := [.int 0, .ref (xg_ad G k5)]) [.int a1, .int a2, .int a3, .int a4] C cv_RL_21 hk0 (mcX5_addStep l G hk0 hr1 hz) rfl ⟨Nat.le_of_ble_eq_true rfl, Nat.le_of_ble_eq_true rfl⟩ (Nat.le_of_ble_eq_true rfl) ⟨by decide, by decide⟩ rfl dL_addStep_9 ?_
    refine xr_i2l C dL_addStep_12 ?_
    refine xr_last C hk5 (xj_lt15 C hk5) dL_addStep_13 hR (fun h1 hR => ?_)
    refine xr_goto (tgt := 29) C dL_addStep_14 (by decide) ?_
    refine xr_iconst (v := 0) C dL_addStep_29 (by decide) ?_
    exact xr_iretW C hr dL_addStep_30 (by decide) (by decide) hR
  · refine xo_if hR (fun he0 hR => ?_) (fun he0 hR => ?_)
    · refine xt_goWs (st := [.int 0, .ref (xg_ad G k5)]) [.int a1, .int a2, .int a3, .int a4] C htab cv_RL_21 hk0 (mtX5_addStep l G hl hk0 hr1 hz) (Ex := "java/lang/IndexOutOfBoundsException") (by rw [he0]; rfl) ha_L_addStep_3 rfl ⟨Nat.le_of_ble_eq_true rfl, Nat.le_of_ble_eq_true rfl⟩ (Nat.le_of_ble_eq_true rfl) ⟨by decide, by decide⟩ rfl dL_addStep_9 (fun q9 => ?_)
      refine xr_astore C dL_addStep_17 rfl (by decide) ?_
      refine xr_iconst (v := 1) C dL_addStep_19 (by decide) ?_
      exact xr_iretW C hr dL_addStep_20 (by decide) (by decide) hR
    · refine xo_if hR (fun he1 hR => ?_) (fun he1 hR => ?_)
      · refine xt_goWs (st := [.int 0, .ref (xg_ad G k5)]) [.int a1, .int a2, .int a3, .int a4] C htab cv_RL_21 hk0 (mtX5_addStep l G hl hk0 hr1 hz) (Ex := "java/lang/IllegalArgumentException") (by rw [he1]; rfl) ha_L_addStep_1 rfl ⟨Nat.le_of_ble_eq_true rfl, Nat.le_of_ble_eq_true rfl⟩ (Nat.le_of_ble_eq_true rfl) ⟨by decide, by decide⟩ rfl dL_addStep_9 (fun q9 => ?_)
        refine xr_astore C dL_addStep_21 rfl (by decide) ?_
        refine xr_iconst (v := 2) C dL_addStep_23 (by decide) ?_
        exact xr_iretW C hr dL_addStep_24 (by decide) (by decide) hR
      · refine xo_if hR (fun he2 hR => ?_) (fun he2 hR => ?_)
        · refine xt_goWs (st := [.int 0, .ref (xg_ad G k5)]) [.int a1, .int a2, .int a3, .int a4] C htab cv_RL_21 hk0 (mtX5_addStep l G hl hk0 hr1 hz) (Ex := "java/lang/IllegalStateException") (by rw [he2]; rfl) ha_L_addStep_2 rfl ⟨Nat.le_of_ble_eq_true rfl, Nat.le_of_ble_eq_true rfl⟩ (Nat.le_of_ble_eq_true rfl) ⟨by decide, by decide⟩ rfl dL_addStep_9 (fun q9 => ?_)
          refine xr_astore C dL_addStep_25 rfl (by decide) ?_
          refine xr_iconst (v := 3) C dL_addStep_27 (by decide) ?_
          exact xr_iretW C hr dL_addStep_28 (by decide) (by decide) hR
        · cases hR
def mL_pour (k0 : Nat) (a1 : Int32) (a2 : Int32) (k3 : Nat) (h : xw_M) : Option (xw_M × Int32) := (mX5_pour k0 a1 a2 h).bind fun r => if r.2.2 = 0 then xo_let (xw_st r.1 k3 0 r.2.1) (fun h1 => some (h1, (0 : Int32))) else (if r.2.2 = 3 then some (r.1, 1) else (if r.2.2 = 1 then some (r.1, 2) else (if r.2.2 = 2 then some (r.1, 3) else none)))
set_option maxHeartbeats 4000000 in
set_option maxRecDepth 100000 in
theorem ha_L_pour_3 : xw_ha RL [(0, 10, 13, 25), (0, 10, 17, 13), (0, 10, 21, 15)] 5 "java/lang/IndexOutOfBoundsException" 13 := ⟨[], ⟨0, 10, 13, 25⟩, [⟨0, 10, 17, 13⟩, ⟨0, 10, 21, 15⟩], rfl, fun z hz => absurd hz List.not_mem_nil, by decide, by decide, by decide +kernel, rfl, by decide, by decide⟩
set_option maxHeartbeats 4000000 in
set_option maxRecDepth 100000 in
theorem ha_L_pour_1 : xw_ha RL [(0, 10, 13, 25), (0, 10, 17, 13), (0, 10, 21, 15)] 5 "java/lang/IllegalArgumentException" 17 := ⟨[⟨0, 10, 13, 25⟩], ⟨0, 10, 17, 13⟩, [⟨0, 10, 21, 15⟩], rfl, (fun z hz => by
    simp only [List.mem_cons, List.not_mem_nil, or_false] at hz
    rcases hz with rfl
    · exact ⟨by decide, "java/lang/IndexOutOfBoundsException", by decide +kernel, by decide, by decide⟩), by decide, by decide, by decide +kernel, rfl, by decide, by decide⟩
set_option maxHeartbeats 4000000 in
set_option maxRecDepth 100000 in
theorem ha_L_pour_2 : xw_ha RL [(0, 10, 13, 25), (0, 10, 17, 13), (0, 10, 21, 15)] 5 "java/lang/IllegalStateException" 21 := ⟨[⟨0, 10, 13, 25⟩, ⟨0, 10, 17, 13⟩], ⟨0, 10, 21, 15⟩, [], rfl, (fun z hz => by
    simp only [List.mem_cons, List.not_mem_nil, or_false] at hz
    rcases hz with rfl | rfl
    · exact ⟨by decide, "java/lang/IndexOutOfBoundsException", by decide +kernel, by decide, by decide⟩
    · exact ⟨by decide, "java/lang/IllegalArgumentException", by decide +kernel, by decide, by decide⟩), by decide, by decide, by decide +kernel, rfl, by decide, by decide⟩
set_option maxHeartbeats 4000000 in
set_option maxRecDepth 100000 in
theorem mwL_pour (l : Launch) (G : xw_G) (hl : l.stackTraces = false) {k0 : Nat} {a1 : Int32} {a2 : Int32} {k3 : Nat} (hk0 : xw_kd k0 = 5) (hk3 : xw_kd k3 = 15) {h : xw_M} {q : xw_M × Int32} (hR : mL_pour k0 a1 a2 k3 h = some q) : xc_W l G yL_pour cL_pour 5 [(0, 10, 13, 25), (0, 10, 17, 13), (0, 10, 21, 15)] 8 134 [.ref (xg_ad G k0), .int a1, .int a2, .ref (xg_ad G k3)] h q.1 q.2 := by
  refine xc_ofW (by decide +kernel) rfl (Nat.le_of_ble_eq_true rfl) ?_
  intro p e s m args below meth c C hr htab
  have C : xj_C p s m args meth c G RL cL_pour 5 := C
  show xj_X p l e { frames := 8, cells := 1, slots := 6, locals := 134 } s m args below meth c G 5 0 0 (MQ below (xw_Q G (some (.int q.2)) q.1) args s 1 6 (xg_A G)) h [some (.ref (xg_ad G k0)), some (.int a1), some (.int a2), some (.ref (xg_ad G k3)), none] 0 []
  unfold mL_pour at hR
  obtain ⟨r, hr1, hR⟩ := xo_b hR
  refine xr_aload_n C dL_pour_0 rfl ?_
  refine xr_iconst (v := 0) C dL_pour_1 (by decide) ?_
  refine xr_aload_n C dL_pour_2 rfl ?_
  refine xr_iload_n C dL_pour_3 rfl ?_
  refine xr_iload_n C dL_pour_4 rfl ?_
  refine xo_if hR (fun hz hR => ?_) (fun hz hR => ?_)
  · refine xr_goVi (st := [.int 0, .ref (xg_ad G k3)]) [.int a1, .int a2] C cv_RL_27 hk0 (mcX5_pour l G hk0 hr1 hz) rfl ⟨Nat.le_of_ble_eq_true rfl, Nat.le_of_ble_eq_true rfl⟩ (Nat.le_of_ble_eq_true rfl) ⟨by decide, by decide⟩ rfl dL_pour_5 ?_
    refine xr_i2l C dL_pour_8 ?_
    refine xr_last C hk3 (xj_lt15 C hk3) dL_pour_9 hR (fun h1 hR => ?_)
    refine xr_goto (tgt := 25) C dL_pour_10 (by decide) ?_
    refine xr_iconst (v := 0) C dL_pour_25 (by decide) ?_
    exact xr_iretW C hr dL_pour_26 (by decide) (by decide) hR
  · refine xo_if hR (fun he0 hR => ?_) (fun he0 hR => ?_)
    · refine xt_goWs (st := [.int 0, .ref (xg_ad G k3)]) [.int a1, .int a2] C htab cv_RL_27 hk0 (mtX5_pour l G hl hk0 hr1 hz) (Ex := "java/lang/IndexOutOfBoundsException") (by rw [he0]; rfl) ha_L_pour_3 rfl ⟨Nat.le_of_ble_eq_true rfl, Nat.le_of_ble_eq_true rfl⟩ (Nat.le_of_ble_eq_true rfl) ⟨by decide, by decide⟩ rfl dL_pour_5 (fun q9 => ?_)
      refine xr_astore C dL_pour_13 rfl (by decide) ?_
      refine xr_iconst (v := 1) C dL_pour_15 (by decide) ?_
      exact xr_iretW C hr dL_pour_16 (by decide) (by decide) hR
    · refine xo_if hR (fun he1 hR => ?_) (fun he1 hR => ?_)
      · refine xt_goWs (st := [.int 0, .ref (xg_ad G k3)]) [.int a1, .int a2] C htab cv_RL_27 hk0 (mtX5_pour l G hl hk0 hr1 hz) (Ex := "java/lang/IllegalArgumentException") (by rw [he1]; rfl) ha_L_pour_1 rfl ⟨Nat.le_of_ble_eq_true rfl, Nat.le_of_ble_eq_true rfl⟩ (Nat.le_of_ble_eq_true rfl) ⟨by decide, by decide⟩ rfl dL_pour_5 (fun q9 => ?_)
        refine xr_astore C dL_pour_17 rfl (by decide) ?_
        refine xr_iconst (v := 2) C dL_pour_19 (by decide) ?_
        exact xr_iretW C hr dL_pour_20 (by decide) (by decide) hR
      · refine xo_if hR (fun he2 hR => ?_) (fun he2 hR => ?_)
        · refine xt_goWs (st := [.int 0, .ref (xg_ad G k3)]) [.int a1, .int a2] C htab cv_RL_27 hk0 (mtX5_pour l G hl hk0 hr1 hz) (Ex := "java/lang/IllegalStateException") (by rw [he2]; rfl) ha_L_pour_2 rfl ⟨Nat.le_of_ble_eq_true rfl, Nat.le_of_ble_eq_true rfl⟩ (Nat.le_of_ble_eq_true rfl) ⟨by decide, by decide⟩ rfl dL_pour_5 (fun q9 => ?_)
          refine xr_astore C dL_pour_21 rfl (by decide) ?_
          refine xr_iconst (v := 3) C dL_pour_23 (by decide) ?_
          exact xr_iretW C hr dL_pour_24 (by decide) (by decide) hR
        · cases hR
def mL_run (k0 : Nat) (a1 : Int32) (k2 : Nat) (h : xw_M) : Option (xw_M × Int32) := (mX5_run k0 a1 h).bind fun r => if r.2.2 = 0 then xo_let (xw_st r.1 k2 0 r.2.1) (fun h1 => some (h1, (0 : Int32))) else (if r.2.2 = 1 then some (r.1, 1) else none)
set_option maxHeartbeats 4000000 in
set_option maxRecDepth 100000 in
theorem ha_L_run_1 : xw_ha RL [(0, 9, 12, 13)] 4 "java/lang/IllegalArgumentException" 12 := ⟨[], ⟨0, 9, 12, 13⟩, [], rfl, fun z hz => absurd hz List.not_mem_nil, by decide, by decide, by decide +kernel, rfl, by decide, by decide⟩
set_option maxHeartbeats 4000000 in
set_option maxRecDepth 100000 in
theorem mwL_run (l : Launch) (G : xw_G) (hl : l.stackTraces = false) {k0 : Nat} {a1 : Int32} {k2 : Nat} (hk0 : xw_kd k0 = 5) (hk2 : xw_kd k2 = 15) {h : xw_M} {q : xw_M × Int32} (hR : mL_run k0 a1 k2 h = some q) : xc_W l G yL_run cL_run 4 [(0, 9, 12, 13)] 8 136 [.ref (xg_ad G k0), .int a1, .ref (xg_ad G k2)] h q.1 q.2 := by
  refine xc_ofW (by decide +kernel) rfl (Nat.le_of_ble_eq_true rfl) ?_
  intro p e s m args below meth c C hr htab
  have C : xj_C p s m args meth c G RL cL_run 4 := C
  show xj_X p l e { frames := 8, cells := 1, slots := 6, locals := 136 } s m args below meth c G 4 0 0 (MQ below (xw_Q G (some (.int q.2)) q.1) args s 1 6 (xg_A G)) h [some (.ref (xg_ad G k0)), some (.int a1), some (.ref (xg_ad G k2)), none] 0 []
  unfold mL_run at hR
  obtain ⟨r, hr1, hR⟩ := xo_b hR
  refine xr_aload_n C dL_run_0 rfl ?_
  refine xr_iconst (v := 0) C dL_run_1 (by decide) ?_
  refine xr_aload_n C dL_run_2 rfl ?_
  refine xr_iload_n C dL_run_3 rfl ?_
  refine xo_if hR (fun hz hR => ?_) (fun hz hR => ?_)
  · refine xr_goVi (st := [.int 0, .ref (xg_ad G k2)]) [.int a1] C cv_RL_31 hk0 (mcX5_run l G hk0 hr1 hz) rfl ⟨Nat.le_of_ble_eq_true rfl, Nat.le_of_ble_eq_true rfl⟩ (Nat.le_of_ble_eq_true rfl) ⟨by decide, by decide⟩ rfl dL_run_4 ?_
    refine xr_i2l C dL_run_7 ?_
    refine xr_last C hk2 (xj_lt15 C hk2) dL_run_8 hR (fun h1 hR => ?_)
    refine xr_goto (tgt := 15) C dL_run_9 (by decide) ?_
    refine xr_iconst (v := 0) C dL_run_15 (by decide) ?_
    exact xr_iretW C hr dL_run_16 (by decide) (by decide) hR
  · refine xo_if hR (fun he0 hR => ?_) (fun he0 hR => ?_)
    · refine xt_goWs (st := [.int 0, .ref (xg_ad G k2)]) [.int a1] C htab cv_RL_31 hk0 (mtX5_run l G hl hk0 hr1 hz) (Ex := "java/lang/IllegalArgumentException") (by rw [he0]; rfl) ha_L_run_1 rfl ⟨Nat.le_of_ble_eq_true rfl, Nat.le_of_ble_eq_true rfl⟩ (Nat.le_of_ble_eq_true rfl) ⟨by decide, by decide⟩ rfl dL_run_4 (fun q9 => ?_)
      refine xr_astore_n C dL_run_12 rfl (by decide) ?_
      refine xr_iconst (v := 1) C dL_run_13 (by decide) ?_
      exact xr_iretW C hr dL_run_14 (by decide) (by decide) hR
    · cases hR
def mL_held (k0 : Nat) (a1 : Int32) (k2 : Nat) (h : xw_M) : Option (xw_M × Int32) := (mX5_held k0 a1 h).bind fun r => if r.2.2 = 0 then xo_let (xw_st r.1 k2 0 r.2.1) (fun h1 => some (h1, (0 : Int32))) else (if r.2.2 = 3 then some (r.1, 1) else none)
set_option maxHeartbeats 4000000 in
set_option maxRecDepth 100000 in
theorem ha_L_held_3 : xw_ha RL [(0, 9, 12, 25)] 4 "java/lang/IndexOutOfBoundsException" 12 := ⟨[], ⟨0, 9, 12, 25⟩, [], rfl, fun z hz => absurd hz List.not_mem_nil, by decide, by decide, by decide +kernel, rfl, by decide, by decide⟩
set_option maxHeartbeats 4000000 in
set_option maxRecDepth 100000 in
theorem mwL_held (l : Launch) (G : xw_G) (hl : l.stackTraces = false) {k0 : Nat} {a1 : Int32} {k2 : Nat} (hk0 : xw_kd k0 = 5) (hk2 : xw_kd k2 = 15) {h : xw_M} {q : xw_M × Int32} (hR : mL_held k0 a1 k2 h = some q) : xc_W l G yL_held cL_held 4 [(0, 9, 12, 25)] 8 132 [.ref (xg_ad G k0), .int a1, .ref (xg_ad G k2)] h q.1 q.2 := by
  refine xc_ofW (by decide +kernel) rfl (Nat.le_of_ble_eq_true rfl) ?_
  intro p e s m args below meth c C hr htab
  have C : xj_C p s m args meth c G RL cL_held 4 := C
  show xj_X p l e { frames := 8, cells := 1, slots := 6, locals := 132 } s m args below meth c G 4 0 0 (MQ below (xw_Q G (some (.int q.2)) q.1) args s 1 6 (xg_A G)) h [some (.ref (xg_ad G k0)), some (.int a1), some (.ref (xg_ad G k2)), none] 0 []
  unfold mL_held at hR
  obtain ⟨r, hr1, hR⟩ := xo_b hR
  refine xr_aload_n C dL_held_0 rfl ?_
  refine xr_iconst (v := 0) C dL_held_1 (by decide) ?_
  refine xr_aload_n C dL_held_2 rfl ?_
  refine xr_iload_n C dL_held_3 rfl ?_
  refine xo_if hR (fun hz hR => ?_) (fun hz hR => ?_)
  · refine xr_goVi (st := [.int 0, .ref (xg_ad G k2)]) [.int a1] C cv_RL_34 hk0 (mcX5_held l G hk0 hr1 hz) rfl ⟨Nat.le_of_ble_eq_true rfl, Nat.le_of_ble_eq_true rfl⟩ (Nat.le_of_ble_eq_true rfl) ⟨by decide, by decide⟩ rfl dL_held_4 ?_
    refine xr_i2l C dL_held_7 ?_
    refine xr_last C hk2 (xj_lt15 C hk2) dL_held_8 hR (fun h1 hR => ?_)
    refine xr_goto (tgt := 15) C dL_held_9 (by decide) ?_
    refine xr_iconst (v := 0) C dL_held_15 (by decide) ?_
    exact xr_iretW C hr dL_held_16 (by decide) (by decide) hR
  · refine xo_if hR (fun he0 hR => ?_) (fun he0 hR => ?_)
    · refine xt_goWs (st := [.int 0, .ref (xg_ad G k2)]) [.int a1] C htab cv_RL_34 hk0 (mtX5_held l G hl hk0 hr1 hz) (Ex := "java/lang/IndexOutOfBoundsException") (by rw [he0]; rfl) ha_L_held_3 rfl ⟨Nat.le_of_ble_eq_true rfl, Nat.le_of_ble_eq_true rfl⟩ (Nat.le_of_ble_eq_true rfl) ⟨by decide, by decide⟩ rfl dL_held_4 (fun q9 => ?_)
      refine xr_astore_n C dL_held_12 rfl (by decide) ?_
      refine xr_iconst (v := 1) C dL_held_13 (by decide) ?_
      exact xr_iretW C hr dL_held_14 (by decide) (by decide) hR
    · cases hR
def mL_valueAt (k0 : Nat) (a1 : Int32) (a2 : Int32) (k3 : Nat) (h : xw_M) : Option (xw_M × Int32) := (mX5_valueAt k0 a1 a2 h).bind fun r => if r.2.2 = 0 then xo_let (xw_st r.1 k3 0 r.2.1) (fun h1 => some (h1, (0 : Int32))) else (if r.2.2 = 3 then some (r.1, 1) else none)
set_option maxHeartbeats 4000000 in
set_option maxRecDepth 100000 in
theorem ha_L_valueAt_3 : xw_ha RL [(0, 10, 13, 25)] 5 "java/lang/IndexOutOfBoundsException" 13 := ⟨[], ⟨0, 10, 13, 25⟩, [], rfl, fun z hz => absurd hz List.not_mem_nil, by decide, by decide, by decide +kernel, rfl, by decide, by decide⟩
set_option maxHeartbeats 4000000 in
set_option maxRecDepth 100000 in
theorem mwL_valueAt (l : Launch) (G : xw_G) (hl : l.stackTraces = false) {k0 : Nat} {a1 : Int32} {a2 : Int32} {k3 : Nat} (hk0 : xw_kd k0 = 5) (hk3 : xw_kd k3 = 15) {h : xw_M} {q : xw_M × Int32} (hR : mL_valueAt k0 a1 a2 k3 h = some q) : xc_W l G yL_valueAt cL_valueAt 5 [(0, 10, 13, 25)] 8 134 [.ref (xg_ad G k0), .int a1, .int a2, .ref (xg_ad G k3)] h q.1 q.2 := by
  refine xc_ofW (by decide +kernel) rfl (Nat.le_of_ble_eq_true rfl) ?_
  intro p e s m args below meth c C hr htab
  have C : xj_C p s m args meth c G RL cL_valueAt 5 := C
  show xj_X p l e { frames := 8, cells := 1, slots := 6, locals := 134 } s m args below meth c G 5 0 0 (MQ below (xw_Q G (some (.int q.2)) q.1) args s 1 6 (xg_A G)) h [some (.ref (xg_ad G k0)), some (.int a1), some (.int a2), some (.ref (xg_ad G k3)), none] 0 []
  unfold mL_valueAt at hR
  obtain ⟨r, hr1, hR⟩ := xo_b hR
  refine xr_aload_n C dL_valueAt_0 rfl ?_
  refine xr_iconst (v := 0) C dL_valueAt_1 (by decide) ?_
  refine xr_aload_n C dL_valueAt_2 rfl ?_
  refine xr_iload_n C dL_valueAt_3 rfl ?_
  refine xr_iload_n C dL_valueAt_4 rfl ?_
  refine xo_if hR (fun hz hR => ?_) (fun hz hR => ?_)
  · refine xr_goVi (st := [.int 0, .ref (xg_ad G k3)]) [.int a1, .int a2] C cv_RL_37 hk0 (mcX5_valueAt l G hk0 hr1 hz) rfl ⟨Nat.le_of_ble_eq_true rfl, Nat.le_of_ble_eq_true rfl⟩ (Nat.le_of_ble_eq_true rfl) ⟨by decide, by decide⟩ rfl dL_valueAt_5 ?_
    refine xr_i2l C dL_valueAt_8 ?_
    refine xr_last C hk3 (xj_lt15 C hk3) dL_valueAt_9 hR (fun h1 hR => ?_)
    refine xr_goto (tgt := 17) C dL_valueAt_10 (by decide) ?_
    refine xr_iconst (v := 0) C dL_valueAt_17 (by decide) ?_
    exact xr_iretW C hr dL_valueAt_18 (by decide) (by decide) hR
  · refine xo_if hR (fun he0 hR => ?_) (fun he0 hR => ?_)
    · refine xt_goWs (st := [.int 0, .ref (xg_ad G k3)]) [.int a1, .int a2] C htab cv_RL_37 hk0 (mtX5_valueAt l G hl hk0 hr1 hz) (Ex := "java/lang/IndexOutOfBoundsException") (by rw [he0]; rfl) ha_L_valueAt_3 rfl ⟨Nat.le_of_ble_eq_true rfl, Nat.le_of_ble_eq_true rfl⟩ (Nat.le_of_ble_eq_true rfl) ⟨by decide, by decide⟩ rfl dL_valueAt_5 (fun q9 => ?_)
      refine xr_astore C dL_valueAt_13 rfl (by decide) ?_
      refine xr_iconst (v := 1) C dL_valueAt_15 (by decide) ?_
      exact xr_iretW C hr dL_valueAt_16 (by decide) (by decide) hR
    · cases hR
def mL_sendersAt (k0 : Nat) (a1 : Int32) (k2 : Nat) (h : xw_M) : Option (xw_M × Int32) := (mX5_sendersAt k0 a1 h).bind fun r => if r.2.2 = 0 then xo_let (xw_st r.1 k2 0 r.2.1) (fun h1 => some (h1, (0 : Int32))) else (if r.2.2 = 3 then some (r.1, 1) else none)
set_option maxHeartbeats 4000000 in
set_option maxRecDepth 100000 in
theorem ha_L_sendersAt_3 : xw_ha RL [(0, 9, 12, 25)] 4 "java/lang/IndexOutOfBoundsException" 12 := ⟨[], ⟨0, 9, 12, 25⟩, [], rfl, fun z hz => absurd hz List.not_mem_nil, by decide, by decide, by decide +kernel, rfl, by decide, by decide⟩
set_option maxHeartbeats 4000000 in
set_option maxRecDepth 100000 in
theorem mwL_sendersAt (l : Launch) (G : xw_G) (hl : l.stackTraces = false) {k0 : Nat} {a1 : Int32} {k2 : Nat} (hk0 : xw_kd k0 = 5) (hk2 : xw_kd k2 = 15) {h : xw_M} {q : xw_M × Int32} (hR : mL_sendersAt k0 a1 k2 h = some q) : xc_W l G yL_sendersAt cL_sendersAt 4 [(0, 9, 12, 25)] 8 132 [.ref (xg_ad G k0), .int a1, .ref (xg_ad G k2)] h q.1 q.2 := by
  refine xc_ofW (by decide +kernel) rfl (Nat.le_of_ble_eq_true rfl) ?_
  intro p e s m args below meth c C hr htab
  have C : xj_C p s m args meth c G RL cL_sendersAt 4 := C
  show xj_X p l e { frames := 8, cells := 1, slots := 6, locals := 132 } s m args below meth c G 4 0 0 (MQ below (xw_Q G (some (.int q.2)) q.1) args s 1 6 (xg_A G)) h [some (.ref (xg_ad G k0)), some (.int a1), some (.ref (xg_ad G k2)), none] 0 []
  unfold mL_sendersAt at hR
  obtain ⟨r, hr1, hR⟩ := xo_b hR
  refine xr_aload_n C dL_sendersAt_0 rfl ?_
  refine xr_iconst (v := 0) C dL_sendersAt_1 (by decide) ?_
  refine xr_aload_n C dL_sendersAt_2 rfl ?_
  refine xr_iload_n C dL_sendersAt_3 rfl ?_
  refine xo_if hR (fun hz hR => ?_) (fun hz hR => ?_)
  · refine xr_goVi (st := [.int 0, .ref (xg_ad G k2)]) [.int a1] C cv_RL_40 hk0 (mcX5_sendersAt l G hk0 hr1 hz) rfl ⟨Nat.le_of_ble_eq_true rfl, Nat.le_of_ble_eq_true rfl⟩ (Nat.le_of_ble_eq_true rfl) ⟨by decide, by decide⟩ rfl dL_sendersAt_4 ?_
    refine xr_i2l C dL_sendersAt_7 ?_
    refine xr_last C hk2 (xj_lt15 C hk2) dL_sendersAt_8 hR (fun h1 hR => ?_)
    refine xr_goto (tgt := 15) C dL_sendersAt_9 (by decide) ?_
    refine xr_iconst (v := 0) C dL_sendersAt_15 (by decide) ?_
    exact xr_iretW C hr dL_sendersAt_16 (by decide) (by decide) hR
  · refine xo_if hR (fun he0 hR => ?_) (fun he0 hR => ?_)
    · refine xt_goWs (st := [.int 0, .ref (xg_ad G k2)]) [.int a1] C htab cv_RL_40 hk0 (mtX5_sendersAt l G hl hk0 hr1 hz) (Ex := "java/lang/IndexOutOfBoundsException") (by rw [he0]; rfl) ha_L_sendersAt_3 rfl ⟨Nat.le_of_ble_eq_true rfl, Nat.le_of_ble_eq_true rfl⟩ (Nat.le_of_ble_eq_true rfl) ⟨by decide, by decide⟩ rfl dL_sendersAt_4 (fun q9 => ?_)
      refine xr_astore_n C dL_sendersAt_12 rfl (by decide) ?_
      refine xr_iconst (v := 1) C dL_sendersAt_13 (by decide) ?_
      exact xr_iretW C hr dL_sendersAt_14 (by decide) (by decide) hR
    · cases hR
def mL_takersAt (k0 : Nat) (a1 : Int32) (k2 : Nat) (h : xw_M) : Option (xw_M × Int32) := (mX5_takersAt k0 a1 h).bind fun r => if r.2.2 = 0 then xo_let (xw_st r.1 k2 0 r.2.1) (fun h1 => some (h1, (0 : Int32))) else (if r.2.2 = 3 then some (r.1, 1) else none)
set_option maxHeartbeats 4000000 in
set_option maxRecDepth 100000 in
theorem ha_L_takersAt_3 : xw_ha RL [(0, 9, 12, 25)] 4 "java/lang/IndexOutOfBoundsException" 12 := ⟨[], ⟨0, 9, 12, 25⟩, [], rfl, fun z hz => absurd hz List.not_mem_nil, by decide, by decide, by decide +kernel, rfl, by decide, by decide⟩
set_option maxHeartbeats 4000000 in
set_option maxRecDepth 100000 in
theorem mwL_takersAt (l : Launch) (G : xw_G) (hl : l.stackTraces = false) {k0 : Nat} {a1 : Int32} {k2 : Nat} (hk0 : xw_kd k0 = 5) (hk2 : xw_kd k2 = 15) {h : xw_M} {q : xw_M × Int32} (hR : mL_takersAt k0 a1 k2 h = some q) : xc_W l G yL_takersAt cL_takersAt 4 [(0, 9, 12, 25)] 8 132 [.ref (xg_ad G k0), .int a1, .ref (xg_ad G k2)] h q.1 q.2 := by
  refine xc_ofW (by decide +kernel) rfl (Nat.le_of_ble_eq_true rfl) ?_
  intro p e s m args below meth c C hr htab
  have C : xj_C p s m args meth c G RL cL_takersAt 4 := C
  show xj_X p l e { frames := 8, cells := 1, slots := 6, locals := 132 } s m args below meth c G 4 0 0 (MQ below (xw_Q G (some (.int q.2)) q.1) args s 1 6 (xg_A G)) h [some (.ref (xg_ad G k0)), some (.int a1), some (.ref (xg_ad G k2)), none] 0 []
  unfold mL_takersAt at hR
  obtain ⟨r, hr1, hR⟩ := xo_b hR
  refine xr_aload_n C dL_takersAt_0 rfl ?_
  refine xr_iconst (v := 0) C dL_takersAt_1 (by decide) ?_
  refine xr_aload_n C dL_takersAt_2 rfl ?_
  refine xr_iload_n C dL_takersAt_3 rfl ?_
  refine xo_if hR (fun hz hR => ?_) (fun hz hR => ?_)
  · refine xr_goVi (st := [.int 0, .ref (xg_ad G k2)]) [.int a1] C cv_RL_43 hk0 (mcX5_takersAt l G hk0 hr1 hz) rfl ⟨Nat.le_of_ble_eq_true rfl, Nat.le_of_ble_eq_true rfl⟩ (Nat.le_of_ble_eq_true rfl) ⟨by decide, by decide⟩ rfl dL_takersAt_4 ?_
    refine xr_i2l C dL_takersAt_7 ?_
    refine xr_last C hk2 (xj_lt15 C hk2) dL_takersAt_8 hR (fun h1 hR => ?_)
    refine xr_goto (tgt := 15) C dL_takersAt_9 (by decide) ?_
    refine xr_iconst (v := 0) C dL_takersAt_15 (by decide) ?_
    exact xr_iretW C hr dL_takersAt_16 (by decide) (by decide) hR
  · refine xo_if hR (fun he0 hR => ?_) (fun he0 hR => ?_)
    · refine xt_goWs (st := [.int 0, .ref (xg_ad G k2)]) [.int a1] C htab cv_RL_43 hk0 (mtX5_takersAt l G hl hk0 hr1 hz) (Ex := "java/lang/IndexOutOfBoundsException") (by rw [he0]; rfl) ha_L_takersAt_3 rfl ⟨Nat.le_of_ble_eq_true rfl, Nat.le_of_ble_eq_true rfl⟩ (Nat.le_of_ble_eq_true rfl) ⟨by decide, by decide⟩ rfl dL_takersAt_4 (fun q9 => ?_)
      refine xr_astore_n C dL_takersAt_12 rfl (by decide) ?_
      refine xr_iconst (v := 1) C dL_takersAt_13 (by decide) ?_
      exact xr_iretW C hr dL_takersAt_14 (by decide) (by decide) hR
    · cases hR
def mL_stateOf (k0 : Nat) (a1 : Int32) (k2 : Nat) (h : xw_M) : Option (xw_M × Int32) := (mX5_stateOf k0 a1 h).bind fun r => if r.2.2 = 0 then xo_let (xw_st r.1 k2 0 r.2.1) (fun h1 => some (h1, (0 : Int32))) else (if r.2.2 = 3 then some (r.1, 1) else none)
set_option maxHeartbeats 4000000 in
set_option maxRecDepth 100000 in
theorem ha_L_stateOf_3 : xw_ha RL [(0, 9, 12, 25)] 4 "java/lang/IndexOutOfBoundsException" 12 := ⟨[], ⟨0, 9, 12, 25⟩, [], rfl, fun z hz => absurd hz List.not_mem_nil, by decide, by decide, by decide +kernel, rfl, by decide, by decide⟩
set_option maxHeartbeats 4000000 in
set_option maxRecDepth 100000 in
theorem mwL_stateOf (l : Launch) (G : xw_G) (hl : l.stackTraces = false) {k0 : Nat} {a1 : Int32} {k2 : Nat} (hk0 : xw_kd k0 = 5) (hk2 : xw_kd k2 = 15) {h : xw_M} {q : xw_M × Int32} (hR : mL_stateOf k0 a1 k2 h = some q) : xc_W l G yL_stateOf cL_stateOf 4 [(0, 9, 12, 25)] 8 132 [.ref (xg_ad G k0), .int a1, .ref (xg_ad G k2)] h q.1 q.2 := by
  refine xc_ofW (by decide +kernel) rfl (Nat.le_of_ble_eq_true rfl) ?_
  intro p e s m args below meth c C hr htab
  have C : xj_C p s m args meth c G RL cL_stateOf 4 := C
  show xj_X p l e { frames := 8, cells := 1, slots := 6, locals := 132 } s m args below meth c G 4 0 0 (MQ below (xw_Q G (some (.int q.2)) q.1) args s 1 6 (xg_A G)) h [some (.ref (xg_ad G k0)), some (.int a1), some (.ref (xg_ad G k2)), none] 0 []
  unfold mL_stateOf at hR
  obtain ⟨r, hr1, hR⟩ := xo_b hR
  refine xr_aload_n C dL_stateOf_0 rfl ?_
  refine xr_iconst (v := 0) C dL_stateOf_1 (by decide) ?_
  refine xr_aload_n C dL_stateOf_2 rfl ?_
  refine xr_iload_n C dL_stateOf_3 rfl ?_
  refine xo_if hR (fun hz hR => ?_) (fun hz hR => ?_)
  · refine xr_goVi (st := [.int 0, .ref (xg_ad G k2)]) [.int a1] C cv_RL_46 hk0 (mcX5_stateOf l G hk0 hr1 hz) rfl ⟨Nat.le_of_ble_eq_true rfl, Nat.le_of_ble_eq_true rfl⟩ (Nat.le_of_ble_eq_true rfl) ⟨by decide, by decide⟩ rfl dL_stateOf_4 ?_
    refine xr_i2l C dL_stateOf_7 ?_
    refine xr_last C hk2 (xj_lt15 C hk2) dL_stateOf_8 hR (fun h1 hR => ?_)
    refine xr_goto (tgt := 15) C dL_stateOf_9 (by decide) ?_
    refine xr_iconst (v := 0) C dL_stateOf_15 (by decide) ?_
    exact xr_iretW C hr dL_stateOf_16 (by decide) (by decide) hR
  · refine xo_if hR (fun he0 hR => ?_) (fun he0 hR => ?_)
    · refine xt_goWs (st := [.int 0, .ref (xg_ad G k2)]) [.int a1] C htab cv_RL_46 hk0 (mtX5_stateOf l G hl hk0 hr1 hz) (Ex := "java/lang/IndexOutOfBoundsException") (by rw [he0]; rfl) ha_L_stateOf_3 rfl ⟨Nat.le_of_ble_eq_true rfl, Nat.le_of_ble_eq_true rfl⟩ (Nat.le_of_ble_eq_true rfl) ⟨by decide, by decide⟩ rfl dL_stateOf_4 (fun q9 => ?_)
      refine xr_astore_n C dL_stateOf_12 rfl (by decide) ?_
      refine xr_iconst (v := 1) C dL_stateOf_13 (by decide) ?_
      exact xr_iretW C hr dL_stateOf_14 (by decide) (by decide) hR
    · cases hR
def mL_placeOf (k0 : Nat) (a1 : Int32) (k2 : Nat) (h : xw_M) : Option (xw_M × Int32) := (mX5_placeOf k0 a1 h).bind fun r => if r.2.2 = 0 then xo_let (xw_st r.1 k2 0 r.2.1) (fun h1 => some (h1, (0 : Int32))) else (if r.2.2 = 3 then some (r.1, 1) else none)
set_option maxHeartbeats 4000000 in
set_option maxRecDepth 100000 in
theorem ha_L_placeOf_3 : xw_ha RL [(0, 9, 12, 25)] 4 "java/lang/IndexOutOfBoundsException" 12 := ⟨[], ⟨0, 9, 12, 25⟩, [], rfl, fun z hz => absurd hz List.not_mem_nil, by decide, by decide, by decide +kernel, rfl, by decide, by decide⟩
set_option maxHeartbeats 4000000 in
set_option maxRecDepth 100000 in
theorem mwL_placeOf (l : Launch) (G : xw_G) (hl : l.stackTraces = false) {k0 : Nat} {a1 : Int32} {k2 : Nat} (hk0 : xw_kd k0 = 5) (hk2 : xw_kd k2 = 15) {h : xw_M} {q : xw_M × Int32} (hR : mL_placeOf k0 a1 k2 h = some q) : xc_W l G yL_placeOf cL_placeOf 4 [(0, 9, 12, 25)] 8 132 [.ref (xg_ad G k0), .int a1, .ref (xg_ad G k2)] h q.1 q.2 := by
  refine xc_ofW (by decide +kernel) rfl (Nat.le_of_ble_eq_true rfl) ?_
  intro p e s m args below meth c C hr htab
  have C : xj_C p s m args meth c G RL cL_placeOf 4 := C
  show xj_X p l e { frames := 8, cells := 1, slots := 6, locals := 132 } s m args below meth c G 4 0 0 (MQ below (xw_Q G (some (.int q.2)) q.1) args s 1 6 (xg_A G)) h [some (.ref (xg_ad G k0)), some (.int a1), some (.ref (xg_ad G k2)), none] 0 []
  unfold mL_placeOf at hR
  obtain ⟨r, hr1, hR⟩ := xo_b hR
  refine xr_aload_n C dL_placeOf_0 rfl ?_
  refine xr_iconst (v := 0) C dL_placeOf_1 (by decide) ?_
  refine xr_aload_n C dL_placeOf_2 rfl ?_
  refine xr_iload_n C dL_placeOf_3 rfl ?_
  refine xo_if hR (fun hz hR => ?_) (fun hz hR => ?_)
  · refine xr_goVi (st := [.int 0, .ref (xg_ad G k2)]) [.int a1] C cv_RL_49 hk0 (mcX5_placeOf l G hk0 hr1 hz) rfl ⟨Nat.le_of_ble_eq_true rfl, Nat.le_of_ble_eq_true rfl⟩ (Nat.le_of_ble_eq_true rfl) ⟨by decide, by decide⟩ rfl dL_placeOf_4 ?_
    refine xr_i2l C dL_placeOf_7 ?_
    refine xr_last C hk2 (xj_lt15 C hk2) dL_placeOf_8 hR (fun h1 hR => ?_)
    refine xr_goto (tgt := 15) C dL_placeOf_9 (by decide) ?_
    refine xr_iconst (v := 0) C dL_placeOf_15 (by decide) ?_
    exact xr_iretW C hr dL_placeOf_16 (by decide) (by decide) hR
  · refine xo_if hR (fun he0 hR => ?_) (fun he0 hR => ?_)
    · refine xt_goWs (st := [.int 0, .ref (xg_ad G k2)]) [.int a1] C htab cv_RL_49 hk0 (mtX5_placeOf l G hl hk0 hr1 hz) (Ex := "java/lang/IndexOutOfBoundsException") (by rw [he0]; rfl) ha_L_placeOf_3 rfl ⟨Nat.le_of_ble_eq_true rfl, Nat.le_of_ble_eq_true rfl⟩ (Nat.le_of_ble_eq_true rfl) ⟨by decide, by decide⟩ rfl dL_placeOf_4 (fun q9 => ?_)
      refine xr_astore_n C dL_placeOf_12 rfl (by decide) ?_
      refine xr_iconst (v := 1) C dL_placeOf_13 (by decide) ?_
      exact xr_iretW C hr dL_placeOf_14 (by decide) (by decide) hR
    · cases hR
def mL_sumOf (k0 : Nat) (a1 : Int32) (k2 : Nat) (h : xw_M) : Option (xw_M × Int32) := (mX5_sumOf k0 a1 h).bind fun r => if r.2.2 = 0 then xo_let (xw_st r.1 k2 0 r.2.1) (fun h1 => some (h1, (0 : Int32))) else (if r.2.2 = 3 then some (r.1, 1) else none)
set_option maxHeartbeats 4000000 in
set_option maxRecDepth 100000 in
theorem ha_L_sumOf_3 : xw_ha RL [(0, 9, 12, 25)] 4 "java/lang/IndexOutOfBoundsException" 12 := ⟨[], ⟨0, 9, 12, 25⟩, [], rfl, fun z hz => absurd hz List.not_mem_nil, by decide, by decide, by decide +kernel, rfl, by decide, by decide⟩
set_option maxHeartbeats 4000000 in
set_option maxRecDepth 100000 in
theorem mwL_sumOf (l : Launch) (G : xw_G) (hl : l.stackTraces = false) {k0 : Nat} {a1 : Int32} {k2 : Nat} (hk0 : xw_kd k0 = 5) (hk2 : xw_kd k2 = 15) {h : xw_M} {q : xw_M × Int32} (hR : mL_sumOf k0 a1 k2 h = some q) : xc_W l G yL_sumOf cL_sumOf 4 [(0, 9, 12, 25)] 8 132 [.ref (xg_ad G k0), .int a1, .ref (xg_ad G k2)] h q.1 q.2 := by
  refine xc_ofW (by decide +kernel) rfl (Nat.le_of_ble_eq_true rfl) ?_
  intro p e s m args below meth c C hr htab
  have C : xj_C p s m args meth c G RL cL_sumOf 4 := C
  show xj_X p l e { frames := 8, cells := 1, slots := 6, locals := 132 } s m args below meth c G 4 0 0 (MQ below (xw_Q G (some (.int q.2)) q.1) args s 1 6 (xg_A G)) h [some (.ref (xg_ad G k0)), some (.int a1), some (.ref (xg_ad G k2)), none] 0 []
  unfold mL_sumOf at hR
  obtain ⟨r, hr1, hR⟩ := xo_b hR
  refine xr_aload_n C dL_sumOf_0 rfl ?_
  refine xr_iconst (v := 0) C dL_sumOf_1 (by decide) ?_
  refine xr_aload_n C dL_sumOf_2 rfl ?_
  refine xr_iload_n C dL_sumOf_3 rfl ?_
  refine xo_if hR (fun hz hR => ?_) (fun hz hR => ?_)
  · refine xr_goVi (st := [.int 0, .ref (xg_ad G k2)]) [.int a1] C cv_RL_52 hk0 (mcX5_sumOf l G hk0 hr1 hz) rfl ⟨Nat.le_of_ble_eq_true rfl, Nat.le_of_ble_eq_true rfl⟩ (Nat.le_of_ble_eq_true rfl) ⟨by decide, by decide⟩ rfl dL_sumOf_4 ?_
    refine xr_i2l C dL_sumOf_7 ?_
    refine xr_last C hk2 (xj_lt15 C hk2) dL_sumOf_8 hR (fun h1 hR => ?_)
    refine xr_goto (tgt := 15) C dL_sumOf_9 (by decide) ?_
    refine xr_iconst (v := 0) C dL_sumOf_15 (by decide) ?_
    exact xr_iretW C hr dL_sumOf_16 (by decide) (by decide) hR
  · refine xo_if hR (fun he0 hR => ?_) (fun he0 hR => ?_)
    · refine xt_goWs (st := [.int 0, .ref (xg_ad G k2)]) [.int a1] C htab cv_RL_52 hk0 (mtX5_sumOf l G hl hk0 hr1 hz) (Ex := "java/lang/IndexOutOfBoundsException") (by rw [he0]; rfl) ha_L_sumOf_3 rfl ⟨Nat.le_of_ble_eq_true rfl, Nat.le_of_ble_eq_true rfl⟩ (Nat.le_of_ble_eq_true rfl) ⟨by decide, by decide⟩ rfl dL_sumOf_4 (fun q9 => ?_)
      refine xr_astore_n C dL_sumOf_12 rfl (by decide) ?_
      refine xr_iconst (v := 1) C dL_sumOf_13 (by decide) ?_
      exact xr_iretW C hr dL_sumOf_14 (by decide) (by decide) hR
    · cases hR
def mL_stepsDone (k0 : Nat) (a1 : Int32) (k2 : Nat) (h : xw_M) : Option (xw_M × Int32) := (mX5_stepsDone k0 a1 h).bind fun r => if r.2.2 = 0 then xo_let (xw_st r.1 k2 0 r.2.1) (fun h1 => some (h1, (0 : Int32))) else (if r.2.2 = 3 then some (r.1, 1) else none)
set_option maxHeartbeats 4000000 in
set_option maxRecDepth 100000 in
theorem ha_L_stepsDone_3 : xw_ha RL [(0, 9, 12, 25)] 4 "java/lang/IndexOutOfBoundsException" 12 := ⟨[], ⟨0, 9, 12, 25⟩, [], rfl, fun z hz => absurd hz List.not_mem_nil, by decide, by decide, by decide +kernel, rfl, by decide, by decide⟩
set_option maxHeartbeats 4000000 in
set_option maxRecDepth 100000 in
theorem mwL_stepsDone (l : Launch) (G : xw_G) (hl : l.stackTraces = false) {k0 : Nat} {a1 : Int32} {k2 : Nat} (hk0 : xw_kd k0 = 5) (hk2 : xw_kd k2 = 15) {h : xw_M} {q : xw_M × Int32} (hR : mL_stepsDone k0 a1 k2 h = some q) : xc_W l G yL_stepsDone cL_stepsDone 4 [(0, 9, 12, 25)] 8 132 [.ref (xg_ad G k0), .int a1, .ref (xg_ad G k2)] h q.1 q.2 := by
  refine xc_ofW (by decide +kernel) rfl (Nat.le_of_ble_eq_true rfl) ?_
  intro p e s m args below meth c C hr htab
  have C : xj_C p s m args meth c G RL cL_stepsDone 4 := C
  show xj_X p l e { frames := 8, cells := 1, slots := 6, locals := 132 } s m args below meth c G 4 0 0 (MQ below (xw_Q G (some (.int q.2)) q.1) args s 1 6 (xg_A G)) h [some (.ref (xg_ad G k0)), some (.int a1), some (.ref (xg_ad G k2)), none] 0 []
  unfold mL_stepsDone at hR
  obtain ⟨r, hr1, hR⟩ := xo_b hR
  refine xr_aload_n C dL_stepsDone_0 rfl ?_
  refine xr_iconst (v := 0) C dL_stepsDone_1 (by decide) ?_
  refine xr_aload_n C dL_stepsDone_2 rfl ?_
  refine xr_iload_n C dL_stepsDone_3 rfl ?_
  refine xo_if hR (fun hz hR => ?_) (fun hz hR => ?_)
  · refine xr_goVi (st := [.int 0, .ref (xg_ad G k2)]) [.int a1] C cv_RL_55 hk0 (mcX5_stepsDone l G hk0 hr1 hz) rfl ⟨Nat.le_of_ble_eq_true rfl, Nat.le_of_ble_eq_true rfl⟩ (Nat.le_of_ble_eq_true rfl) ⟨by decide, by decide⟩ rfl dL_stepsDone_4 ?_
    refine xr_i2l C dL_stepsDone_7 ?_
    refine xr_last C hk2 (xj_lt15 C hk2) dL_stepsDone_8 hR (fun h1 hR => ?_)
    refine xr_goto (tgt := 15) C dL_stepsDone_9 (by decide) ?_
    refine xr_iconst (v := 0) C dL_stepsDone_15 (by decide) ?_
    exact xr_iretW C hr dL_stepsDone_16 (by decide) (by decide) hR
  · refine xo_if hR (fun he0 hR => ?_) (fun he0 hR => ?_)
    · refine xt_goWs (st := [.int 0, .ref (xg_ad G k2)]) [.int a1] C htab cv_RL_55 hk0 (mtX5_stepsDone l G hl hk0 hr1 hz) (Ex := "java/lang/IndexOutOfBoundsException") (by rw [he0]; rfl) ha_L_stepsDone_3 rfl ⟨Nat.le_of_ble_eq_true rfl, Nat.le_of_ble_eq_true rfl⟩ (Nat.le_of_ble_eq_true rfl) ⟨by decide, by decide⟩ rfl dL_stepsDone_4 (fun q9 => ?_)
      refine xr_astore_n C dL_stepsDone_12 rfl (by decide) ?_
      refine xr_iconst (v := 1) C dL_stepsDone_13 (by decide) ?_
      exact xr_iretW C hr dL_stepsDone_14 (by decide) (by decide) hR
    · cases hR
def mL_turnsOf (k0 : Nat) (a1 : Int32) (k2 : Nat) (h : xw_M) : Option (xw_M × Int32) := (mX5_turnsOf k0 a1 h).bind fun r => if r.2.2 = 0 then xo_let (xw_st r.1 k2 0 r.2.1) (fun h1 => some (h1, (0 : Int32))) else (if r.2.2 = 3 then some (r.1, 1) else none)
set_option maxHeartbeats 4000000 in
set_option maxRecDepth 100000 in
theorem ha_L_turnsOf_3 : xw_ha RL [(0, 9, 12, 25)] 4 "java/lang/IndexOutOfBoundsException" 12 := ⟨[], ⟨0, 9, 12, 25⟩, [], rfl, fun z hz => absurd hz List.not_mem_nil, by decide, by decide, by decide +kernel, rfl, by decide, by decide⟩
set_option maxHeartbeats 4000000 in
set_option maxRecDepth 100000 in
theorem mwL_turnsOf (l : Launch) (G : xw_G) (hl : l.stackTraces = false) {k0 : Nat} {a1 : Int32} {k2 : Nat} (hk0 : xw_kd k0 = 5) (hk2 : xw_kd k2 = 15) {h : xw_M} {q : xw_M × Int32} (hR : mL_turnsOf k0 a1 k2 h = some q) : xc_W l G yL_turnsOf cL_turnsOf 4 [(0, 9, 12, 25)] 8 132 [.ref (xg_ad G k0), .int a1, .ref (xg_ad G k2)] h q.1 q.2 := by
  refine xc_ofW (by decide +kernel) rfl (Nat.le_of_ble_eq_true rfl) ?_
  intro p e s m args below meth c C hr htab
  have C : xj_C p s m args meth c G RL cL_turnsOf 4 := C
  show xj_X p l e { frames := 8, cells := 1, slots := 6, locals := 132 } s m args below meth c G 4 0 0 (MQ below (xw_Q G (some (.int q.2)) q.1) args s 1 6 (xg_A G)) h [some (.ref (xg_ad G k0)), some (.int a1), some (.ref (xg_ad G k2)), none] 0 []
  unfold mL_turnsOf at hR
  obtain ⟨r, hr1, hR⟩ := xo_b hR
  refine xr_aload_n C dL_turnsOf_0 rfl ?_
  refine xr_iconst (v := 0) C dL_turnsOf_1 (by decide) ?_
  refine xr_aload_n C dL_turnsOf_2 rfl ?_
  refine xr_iload_n C dL_turnsOf_3 rfl ?_
  refine xo_if hR (fun hz hR => ?_) (fun hz hR => ?_)
  · refine xr_goVi (st := [.int 0, .ref (xg_ad G k2)]) [.int a1] C cv_RL_58 hk0 (mcX5_turnsOf l G hk0 hr1 hz) rfl ⟨Nat.le_of_ble_eq_true rfl, Nat.le_of_ble_eq_true rfl⟩ (Nat.le_of_ble_eq_true rfl) ⟨by decide, by decide⟩ rfl dL_turnsOf_4 ?_
    refine xr_i2l C dL_turnsOf_7 ?_
    refine xr_last C hk2 (xj_lt15 C hk2) dL_turnsOf_8 hR (fun h1 hR => ?_)
    refine xr_goto (tgt := 15) C dL_turnsOf_9 (by decide) ?_
    refine xr_iconst (v := 0) C dL_turnsOf_15 (by decide) ?_
    exact xr_iretW C hr dL_turnsOf_16 (by decide) (by decide) hR
  · refine xo_if hR (fun he0 hR => ?_) (fun he0 hR => ?_)
    · refine xt_goWs (st := [.int 0, .ref (xg_ad G k2)]) [.int a1] C htab cv_RL_58 hk0 (mtX5_turnsOf l G hl hk0 hr1 hz) (Ex := "java/lang/IndexOutOfBoundsException") (by rw [he0]; rfl) ha_L_turnsOf_3 rfl ⟨Nat.le_of_ble_eq_true rfl, Nat.le_of_ble_eq_true rfl⟩ (Nat.le_of_ble_eq_true rfl) ⟨by decide, by decide⟩ rfl dL_turnsOf_4 (fun q9 => ?_)
      refine xr_astore_n C dL_turnsOf_12 rfl (by decide) ?_
      refine xr_iconst (v := 1) C dL_turnsOf_13 (by decide) ?_
      exact xr_iretW C hr dL_turnsOf_14 (by decide) (by decide) hR
    · cases hR
def mL_placeInLine (k0 : Nat) (a1 : Int32) (k2 : Nat) (h : xw_M) : Option (xw_M × Int32) := (mX5_placeInLine k0 a1 h).bind fun r => if r.2.2 = 0 then xo_let (xw_st r.1 k2 0 r.2.1) (fun h1 => some (h1, (0 : Int32))) else (if r.2.2 = 3 then some (r.1, 1) else none)
set_option maxHeartbeats 4000000 in
set_option maxRecDepth 100000 in
theorem ha_L_placeInLine_3 : xw_ha RL [(0, 9, 12, 25)] 4 "java/lang/IndexOutOfBoundsException" 12 := ⟨[], ⟨0, 9, 12, 25⟩, [], rfl, fun z hz => absurd hz List.not_mem_nil, by decide, by decide, by decide +kernel, rfl, by decide, by decide⟩
set_option maxHeartbeats 4000000 in
set_option maxRecDepth 100000 in
theorem mwL_placeInLine (l : Launch) (G : xw_G) (hl : l.stackTraces = false) {k0 : Nat} {a1 : Int32} {k2 : Nat} (hk0 : xw_kd k0 = 5) (hk2 : xw_kd k2 = 15) {h : xw_M} {q : xw_M × Int32} (hR : mL_placeInLine k0 a1 k2 h = some q) : xc_W l G yL_placeInLine cL_placeInLine 4 [(0, 9, 12, 25)] 8 132 [.ref (xg_ad G k0), .int a1, .ref (xg_ad G k2)] h q.1 q.2 := by
  refine xc_ofW (by decide +kernel) rfl (Nat.le_of_ble_eq_true rfl) ?_
  intro p e s m args below meth c C hr htab
  have C : xj_C p s m args meth c G RL cL_placeInLine 4 := C
  show xj_X p l e { frames := 8, cells := 1, slots := 6, locals := 132 } s m args below meth c G 4 0 0 (MQ below (xw_Q G (some (.int q.2)) q.1) args s 1 6 (xg_A G)) h [some (.ref (xg_ad G k0)), some (.int a1), some (.ref (xg_ad G k2)), none] 0 []
  unfold mL_placeInLine at hR
  obtain ⟨r, hr1, hR⟩ := xo_b hR
  refine xr_aload_n C dL_placeInLine_0 rfl ?_
  refine xr_iconst (v := 0) C dL_placeInLine_1 (by decide) ?_
  refine xr_aload_n C dL_placeInLine_2 rfl ?_
  refine xr_iload_n C dL_placeInLine_3 rfl ?_
  refine xo_if hR (fun hz hR => ?_) (fun hz hR => ?_)
  · refine xr_goVi (st := [.int 0, .ref (xg_ad G k2)]) [.int a1] C cv_RL_61 hk0 (mcX5_placeInLine l G hk0 hr1 hz) rfl ⟨Nat.le_of_ble_eq_true rfl, Nat.le_of_ble_eq_true rfl⟩ (Nat.le_of_ble_eq_true rfl) ⟨by decide, by decide⟩ rfl dL_placeInLine_4 ?_
    refine xr_i2l C dL_placeInLine_7 ?_
    refine xr_last C hk2 (xj_lt15 C hk2) dL_placeInLine_8 hR (fun h1 hR => ?_)
    refine xr_goto (tgt := 15) C dL_placeInLine_9 (by decide) ?_
    refine xr_iconst (v := 0) C dL_placeInLine_15 (by decide) ?_
    exact xr_iretW C hr dL_placeInLine_16 (by decide) (by decide) hR
  · refine xo_if hR (fun he0 hR => ?_) (fun he0 hR => ?_)
    · refine xt_goWs (st := [.int 0, .ref (xg_ad G k2)]) [.int a1] C htab cv_RL_61 hk0 (mtX5_placeInLine l G hl hk0 hr1 hz) (Ex := "java/lang/IndexOutOfBoundsException") (by rw [he0]; rfl) ha_L_placeInLine_3 rfl ⟨Nat.le_of_ble_eq_true rfl, Nat.le_of_ble_eq_true rfl⟩ (Nat.le_of_ble_eq_true rfl) ⟨by decide, by decide⟩ rfl dL_placeInLine_4 (fun q9 => ?_)
      refine xr_astore_n C dL_placeInLine_12 rfl (by decide) ?_
      refine xr_iconst (v := 1) C dL_placeInLine_13 (by decide) ?_
      exact xr_iretW C hr dL_placeInLine_14 (by decide) (by decide) hR
    · cases hR
def mL_turnsUntilDone (k0 : Nat) (a1 : Int32) (k2 : Nat) (h : xw_M) : Option (xw_M × Int32) := (mX5_turnsUntilDone k0 a1 h).bind fun r => if r.2.2 = 0 then xo_let (xw_st r.1 k2 0 r.2.1) (fun h1 => some (h1, (0 : Int32))) else (if r.2.2 = 3 then some (r.1, 1) else none)
set_option maxHeartbeats 4000000 in
set_option maxRecDepth 100000 in
theorem ha_L_turnsUntilDone_3 : xw_ha RL [(0, 9, 12, 25)] 4 "java/lang/IndexOutOfBoundsException" 12 := ⟨[], ⟨0, 9, 12, 25⟩, [], rfl, fun z hz => absurd hz List.not_mem_nil, by decide, by decide, by decide +kernel, rfl, by decide, by decide⟩
set_option maxHeartbeats 4000000 in
set_option maxRecDepth 100000 in
theorem mwL_turnsUntilDone (l : Launch) (G : xw_G) (hl : l.stackTraces = false) {k0 : Nat} {a1 : Int32} {k2 : Nat} (hk0 : xw_kd k0 = 5) (hk2 : xw_kd k2 = 15) {h : xw_M} {q : xw_M × Int32} (hR : mL_turnsUntilDone k0 a1 k2 h = some q) : xc_W l G yL_turnsUntilDone cL_turnsUntilDone 4 [(0, 9, 12, 25)] 8 136 [.ref (xg_ad G k0), .int a1, .ref (xg_ad G k2)] h q.1 q.2 := by
  refine xc_ofW (by decide +kernel) rfl (Nat.le_of_ble_eq_true rfl) ?_
  intro p e s m args below meth c C hr htab
  have C : xj_C p s m args meth c G RL cL_turnsUntilDone 4 := C
  show xj_X p l e { frames := 8, cells := 1, slots := 6, locals := 136 } s m args below meth c G 4 0 0 (MQ below (xw_Q G (some (.int q.2)) q.1) args s 1 6 (xg_A G)) h [some (.ref (xg_ad G k0)), some (.int a1), some (.ref (xg_ad G k2)), none] 0 []
  unfold mL_turnsUntilDone at hR
  obtain ⟨r, hr1, hR⟩ := xo_b hR
  refine xr_aload_n C dL_turnsUntilDone_0 rfl ?_
  refine xr_iconst (v := 0) C dL_turnsUntilDone_1 (by decide) ?_
  refine xr_aload_n C dL_turnsUntilDone_2 rfl ?_
  refine xr_iload_n C dL_turnsUntilDone_3 rfl ?_
  refine xo_if hR (fun hz hR => ?_) (fun hz hR => ?_)
  · refine xr_goVi (st := [.int 0, .ref (xg_ad G k2)]) [.int a1] C cv_RL_64 hk0 (mcX5_turnsUntilDone l G hk0 hr1 hz) rfl ⟨Nat.le_of_ble_eq_true rfl, Nat.le_of_ble_eq_true rfl⟩ (Nat.le_of_ble_eq_true rfl) ⟨by decide, by decide⟩ rfl dL_turnsUntilDone_4 ?_
    refine xr_i2l C dL_turnsUntilDone_7 ?_
    refine xr_last C hk2 (xj_lt15 C hk2) dL_turnsUntilDone_8 hR (fun h1 hR => ?_)
    refine xr_goto (tgt := 15) C dL_turnsUntilDone_9 (by decide) ?_
    refine xr_iconst (v := 0) C dL_turnsUntilDone_15 (by decide) ?_
    exact xr_iretW C hr dL_turnsUntilDone_16 (by decide) (by decide) hR
  · refine xo_if hR (fun he0 hR => ?_) (fun he0 hR => ?_)
    · refine xt_goWs (st := [.int 0, .ref (xg_ad G k2)]) [.int a1] C htab cv_RL_64 hk0 (mtX5_turnsUntilDone l G hl hk0 hr1 hz) (Ex := "java/lang/IndexOutOfBoundsException") (by rw [he0]; rfl) ha_L_turnsUntilDone_3 rfl ⟨Nat.le_of_ble_eq_true rfl, Nat.le_of_ble_eq_true rfl⟩ (Nat.le_of_ble_eq_true rfl) ⟨by decide, by decide⟩ rfl dL_turnsUntilDone_4 (fun q9 => ?_)
      refine xr_astore_n C dL_turnsUntilDone_12 rfl (by decide) ?_
      refine xr_iconst (v := 1) C dL_turnsUntilDone_13 (by decide) ?_
      exact xr_iretW C hr dL_turnsUntilDone_14 (by decide) (by decide) hR
    · cases hR
def mL_sumIn (k0 : Nat) (a1 : Int32) (a2 : Int32) (k3 : Nat) (h : xw_M) : Option (xw_M × Int32) := (mX5_sumIn k0 a1 a2 h).bind fun r => if r.2.2 = 0 then xo_let (xw_st r.1 k3 0 r.2.1) (fun h1 => some (h1, (0 : Int32))) else (if r.2.2 = 3 then some (r.1, 1) else (if r.2.2 = 1 then some (r.1, 2) else none))
set_option maxHeartbeats 4000000 in
set_option maxRecDepth 100000 in
theorem ha_L_sumIn_3 : xw_ha RL [(0, 10, 13, 25), (0, 10, 17, 13)] 5 "java/lang/IndexOutOfBoundsException" 13 := ⟨[], ⟨0, 10, 13, 25⟩, [⟨0, 10, 17, 13⟩], rfl, fun z hz => absurd hz List.not_mem_nil, by decide, by decide, by decide +kernel, rfl, by decide, by decide⟩
set_option maxHeartbeats 4000000 in
set_option maxRecDepth 100000 in
theorem ha_L_sumIn_1 : xw_ha RL [(0, 10, 13, 25), (0, 10, 17, 13)] 5 "java/lang/IllegalArgumentException" 17 := ⟨[⟨0, 10, 13, 25⟩], ⟨0, 10, 17, 13⟩, [], rfl, (fun z hz => by
    simp only [List.mem_cons, List.not_mem_nil, or_false] at hz
    rcases hz with rfl
    · exact ⟨by decide, "java/lang/IndexOutOfBoundsException", by decide +kernel, by decide, by decide⟩), by decide, by decide, by decide +kernel, rfl, by decide, by decide⟩
set_option maxHeartbeats 4000000 in
set_option maxRecDepth 100000 in
theorem mwL_sumIn (l : Launch) (G : xw_G) (hl : l.stackTraces = false) {k0 : Nat} {a1 : Int32} {a2 : Int32} {k3 : Nat} (hk0 : xw_kd k0 = 5) (hk3 : xw_kd k3 = 15) {h : xw_M} {q : xw_M × Int32} (hR : mL_sumIn k0 a1 a2 k3 h = some q) : xc_W l G yL_sumIn cL_sumIn 5 [(0, 10, 13, 25), (0, 10, 17, 13)] 8 136 [.ref (xg_ad G k0), .int a1, .int a2, .ref (xg_ad G k3)] h q.1 q.2 := by
  refine xc_ofW (by decide +kernel) rfl (Nat.le_of_ble_eq_true rfl) ?_
  intro p e s m args below meth c C hr htab
  have C : xj_C p s m args meth c G RL cL_sumIn 5 := C
  show xj_X p l e { frames := 8, cells := 1, slots := 6, locals := 136 } s m args below meth c G 5 0 0 (MQ below (xw_Q G (some (.int q.2)) q.1) args s 1 6 (xg_A G)) h [some (.ref (xg_ad G k0)), some (.int a1), some (.int a2), some (.ref (xg_ad G k3)), none] 0 []
  unfold mL_sumIn at hR
  obtain ⟨r, hr1, hR⟩ := xo_b hR
  refine xr_aload_n C dL_sumIn_0 rfl ?_
  refine xr_iconst (v := 0) C dL_sumIn_1 (by decide) ?_
  refine xr_aload_n C dL_sumIn_2 rfl ?_
  refine xr_iload_n C dL_sumIn_3 rfl ?_
  refine xr_iload_n C dL_sumIn_4 rfl ?_
  refine xo_if hR (fun hz hR => ?_) (fun hz hR => ?_)
  · refine xr_goVi (st := [.int 0, .ref (xg_ad G k3)]) [.int a1, .int a2] C cv_RL_67 hk0 (mcX5_sumIn l G hk0 hr1 hz) rfl ⟨Nat.le_of_ble_eq_true rfl, Nat.le_of_ble_eq_true rfl⟩ (Nat.le_of_ble_eq_true rfl) ⟨by decide, by decide⟩ rfl dL_sumIn_5 ?_
    refine xr_i2l C dL_sumIn_8 ?_
    refine xr_last C hk3 (xj_lt15 C hk3) dL_sumIn_9 hR (fun h1 hR => ?_)
    refine xr_goto (tgt := 21) C dL_sumIn_10 (by decide) ?_
    refine xr_iconst (v := 0) C dL_sumIn_21 (by decide) ?_
    exact xr_iretW C hr dL_sumIn_22 (by decide) (by decide) hR
  · refine xo_if hR (fun he0 hR => ?_) (fun he0 hR => ?_)
    · refine xt_goWs (st := [.int 0, .ref (xg_ad G k3)]) [.int a1, .int a2] C htab cv_RL_67 hk0 (mtX5_sumIn l G hl hk0 hr1 hz) (Ex := "java/lang/IndexOutOfBoundsException") (by rw [he0]; rfl) ha_L_sumIn_3 rfl ⟨Nat.le_of_ble_eq_true rfl, Nat.le_of_ble_eq_true rfl⟩ (Nat.le_of_ble_eq_true rfl) ⟨by decide, by decide⟩ rfl dL_sumIn_5 (fun q9 => ?_)
      refine xr_astore C dL_sumIn_13 rfl (by decide) ?_
      refine xr_iconst (v := 1) C dL_sumIn_15 (by decide) ?_
      exact xr_iretW C hr dL_sumIn_16 (by decide) (by decide) hR
    · refine xo_if hR (fun he1 hR => ?_) (fun he1 hR => ?_)
      · refine xt_goWs (st := [.int 0, .ref (xg_ad G k3)]) [.int a1, .int a2] C htab cv_RL_67 hk0 (mtX5_sumIn l G hl hk0 hr1 hz) (Ex := "java/lang/IllegalArgumentException") (by rw [he1]; rfl) ha_L_sumIn_1 rfl ⟨Nat.le_of_ble_eq_true rfl, Nat.le_of_ble_eq_true rfl⟩ (Nat.le_of_ble_eq_true rfl) ⟨by decide, by decide⟩ rfl dL_sumIn_5 (fun q9 => ?_)
        refine xr_astore C dL_sumIn_17 rfl (by decide) ?_
        refine xr_iconst (v := 2) C dL_sumIn_19 (by decide) ?_
        exact xr_iretW C hr dL_sumIn_20 (by decide) (by decide) hR
      · cases hR
def mL_placesWanted (k0 : Nat) (a1 : Int32) (k2 : Nat) (h : xw_M) : Option (xw_M × Int32) := (mX5_placesWanted k0 a1 h).bind fun r => if r.2.2 = 0 then xo_let (xw_st r.1 k2 0 r.2.1) (fun h1 => some (h1, (0 : Int32))) else (if r.2.2 = 3 then some (r.1, 1) else none)
set_option maxHeartbeats 4000000 in
set_option maxRecDepth 100000 in
theorem ha_L_placesWanted_3 : xw_ha RL [(0, 9, 12, 25)] 4 "java/lang/IndexOutOfBoundsException" 12 := ⟨[], ⟨0, 9, 12, 25⟩, [], rfl, fun z hz => absurd hz List.not_mem_nil, by decide, by decide, by decide +kernel, rfl, by decide, by decide⟩
set_option maxHeartbeats 4000000 in
set_option maxRecDepth 100000 in
theorem mwL_placesWanted (l : Launch) (G : xw_G) (hl : l.stackTraces = false) {k0 : Nat} {a1 : Int32} {k2 : Nat} (hk0 : xw_kd k0 = 5) (hk2 : xw_kd k2 = 15) {h : xw_M} {q : xw_M × Int32} (hR : mL_placesWanted k0 a1 k2 h = some q) : xc_W l G yL_placesWanted cL_placesWanted 4 [(0, 9, 12, 25)] 8 136 [.ref (xg_ad G k0), .int a1, .ref (xg_ad G k2)] h q.1 q.2 := by
  refine xc_ofW (by decide +kernel) rfl (Nat.le_of_ble_eq_true rfl) ?_
  intro p e s m args below meth c C hr htab
  have C : xj_C p s m args meth c G RL cL_placesWanted 4 := C
  show xj_X p l e { frames := 8, cells := 1, slots := 6, locals := 136 } s m args below meth c G 4 0 0 (MQ below (xw_Q G (some (.int q.2)) q.1) args s 1 6 (xg_A G)) h [some (.ref (xg_ad G k0)), some (.int a1), some (.ref (xg_ad G k2)), none] 0 []
  unfold mL_placesWanted at hR
  obtain ⟨r, hr1, hR⟩ := xo_b hR
  refine xr_aload_n C dL_placesWanted_0 rfl ?_
  refine xr_iconst (v := 0) C dL_placesWanted_1 (by decide) ?_
  refine xr_aload_n C dL_placesWanted_2 rfl ?_
  refine xr_iload_n C dL_placesWanted_3 rfl ?_
  refine xo_if hR (fun hz hR => ?_) (fun hz hR => ?_)
  · refine xr_goVi (st := [.int 0, .ref (xg_ad G k2)]) [.int a1] C cv_RL_70 hk0 (mcX5_placesWanted l G hk0 hr1 hz) rfl ⟨Nat.le_of_ble_eq_true rfl, Nat.le_of_ble_eq_true rfl⟩ (Nat.le_of_ble_eq_true rfl) ⟨by decide, by decide⟩ rfl dL_placesWanted_4 ?_
    refine xr_i2l C dL_placesWanted_7 ?_
    refine xr_last C hk2 (xj_lt15 C hk2) dL_placesWanted_8 hR (fun h1 hR => ?_)
    refine xr_goto (tgt := 15) C dL_placesWanted_9 (by decide) ?_
    refine xr_iconst (v := 0) C dL_placesWanted_15 (by decide) ?_
    exact xr_iretW C hr dL_placesWanted_16 (by decide) (by decide) hR
  · refine xo_if hR (fun he0 hR => ?_) (fun he0 hR => ?_)
    · refine xt_goWs (st := [.int 0, .ref (xg_ad G k2)]) [.int a1] C htab cv_RL_70 hk0 (mtX5_placesWanted l G hl hk0 hr1 hz) (Ex := "java/lang/IndexOutOfBoundsException") (by rw [he0]; rfl) ha_L_placesWanted_3 rfl ⟨Nat.le_of_ble_eq_true rfl, Nat.le_of_ble_eq_true rfl⟩ (Nat.le_of_ble_eq_true rfl) ⟨by decide, by decide⟩ rfl dL_placesWanted_4 (fun q9 => ?_)
      refine xr_astore_n C dL_placesWanted_12 rfl (by decide) ?_
      refine xr_iconst (v := 1) C dL_placesWanted_13 (by decide) ?_
      exact xr_iretW C hr dL_placesWanted_14 (by decide) (by decide) hR
    · cases hR
end
